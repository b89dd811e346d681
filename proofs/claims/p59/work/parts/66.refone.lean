/-! MODEL: a lesson, a pair, rooms, a right table -/
section ZM5
variable {G : sj_G} {σ : sj_S} {D : zD} {T : Nat → Nat}
theorem q_any_mono {p : Nat → Bool} {i n : Nat} (h : q_any p i = true) (hi : i ≤ n) : q_any p n = true := by
  obtain ⟨j, h1, h2⟩ := (q_any_iff i).mp h
  exact (q_any_iff n).mpr ⟨j, by omega, h2⟩
def zHu (D : zD) (U : Nat → Bool) (w : Nat) : Bool := decide (dWe D w = 0) && !U w
def zUo (D : zD) (U : Nat → Bool) (f : Nat → Int32) : Prop := ∀ w, w < dW D → f w = if U w then nI 1 else nI 0
theorem zB4 (p1 p2 p3 p4 : Prop) [Decidable p1] [Decidable p2] [Decidable p3] [Decidable p4] : (if p1 then (if p2 then nI 1 else (if p3 then (if p4 then nI 1 else nI 0) else nI 0)) else (if p3 then (if p4 then nI 1 else nI 0) else nI 0)) = if (decide p1 && decide p2 || decide p3 && decide p4) then nI 1 else nI 0 := by
  by_cases x1 : p1 <;> by_cases x2 : p2 <;> by_cases x3 : p3 <;> by_cases x4 : p4 <;> simp [x1, x2, x3, x4]
end ZM5
