/-! MODEL: hasRoom, isRight -/
section ZM6
variable {G : sj_G} {σ : sj_S} {D : zD} {T : Nat → Nat}
def zRl (D : zD) (H : Nat → Bool) (T : Nat → Nat) (l : Nat) : Bool := zSt D H l (T l) && (zRm D T l (T l) (dN D) && !q_any (fun o => !zPr D H l (T l) o (T o)) l)
theorem zRl_rb {H : Nat → Bool} (hT : ∀ l, l < dN D → T l < 20) : (!q_any (fun l => !zRl D H T l) (dN D)) = zRb D H T := by
  rw [Bool.eq_iff_iff, zRb_iff, Bool.not_eq_true', q_any_f]
  refine forall_congr' (fun l => imp_congr_right (fun hl => ?_))
  rw [Bool.not_eq_false']
  unfold zRl
  rw [Bool.and_eq_true, Bool.and_eq_true, Bool.not_eq_true', q_any_f]
  constructor
  · rintro ⟨a1, a2, a3⟩
    refine ⟨hT l hl, a1, a2, fun o ho => ?_⟩
    have := a3 o ho
    rw [Bool.not_eq_false'] at this
    exact this
  · rintro ⟨-, a1, a2, a3⟩
    refine ⟨a1, a2, fun o ho => ?_⟩
    rw [a3 o ho]; rfl
theorem zHu_0 {U : Nat → Bool} (h : ∀ w, w < dW D → U w = false) : ∀ w, w < dW D → zHu D U w = zHd D w := fun w hw => by
  unfold zHu zHd
  rw [h w hw]; simp
theorem zHard_H (v : okD D) : ∀ w, w < dW D → bt (zHard D (dW D)) w = zHd D w := fun w hw => by
  have h12 := v.2.1
  unfold zHd
  rw [zHard_bt (by omega) (dW D) (by omega), decide_eq_true hw]; rfl
theorem zRu_H {H H' : Nat → Bool} {τ : sj_S} {b : Nat} (h : ∀ w, w < dW D → H w = H' w) (r : zRu D H τ b) : zRu D H' τ b := by
  refine ⟨r.1, fun l hl => ?_⟩
  obtain ⟨r1, r2, r3, r4, r5, r6, r7, r8, r9, r10⟩ := r.2 l hl
  have e : ∀ s f, zWd D H s f (dW D) = zWd D H' s f (dW D) := fun s f => q_any_congr (dW D) (fun w hw => by rw [h w hw])
  have e2 : ∀ i, zOb D H l i (dW D) = zOb D H' l i (dW D) := fun i => by
    unfold zOb
    rw [q_any_congr (dW D) (fun w hw => by rw [h w hw])]
  exact ⟨fun i hi => by rw [← e2]; exact r1 i hi, r2, r3, r4, fun o ho => by rw [← e]; exact r5 o ho, fun o ho => by rw [← e]; exact r6 o ho, fun o ho => by rw [← e]; exact r7 o ho, fun o ho => by rw [← e]; exact r8 o ho, r9, r10⟩
end ZM6
