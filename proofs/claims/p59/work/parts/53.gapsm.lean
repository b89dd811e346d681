/-! gapsOf; the pair of gaps -/
section ZPG
variable {G : sj_G} {σ : sj_S} {D : zD} {T : Nat → Nat}
theorem zThen_none {b p s : Nat} : ∀ k i, (zThen D T b p s k i = none ↔ ∀ j, i ≤ j → j < i + k → ¬ (dP D b j = p ∧ zTk D T j s = true)) := by
  intro k
  induction k with
  | zero => intro i; exact ⟨fun _ j h1 h2 => absurd h1 (by omega), fun _ => rfl⟩
  | succ k ih =>
    intro i
    by_cases q : dP D b i = p ∧ zTk D T i s = true
    · have e : zThen D T b p s (k + 1) i = some i := by unfold zThen; rw [if_pos q]
      rw [e]
      exact ⟨fun h => (nomatch h), fun h => absurd q (h i (Nat.le_refl i) (by omega))⟩
    · have e : zThen D T b p s (k + 1) i = zThen D T b p s k (i + 1) := by
        show (if dP D b i = p ∧ zTk D T i s = true then some i else zThen D T b p s k (i + 1)) = _
        rw [if_neg q]
      rw [e, ih (i + 1)]
      constructor
      · intro h j h1 h2
        by_cases hj : j = i
        · subst hj; exact q
        · exact h j (by omega) (by omega)
      · intro h j h1 h2
        exact h j (by omega) (by omega)
theorem zThen_lt {b p s : Nat} : ∀ k i j, zThen D T b p s k i = some j → j < i + k := by
  intro k
  induction k with
  | zero => intro i j h; exact nomatch h
  | succ k ih =>
    intro i j h
    have e : zThen D T b p s (k + 1) i = (if dP D b i = p ∧ zTk D T i s = true then some i else zThen D T b p s k (i + 1)) := rfl
    rw [e] at h
    split at h
    · cases h; omega
    · have := ih (i + 1) j h
      omega
theorem zOp_m1 {b p s n : Nat} (hn : n < 2 ^ 31) : (zOp (zThen D T b p s n 0) = -1) = (zAny D b p T s n = false) := by
  rw [eq_iff_iff, ← Bool.not_eq_true, zAny_iff]
  cases h : zThen D T b p s n 0 with
  | none =>
    refine ⟨fun _ => ?_, fun _ => rfl⟩
    rintro ⟨l, h1, h2⟩
    exact (zThen_none n 0).mp h l (Nat.zero_le l) (by omega) h2
  | some k =>
    have hk := zThen_lt n 0 k h
    refine ⟨fun e => ?_, fun q => ?_⟩
    · exfalso
      have e : nI k = -1 := e
      exact absurd (by rw [e]; decide : nI k < 0) (nI_pos (by omega))
    · exfalso
      have : zThen D T b p s n 0 = none := (zThen_none n 0).mpr (fun j _ h2 h3 => q ⟨j, by omega, h3⟩)
      rw [h] at this
      cases this
def zAh (f : Nat → Bool) (s d : Nat) : Nat → Bool
  | 0 => false
  | j + 1 => zAh f s d j || (f (4 * d + j) && decide (4 * d + j < s))
def zBh (f : Nat → Bool) (s d : Nat) : Nat → Bool
  | 0 => false
  | j + 1 => zBh f s d j || (f (4 * d + j) && decide (s < 4 * d + j))
theorem zGp_ab (f : Nat → Bool) {s : Nat} (h : f s = false) : (zAh f s (s / 4) 4 && zBh f s (s / 4) 4) = zGp f s := by
  obtain ⟨d, r, hr, rfl⟩ : ∃ d r, r < 4 ∧ s = 4 * d + r := ⟨s / 4, s % 4, by omega, by omega⟩
  have e1 : (4 * d + r) / 4 = d := by omega
  have e2 : (4 * d + r) % 4 = r := by omega
  rw [e1]
  unfold zGp
  rw [e2, h]
  rcases (by omega : r = 0 ∨ r = 1 ∨ r = 2 ∨ r = 3) with e | e | e | e <;> subst e
  · have n1 : ¬ 4 * d + 1 < 4 * d := by omega
    have n2 : ¬ 4 * d + 2 < 4 * d := by omega
    have n3 : ¬ 4 * d + 3 < 4 * d := by omega
    simp [zAh, zBh, n1, n2, n3]
  · have a1 : 4 * d + 1 - 1 = 4 * d := by omega
    have a2 : 1 + (4 * d + 1) = 4 * d + 2 := by omega
    have a3 : 2 + (4 * d + 1) = 4 * d + 3 := by omega
    have n1 : ¬ 4 * d + 1 < 4 * d := by omega
    simp [zAh, zBh, a1, a2, a3, n1]
  · have a1 : 4 * d + 2 - 1 = 4 * d + 1 := by omega
    have a2 : 4 * d + 2 - 2 = 4 * d := by omega
    have a3 : 1 + (4 * d + 2) = 4 * d + 3 := by omega
    have n1 : ¬ 4 * d + 2 < 4 * d := by omega
    simp [zAh, zBh, a1, a2, a3, n1, Bool.or_comm]
  · simp [zAh, zBh]
theorem zGp_t (f : Nat → Bool) {s : Nat} (h : f s = true) : zGp f s = false := by
  unfold zGp
  rw [h]; simp
theorem z_nor (a b : Bool) : (if a then nI 1 else nI 0) ||| (if b then nI 1 else nI 0) = if (a || b) then nI 1 else nI 0 := by
  cases a <;> cases b <;> decide
theorem z_b2n (b : Bool) : (if b then nI 1 else nI 0) = nI (if b then 1 else 0) := by cases b <;> rfl
theorem z_nz (b : Bool) : ((if b then nI 1 else nI 0) = 0) = (b = false) := by cases b <;> simp <;> decide
end ZPG
