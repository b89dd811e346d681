/-! the reference's holdsForTwo, holdsFor, holdsNow -/
def zF1 (D : zD) (T : Nat → Nat) (w l : Nat) : Bool := if D 8 w = 0 then !(decide (D 4 l = D 9 w) && zTk D T l (D 10 w)) else if D 8 w = 1 then !(decide (D 3 l = D 9 w) && zTk D T l (D 10 w)) else if D 8 w = 2 then !(decide (l = D 9 w) && decide (T l / 4 = D 10 w)) else if D 8 w = 3 then (!decide (l = D 9 w) || decide (T l = D 10 w)) else true
def zF2 (D : zD) (T : Nat → Nat) (w : Nat) : Nat → Nat → Bool
  | 0, _ => true
  | k + 1, l => if zF1 D T w l then zF2 D T w k (l + 1) else false
section ZPG
variable {G : sj_G} {σ : sj_S} {D : zD} {T : Nat → Nat}
theorem z_nb (p : Bool) : (if (if p then nI 1 else nI 0) = 0 then nI 1 else nI 0) = if !p then nI 1 else nI 0 := by
  cases p <;> decide
theorem y_holdsForTwo (ok : sj_ok G) (hM : repM D (σ 57)) (v : okD D) (hT : ∀ l, l < dN D → σ 59 l = nI (T l) ∧ T l < 20) {w : Nat} (hw : w < dW D) (h4 : 4 ≤ D 8 w) : sj_C G 2 me_X12_holdsForTwo [.ref (sj_ad G 56), .int (nI w)] σ (.ok (if zFul D T w then nI 1 else nI 0), σ) := by
  have h9 : D 0 0 ≤ 9 := v.1
  have h12 := v.2.1
  obtain ⟨e8, e9, e10, -⟩ := hM.2.2.2.2.1 w hw
  have e8 : σ 57 (45 + w) = nI (D 8 w) := e8
  have e9 : σ 57 (57 + w) = nI (D 9 w) := e9
  have e10 : σ 57 (69 + w) = nI (D 10 w) := e10
  obtain ⟨b1, b2, b3, b4, b5⟩ := okD_a v hw
  have ha : D 9 w < D 0 0 := b4 (by omega)
  have hb : D 10 w < D 0 0 := b5 h4
  obtain ⟨t1, t2⟩ := hT (D 9 w) ha
  obtain ⟨u1, u2⟩ := hT (D 10 w) hb
  have ef : zFul D T w = (if D 8 w = 4 then decide (T (D 9 w) / 4 = T (D 10 w) / 4) else if D 8 w = 5 then !decide (T (D 9 w) / 4 = T (D 10 w) / 4) else decide (T (D 9 w) < T (D 10 w))) := by
    unfold zFul
    rw [if_neg (show ¬ dSo D w = 0 from fun q => absurd (show D 8 w = 0 from q) (by omega)), if_neg (show ¬ dSo D w = 1 from fun q => absurd (show D 8 w = 1 from q) (by omega)), if_neg (show ¬ dSo D w = 2 from fun q => absurd (show D 8 w = 2 from q) (by omega)), if_neg (show ¬ dSo D w = 3 from fun q => absurd (show D 8 w = 3 from q) (by omega))]
  have k45 : (nI (45 + w)).toNatClampNeg = 45 + w := nI_clamp (by omega)
  have k57 : (nI (57 + w)).toNatClampNeg = 57 + w := nI_clamp (by omega)
  have k69 : (nI (69 + w)).toNatClampNeg = 69 + w := nI_clamp (by omega)
  have ka : (nI (D 9 w)).toNatClampNeg = D 9 w := nI_clamp (by omega)
  have kb : (nI (D 10 w)).toNatClampNeg = D 10 w := nI_clamp (by omega)
  refine c_X12_holdsForTwo ok ?_
  unfold wp_X12_holdsForTwo_0 wp_X12_holdsForTwo_97
  simp only [nI_add, k45, k57, k69, e8, e9, e10, ka, kb, t1, u1, z_d4 t2, z_d4 u2]
  refine ⟨z_in (by omega) (by decide), z_in (by omega) (by decide), z_in (by omega) (by decide), z_in (by omega) (by decide), z_in (by omega) (by decide), ?_⟩
  have c4 : (nI (D 8 w) = nI 4) = (D 8 w = 4) := by rw [nI_eq (by omega) (by decide)]
  have c5 : (nI (D 8 w) = nI 5) = (D 8 w = 5) := by rw [nI_eq (by omega) (by decide)]
  have cd : (nI (T (D 9 w) / 4) = nI (T (D 10 w) / 4)) = (T (D 9 w) / 4 = T (D 10 w) / 4) := by rw [nI_eq (by omega) (by omega)]
  simp only [c4, c5, cd, ef]
  have e3 : (if D 8 w = 4 then (if T (D 9 w) / 4 = T (D 10 w) / 4 then nI 1 else nI 0) else if D 8 w = 5 then (if T (D 9 w) / 4 = T (D 10 w) / 4 then nI 0 else nI 1) else if nI (T (D 10 w)) ≤ nI (T (D 9 w)) then nI 0 else nI 1) = if (if D 8 w = 4 then decide (T (D 9 w) / 4 = T (D 10 w) / 4) else if D 8 w = 5 then !decide (T (D 9 w) / 4 = T (D 10 w) / 4) else decide (T (D 9 w) < T (D 10 w))) = true then nI 1 else nI 0 := by
    by_cases q4 : D 8 w = 4
    · rw [if_pos q4, if_pos q4]
      by_cases r : T (D 9 w) / 4 = T (D 10 w) / 4
      · rw [if_pos r, decide_eq_true r]; rfl
      · rw [if_neg r, decide_eq_false r]; rfl
    · rw [if_neg q4, if_neg q4]
      by_cases q5 : D 8 w = 5
      · rw [if_pos q5, if_pos q5]
        by_cases r : T (D 9 w) / 4 = T (D 10 w) / 4
        · rw [if_pos r, decide_eq_true r]; rfl
        · rw [if_neg r, decide_eq_false r]; rfl
      · rw [if_neg q5, if_neg q5]
        by_cases r : T (D 9 w) < T (D 10 w)
        · rw [if_neg (nI_ge r (by omega)), decide_eq_true r]; rfl
        · rw [if_pos (show nI (T (D 10 w)) ≤ nI (T (D 9 w)) from nI_le (by omega) (by omega)), decide_eq_false r]; rfl
  rw [e3]
  exact ⟨rfl, z_01 _⟩
theorem zF2_iff {w : Nat} : ∀ k l, zF2 D T w k l = true ↔ ∀ j, l ≤ j → j < l + k → zF1 D T w j = true := by
  intro k
  induction k with
  | zero => intro l; exact ⟨fun _ j h1 h2 => by omega, fun _ => rfl⟩
  | succ k ih =>
    intro l
    show (if zF1 D T w l then zF2 D T w k (l + 1) else false) = true ↔ _
    cases hq : zF1 D T w l
    · rw [if_neg (by decide)]
      exact ⟨fun h => absurd h (by decide), fun h => by rw [h l (by omega) (by omega)] at hq; exact absurd hq (by decide)⟩
    · rw [if_pos rfl, ih]
      constructor
      · intro h j h1 h2
        by_cases e : j = l
        · subst e; exact hq
        · exact h j (by omega) (by omega)
      · intro h j h1 h2
        exact h j (by omega) (by omega)
theorem zF2_ful (v : okD D) {w : Nat} (hw : w < dW D) (h3 : D 8 w ≤ 3) : zF2 D T w (dN D) 0 = zFul D T w := by
  obtain ⟨b1, b2, b3, b4, b5⟩ := okD_a v hw
  rw [Bool.eq_iff_iff, zF2_iff]
  unfold zFul
  show _ ↔ (if D 8 w = 0 then _ else if D 8 w = 1 then _ else if D 8 w = 2 then _ else if D 8 w = 3 then _ else _) = true
  rcases (by omega : D 8 w = 0 ∨ D 8 w = 1 ∨ D 8 w = 2 ∨ D 8 w = 3) with e | e | e | e
  · rw [if_pos e]
    have ez := zAny_iff (D := D) (b := 1) (p := D 9 w) (T := T) (i := D 10 w) (dN D)
    constructor
    · intro h
      cases hz : zAny D 1 (dA D w) T (dB D w) (dN D)
      · rfl
      · obtain ⟨l, h1, h2, h4⟩ := ez.mp hz
        have := h l (by omega) (by omega)
        unfold zF1 at this
        rw [if_pos e, show D 4 l = D 9 w from h2, h4] at this
        simp at this
    · intro h l _ hl
      unfold zF1
      rw [if_pos e]
      cases hq : (decide (D 4 l = D 9 w) && zTk D T l (D 10 w))
      · rfl
      · simp only [Bool.and_eq_true, decide_eq_true_eq] at hq
        have hz : zAny D 1 (dA D w) T (dB D w) (dN D) = true := ez.mpr ⟨l, by omega, hq.1, hq.2⟩
        rw [hz] at h
        exact absurd h (by decide)
  · rw [if_neg (by omega), if_pos e]
    have ez := zAny_iff (D := D) (b := 0) (p := D 9 w) (T := T) (i := D 10 w) (dN D)
    constructor
    · intro h
      cases hz : zAny D 0 (dA D w) T (dB D w) (dN D)
      · rfl
      · obtain ⟨l, h1, h2, h4⟩ := ez.mp hz
        have := h l (by omega) (by omega)
        unfold zF1 at this
        rw [if_neg (by omega), if_pos e, show D 3 l = D 9 w from h2, h4] at this
        simp at this
    · intro h l _ hl
      unfold zF1
      rw [if_neg (by omega), if_pos e]
      cases hq : (decide (D 3 l = D 9 w) && zTk D T l (D 10 w))
      · rfl
      · simp only [Bool.and_eq_true, decide_eq_true_eq] at hq
        have hz : zAny D 0 (dA D w) T (dB D w) (dN D) = true := ez.mpr ⟨l, by omega, hq.1, hq.2⟩
        rw [hz] at h
        exact absurd h (by decide)
  · rw [if_neg (by omega), if_neg (by omega), if_pos e]
    have ha : D 9 w < D 0 0 := b4 (by omega)
    constructor
    · intro h
      have := h (D 9 w) (Nat.zero_le _) (show D 9 w < 0 + D 0 0 by omega)
      unfold zF1 at this
      rw [if_neg (by omega), if_neg (by omega), if_pos e] at this
      simpa using this
    · intro h l _ hl
      unfold zF1
      rw [if_neg (by omega), if_neg (by omega), if_pos e]
      by_cases q : l = D 9 w
      · subst q; simpa using h
      · simp [q]
  · rw [if_neg (by omega), if_neg (by omega), if_neg (by omega), if_pos e]
    have ha : D 9 w < D 0 0 := b4 (by omega)
    constructor
    · intro h
      have := h (D 9 w) (Nat.zero_le _) (show D 9 w < 0 + D 0 0 by omega)
      unfold zF1 at this
      rw [if_neg (by omega), if_neg (by omega), if_neg (by omega), if_pos e] at this
      simpa using this
    · intro h l _ hl
      unfold zF1
      rw [if_neg (by omega), if_neg (by omega), if_neg (by omega), if_pos e]
      by_cases q : l = D 9 w
      · subst q; simpa using h
      · simp [q]
end ZPG
