/-! the reference's holdsForTwo, holdsFor, holdsNow -/
def zF1 (D : zD) (T : Nat → Nat) (w l : Nat) : Bool := if D 8 w = 0 then !(decide (D 4 l = D 9 w) && zTk D T l (D 10 w)) else if D 8 w = 1 then !(decide (D 3 l = D 9 w) && zTk D T l (D 10 w)) else if D 8 w = 2 then !(decide (l = D 9 w) && decide (T l / 4 = D 10 w)) else if D 8 w = 3 then (!decide (l = D 9 w) || decide (T l = D 10 w)) else true
def zF2 (D : zD) (T : Nat → Nat) (w : Nat) : Nat → Nat → Bool
  | 0, _ => true
  | k + 1, l => if zF1 D T w l then zF2 D T w k (l + 1) else false
section ZPG
variable {G : sj_G} {σ : sj_S} {D : zD} {T : Nat → Nat}
theorem z_nb (p : Bool) : (if (if p then nI 1 else nI 0) = 0 then nI 1 else nI 0) = if !p then nI 1 else nI 0 := by
  cases p <;> decide
theorem zF2_iff {w : Nat} : ∀ k l, zF2 D T w k l = true ↔ ∀ j, l ≤ j → j < l + k → zF1 D T w j = true := by
  intro k
  induction k with
  | zero => intro l; exact ⟨fun _ j h1 h2 => by omega, fun _ => rfl⟩
  | succ k ih =>
    intro l
    show (if zF1 D T w l then zF2 D T w k (l + 1) else false) = true ↔ _
    cases hq : zF1 D T w l
    · rw [if_neg (by decide)]
      exact ⟨fun h => absurd h (by decide), fun h => by rw [h l (by omega) (by omega)] at hq; exact absurd hq (by decide)⟩
    · rw [if_pos rfl, ih]
      constructor
      · intro h j h1 h2
        by_cases e : j = l
        · subst e; exact hq
        · exact h j (by omega) (by omega)
      · intro h j h1 h2
        exact h j (by omega) (by omega)
theorem zF2_ful (v : okD D) {w : Nat} (hw : w < dW D) (h3 : D 8 w ≤ 3) : zF2 D T w (dN D) 0 = zFul D T w := by
  obtain ⟨b1, b2, b3, b4, b5⟩ := okD_a v hw
  rw [Bool.eq_iff_iff, zF2_iff]
  unfold zFul
  show _ ↔ (if D 8 w = 0 then _ else if D 8 w = 1 then _ else if D 8 w = 2 then _ else if D 8 w = 3 then _ else _) = true
  rcases (by omega : D 8 w = 0 ∨ D 8 w = 1 ∨ D 8 w = 2 ∨ D 8 w = 3) with e | e | e | e
  · rw [if_pos e]
    have ez := zAny_iff (D := D) (b := 1) (p := D 9 w) (T := T) (i := D 10 w) (dN D)
    constructor
    · intro h
      cases hz : zAny D 1 (dA D w) T (dB D w) (dN D)
      · rfl
      · obtain ⟨l, h1, h2, h4⟩ := ez.mp hz
        have := h l (by omega) (by omega)
        unfold zF1 at this
        rw [if_pos e, show D 4 l = D 9 w from h2, h4] at this
        simp at this
    · intro h l _ hl
      unfold zF1
      rw [if_pos e]
      cases hq : (decide (D 4 l = D 9 w) && zTk D T l (D 10 w))
      · rfl
      · simp only [Bool.and_eq_true, decide_eq_true_eq] at hq
        have hz : zAny D 1 (dA D w) T (dB D w) (dN D) = true := ez.mpr ⟨l, by omega, hq.1, hq.2⟩
        rw [hz] at h
        exact absurd h (by decide)
  · rw [if_neg (by omega), if_pos e]
    have ez := zAny_iff (D := D) (b := 0) (p := D 9 w) (T := T) (i := D 10 w) (dN D)
    constructor
    · intro h
      cases hz : zAny D 0 (dA D w) T (dB D w) (dN D)
      · rfl
      · obtain ⟨l, h1, h2, h4⟩ := ez.mp hz
        have := h l (by omega) (by omega)
        unfold zF1 at this
        rw [if_neg (by omega), if_pos e, show D 3 l = D 9 w from h2, h4] at this
        simp at this
    · intro h l _ hl
      unfold zF1
      rw [if_neg (by omega), if_pos e]
      cases hq : (decide (D 3 l = D 9 w) && zTk D T l (D 10 w))
      · rfl
      · simp only [Bool.and_eq_true, decide_eq_true_eq] at hq
        have hz : zAny D 0 (dA D w) T (dB D w) (dN D) = true := ez.mpr ⟨l, by omega, hq.1, hq.2⟩
        rw [hz] at h
        exact absurd h (by decide)
  · rw [if_neg (by omega), if_neg (by omega), if_pos e]
    have ha : D 9 w < D 0 0 := b4 (by omega)
    constructor
    · intro h
      have := h (D 9 w) (Nat.zero_le _) (show D 9 w < 0 + D 0 0 by omega)
      unfold zF1 at this
      rw [if_neg (by omega), if_neg (by omega), if_pos e] at this
      simpa using this
    · intro h l _ hl
      unfold zF1
      rw [if_neg (by omega), if_neg (by omega), if_pos e]
      by_cases q : l = D 9 w
      · subst q; simpa using h
      · simp [q]
  · rw [if_neg (by omega), if_neg (by omega), if_neg (by omega), if_pos e]
    have ha : D 9 w < D 0 0 := b4 (by omega)
    constructor
    · intro h
      have := h (D 9 w) (Nat.zero_le _) (show D 9 w < 0 + D 0 0 by omega)
      unfold zF1 at this
      rw [if_neg (by omega), if_neg (by omega), if_neg (by omega), if_pos e] at this
      simpa using this
    · intro h l _ hl
      unfold zF1
      rw [if_neg (by omega), if_neg (by omega), if_neg (by omega), if_pos e]
      by_cases q : l = D 9 w
      · subst q; simpa using h
      · simp [q]
end ZPG
