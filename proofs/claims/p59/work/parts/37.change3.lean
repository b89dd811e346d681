/-! PAIRS 4: setSubjects, dropWish -/
def zSo (D : zD) (t s : Nat) : Nat → Bool
  | 0 => true
  | n + 1 => zSo D t s n && (!decide (dTe D n = t) || bt (nI s) (dSu D n))
section ZP4
variable {G : sj_G} {σ : sj_S} {D : zD} {T : Nat → Nat}
theorem zSo_iff {t s : Nat} : ∀ n, zSo D t s n = true ↔ ∀ l, l < n → dTe D l = t → bt (nI s) (dSu D l) = true := by
  intro n
  induction n with
  | zero => simp [zSo]
  | succ n ih =>
    simp only [zSo, Bool.and_eq_true, ih, Bool.or_eq_true, Bool.not_eq_true', decide_eq_false_iff_not]
    constructor
    · rintro ⟨h1, h2⟩ l hl ht
      by_cases e : l = n
      · subst e
        exact h2.resolve_left (fun q => q ht)
      · exact h1 l (by omega) ht
    · intro h
      refine ⟨fun l hl => h l (by omega), ?_⟩
      by_cases e : dTe D n = t
      · exact Or.inr (h n (by omega) e)
      · exact Or.inl e
theorem z_given {t s n : Nat} (hs : ∀ l, l < n → dSu D l < 32) : ((zGiven D t n) &&& (nI s ^^^ (-1))) = 0 ↔ zSo D t s n = true := by
  rw [zSo_iff]
  constructor
  · intro h l hl ht
    have h1 := congrArg (fun y => bt y (dSu D l)) h
    have h2 := (zGiven_bt (D := D) (t := t) (hs l hl) n hs).mpr ⟨l, hl, ht, rfl⟩
    simp only [b_and, b_xor, b_0, h2, b_m1 _ (hs l hl), Bool.true_and] at h1
    cases hb : bt (nI s) (dSu D l)
    · rw [hb] at h1; exact absurd h1 (by decide)
    · rfl
  · intro h
    apply b_ext
    intro i hi
    rw [b_and, b_xor, b_0, b_m1 i hi]
    cases hg : bt (zGiven D t n) i
    · rfl
    · obtain ⟨l, hl, ht, e⟩ := (zGiven_bt (D := D) (t := t) hi n hs).mp hg
      have := h l hl ht
      rw [e] at this
      rw [this]
      rfl
theorem z_and01 (p q : Bool) : ((if p then nI 1 else nI 0) &&& (if q then nI 1 else nI 0)) = if p && q then nI 1 else nI 0 := by
  cases p <;> cases q <;> decide
theorem okD_12 {k r : Nat} (v : okD D) (hr : r < 64) : okD (zUp D 12 k r) := by
  refine ⟨v.1, v.2.1, v.2.2.1, v.2.2.2.1, v.2.2.2.2.1, fun t h => ⟨?_, (v.2.2.2.2.2.1 t h).2⟩, v.2.2.2.2.2.2.1, v.2.2.2.2.2.2.2⟩
  show (if t = k then r else D 12 t) < 64
  split
  · exact hr
  · exact (v.2.2.2.2.2.1 t h).1
theorem repC_12 {c : Nat → Int32} {k r : Nat} (v : okD D) (hC : repC D c) (hk : k < 6) : repC (zUp D 12 k r) (upd c (96 + k) (nI r)) := by
  refine ⟨(z_un (by omega)).trans hC.1, (z_un (by omega)).trans hC.2.1, (z_un (by omega)).trans hC.2.2.1, rC_L (D := D) v hC (fun i _ _ => z_un (by omega)), rC_W (D := D) v hC (fun i _ _ => z_un (by omega)), fun t h => ⟨?_, (z_un (by omega)).trans (hC.2.2.2.2.2.1 t h).2⟩, rC_R (D := D) hC (fun i _ _ => z_un (by omega)), rC_A (D := D) hC (fun i _ _ => z_un (by omega))⟩
  show upd c (96 + k) (nI r) (96 + t) = nI (if t = k then r else D 12 t)
  by_cases e : t = k
  · subst e; rw [z_ue, if_pos rfl]
  · rw [z_un (by omega), if_neg e]; exact (hC.2.2.2.2.2.1 t h).1
theorem repM_12 {c : Nat → Int32} {k r : Nat} (v : okD D) (hC : repM D c) (hk : k < 6) : repM (zUp D 12 k r) (upd c (93 + k) (nI r)) := by
  refine ⟨(z_un (by omega)).trans hC.1, (z_un (by omega)).trans hC.2.1, (z_un (by omega)).trans hC.2.2.1, rM_L (D := D) v hC (fun i _ => z_un (by omega)), rM_W (D := D) v hC (fun i _ _ => z_un (by omega)), fun t h => ⟨?_, (z_un (by omega)).trans (hC.2.2.2.2.2.1 t h).2⟩, rM_R (D := D) hC (fun i _ _ => z_un (by omega)), rM_A (D := D) hC (fun i _ _ => z_un (by omega))⟩
  show upd c (93 + k) (nI r) (93 + t) = nI (if t = k then r else D 12 t)
  by_cases e : t = k
  · subst e; rw [z_ue, if_pos rfl]
  · rw [z_un (by omega), if_neg e]; exact (hC.2.2.2.2.2.1 t h).1
def zDW (D : zD) (w : Nat) : zD := fun f i => if f = 1 then (if i = 0 then D 1 0 - 1 else D 1 i) else if 8 ≤ f ∧ f ≤ 11 ∧ w ≤ i then D f (i + 1) else D f i
theorem zDW_o {w f i : Nat} (h : f ≠ 1) (h2 : f < 8 ∨ 11 < f) : zDW D w f i = D f i := by
  unfold zDW
  rw [if_neg h, if_neg (by omega)]
theorem zDW_w {w f i : Nat} (h : 8 ≤ f) (h2 : f ≤ 11) : zDW D w f i = if w ≤ i then D f (i + 1) else D f i := by
  unfold zDW
  rw [if_neg (by omega)]
  by_cases q : w ≤ i
  · rw [if_pos ⟨h, h2, q⟩, if_pos q]
  · rw [if_neg (by omega), if_neg q]
theorem okD_dw {w : Nat} (v : okD D) : okD (zDW D w) := by
  have h1 := v.2.1
  refine ⟨v.1, ?_, v.2.2.1, v.2.2.2.1, fun i hi => ?_, v.2.2.2.2.2.1, v.2.2.2.2.2.2.1, v.2.2.2.2.2.2.2⟩
  · show dW D - 1 ≤ 12
    omega
  · have hi : i < dW D - 1 := hi
    have eN : dN (zDW D w) = dN D := zDW_o (by decide) (by decide)
    have e : ∀ f, 8 ≤ f → f ≤ 11 → zDW D w f i = D f (if w ≤ i then i + 1 else i) := fun f a b => by
      rw [zDW_w a b]
      split <;> rfl
    rw [eN, show dSo (zDW D w) i = _ from e 8 (by decide) (by decide), show dA (zDW D w) i = _ from e 9 (by decide) (by decide), show dB (zDW D w) i = _ from e 10 (by decide) (by decide), show dWe (zDW D w) i = _ from e 11 (by decide) (by decide)]
    exact v.2.2.2.2.1 (if w ≤ i then i + 1 else i) (by split <;> omega)
theorem repC_dw {c : Nat → Int32} {w : Nat} (v : okD D) (hC : repC D c) (hw : w < dW D) : repC (zDW D w) (upd (va_cpy c c (48 + w * 4 + 4) (48 + w * 4) (4 * (dW D - w - 1))) 1 (nI (dW D - 1))) := by
  have h1 := v.2.1
  have hn : ∀ i, i ≠ 1 → (i < 48 ∨ 96 ≤ i) → upd (va_cpy c c (48 + w * 4 + 4) (48 + w * 4) (4 * (dW D - w - 1))) 1 (nI (dW D - 1)) i = c i := fun i a b => by
    rw [z_un a]
    unfold va_cpy
    rw [if_neg (by omega)]
  refine ⟨(hn _ (by omega) (by omega)).trans hC.1, z_ue, (hn _ (by omega) (by omega)).trans hC.2.2.1, rC_L (D := D) v hC (fun i _ _ => hn i (by omega) (by omega)), fun i hi => ?_, rC_T (D := D) hC (fun i _ _ => hn i (by omega) (by omega)) (fun i _ _ => hn i (by omega) (by omega)), rC_R (D := D) hC (fun i _ _ => hn i (by omega) (by omega)), rC_A (D := D) hC (fun i _ _ => hn i (by omega) (by omega))⟩
  have hi : i < dW D - 1 := hi
  have e : ∀ f, 8 ≤ f → f ≤ 11 → zDW D w f i = D f (if w ≤ i then i + 1 else i) := fun f a b => by
    rw [zDW_w a b]
    split <;> rfl
  have ec : ∀ k, k < 4 → upd (va_cpy c c (48 + w * 4 + 4) (48 + w * 4) (4 * (dW D - w - 1))) 1 (nI (dW D - 1)) (48 + i * 4 + k) = c (48 + (if w ≤ i then i + 1 else i) * 4 + k) := fun k hk => by
    rw [z_un (by omega)]
    unfold va_cpy
    by_cases q : w ≤ i
    · rw [if_pos (by omega), if_pos q]
      congr 1
      omega
    · rw [if_neg (by omega), if_neg q]
  rw [ec 0 (by decide), ec 1 (by decide), ec 2 (by decide), ec 3 (by decide), show dSo (zDW D w) i = _ from e 8 (by decide) (by decide), show dA (zDW D w) i = _ from e 9 (by decide) (by decide), show dB (zDW D w) i = _ from e 10 (by decide) (by decide), show dWe (zDW D w) i = _ from e 11 (by decide) (by decide)]
  exact hC.2.2.2.2.1 (if w ≤ i then i + 1 else i) (by split <;> omega)
def zMW (m : Nat → Int32) (w n : Nat) : Nat → Int32 := upd (zCl (zCl (zCl (zCl m (45 + w) (45 + 12)) (57 + w) (57 + 12)) (69 + w) (69 + 12)) (81 + w) (81 + 12)) 126 (nI (n - 1))
theorem repM_dw {c : Nat → Int32} {w : Nat} (v : okD D) (hC : repM D c) (hw : w < dW D) : repM (zDW D w) (zMW c w (dW D)) := by
  have h1 := v.2.1
  have hn : ∀ i, i ≠ 126 → (i < 45 ∨ 93 ≤ i) → zMW c w (dW D) i = c i := fun i a b => by
    unfold zMW
    rw [z_un a]
    unfold zCl
    rw [if_neg (by omega), if_neg (by omega), if_neg (by omega), if_neg (by omega)]
  refine ⟨(hn _ (by omega) (by omega)).trans hC.1, z_ue, (hn _ (by omega) (by omega)).trans hC.2.2.1, rM_L (D := D) v hC (fun i _ => hn i (by omega) (by omega)), fun i hi => ?_, rM_T (D := D) hC (fun i _ _ => hn i (by omega) (by omega)) (fun i _ _ => hn i (by omega) (by omega)), rM_R (D := D) hC (fun i _ _ => hn i (by omega) (by omega)), rM_A (D := D) hC (fun i _ _ => hn i (by omega) (by omega))⟩
  have hi : i < dW D - 1 := hi
  have e : ∀ f, 8 ≤ f → f ≤ 11 → zDW D w f i = D f (if w ≤ i then i + 1 else i) := fun f a b => by
    rw [zDW_w a b]
    split <;> rfl
  obtain ⟨a1, a2, a3, a4⟩ := hC.2.2.2.2.1 (if w ≤ i then i + 1 else i) (by split <;> omega)
  rw [show dSo (zDW D w) i = _ from e 8 (by decide) (by decide), show dA (zDW D w) i = _ from e 9 (by decide) (by decide), show dB (zDW D w) i = _ from e 10 (by decide) (by decide), show dWe (zDW D w) i = _ from e 11 (by decide) (by decide), ← a1, ← a2, ← a3, ← a4]
  by_cases q : w ≤ i
  · simp only [if_pos q]
    refine ⟨?_, ?_, ?_, ?_⟩
    · unfold zMW zCl
      rw [z_un (by omega), if_neg (by omega), if_neg (by omega), if_neg (by omega), if_pos (by omega), Nat.add_assoc]
    · unfold zMW zCl
      rw [z_un (by omega), if_neg (by omega), if_neg (by omega), if_pos (by omega), if_neg (by omega), Nat.add_assoc]
    · unfold zMW zCl
      rw [z_un (by omega), if_neg (by omega), if_pos (by omega), if_neg (by omega), if_neg (by omega), Nat.add_assoc]
    · unfold zMW zCl
      rw [z_un (by omega), if_pos (by omega), if_neg (by omega), if_neg (by omega), if_neg (by omega), Nat.add_assoc]
  · simp only [if_neg q]
    refine ⟨?_, ?_, ?_, ?_⟩ <;>
    · unfold zMW zCl
      rw [z_un (by omega), if_neg (by omega), if_neg (by omega), if_neg (by omega), if_neg (by omega)]
end ZP4
