/-! PAIRS 4: setSubjects, dropWish -/
def zSo (D : zD) (t s : Nat) : Nat → Bool
  | 0 => true
  | n + 1 => zSo D t s n && (!decide (dTe D n = t) || bt (nI s) (dSu D n))
section ZP4
variable {G : sj_G} {σ : sj_S} {D : zD} {T : Nat → Nat}
theorem zSo_iff {t s : Nat} : ∀ n, zSo D t s n = true ↔ ∀ l, l < n → dTe D l = t → bt (nI s) (dSu D l) = true := by
  intro n
  induction n with
  | zero => simp [zSo]
  | succ n ih =>
    simp only [zSo, Bool.and_eq_true, ih, Bool.or_eq_true, Bool.not_eq_true', decide_eq_false_iff_not]
    constructor
    · rintro ⟨h1, h2⟩ l hl ht
      by_cases e : l = n
      · subst e
        exact h2.resolve_left (fun q => q ht)
      · exact h1 l (by omega) ht
    · intro h
      refine ⟨fun l hl => h l (by omega), ?_⟩
      by_cases e : dTe D n = t
      · exact Or.inr (h n (by omega) e)
      · exact Or.inl e
theorem z_given {t s n : Nat} (hs : ∀ l, l < n → dSu D l < 32) : ((zGiven D t n) &&& (nI s ^^^ (-1))) = 0 ↔ zSo D t s n = true := by
  rw [zSo_iff]
  constructor
  · intro h l hl ht
    have h1 := congrArg (fun y => bt y (dSu D l)) h
    have h2 := (zGiven_bt (D := D) (t := t) (hs l hl) n hs).mpr ⟨l, hl, ht, rfl⟩
    simp only [b_and, b_xor, b_0, h2, b_m1 _ (hs l hl), Bool.true_and] at h1
    cases hb : bt (nI s) (dSu D l)
    · rw [hb] at h1; exact absurd h1 (by decide)
    · rfl
  · intro h
    apply b_ext
    intro i hi
    rw [b_and, b_xor, b_0, b_m1 i hi]
    cases hg : bt (zGiven D t n) i
    · rfl
    · obtain ⟨l, hl, ht, e⟩ := (zGiven_bt (D := D) (t := t) hi n hs).mp hg
      have := h l hl ht
      rw [e] at this
      rw [this]
      rfl
theorem z_and01 (p q : Bool) : ((if p then nI 1 else nI 0) &&& (if q then nI 1 else nI 0)) = if p && q then nI 1 else nI 0 := by
  cases p <;> cases q <;> decide
theorem y_subjLoop {κ : sj_S} {R : sj_R} (ok : sj_ok G) (hM : repM D (κ 57)) (v : okD D) {t s : Nat} (ht : t < 6)
    (hend : ∃ v3 σ3, sj_C G 2 me_X12_fails [.ref (sj_ad G 56), .int (if zSo D t s (dN D) then nI 1 else nI 0), .int (nI 2)] κ (.ok v3, σ3) ∧ (v3 = 0 → ∃ σ5, sj_C G 2 me_X12_keeps [.ref (sj_ad G 56)] σ3 (.ok 0, σ5) ∧ vp_in ((nI 93) + nI t) 128 ∧ vp_in ((nI 93) + nI t) 128 ∧ R = (.ok (σ5 57 ((nI 93) + nI t).toNatClampNeg), (sj_st (sj_st σ5 57 ((nI 93) + nI t).toNatClampNeg (nI s)) 57 127 (nI 0)))) ∧ (¬ (v3 = 0) → R = (.ok (nI 0), σ3))) :
    sj_J G 4 me_X12_setSubjects R 35 [.ref (sj_ad G 56), .int (nI t), .int (nI s), .int (nI 1), .int (nI 0)] κ [] := by
  have h9 := v.1
  have key : ∀ k i, i + k = dN D → sj_J G 4 me_X12_setSubjects R 35 [.ref (sj_ad G 56), .int (nI t), .int (nI s), .int (if zSo D t s i then nI 1 else nI 0), .int (nI i)] κ [] := by
    intro k
    induction k with
    | zero =>
      intro i hi
      have : i = dN D := by omega
      subst this
      refine t_X12_setSubjects_35 ⟨_, _, y_many ok, fun _ => hend, fun h => ?_⟩
      rw [hM.1] at h
      exact absurd (nI_le (by omega) (by omega)) h
    | succ k ih =>
      intro i hi
      have h1 := ih (i + 1) (by omega)
      obtain ⟨-, m2, m3, -, -⟩ := hM.2.2.2.1 i (by omega)
      obtain ⟨-, g2, g3, -, -⟩ := v.2.2.2.1 i (by omega)
      refine t_X12_setSubjects_35 ⟨_, _, y_many ok, fun h => ?_, fun _ => ?_⟩
      · rw [hM.1] at h
        exact absurd h (nI_ge (by omega) (by omega))
      · simp only [nI_add]
        refine ⟨z_in (by omega) (by decide), fun _ => z_in (by omega) (by decide), ?_⟩
        unfold wp_X12_setSubjects_82
        rw [nI_clamp (by omega), nI_clamp (by omega), m2, m3, z_bit1 (by omega), nI_add]
        have e : (if nI (dTe D i) = nI t then (if bt (nI s) (dSu D i) then nI 1 else nI 0) else nI 1) = if (!decide (dTe D i = t) || bt (nI s) (dSu D i)) then nI 1 else nI 0 := by
          by_cases q : dTe D i = t
          · rw [if_pos (by rw [q])]
            simp [q]
          · rw [if_neg (by rw [nI_eq (by omega) (by omega)]; exact q)]
            simp [q]
        rw [e, z_and01]
        exact h1
  exact key (dN D) 0 (by omega)
theorem okD_12 {k r : Nat} (v : okD D) (hr : r < 64) : okD (zUp D 12 k r) := by
  refine ⟨v.1, v.2.1, v.2.2.1, v.2.2.2.1, v.2.2.2.2.1, fun t h => ⟨?_, (v.2.2.2.2.2.1 t h).2⟩, v.2.2.2.2.2.2.1, v.2.2.2.2.2.2.2⟩
  show (if t = k then r else D 12 t) < 64
  split
  · exact hr
  · exact (v.2.2.2.2.2.1 t h).1
theorem repC_12 {c : Nat → Int32} {k r : Nat} (v : okD D) (hC : repC D c) (hk : k < 6) : repC (zUp D 12 k r) (upd c (96 + k) (nI r)) := by
  refine ⟨(z_un (by omega)).trans hC.1, (z_un (by omega)).trans hC.2.1, (z_un (by omega)).trans hC.2.2.1, rC_L (D := D) v hC (fun i _ _ => z_un (by omega)), rC_W (D := D) v hC (fun i _ _ => z_un (by omega)), fun t h => ⟨?_, (z_un (by omega)).trans (hC.2.2.2.2.2.1 t h).2⟩, rC_R (D := D) hC (fun i _ _ => z_un (by omega)), rC_A (D := D) hC (fun i _ _ => z_un (by omega))⟩
  show upd c (96 + k) (nI r) (96 + t) = nI (if t = k then r else D 12 t)
  by_cases e : t = k
  · subst e; rw [z_ue, if_pos rfl]
  · rw [z_un (by omega), if_neg e]; exact (hC.2.2.2.2.2.1 t h).1
theorem repM_12 {c : Nat → Int32} {k r : Nat} (v : okD D) (hC : repM D c) (hk : k < 6) : repM (zUp D 12 k r) (upd c (93 + k) (nI r)) := by
  refine ⟨(z_un (by omega)).trans hC.1, (z_un (by omega)).trans hC.2.1, (z_un (by omega)).trans hC.2.2.1, rM_L (D := D) v hC (fun i _ => z_un (by omega)), rM_W (D := D) v hC (fun i _ _ => z_un (by omega)), fun t h => ⟨?_, (z_un (by omega)).trans (hC.2.2.2.2.2.1 t h).2⟩, rM_R (D := D) hC (fun i _ _ => z_un (by omega)), rM_A (D := D) hC (fun i _ _ => z_un (by omega))⟩
  show upd c (93 + k) (nI r) (93 + t) = nI (if t = k then r else D 12 t)
  by_cases e : t = k
  · subst e; rw [z_ue, if_pos rfl]
  · rw [z_un (by omega), if_neg e]; exact (hC.2.2.2.2.2.1 t h).1
theorem p_setSubjects (ok : sj_ok G) (h : zA σ) (x y : Int32) : zPair G (zI2 σ) 11 me_X11_setSubjects 4 me_X12_setSubjects [.int x, .int y] (zcd 1 2 0) σ := by
  obtain ⟨D, T, v, hC, hM, hT⟩ := h.1
  have h9 := v.1
  rcases z_rg x 6 with ⟨t, ht, rfl⟩ | hx
  · rcases z_rg y 64 with ⟨s, hs, rfl⟩ | hy
    · have hsu : ∀ l, l < dN D → dSu D l < 32 := fun l hl => by
        have := (v.2.2.2.1 l hl).2.2.1
        omega
      by_cases hq : zSo D t s (dN D) = true
      · obtain ⟨B, hB, eB, hch⟩ := z_chg2 ok h
        have c1 : σ 2 (96 + t) = nI (dTch D t) := (hC.2.2.2.2.2.1 t ht).1
        have m1 : σ 57 (93 + t) = nI (dTch D t) := (hM.2.2.2.2.2.1 t ht).1
        generalize eτ : sj_st (sj_st B 2 2 (nI 0)) 2 (96 + t) (nI s) = τ
        have hτ : ∀ b, b ≠ 2 → τ b = B b := fun b hb => by
          subst eτ
          rw [z_stn hb, z_stn hb]
        obtain ⟨σ', hkp, k1, k57, k0, hfin⟩ := hch τ (fun b hb => hτ b (zne (by decide) hb))
        have hc : sj_C G 11 me_X11_setSubjects [.ref (sj_ad G 0), .int (nI t), .int (nI s)] σ (.ok (σ 2 (96 + t)), τ) := by
          subst eτ
          refine c_X11_setSubjects ok (Or.inl ⟨_, z_range0 ok ht (by decide), Or.inl ⟨_, z_range0 ok hs (by decide), _, _, z_subjectsGiven ok hC v ht, fun _ => ⟨_, hB, _, z_loseTable ok, _, _, z_putSubjects ok ht, ?_⟩, fun q => absurd ((z_given hsu).mpr hq) q⟩⟩)
          rw [z_sti (by omega), eB 2 (by decide) (by decide) (by decide)]
        have t57 : sj_st τ 56 0 (nI 0) 57 = σ 57 := by rw [z_stn (by decide), hτ 57 (by decide), eB 57 (by decide) (by decide) (by decide)]
        have hm : sj_C G 4 me_X12_setSubjects [.ref (sj_ad G 56), .int (nI t), .int (nI s)] τ (.ok (σ 57 (93 + t)), sj_st (sj_st σ' 57 (93 + t) (nI s)) 57 127 (nI 0)) := by
          refine c_X12_setSubjects ok ⟨_, _, y_noTeacher0 ok zT00 ht, fun h => absurd nI_0 h, fun _ => ⟨_, _, y_inr1 ok (B := 63) hs (by decide), _, _, y_fails1 ok zT00, fun _ => ?_, fun h => absurd nI_0 h⟩⟩
          refine y_subjLoop (D := D) ok (by rw [t57]; exact hM) v ht ?_
          rw [if_pos hq, nI_add, nI_clamp (by omega)]
          exact ⟨_, _, y_fails1 ok zT00, fun _ => ⟨_, hkp, z_in (by omega) (by decide), z_in (by omega) (by decide), by rw [k57]⟩, fun h => absurd nI_0 h⟩
        refine ⟨_, _, _, _, hc, hm, zSame_ok ?_ (by rw [c1, m1]), hfin _ (fun b hb => by rw [z_stn (zne (by decide) hb), z_stn (zne (by decide) hb)]) ?_⟩
        · rw [z_stn (by decide), z_stn (by decide), k0]
        · have r2 : sj_st (sj_st σ' 57 (93 + t) (nI s)) 57 127 (nI 0) 2 = upd (upd (σ 2) 2 (nI 0)) (96 + t) (nI s) := by
            rw [z_stn (by decide), z_stn (by decide), k1 2 (by decide) (by decide), ← eτ, z_sta, z_sta, eB 2 (by decide) (by decide) (by decide)]
          have r57 : sj_st (sj_st σ' 57 (93 + t) (nI s)) 57 127 (nI 0) 57 = upd (upd (σ 57) 127 (nI 0)) (93 + t) (nI s) := by
            rw [z_sta, z_sta, k57, z_uc (by omega)]
          rw [r2, r57]
          exact ⟨zUp (zNoT D) 12 t s, T, okD_12 (okD_noT v) hs, repC_12 (okD_noT v) (repC_noT v hC) ht, repM_12 (okD_noT v) (repM_noT v hM) ht, fun q => absurd (show (0 : Nat) = 1 from q) (by decide)⟩
      · have hm : sj_C G 4 me_X12_setSubjects [.ref (sj_ad G 56), .int (nI t), .int (nI s)] σ (.ok (nI 0), sj_st (sj_st σ 56 0 (nI 0)) 56 0 (nI 2)) := by
          refine c_X12_setSubjects ok ⟨_, _, y_noTeacher0 ok zT00 ht, fun h => absurd nI_0 h, fun _ => ⟨_, _, y_inr1 ok (B := 63) hs (by decide), _, _, y_fails1 ok zT00, fun _ => ?_, fun h => absurd nI_0 h⟩⟩
          refine y_subjLoop (D := D) ok (by rw [z_stn (by decide)]; exact hM) v ht ?_
          rw [if_neg hq]
          exact ⟨_, _, y_fails0 ok zT00 (by decide), fun h => absurd h (by decide), fun _ => rfl⟩
        exact ⟨_, _, _, _, c_X11_setSubjects ok (Or.inl ⟨_, z_range0 ok ht (by decide), Or.inl ⟨_, z_range0 ok hs (by decide), _, _, z_subjectsGiven ok hC v ht, fun q => absurd ((z_given hsu).mp q) hq, fun _ => rfl⟩⟩), hm, zSame_er (by decide) z_ste, zI2_th2 h⟩
    · have hm : sj_C G 4 me_X12_setSubjects [.ref (sj_ad G 56), .int (nI t), .int y] σ (.ok (nI 0), sj_st (sj_st σ 56 0 (nI 0)) 56 0 (nI 1)) :=
        c_X12_setSubjects ok ⟨_, _, y_noTeacher0 ok zT00 ht, fun h => absurd nI_0 h, fun _ => ⟨_, _, y_inr0 ok (B := 63) hy (by decide), _, _, y_fails0 ok zT00 (by decide), fun h => absurd h (by decide), fun _ => rfl⟩⟩
      exact ⟨_, _, _, _, c_X11_setSubjects ok (Or.inl ⟨_, z_range0 ok ht (by decide), Or.inr ⟨_, _, z_range1 ok hy (by decide) (by decide), rfl⟩⟩), hm, zSame_er (by decide) z_ste, zI2_th2 h⟩
  · have hm : sj_C G 4 me_X12_setSubjects [.ref (sj_ad G 56), .int x, .int y] σ (.ok (nI 0), sj_st (sj_st σ 56 0 (nI 0)) 56 0 (nI 1)) :=
      c_X12_setSubjects ok ⟨_, _, y_noTeacher1 ok zT00 hx, fun _ => rfl, fun h => absurd h (by decide)⟩
    exact ⟨_, _, _, _, c_X11_setSubjects ok (Or.inr ⟨_, _, z_range1 ok hx (by decide) (by decide), rfl⟩), hm, zSame_er (by decide) z_ste, zI2_th2 h⟩
/-- a wish dropped -/
def zDW (D : zD) (w : Nat) : zD := fun f i => if f = 1 then (if i = 0 then D 1 0 - 1 else D 1 i) else if 8 ≤ f ∧ f ≤ 11 ∧ w ≤ i then D f (i + 1) else D f i
theorem zDW_o {w f i : Nat} (h : f ≠ 1) (h2 : f < 8 ∨ 11 < f) : zDW D w f i = D f i := by
  unfold zDW
  rw [if_neg h, if_neg (by omega)]
theorem zDW_w {w f i : Nat} (h : 8 ≤ f) (h2 : f ≤ 11) : zDW D w f i = if w ≤ i then D f (i + 1) else D f i := by
  unfold zDW
  rw [if_neg (by omega)]
  by_cases q : w ≤ i
  · rw [if_pos ⟨h, h2, q⟩, if_pos q]
  · rw [if_neg (by omega), if_neg q]
theorem okD_dw {w : Nat} (v : okD D) : okD (zDW D w) := by
  have h1 := v.2.1
  refine ⟨v.1, ?_, v.2.2.1, v.2.2.2.1, fun i hi => ?_, v.2.2.2.2.2.1, v.2.2.2.2.2.2.1, v.2.2.2.2.2.2.2⟩
  · show dW D - 1 ≤ 12
    omega
  · have hi : i < dW D - 1 := hi
    have eN : dN (zDW D w) = dN D := zDW_o (by decide) (by decide)
    have e : ∀ f, 8 ≤ f → f ≤ 11 → zDW D w f i = D f (if w ≤ i then i + 1 else i) := fun f a b => by
      rw [zDW_w a b]
      split <;> rfl
    rw [eN, show dSo (zDW D w) i = _ from e 8 (by decide) (by decide), show dA (zDW D w) i = _ from e 9 (by decide) (by decide), show dB (zDW D w) i = _ from e 10 (by decide) (by decide), show dWe (zDW D w) i = _ from e 11 (by decide) (by decide)]
    exact v.2.2.2.2.1 (if w ≤ i then i + 1 else i) (by split <;> omega)
theorem repC_dw {c : Nat → Int32} {w : Nat} (v : okD D) (hC : repC D c) (hw : w < dW D) : repC (zDW D w) (upd (va_cpy c c (48 + w * 4 + 4) (48 + w * 4) (4 * (dW D - w - 1))) 1 (nI (dW D - 1))) := by
  have h1 := v.2.1
  have hn : ∀ i, i ≠ 1 → (i < 48 ∨ 96 ≤ i) → upd (va_cpy c c (48 + w * 4 + 4) (48 + w * 4) (4 * (dW D - w - 1))) 1 (nI (dW D - 1)) i = c i := fun i a b => by
    rw [z_un a]
    unfold va_cpy
    rw [if_neg (by omega)]
  refine ⟨(hn _ (by omega) (by omega)).trans hC.1, z_ue, (hn _ (by omega) (by omega)).trans hC.2.2.1, rC_L (D := D) v hC (fun i _ _ => hn i (by omega) (by omega)), fun i hi => ?_, rC_T (D := D) hC (fun i _ _ => hn i (by omega) (by omega)) (fun i _ _ => hn i (by omega) (by omega)), rC_R (D := D) hC (fun i _ _ => hn i (by omega) (by omega)), rC_A (D := D) hC (fun i _ _ => hn i (by omega) (by omega))⟩
  have hi : i < dW D - 1 := hi
  have e : ∀ f, 8 ≤ f → f ≤ 11 → zDW D w f i = D f (if w ≤ i then i + 1 else i) := fun f a b => by
    rw [zDW_w a b]
    split <;> rfl
  have ec : ∀ k, k < 4 → upd (va_cpy c c (48 + w * 4 + 4) (48 + w * 4) (4 * (dW D - w - 1))) 1 (nI (dW D - 1)) (48 + i * 4 + k) = c (48 + (if w ≤ i then i + 1 else i) * 4 + k) := fun k hk => by
    rw [z_un (by omega)]
    unfold va_cpy
    by_cases q : w ≤ i
    · rw [if_pos (by omega), if_pos q]
      congr 1
      omega
    · rw [if_neg (by omega), if_neg q]
  rw [ec 0 (by decide), ec 1 (by decide), ec 2 (by decide), ec 3 (by decide), show dSo (zDW D w) i = _ from e 8 (by decide) (by decide), show dA (zDW D w) i = _ from e 9 (by decide) (by decide), show dB (zDW D w) i = _ from e 10 (by decide) (by decide), show dWe (zDW D w) i = _ from e 11 (by decide) (by decide)]
  exact hC.2.2.2.2.1 (if w ≤ i then i + 1 else i) (by split <;> omega)
def zMW (m : Nat → Int32) (w n : Nat) : Nat → Int32 := upd (zCl (zCl (zCl (zCl m (45 + w) (45 + 12)) (57 + w) (57 + 12)) (69 + w) (69 + 12)) (81 + w) (81 + 12)) 126 (nI (n - 1))
theorem repM_dw {c : Nat → Int32} {w : Nat} (v : okD D) (hC : repM D c) (hw : w < dW D) : repM (zDW D w) (zMW c w (dW D)) := by
  have h1 := v.2.1
  have hn : ∀ i, i ≠ 126 → (i < 45 ∨ 93 ≤ i) → zMW c w (dW D) i = c i := fun i a b => by
    unfold zMW
    rw [z_un a]
    unfold zCl
    rw [if_neg (by omega), if_neg (by omega), if_neg (by omega), if_neg (by omega)]
  refine ⟨(hn _ (by omega) (by omega)).trans hC.1, z_ue, (hn _ (by omega) (by omega)).trans hC.2.2.1, rM_L (D := D) v hC (fun i _ => hn i (by omega) (by omega)), fun i hi => ?_, rM_T (D := D) hC (fun i _ _ => hn i (by omega) (by omega)) (fun i _ _ => hn i (by omega) (by omega)), rM_R (D := D) hC (fun i _ _ => hn i (by omega) (by omega)), rM_A (D := D) hC (fun i _ _ => hn i (by omega) (by omega))⟩
  have hi : i < dW D - 1 := hi
  have e : ∀ f, 8 ≤ f → f ≤ 11 → zDW D w f i = D f (if w ≤ i then i + 1 else i) := fun f a b => by
    rw [zDW_w a b]
    split <;> rfl
  obtain ⟨a1, a2, a3, a4⟩ := hC.2.2.2.2.1 (if w ≤ i then i + 1 else i) (by split <;> omega)
  rw [show dSo (zDW D w) i = _ from e 8 (by decide) (by decide), show dA (zDW D w) i = _ from e 9 (by decide) (by decide), show dB (zDW D w) i = _ from e 10 (by decide) (by decide), show dWe (zDW D w) i = _ from e 11 (by decide) (by decide), ← a1, ← a2, ← a3, ← a4]
  by_cases q : w ≤ i
  · simp only [if_pos q]
    refine ⟨?_, ?_, ?_, ?_⟩
    · unfold zMW zCl
      rw [z_un (by omega), if_neg (by omega), if_neg (by omega), if_neg (by omega), if_pos (by omega), Nat.add_assoc]
    · unfold zMW zCl
      rw [z_un (by omega), if_neg (by omega), if_neg (by omega), if_pos (by omega), if_neg (by omega), Nat.add_assoc]
    · unfold zMW zCl
      rw [z_un (by omega), if_neg (by omega), if_pos (by omega), if_neg (by omega), if_neg (by omega), Nat.add_assoc]
    · unfold zMW zCl
      rw [z_un (by omega), if_pos (by omega), if_neg (by omega), if_neg (by omega), if_neg (by omega), Nat.add_assoc]
  · simp only [if_neg q]
    refine ⟨?_, ?_, ?_, ?_⟩ <;>
    · unfold zMW zCl
      rw [z_un (by omega), if_neg (by omega), if_neg (by omega), if_neg (by omega), if_neg (by omega)]
theorem y_dropsWish (ok : sj_ok G) {w n : Nat} (hw : w < n) (hn : n ≤ 12) (h0 : σ 57 126 = nI n) : sj_C G 3 me_X12_dropsWish [.ref (sj_ad G 56), .int (nI w)] σ (.ok 0, sj_up σ 57 (zMW (σ 57) w n)) := by
  refine c_X12_dropsWish ok ⟨_, y_closes ok (by omega) (by decide), _, y_closes ok (by omega) (by decide), _, y_closes ok (by omega) (by decide), _, y_closes ok (by omega) (by decide), ?_⟩
  have e : ∀ f g : Nat → Int32, sj_up (sj_up σ 57 f) 57 g = sj_up σ 57 g := fun f g => by
    funext b
    unfold sj_up
    by_cases q : b = 57 <;> simp [q]
  simp only [sj_up_s, e, z_st_up]
  have e1 : zCl (zCl (zCl (zCl (σ 57) (45 + w) (45 + 12)) (57 + w) (57 + 12)) (69 + w) (69 + 12)) (81 + w) (81 + 12) 126 = nI n := by
    unfold zCl
    rw [if_neg (by omega), if_neg (by omega), if_neg (by omega), if_neg (by omega), h0]
  rw [e1, pk_sub (by omega : 1 ≤ n)]
  rfl
theorem p_dropWish (ok : sj_ok G) (h : zA σ) (x : Int32) : zPair G (zI2 σ) 10 me_X11_dropWish 4 me_X12_dropWish [.int x] (zcd 3 0 0) σ := by
  obtain ⟨D, T, v, hC, hM, hT⟩ := h.1
  have h9 := v.2.1
  have hM0 : repM D (sj_st σ 56 0 (nI 0) 57) := by rw [z_stn (by decide)]; exact hM
  rcases z_rg x (dW D) with ⟨w, hw, rfl⟩ | hx
  · obtain ⟨B, hB, eB, hch⟩ := z_chg2 ok h
    generalize eL : sj_st B 2 2 (nI 0) = L
    have hL2 : L 2 = upd (σ 2) 2 (nI 0) := by
      rw [← eL, z_sta, eB 2 (by decide) (by decide) (by decide)]
    have hr := z_removeWish (σ := L) ok hw h9 (by rw [hL2, z_un (by decide)]; exact hC.2.1)
    generalize eτ : zRemW L w (dW D) = τ at hr
    have hτ : ∀ b, b ≠ 2 → τ b = B b := fun b hb => by
      rw [← eτ]
      unfold zRemW
      rw [z_stn hb, z_upn hb, ← eL, z_stn hb]
    have t2 : τ 2 = upd (va_cpy (upd (σ 2) 2 (nI 0)) (upd (σ 2) 2 (nI 0)) (48 + w * 4 + 4) (48 + w * 4) (4 * (dW D - w - 1))) 1 (nI (dW D - 1)) := by
      rw [← eτ]
      unfold zRemW
      rw [z_sta, sj_up_s, hL2]
    obtain ⟨σ', hkp, k1, k57, k0, hfin⟩ := hch τ (fun b hb => hτ b (zne (by decide) hb))
    have hc : sj_C G 10 me_X11_dropWish [.ref (sj_ad G 0), .int (nI w)] σ (.ok (nI (dW D - 1)), τ) :=
      c_X11_dropWish ok (Or.inl ⟨_, z_requireWish0 ok hC v hw, _, hB, _, by rw [← eL]; exact z_loseTable ok, _, _, hr, rfl⟩)
    have t57 : sj_st τ 56 0 (nI 0) 57 = σ 57 := by rw [z_stn (by decide), hτ 57 (by decide), eB 57 (by decide) (by decide) (by decide)]
    have hm : sj_C G 4 me_X12_dropWish [.ref (sj_ad G 56), .int (nI w)] τ (.ok (nI (dW D - 1)), sj_st (sj_up σ' 57 (zMW (σ 57) w (dW D))) 57 127 (nI 0)) := by
      have hd := y_dropsWish (σ := σ') ok hw h9 (by rw [k57]; exact hM.2.1)
      rw [k57] at hd
      refine c_X12_dropWish ok ⟨_, _, y_noWish0 ok (by rw [t57]; exact hM) v zT00 hw, fun _ => ⟨_, hkp, _, hd, ?_⟩, fun h => absurd nI_0 h⟩
      rw [sj_up_s]
      unfold zMW
      rw [z_ue]
    refine ⟨_, _, _, _, hc, hm, zSame_ok ?_ rfl, hfin _ (fun b hb => by rw [z_stn (zne (by decide) hb), z_upn (zne (by decide) hb)]) ?_⟩
    · rw [z_stn (by decide), z_upn (by decide), k0]
    · have r2 : sj_st (sj_up σ' 57 (zMW (σ 57) w (dW D))) 57 127 (nI 0) 2 = τ 2 := by
        rw [z_stn (by decide), z_upn (by decide), k1 2 (by decide) (by decide)]
      have r57 : sj_st (sj_up σ' 57 (zMW (σ 57) w (dW D))) 57 127 (nI 0) 57 = upd (zMW (σ 57) w (dW D)) 127 (nI 0) := by
        rw [z_sta, sj_up_s]
      rw [r2, r57, t2]
      have v1 : okD (zNoT D) := okD_noT v
      refine ⟨zNoT (zDW D w), T, okD_noT (okD_dw v), ?_, repM_noT (okD_dw v) (repM_dw v hM hw), fun q => absurd (show (0 : Nat) = 1 from q) (by decide)⟩
      have e : upd (va_cpy (upd (σ 2) 2 (nI 0)) (upd (σ 2) 2 (nI 0)) (48 + w * 4 + 4) (48 + w * 4) (4 * (dW D - w - 1))) 1 (nI (dW D - 1)) = upd (upd (va_cpy (σ 2) (σ 2) (48 + w * 4 + 4) (48 + w * 4) (4 * (dW D - w - 1))) 1 (nI (dW D - 1))) 2 (nI 0) := by
        funext i
        by_cases q : i = 2
        · subst q
          rw [z_ue, z_un (by decide)]
          unfold va_cpy
          rw [if_neg (by omega), z_ue]
        · rw [z_un q]
          by_cases q1 : i = 1
          · subst q1
            rw [z_ue, z_ue]
          · rw [z_un q1, z_un q1]
            unfold va_cpy
            split
            · rw [z_un (by omega)]
            · rw [z_un q]
      rw [e]
      exact repC_noT (okD_dw v) (repC_dw v hC hw)
  · have hm : sj_C G 4 me_X12_dropWish [.ref (sj_ad G 56), .int x] σ (.ok (nI 0), sj_st (sj_st σ 56 0 (nI 0)) 56 0 (nI 1)) :=
      c_X12_dropWish ok ⟨_, _, y_noWish1 ok hM0 v zT00 hx, fun h => absurd h (by decide), fun _ => rfl⟩
    exact ⟨_, _, _, _, c_X11_dropWish ok (Or.inr ⟨_, _, z_requireWish1 ok hC v hx, rfl⟩), hm, zSame_er (by decide) z_ste, zI2_th2 h⟩
end ZP4
