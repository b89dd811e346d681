/-! holdsFor, holdsNow; the pair of holds -/
section ZPH
variable {G : sj_G} {σ : sj_S} {D : zD} {T : Nat → Nat}
theorem y_holdsFor (ok : sj_ok G) (hM : repM D (σ 57)) (v : okD D) (hT : ∀ l, l < dN D → σ 59 l = nI (T l) ∧ T l < 20) {w l : Nat} (hw : w < dW D) (hl : l < dN D) (h3 : D 8 w ≤ 3) : sj_C G 4 me_X12_holdsFor [.ref (sj_ad G 56), .int (nI w), .int (nI l)] σ (.ok (if zF1 D T w l then nI 1 else nI 0), σ) := by
  have h9 := v.1
  have h12 := v.2.1
  obtain ⟨e8, e9, e10, -⟩ := hM.2.2.2.2.1 w hw
  have e8 : σ 57 (45 + w) = nI (D 8 w) := e8
  have e9 : σ 57 (57 + w) = nI (D 9 w) := e9
  have e10 : σ 57 (69 + w) = nI (D 10 w) := e10
  obtain ⟨b1, b2, b3, b4, b5⟩ := okD_a v hw
  obtain ⟨m0, m9, -⟩ := hM.2.2.2.1 l hl
  have m0 : σ 57 (0 + l) = nI (D 3 l) := m0
  have m9 : σ 57 (9 + l) = nI (D 4 l) := m9
  obtain ⟨g1, g2, -⟩ := v.2.2.2.1 l hl
  have g1 : D 3 l < 4 := g1
  have g2 : D 4 l < 6 := g2
  obtain ⟨t1, t2⟩ := hT l hl
  have k45 : (nI (45 + w)).toNatClampNeg = 45 + w := nI_clamp (by omega)
  have k57 : (nI (57 + w)).toNatClampNeg = 57 + w := nI_clamp (by omega)
  have k69 : (nI (69 + w)).toNatClampNeg = 69 + w := nI_clamp (by omega)
  have kl0 : (nI (0 + l)).toNatClampNeg = 0 + l := nI_clamp (by omega)
  have kl9 : (nI (9 + l)).toNatClampNeg = 9 + l := nI_clamp (by omega)
  have kl : (nI l).toNatClampNeg = l := nI_clamp (by omega)
  have hat := y_isAt (σ := σ) (T := T) (l := l) (i := D 10 w) ok hM v (fun l hl => ⟨(hT l hl).1, by have := (hT l hl).2; omega⟩) hl (by omega)
  have e : ∀ k, k < 7 → (nI (D 8 w) = nI k) = (D 8 w = k) := fun k hk => by rw [nI_eq (by omega) (by omega)]
  have c1 : (nI l = nI (D 9 w)) = (l = D 9 w) := by rw [nI_eq (by omega) (by omega)]
  refine c_X12_holdsFor ok ?_
  unfold wp_X12_holdsFor_0
  simp only [nI_add, k45, k57, k69, kl0, kl9, kl, e8, e9, e10, m0, m9, t1, z_d4 t2]
  refine ⟨z_in (by omega) (by decide), z_in (by omega) (by decide), z_in (by omega) (by decide), fun q => ?_, fun q => ?_, fun q => ?_, fun q => ?_, fun q0 q1 q2 q3 => ?_⟩
  · rw [e 0 (by decide)] at q
    have ef : zF1 D T w l = !(decide (D 4 l = D 9 w) && zTk D T l (D 10 w)) := by unfold zF1; rw [if_pos q]
    rw [ef]
    refine ⟨z_in (by omega) (by decide), fun r => ?_, fun r => ⟨_, _, hat, ?_⟩⟩
    · rw [nI_eq (by omega) (by omega)] at r
      rw [decide_eq_false r]
      exact ⟨rfl, Or.inr rfl⟩
    · rw [nI_eq (by omega) (by omega)] at r
      unfold wp_X12_holdsFor_88
      rw [decide_eq_true r, Bool.true_and, z_nb]
      exact ⟨rfl, z_01 _⟩
  · rw [e 1 (by decide)] at q
    have ef : zF1 D T w l = !(decide (D 3 l = D 9 w) && zTk D T l (D 10 w)) := by unfold zF1; rw [if_neg (by omega), if_pos q]
    rw [ef]
    refine ⟨z_in (by omega) (by decide), fun r => ?_, fun r => ⟨_, _, hat, ?_⟩⟩
    · rw [nI_eq (by omega) (by omega)] at r
      rw [decide_eq_false r]
      exact ⟨rfl, Or.inr rfl⟩
    · rw [nI_eq (by omega) (by omega)] at r
      unfold wp_X12_holdsFor_116
      rw [decide_eq_true r, Bool.true_and, z_nb]
      exact ⟨rfl, z_01 _⟩
  · rw [e 2 (by decide)] at q
    have ef : zF1 D T w l = !(decide (l = D 9 w) && decide (T l / 4 = D 10 w)) := by unfold zF1; rw [if_neg (by omega), if_neg (by omega), if_pos q]
    rw [ef]
    refine ⟨fun _ => z_in (by omega) (by decide), ?_⟩
    unfold wp_X12_holdsFor_140
    have c2 : (nI (T l / 4) = nI (D 10 w)) = (T l / 4 = D 10 w) := by rw [nI_eq (by omega) (by omega)]
    simp only [c1, c2]
    by_cases r : l = D 9 w
    · by_cases r2 : T l / 4 = D 10 w
      · simp [r2, ← r, z_nb]
      · simp [r2, ← r, z_nb]
    · simp [r]
  · rw [e 3 (by decide)] at q
    have ef : zF1 D T w l = (!decide (l = D 9 w) || decide (T l = D 10 w)) := by unfold zF1; rw [if_neg (by omega), if_neg (by omega), if_neg (by omega), if_pos q]
    rw [ef]
    refine ⟨fun _ => z_in (by omega) (by decide), ?_⟩
    unfold wp_X12_holdsFor_162
    have c2 : (nI (T l) = nI (D 10 w)) = (T l = D 10 w) := by rw [nI_eq (by omega) (by omega)]
    simp only [c1, c2]
    by_cases r : l = D 9 w
    · by_cases r2 : T l = D 10 w
      · simp [r2, ← r]
      · simp [r2, ← r]
    · simp [r]
  · rw [e 0 (by decide)] at q0
    rw [e 1 (by decide)] at q1
    rw [e 2 (by decide)] at q2
    rw [e 3 (by decide)] at q3
    omega
theorem y_holdsNow (ok : sj_ok G) (hM : repM D (σ 57)) (v : okD D) (hT : ∀ l, l < dN D → σ 59 l = nI (T l) ∧ T l < 20) {w : Nat} (hw : w < dW D) : sj_C G 5 me_X12_holdsNow [.ref (sj_ad G 56), .int (nI w)] σ (.ok (if zFul D T w then nI 1 else nI 0), σ) := by
  have h9 := v.1
  have h12 := v.2.1
  have e8 : σ 57 (45 + w) = nI (D 8 w) := (hM.2.2.2.2.1 w hw).1
  obtain ⟨b1, b2, b3, b4, b5⟩ := okD_a v hw
  refine c_X12_holdsNow ok ?_
  unfold wp_X12_holdsNow_0
  rw [nI_add, nI_clamp (by omega), e8]
  refine ⟨z_in (by omega) (by decide), ?_⟩
  by_cases q : 4 ≤ D 8 w
  · exact ⟨_, _, y_isOfTwo1 ok q (by omega), fun r => absurd r z_10, fun _ => ⟨_, _, y_holdsForTwo ok hM v hT hw q, rfl, z_01 _⟩⟩
  · refine ⟨_, _, y_isOfTwo0 ok (by omega), fun _ => ?_, fun r => absurd nI_0 r⟩
    have key : ∀ k i, i + k = dN D → sj_J G 5 me_X12_holdsNow (.ok (if zF2 D T w k i then nI 1 else nI 0), σ) 24 [.ref (sj_ad G 56), .int (nI w), .int (nI i)] σ [] := by
      intro k
      induction k with
      | zero =>
        intro i hi
        refine t_X12_holdsNow_24 ⟨_, _, y_many ok, fun _ => rfl, fun r => ?_⟩
        rw [hM.1] at r
        exact absurd (nI_le (by omega) (by omega)) r
      | succ k ih =>
        intro i hi
        have h1 := ih (i + 1) (by omega)
        have hf := y_holdsFor (σ := σ) (T := T) ok hM v hT hw (l := i) (by omega) (by omega)
        cases hq : zF1 D T w i
        · rw [hq] at hf
          have e : zF2 D T w (k + 1) i = false := by
            show (if zF1 D T w i then _ else false) = false
            rw [hq]; rfl
          rw [e]
          refine t_X12_holdsNow_24 ⟨_, _, y_many ok, fun r => ?_, fun _ => ⟨_, _, hf, fun r => absurd nI_0 r, fun _ => rfl⟩⟩
          rw [hM.1] at r
          exact absurd r (nI_ge (by omega) (by omega))
        · rw [hq] at hf
          have e : zF2 D T w (k + 1) i = zF2 D T w k (i + 1) := by
            show (if zF1 D T w i then zF2 D T w k (i + 1) else false) = _
            rw [hq]; rfl
          rw [e]
          refine t_X12_holdsNow_24 ⟨_, _, y_many ok, fun r => ?_, fun _ => ⟨_, _, hf, fun _ => ?_, fun r => absurd r z_10⟩⟩
          · rw [hM.1] at r
            exact absurd r (nI_ge (by omega) (by omega))
          · rw [nI_add]
            exact h1
    have h := key (dN D) 0 (by omega)
    rw [zF2_ful v hw (by omega)] at h
    exact h
theorem p_holds (ok : sj_ok G) (h : zA σ) (x : Int32) : zPair G (zI2 σ) 10 me_X11_holds 6 me_X12_holds [.int x] (zcd 3 2 0) σ := by
  obtain ⟨D, T, v, hC, hM, hT⟩ := h.1
  have h9 := v.1
  have e57 : sj_st σ 56 0 (nI 0) 57 = σ 57 := z_stn (by decide)
  have hM0 : repM D (sj_st σ 56 0 (nI 0) 57) := by rw [e57]; exact hM
  rcases z_rg x (dW D) with ⟨w, hw, rfl⟩ | hx
  · by_cases hq : dT D = 1
    · obtain ⟨hT, -⟩ := hT hq
      have hR : repT (dN D) T (σ 3) := fun l hl => ⟨(hT l hl).1, (hT l hl).2.2⟩
      obtain ⟨σ', hlk, f1, f2, f3⟩ := y_looksAtTable (σ := sj_st σ 56 0 (nI 0)) ok h9 hM0.1
      have f57 : σ' 57 = σ 57 := by rw [f1 57 (by decide) (by decide), e57]
      have hn := y_holdsNow (σ := σ') (T := T) (w := w) ok (by rw [f57]; exact hM) v (fun l hl => ⟨by rw [f2 l hl, e57]; exact (hT l hl).2.1, (hT l hl).2.2⟩) hw
      exact ⟨_, _, _, _, c_X11_holds ok (Or.inl ⟨_, z_requireWish0 ok hC v hw, Or.inl ⟨_, z_requireTable0 ok (hC.2.2.1.trans (by rw [hq])), _, _, z_fulfils ok hC v z_sl3 hw hR, rfl, z_01 _⟩⟩), c_X12_holds ok ⟨_, _, y_noWish0 ok hM0 v zT00 hw, fun q => absurd nI_0 q, fun _ => ⟨_, _, y_noTable0 ok zT00 (hM0.2.2.1.trans (by rw [hq])), fun _ => ⟨_, hlk, _, _, hn, rfl, z_01 _⟩, fun q => absurd nI_0 q⟩⟩, zSame_ok (by rw [f1 56 (by decide) (by decide), z_ste]) rfl, zI2_lk h f1⟩
    · have hq := zT_of v hq
      exact ⟨_, _, _, _, c_X11_holds ok (Or.inl ⟨_, z_requireWish0 ok hC v hw, Or.inr ⟨_, _, z_requireTable1 ok (hC.2.2.1.trans (by rw [hq])), rfl⟩⟩), c_X12_holds ok (R := (.ok (nI 0), sj_st (sj_st σ 56 0 (nI 0)) 56 0 (nI 2))) ⟨_, _, y_noWish0 ok hM0 v zT00 hw, fun q => absurd nI_0 q, fun _ => ⟨_, _, y_noTable1 ok zT00 (hM0.2.2.1.trans (by rw [hq])) (by decide), fun q => absurd q z_10, fun _ => rfl⟩⟩, zSame_er (by decide) z_ste, zI2_th2 h⟩
  · exact ⟨_, _, _, _, c_X11_holds ok (Or.inr ⟨_, _, z_requireWish1 ok hC v hx, rfl⟩), c_X12_holds ok (R := (.ok (nI 0), sj_st (sj_st σ 56 0 (nI 0)) 56 0 (nI 1))) ⟨_, _, y_noWish1 ok hM0 v zT00 hx, fun _ => rfl, fun q => absurd q z_10⟩, zSame_er (by decide) z_ste, zI2_th2 h⟩
end ZPH
