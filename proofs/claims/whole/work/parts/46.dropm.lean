/-! PAIRS 13: the reference's dropLesson, and the pair -/
def okV (D : zD) : Prop := dN D ≤ 9 ∧ dW D ≤ 12 ∧ ∀ w, w < dW D → D 8 w ≤ 6 ∧ D 9 w < 20 ∧ D 10 w < 20
section ZPM
variable {G : sj_G} {σ : sj_S} {D : zD} {l : Nat}
theorem okV_of (v : okD D) : okV D := ⟨v.1, v.2.1, fun _ hw => ⟨(okD_a v hw).1, (okD_a v hw).2.1, (okD_a v hw).2.2.1⟩⟩
theorem okV_dw {w : Nat} (v : okV D) : okV (zDW D w) := by
  have h12 := v.2.1
  refine ⟨v.1, show dW D - 1 ≤ 12 by omega, fun i hi => ?_⟩
  have hi : i < dW D - 1 := hi
  rw [zDW_w (by decide) (by decide), zDW_w (by decide) (by decide), zDW_w (by decide) (by decide)]
  by_cases q : w ≤ i
  · rw [if_pos q, if_pos q, if_pos q]
    exact v.2.2 (i + 1) (by omega)
  · rw [if_neg q, if_neg q, if_neg q]
    exact v.2.2 i (by omega)
theorem okV_rn {S : Nat → Bool} (v : okV D) : okV (zRn D l S) := by
  refine ⟨v.1, v.2.1, fun i hi => ?_⟩
  obtain ⟨b1, b2, b3⟩ := v.2.2 i hi
  rw [zRn_o (by decide) (by decide), zRn_9, zRn_10]
  refine ⟨b1, ?_, ?_⟩
  · split <;> omega
  · split <;> omega
theorem repM_rn1 {m : Nat → Int32} (v : okV D) (hM : repM D m) {w : Nat} (hw : w < dW D) : repM (zRn D l (fun i => decide (i = w))) (upd (upd m (57 + w) (nI (if 2 ≤ D 8 w ∧ l < D 9 w then D 9 w - 1 else D 9 w))) (69 + w) (nI (if 4 ≤ D 8 w ∧ l < D 10 w then D 10 w - 1 else D 10 w))) := by
  have h9 := v.1
  have h12 := v.2.1
  have eW : dW (zRn D l (fun i => decide (i = w))) = dW D := zRn_o (by decide) (by decide)
  have eN : dN (zRn D l (fun i => decide (i = w))) = dN D := zRn_o (by decide) (by decide)
  generalize ea : nI (if 2 ≤ D 8 w ∧ l < D 9 w then D 9 w - 1 else D 9 w) = a'
  generalize eb : nI (if 4 ≤ D 8 w ∧ l < D 10 w then D 10 w - 1 else D 10 w) = b'
  have hf : ∀ i, i ≠ 57 + w → i ≠ 69 + w → upd (upd m (57 + w) a') (69 + w) b' i = m i := fun i h1 h2 => by rw [z_un h2, z_un h1]
  refine ⟨(hf _ (by omega) (by omega)).trans hM.1, (hf _ (by omega) (by omega)).trans hM.2.1, (hf _ (by omega) (by omega)).trans hM.2.2.1, fun i hi => ?_, fun j hj => ?_, fun t h => ?_, fun k h => ?_, fun e h => ?_⟩
  · rw [eN] at hi
    rw [hf _ (by omega) (by omega), hf _ (by omega) (by omega), hf _ (by omega) (by omega), hf _ (by omega) (by omega), hf _ (by omega) (by omega)]
    exact hM.2.2.2.1 i hi
  · rw [eW] at hj
    obtain ⟨a1, a2, a3, a4⟩ := hM.2.2.2.2.1 j hj
    rw [show dSo (zRn D l (fun i => decide (i = w))) j = D 8 j from zRn_o (by decide) (by decide), show dWe (zRn D l (fun i => decide (i = w))) j = D 11 j from zRn_o (by decide) (by decide), show dA (zRn D l (fun i => decide (i = w))) j = _ from zRn_9, show dB (zRn D l (fun i => decide (i = w))) j = _ from zRn_10]
    rw [hf (45 + j) (by omega) (by omega), hf (81 + j) (by omega) (by omega)]
    by_cases q : j = w
    · subst q
      rw [z_ue, z_un (by omega), z_ue, ← ea, ← eb]
      have e : decide (j = j) = true := decide_eq_true rfl
      exact ⟨a1, by simp, by simp, a4⟩
    · rw [hf (57 + j) (by omega) (by omega), hf (69 + j) (by omega) (by omega)]
      have e : decide (j = w) = false := decide_eq_false q
      rw [if_neg (fun r => absurd (e.symm.trans r.1) (by decide)), if_neg (fun r => absurd (e.symm.trans r.1) (by decide))]
      exact ⟨a1, a2, a3, a4⟩
  · rw [hf _ (by omega) (by omega), hf _ (by omega) (by omega)]
    exact hM.2.2.2.2.2.1 t h
  · rw [hf _ (by omega) (by omega)]
    exact hM.2.2.2.2.2.2.1 k h
  · rw [hf _ (by omega) (by omega)]
    exact hM.2.2.2.2.2.2.2 e h
theorem repM_dwV {c : Nat → Int32} {w : Nat} (v : okV D) (hC : repM D c) (hw : w < dW D) : repM (zDW D w) (zMW c w (dW D)) := by
  have h1 := v.2.1
  have hn : ∀ i, i ≠ 126 → (i < 45 ∨ 93 ≤ i) → zMW c w (dW D) i = c i := fun i a b => by
    unfold zMW
    rw [z_un a]
    unfold zCl
    rw [if_neg (by omega), if_neg (by omega), if_neg (by omega), if_neg (by omega)]
  refine ⟨(hn _ (by omega) (by omega)).trans hC.1, z_ue, (hn _ (by omega) (by omega)).trans hC.2.2.1, fun l hl => by
    have h9 := v.1
    have hl : l < dN D := hl
    obtain ⟨a1, a2, a3, a4, a5⟩ := hC.2.2.2.1 l hl
    exact ⟨(hn _ (by omega) (by omega)).trans a1, (hn _ (by omega) (by omega)).trans a2, (hn _ (by omega) (by omega)).trans a3, (hn _ (by omega) (by omega)).trans a4, (hn _ (by omega) (by omega)).trans a5⟩, fun i hi => ?_, rM_T (D := D) hC (fun i _ _ => hn i (by omega) (by omega)) (fun i _ _ => hn i (by omega) (by omega)), rM_R (D := D) hC (fun i _ _ => hn i (by omega) (by omega)), rM_A (D := D) hC (fun i _ _ => hn i (by omega) (by omega))⟩
  have hi : i < dW D - 1 := hi
  have e : ∀ f, 8 ≤ f → f ≤ 11 → zDW D w f i = D f (if w ≤ i then i + 1 else i) := fun f a b => by
    rw [zDW_w a b]
    split <;> rfl
  obtain ⟨a1, a2, a3, a4⟩ := hC.2.2.2.2.1 (if w ≤ i then i + 1 else i) (by split <;> omega)
  rw [show dSo (zDW D w) i = _ from e 8 (by decide) (by decide), show dA (zDW D w) i = _ from e 9 (by decide) (by decide), show dB (zDW D w) i = _ from e 10 (by decide) (by decide), show dWe (zDW D w) i = _ from e 11 (by decide) (by decide), ← a1, ← a2, ← a3, ← a4]
  by_cases q : w ≤ i
  · simp only [if_pos q]
    refine ⟨?_, ?_, ?_, ?_⟩
    · unfold zMW zCl
      rw [z_un (by omega), if_neg (by omega), if_neg (by omega), if_neg (by omega), if_pos (by omega), Nat.add_assoc]
    · unfold zMW zCl
      rw [z_un (by omega), if_neg (by omega), if_neg (by omega), if_pos (by omega), if_neg (by omega), Nat.add_assoc]
    · unfold zMW zCl
      rw [z_un (by omega), if_neg (by omega), if_pos (by omega), if_neg (by omega), if_neg (by omega), Nat.add_assoc]
    · unfold zMW zCl
      rw [z_un (by omega), if_pos (by omega), if_neg (by omega), if_neg (by omega), if_neg (by omega), Nat.add_assoc]
  · simp only [if_neg q]
    refine ⟨?_, ?_, ?_, ?_⟩ <;>
    · unfold zMW zCl
      rw [z_un (by omega), if_neg (by omega), if_neg (by omega), if_neg (by omega), if_neg (by omega)]
theorem y_w94 (ok : sj_ok G) {R : sj_R} {m : Nat → Int32} {w s a b : Nat} (hw : w < 12) (hs : s ≤ 6) (ha : a < 20) (hb : b < 20) (hl : l < 9) (e9 : m (57 + w) = nI a) (e10 : m (69 + w) = nI b)
    (h : wp_X12_dropLesson_162 G R (nI l) (nI w) (sj_up σ 57 (upd (upd m (57 + w) (nI (if 2 ≤ s ∧ l < a then a - 1 else a))) (69 + w) (nI (if 4 ≤ s ∧ l < b then b - 1 else b))))) : wp_X12_dropLesson_94 G R (nI l) (nI w) (nI s) (sj_up σ 57 m) := by
  have k57 : (nI (57 + w)).toNatClampNeg = 57 + w := nI_clamp (by omega)
  have k69 : (nI (69 + w)).toNatClampNeg = 69 + w := nI_clamp (by omega)
  have w128 : wp_X12_dropLesson_128 G R (nI l) (nI w) (nI s) (sj_up σ 57 (upd m (57 + w) (nI (if 2 ≤ s ∧ l < a then a - 1 else a)))) := by
    have e10' : ∀ z, upd m (57 + w) z (69 + w) = nI b := fun z => by rw [z_un (by omega)]; exact e10
    generalize nI (if 2 ≤ s ∧ l < a then a - 1 else a) = a' at h ⊢
    unfold wp_X12_dropLesson_128
    simp only [nI_add, k69]
    by_cases q : 4 ≤ s
    · refine ⟨_, _, y_isOfTwo1 ok q (by omega), fun _ => z_in (by omega) (by decide), fun _ _ => ⟨z_in (by omega) (by decide), z_in (by omega) (by decide)⟩, ?_⟩
      rw [if_neg z_10, sj_up_s, e10']
      by_cases q2 : l < b
      · rw [if_neg (nI_ge q2 (by omega)), pk_sub (by omega), z_st_up]
        rw [if_pos ⟨q, q2⟩] at h
        exact h
      · rw [if_pos (nI_le (by omega) (by omega))]
        rw [if_neg (fun r => q2 r.2), ← e10' a', z_u_self] at h
        exact h
    · refine ⟨_, _, y_isOfTwo0 ok (by omega), fun r => absurd nI_0 r, fun r => absurd nI_0 r, ?_⟩
      rw [if_pos nI_0]
      rw [if_neg (fun r => q r.1), ← e10' a', z_u_self] at h
      exact h
  unfold wp_X12_dropLesson_94
  simp only [nI_add, k57]
  by_cases q : 2 ≤ s
  · refine ⟨_, _, y_isOfLesson1 ok q (by omega), fun _ => z_in (by omega) (by decide), fun _ _ => ⟨z_in (by omega) (by decide), z_in (by omega) (by decide)⟩, ?_⟩
    rw [if_neg z_10, sj_up_s, e9]
    by_cases q2 : l < a
    · rw [if_neg (nI_ge q2 (by omega)), pk_sub (by omega), z_st_up]
      rw [if_pos ⟨q, q2⟩] at w128
      exact w128
    · rw [if_pos (nI_le (by omega) (by omega))]
      rw [if_neg (fun r => q2 r.2), ← e9, z_u_self] at w128
      exact w128
  · refine ⟨_, _, y_isOfLesson0 ok (by omega), fun r => absurd nI_0 r, fun r => absurd nI_0 r, ?_⟩
    rw [if_pos nI_0]
    rw [if_neg (fun r => q r.1), ← e9, z_u_self] at w128
    exact w128
theorem y_dl30 (ok : sj_ok G) (hl : l < 9) : ∀ (w : Nat) (D : zD) (m : Nat → Int32), okV D → repM D m → w ≤ dW D → ∃ m', repM (zG l w D) m' ∧ okV (zG l w D) ∧ dN (zG l w D) = dN D ∧ ∀ R, sj_J G 4 me_X12_dropLesson R 30 [.ref (sj_ad G 56), .int (nI l), .int (zk 0), .null] (sj_up σ 57 m') [] → sj_J G 4 me_X12_dropLesson R 30 [.ref (sj_ad G 56), .int (nI l), .int (zk w), .null] (sj_up σ 57 m) [] := by
  intro w
  induction w with
  | zero =>
    intro D m v hM _
    exact ⟨m, hM, v, rfl, fun R h => h⟩
  | succ w ih =>
    intro D m v hM hw
    have h12 := v.2.1
    obtain ⟨b1, b2, b3⟩ := v.2.2 w (by omega)
    obtain ⟨e8, e9, e10, -⟩ := hM.2.2.2.2.1 w (by omega)
    have e8 : m (45 + w) = nI (D 8 w) := e8
    have e9 : m (57 + w) = nI (D 9 w) := e9
    have e10 : m (69 + w) = nI (D 10 w) := e10
    have k45 : (nI (45 + w)).toNatClampNeg = 45 + w := nI_clamp (by omega)
    have k57 : (nI (57 + w)).toNatClampNeg = 57 + w := nI_clamp (by omega)
    have k69 : (nI (69 + w)).toNatClampNeg = 69 + w := nI_clamp (by omega)
    have q9 : (sj_up σ 57 m 57 (57 + w) = nI l) = (D 9 w = l) := by rw [sj_up_s, e9, nI_eq (by omega) (by omega)]
    have q10 : (sj_up σ 57 m 57 (69 + w) = nI l) = (D 10 w = l) := by rw [sj_up_s, e10, nI_eq (by omega) (by omega)]
    cases hq : zNm D w l
    · obtain ⟨m', r, v', eN, k⟩ := ih (zRn D l (fun i => decide (i = w))) _ (okV_rn v) (repM_rn1 (l := l) v hM (w := w) (by omega)) (show w ≤ dW D by omega)
      have eG : zG l (w + 1) D = zG l w (zRn D l (fun i => decide (i = w))) := by
        show zG l w (if zNm D w l then zDW D w else zRn D l (fun i => decide (i = w))) = _
        rw [hq]; rfl
      have hm2 : (2 ≤ D 8 w → D 9 w ≠ l) ∧ (4 ≤ D 8 w → D 10 w ≠ l) := by
        unfold zNm at hq
        simp only [Bool.or_eq_false_iff, Bool.and_eq_false_iff, decide_eq_false_iff_not] at hq
        exact ⟨fun q r => (hq.1.resolve_left (fun x => x q)) r, fun q r => (hq.2.resolve_left (fun x => x q)) r⟩
      rw [eG]
      refine ⟨m', r, v', eN, fun R h => ?_⟩
      have h162 : wp_X12_dropLesson_162 G R (nI l) (nI w) (sj_up σ 57 (upd (upd m (57 + w) (nI (if 2 ≤ D 8 w ∧ l < D 9 w then D 9 w - 1 else D 9 w))) (69 + w) (nI (if 4 ≤ D 8 w ∧ l < D 10 w then D 10 w - 1 else D 10 w)))) := by
        unfold wp_X12_dropLesson_162
        rw [z_m1k]
        exact k R h
      have h94 := y_w94 (l := l) ok (by omega) b1 b2 b3 hl e9 e10 h162
      have h65 : wp_X12_dropLesson_65 G R (nI l) (nI w) (nI (D 8 w)) (sj_up σ 57 m) := by
        unfold wp_X12_dropLesson_65
        simp only [nI_add, k69]
        by_cases q : 4 ≤ D 8 w
        · refine ⟨_, _, y_isOfTwo1 ok q (by omega), fun r => absurd r z_10, fun _ => ⟨z_in (by omega) (by decide), fun _ => h94, fun r => ?_⟩⟩
          rw [q10] at r
          exact absurd r (hm2.2 q)
        · exact ⟨_, _, y_isOfTwo0 ok (by omega), fun _ => h94, fun r => absurd nI_0 r⟩
      rw [z_k1]
      refine t_X12_dropLesson_30 ⟨fun q => absurd q (z_nlt0 (by omega)), fun _ => ?_⟩
      simp only [nI_add, k45, k57]
      rw [sj_up_s, e8]
      refine ⟨z_in (by omega) (by decide), ?_⟩
      by_cases q : 2 ≤ D 8 w
      · refine ⟨_, _, y_isOfLesson1 ok q (by omega), fun r => absurd r z_10, fun _ => ⟨z_in (by omega) (by decide), fun r => ?_, fun _ => h65⟩⟩
        rw [q9] at r
        exact absurd r (hm2.1 q)
      · exact ⟨_, _, y_isOfLesson0 ok (by omega), fun _ => h65, fun r => absurd nI_0 r⟩
    · obtain ⟨m', r, v', eN, k⟩ := ih (zDW D w) (zMW m w (dW D)) (okV_dw v) (repM_dwV v hM (by omega)) (show w ≤ dW D - 1 by omega)
      have eG : zG l (w + 1) D = zG l w (zDW D w) := by
        show zG l w (if zNm D w l then zDW D w else zRn D l (fun i => decide (i = w))) = _
        rw [hq]; rfl
      have hm2 : (2 ≤ D 8 w ∧ D 9 w = l) ∨ (4 ≤ D 8 w ∧ D 10 w = l) := by
        unfold zNm at hq
        simp only [Bool.or_eq_true, Bool.and_eq_true, decide_eq_true_eq] at hq
        exact hq
      rw [eG]
      refine ⟨m', r, v', eN, fun R h => ?_⟩
      have hd := y_dropsWish (σ := sj_up σ 57 m) ok (w := w) (n := dW D) (by omega) h12 (by rw [sj_up_s]; exact hM.2.1)
      rw [sj_up_s, z_up_up] at hd
      have h86 : wp_X12_dropLesson_86 G R (nI l) (nI w) (sj_up σ 57 m) := by
        refine ⟨_, hd, ?_⟩
        unfold wp_X12_dropLesson_162
        rw [z_m1k]
        exact k R h
      have h2 : 2 ≤ D 8 w := by omega
      rw [z_k1]
      refine t_X12_dropLesson_30 ⟨fun q => absurd q (z_nlt0 (by omega)), fun _ => ?_⟩
      simp only [nI_add, k45, k57]
      rw [sj_up_s, e8]
      refine ⟨z_in (by omega) (by decide), _, _, y_isOfLesson1 ok h2 (by omega), fun r => absurd r z_10, fun _ => ⟨z_in (by omega) (by decide), fun _ => h86, fun r => ?_⟩⟩
      rw [q9] at r
      obtain ⟨c1, c2⟩ := hm2.resolve_left (fun x => r x.2)
      unfold wp_X12_dropLesson_65
      simp only [nI_add, k69]
      refine ⟨_, _, y_isOfTwo1 ok c1 (by omega), fun r => absurd r z_10, fun _ => ⟨z_in (by omega) (by decide), fun r => ?_, fun _ => h86⟩⟩
      rw [q10] at r
      exact absurd c2 r
theorem repM_S {m : Nat → Int32} {S1 S2 : Nat → Bool} (hM : repM (zRn D l S1) m) (h : ∀ j, j < dW D → S1 j = S2 j) : repM (zRn D l S2) m := by
  refine ⟨hM.1, hM.2.1, hM.2.2.1, hM.2.2.2.1, fun j hj => ?_, hM.2.2.2.2.2.1, hM.2.2.2.2.2.2.1, hM.2.2.2.2.2.2.2⟩
  obtain ⟨a1, a2, a3, a4⟩ := hM.2.2.2.2.1 j hj
  refine ⟨a1, ?_, ?_, a4⟩
  · rw [show dA (zRn D l S1) j = _ from zRn_9, h j hj] at a2
    rw [show dA (zRn D l S2) j = _ from zRn_9]
    exact a2
  · rw [show dB (zRn D l S1) j = _ from zRn_10, h j hj] at a3
    rw [show dB (zRn D l S2) j = _ from zRn_10]
    exact a3
theorem zRn_none : zRn D l (fun k => decide (k < 0)) = D := by
  refine (zRn_ext (fun _ _ _ _ => rfl) (fun i => ?_) (fun i => ?_)).symm
  · rw [if_neg (fun q => absurd (of_decide_eq_true q.1) (by omega))]
  · rw [if_neg (fun q => absurd (of_decide_eq_true q.1) (by omega))]
theorem p_dropLesson (ok : sj_ok G) (h : zA σ) (x : Int32) : zPair G (zI2 σ) 10 me_X11_dropLesson 4 me_X12_dropLesson [.int x] (zcd 3 0 0) σ := by
  obtain ⟨D, T, v, hC, hM, hT⟩ := h.1
  have h9 := v.1
  have h12 := v.2.1
  have hM0 : repM D (sj_st σ 56 0 (nI 0) 57) := by rw [z_stn (by decide)]; exact hM
  rcases z_rg x (dN D) with ⟨l, hl, rfl⟩ | hx
  · obtain ⟨B, hB, eB, hch⟩ := z_chg2 ok h
    generalize eL : sj_st B 2 2 (nI 0) = L
    have hlt : sj_C G 2 me_X8_loseTable [.ref (sj_ad G 1)] B (.ok 0, L) := by
      rw [← eL]
      exact z_loseTable ok
    have hL2 : L 2 = upd (σ 2) 2 (nI 0) := by
      rw [← eL, z_sta, eB 2 (by decide) (by decide) (by decide)]
    obtain ⟨vF, eNF, hnF⟩ := okD_F (l := l) (dW D) D v (Nat.le_refl _)
    obtain ⟨c', r, hr⟩ := z_removeLesson (σ := L) (D := zNoT D) (l := l) ok (by rw [hL2]; exact repC_noT v hC) (okD_noT v) hl
    have r' : repC (zNoT (zDL (zRn (zF l (dW D) D) l (fun k => decide (k < dW (zF l (dW D) D)))) l)) c' := by
      rw [← zDL_noT, ← zRn_noT]
      have e : zF l (dW (zNoT D)) (zNoT D) = zNoT (zF l (dW D) D) := zF_noT (dW D) D
      rw [e] at r
      exact r
    generalize eτ : sj_up L 2 c' = τ at hr
    have hτ : ∀ b, b ≠ 2 → τ b = B b := fun b hb => by rw [← eτ, z_upn hb, ← eL, z_stn hb]
    obtain ⟨σ', hkp, k1, k57, k0, hfin⟩ := hch τ (fun b hb => hτ b (zne (by decide) hb))
    have hc : sj_C G 10 me_X11_dropLesson [.ref (sj_ad G 0), .int (nI l)] σ (.ok (nI (dN D - 1)), τ) :=
      c_X11_dropLesson ok (Or.inl ⟨_, z_requireLesson0 ok hC v hl, _, hB, _, hlt, _, _, hr, rfl⟩)
    have t57 : sj_st τ 56 0 (nI 0) 57 = σ 57 := by rw [z_stn (by decide), hτ 57 (by decide), eB 57 (by decide) (by decide) (by decide)]
    have hMs : repM (zRn D l (fun i => decide (dW D ≤ i))) (σ 57) := by
      have h0 : repM (zRn D l (fun k => decide (k < 0))) (σ 57) := by rw [zRn_none]; exact hM
      exact repM_S h0 (fun j hj => by rw [decide_eq_false (by omega : ¬ j < 0), decide_eq_false (by omega : ¬ dW D ≤ j)])
    obtain ⟨m', r1, v1, eN1, k⟩ := y_dl30 (σ := σ') (l := l) ok (by omega) (dW D) _ (σ 57) (okV_rn (okV_of v)) hMs (Nat.le_refl _)
    rw [zG_eq] at r1
    have r2 : repM (zRn (zF l (dW D) D) l (fun k => decide (k < dW (zF l (dW D) D)))) m' :=
      repM_S r1 (fun j hj => by rw [decide_eq_true (by omega : 0 ≤ j), decide_eq_true hj])
    have eNS : ∀ S, dN (zRn (zF l (dW D) D) l S) = dN D := fun S => by
      rw [show dN (zRn (zF l (dW D) D) l S) = dN (zF l (dW D) D) from zRn_o (by decide) (by decide), eNF]
    have r3 := repM_dl (l := l) (by rw [eNS]; exact h9) (by rw [show dW (zRn (zF l (dW D) D) l (fun k => decide (k < dW (zF l (dW D) D)))) = dW (zF l (dW D) D) from zRn_o (by decide) (by decide)]; exact vF.2.1) r2 (by rw [eNS]; exact hl)
    rw [eNS] at r3
    have m125 : m' 125 = nI (dN D) := r2.1.trans (by rw [eNS])
    have hm : sj_C G 4 me_X12_dropLesson [.ref (sj_ad G 56), .int (nI l)] τ (.ok (nI (dN D - 1)), sj_up σ' 57 (upd (zML m' l (dN D)) 127 (nI 0))) := by
      refine c_X12_dropLesson ok ⟨_, _, y_noLesson0 ok (by rw [t57]; exact hM) v zT00 hl, fun _ => ⟨_, hkp, ?_⟩, fun q => absurd nI_0 q⟩
      have ez : nI (dW D) - nI 1 = zk (dW D) := by
        rw [← z_m1k, Int32.sub_eq_add_neg]
        rfl
      rw [k57, hM.2.1, ez]
      have hk := k (.ok (nI (dN D - 1)), sj_up σ' 57 (upd (zML m' l (dN D)) 127 (nI 0))) ?_
      · rw [← k57, z_up_self] at hk
        exact hk
      · refine t_X12_dropLesson_30 ⟨fun _ => ⟨_, y_closes ok (by omega) (by decide), _, y_closes ok (by omega) (by decide), _, y_closes ok (by omega) (by decide), _, y_closes ok (by omega) (by decide), _, y_closes ok (by omega) (by decide), ?_⟩, fun q => absurd (by decide) q⟩
        simp only [sj_up_s, z_up_up, z_st_up]
        have e1 : zCl (zCl (zCl (zCl (zCl m' (0 + l) (0 + 9)) (9 + l) (9 + 9)) (18 + l) (18 + 9)) (27 + l) (27 + 9)) (36 + l) (36 + 9) 125 = nI (dN D) := by
          unfold zCl
          rw [if_neg (by omega), if_neg (by omega), if_neg (by omega), if_neg (by omega), if_neg (by omega), m125]
        rw [e1, pk_sub (by omega : 1 ≤ dN D)]
        refine ⟨_, _, y_many ok, ?_⟩
        rw [sj_up_s, z_un (by decide), z_ue]
        rfl
    refine ⟨_, _, _, _, hc, hm, zSame_ok ?_ rfl, hfin _ (fun b hb => z_upn (zne (by decide) hb)) ?_⟩
    · rw [z_upn (by decide), k0]
    · have r2' : sj_up σ' 57 (upd (zML m' l (dN D)) 127 (nI 0)) 2 = c' := by
        rw [z_upn (by decide), k1 2 (by decide) (by decide), ← eτ, sj_up_s]
      have vD := okD_dl (l := l) (S := fun k => decide (k < dW (zF l (dW D) D))) vF (by rw [eNF]; exact hl) (fun i hi => decide_eq_true hi) (fun i hi => hnF i hi (fun j a b => by omega))
      rw [r2', sj_up_s]
      exact ⟨_, fun _ => 0, okD_noT vD, r', repM_noT vD r3, fun q => absurd (show (0 : Nat) = 1 from q) (by decide)⟩
  · have hm : sj_C G 4 me_X12_dropLesson [.ref (sj_ad G 56), .int x] σ (.ok (nI 0), sj_st (sj_st σ 56 0 (nI 0)) 56 0 (nI 1)) :=
      c_X12_dropLesson ok ⟨_, _, y_noLesson1 ok hM0 v zT00 hx (by decide), fun h => absurd h z_10, fun _ => rfl⟩
    exact ⟨_, _, _, _, c_X11_dropLesson ok (Or.inr ⟨_, _, z_requireLesson1 ok hC v hx, rfl⟩), hm, zSame_er (by decide) z_ste, zI2_th2 h⟩
end ZPM
