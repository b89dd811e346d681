/-! PAIRS 11: School.removeLesson -/
section ZPE
variable {G : sj_G} {σ : sj_S} {D : zD} {l : Nat}
theorem z_up_up {a : Nat} {f g : Nat → Int32} : sj_up (sj_up σ a f) a g = sj_up σ a g := by
  funext b
  unfold sj_up
  by_cases q : b = a <;> simp [q]
theorem z_u_self {f : Nat → Int32} {i : Nat} : upd f i (f i) = f := by
  funext j
  unfold upd
  by_cases q : j = i <;> simp [q]
theorem z_m1k (w : Nat) : nI w + (-1) = zk w := by
  cases w with
  | zero => decide
  | succ w =>
    have e : (-1 : Int32) = - nI 1 := by decide
    rw [e, ← Int32.sub_eq_add_neg, pk_sub (by omega)]
    unfold zk
    rw [if_neg (by omega)]
theorem z_k1 (w : Nat) : zk (w + 1) = nI w := by
  unfold zk
  rw [if_neg (by omega), Nat.add_sub_cancel]
theorem okD_a (v : okD D) {w : Nat} (hw : w < dW D) : D 8 w ≤ 6 ∧ D 9 w < 20 ∧ D 10 w < 20 ∧ (2 ≤ D 8 w → D 9 w < D 0 0) ∧ (4 ≤ D 8 w → D 10 w < D 0 0) := by
  have h9 : D 0 0 ≤ 9 := v.1
  obtain ⟨a1, a2, a3, a4, a5, a6, a7⟩ := v.2.2.2.2.1 w hw
  have a1 : D 8 w ≤ 6 := a1
  have a3 : D 8 w = 0 → D 9 w < 6 ∧ D 10 w < 20 := a3
  have a4 : D 8 w = 1 → D 9 w < 4 ∧ D 10 w < 20 := a4
  have a5 : D 8 w = 2 → D 9 w < D 0 0 ∧ D 10 w < 5 := a5
  have a6 : D 8 w = 3 → D 9 w < D 0 0 ∧ D 10 w < 20 := a6
  have a7 : 4 ≤ D 8 w → D 9 w < D 0 0 ∧ D 10 w < D 0 0 ∧ D 9 w ≠ D 10 w := a7
  omega
theorem z_names (ok : sj_ok G) (hC : repC D (σ 2)) (v : okD D) {w : Nat} (hw : w < dW D) (hl : l < 9) : sj_C G 3 me_X8_names [.ref (sj_ad G 1), .int (nI w), .int (nI l)] σ (.ok (if zNm D w l then nI 1 else nI 0), σ) := by
  have h12 := v.2.1
  have h9 : D 0 0 ≤ 9 := v.1
  obtain ⟨b1, b2, b3, b4, b5⟩ := okD_a v hw
  obtain ⟨e0, e1, e2, -⟩ := hC.2.2.2.2.1 w hw
  have h0 := z_ofWish (σ := σ) ok (w := w) (k := 0) (by omega) (by decide)
  have h1 := z_ofWish (σ := σ) ok (w := w) (k := 1) (by omega) (by decide)
  have h2 := z_ofWish (σ := σ) ok (w := w) (k := 2) (by omega) (by decide)
  rw [e0] at h0
  rw [e1] at h1
  rw [e2] at h2
  have r22 : (decide (2 ≤ D 8 w) && decide (D 9 w = l)) = false → wp_X8_names_22 G (.ok (if zNm D w l then nI 1 else nI 0), σ) (nI w) (nI l) (nI (dSo D w)) σ := by
    intro hx
    have e : zNm D w l = (decide (4 ≤ D 8 w) && decide (D 10 w = l)) := by
      unfold zNm
      rw [hx, Bool.false_or]
    rw [e]
    refine ⟨fun q => ?_, fun q => ⟨_, _, h2, ?_⟩⟩
    · rw [nI_ltI (show D 8 w < 2 ^ 31 by omega) (by decide)] at q
      have : ¬ 4 ≤ D 8 w := by omega
      unfold wp_X8_names_41 wp_X8_names_42
      rw [decide_eq_false this, Bool.false_and]
      exact ⟨rfl, Or.inl rfl⟩
    · rw [nI_ltI (show D 8 w < 2 ^ 31 by omega) (by decide)] at q
      have h4 : 4 ≤ D 8 w := by omega
      unfold wp_X8_names_42
      rw [decide_eq_true h4, Bool.true_and]
      have e9 : (nI (dB D w) = nI l) = (D 10 w = l) := by rw [show nI (dB D w) = nI (D 10 w) from rfl, nI_eq (show D 10 w < 2 ^ 31 by omega) (by omega)]
      simp only [e9, decide_eq_true_eq]
      refine ⟨by trivial, ?_⟩
      by_cases q : D 10 w = l
      · rw [if_pos q]; exact Or.inr rfl
      · rw [if_neg q]; exact Or.inl rfl
  refine c_X8_names ok ⟨_, _, h0, fun q => r22 ?_, fun q => ⟨_, _, h1, fun q2 => ?_, fun q2 => r22 ?_⟩⟩
  · rw [nI_ltI (show D 8 w < 2 ^ 31 by omega) (by decide)] at q
    rw [decide_eq_false (by omega : ¬ 2 ≤ D 8 w), Bool.false_and]
  · rw [nI_ltI (show D 8 w < 2 ^ 31 by omega) (by decide)] at q
    have q3 : D 9 w = l := by
      have e9 : (nI (dA D w) = nI l) = (D 9 w = l) := by rw [show nI (dA D w) = nI (D 9 w) from rfl, nI_eq (show D 9 w < 2 ^ 31 by omega) (by omega)]
      rw [e9] at q2
      exact q2
    have e : zNm D w l = true := by
      unfold zNm
      rw [decide_eq_true (by omega : 2 ≤ D 8 w), decide_eq_true q3]
      rfl
    rw [e]
    exact ⟨rfl, Or.inr rfl⟩
  · have q3 : ¬ D 9 w = l := fun r => q2 (by rw [show dA D w = l from r])
    rw [decide_eq_false q3, Bool.and_false]
theorem z_rl7 (ok : sj_ok G) (hl : l < 9) : ∀ (w : Nat) (D : zD) (c : Nat → Int32), okD D → repC D c → w ≤ dW D → ∃ c', repC (zF l w D) c' ∧ ∀ R, sj_J G 4 me_X8_removeLesson R 34 [.ref (sj_ad G 1), .int (nI l), .int (nI 0), .null] (sj_up σ 2 c') [] → sj_J G 4 me_X8_removeLesson R 7 [.ref (sj_ad G 1), .int (nI l), .int (zk w), .null] (sj_up σ 2 c) [] := by
  intro w
  induction w with
  | zero =>
    intro D c v hC _
    exact ⟨c, hC, fun R h => t_X8_removeLesson_7 ⟨fun _ => h, fun q => absurd (by decide) q⟩⟩
  | succ w ih =>
    intro D c v hC hw
    have h12 := v.2.1
    have hs : repC D (sj_up σ 2 c 2) := by rw [sj_up_s]; exact hC
    have hn := z_names (σ := sj_up σ 2 c) ok hs v (w := w) (by omega) hl
    cases hq : zNm D w l
    · rw [hq] at hn
      obtain ⟨c', r, k⟩ := ih D c v hC (by omega)
      refine ⟨c', ?_, fun R h => ?_⟩
      · show repC (zF l w (if zNm D w l then zDW D w else D)) c'
        rw [hq]
        exact r
      · rw [z_k1]
        refine t_X8_removeLesson_7 ⟨fun q => absurd q (z_nlt0 (by omega)), fun _ => ⟨_, _, hn, fun _ => ?_, fun q => absurd nI_0 q⟩⟩
        unfold wp_X8_removeLesson_26
        rw [z_m1k]
        exact k R h
    · rw [hq] at hn
      have hr := z_removeWish (σ := sj_up σ 2 c) ok (w := w) (n := dW D) (by omega) h12 hs.2.1
      have e : zRemW (sj_up σ 2 c) w (dW D) = sj_up σ 2 (upd (va_cpy c c (48 + w * 4 + 4) (48 + w * 4) (4 * (dW D - w - 1))) 1 (nI (dW D - 1))) := by
        unfold zRemW
        rw [sj_up_s, z_up_up, z_st_up]
      rw [e] at hr
      obtain ⟨c', r, k⟩ := ih (zDW D w) _ (okD_dw v) (repC_dw v hC (by omega)) (show w ≤ dW D - 1 by omega)
      refine ⟨c', ?_, fun R h => ?_⟩
      · show repC (zF l w (if zNm D w l then zDW D w else D)) c'
        rw [hq]
        exact r
      · rw [z_k1]
        refine t_X8_removeLesson_7 ⟨fun q => absurd q (z_nlt0 (by omega)), fun _ => ⟨_, _, hn, fun q => absurd q z_10, fun _ => ⟨_, _, hr, ?_⟩⟩⟩
        unfold wp_X8_removeLesson_26
        rw [z_m1k]
        exact k R h
/-- one wish renumbered -/
theorem z_renumber (ok : sj_ok G) (v : okD D) {k : Nat} {c : Nat → Int32} (hk : k < dW D) (hl : l < 9) (hC : repC (zRn D l (fun i => decide (i < k))) c) :
    ∃ c', repC (zRn D l (fun i => decide (i < k + 1))) c' ∧ sj_C G 3 me_X8_renumber [.ref (sj_ad G 1), .int (nI k), .int (nI l)] (sj_up σ 2 c) (.ok 0, sj_up σ 2 c') := by
  have h12 := v.2.1
  have h9 : D 0 0 ≤ 9 := v.1
  obtain ⟨b1, b2, b3, b4, b5⟩ := okD_a v hk
  have eW : ∀ S, dW (zRn D l S) = dW D := fun S => zRn_o (by decide) (by decide)
  have eN : ∀ S, dN (zRn D l S) = dN D := fun S => zRn_o (by decide) (by decide)
  obtain ⟨e0, e1, e2, e3⟩ := hC.2.2.2.2.1 k (by rw [eW]; exact hk)
  have f9 : zRn D l (fun i => decide (i < k)) 9 k = D 9 k := by rw [zRn_9, if_neg (fun q => absurd (of_decide_eq_true q.1) (by omega))]
  have f10 : zRn D l (fun i => decide (i < k)) 10 k = D 10 k := by rw [zRn_10, if_neg (fun q => absurd (of_decide_eq_true q.1) (by omega))]
  rw [show dSo (zRn D l (fun i => decide (i < k))) k = D 8 k from zRn_o (by decide) (by decide)] at e0
  rw [show dA (zRn D l (fun i => decide (i < k))) k = D 9 k from f9] at e1
  rw [show dB (zRn D l (fun i => decide (i < k))) k = D 10 k from f10] at e2
  rw [show dWe (zRn D l (fun i => decide (i < k))) k = D 11 k from zRn_o (by decide) (by decide)] at e3
  generalize ea : (if 2 ≤ D 8 k ∧ l < D 9 k then D 9 k - 1 else D 9 k) = a'
  generalize eb : (if 4 ≤ D 8 k ∧ l < D 10 k then D 10 k - 1 else D 10 k) = b'
  refine ⟨upd (upd c (48 + k * 4 + 1) (nI a')) (48 + k * 4 + 2) (nI b'), ?_, ?_⟩
  · have hf : ∀ i, i ≠ 48 + k * 4 + 1 → i ≠ 48 + k * 4 + 2 → upd (upd c (48 + k * 4 + 1) (nI a')) (48 + k * 4 + 2) (nI b') i = c i := fun i h1 h2 => by rw [z_un h2, z_un h1]
    have eo : ∀ f i, f ≠ 9 → f ≠ 10 → zRn D l (fun i => decide (i < k + 1)) f i = zRn D l (fun i => decide (i < k)) f i := fun f i h1 h2 => by rw [zRn_o h1 h2, zRn_o h1 h2]
    refine ⟨(hf _ (by omega) (by omega)).trans hC.1, (hf _ (by omega) (by omega)).trans hC.2.1, (hf _ (by omega) (by omega)).trans hC.2.2.1, fun i hi => ?_, fun w hw => ?_, fun t h => ?_, fun t h => ?_, fun t h => ?_⟩
    · have h9' := v.1
      rw [eN] at hi
      rw [hf _ (by omega) (by omega), hf _ (by omega) (by omega), hf _ (by omega) (by omega), hf _ (by omega) (by omega), hf _ (by omega) (by omega)]
      exact hC.2.2.2.1 i (by rw [eN]; exact hi)
    · rw [eW] at hw
      by_cases q : w = k
      · subst q
        rw [hf _ (by omega) (by omega), hf (48 + w * 4 + 3) (by omega) (by omega), z_ue, z_un (by omega), z_ue, e0, e3]
        rw [show dSo (zRn D l (fun i => decide (i < w + 1))) w = D 8 w from zRn_o (by decide) (by decide), show dWe (zRn D l (fun i => decide (i < w + 1))) w = D 11 w from zRn_o (by decide) (by decide), show dA (zRn D l (fun i => decide (i < w + 1))) w = _ from zRn_9, show dB (zRn D l (fun i => decide (i < w + 1))) w = _ from zRn_10]
        have e : decide (w < w + 1) = true := decide_eq_true (by omega)
        simp only [e, true_and, ea, eb]
      · have g9 : zRn D l (fun i => decide (i < k + 1)) 9 w = zRn D l (fun i => decide (i < k)) 9 w := by
          rw [zRn_9, zRn_9]
          have e : decide (w < k + 1) = decide (w < k) := decide_eq_decide.mpr (by omega)
          simp only [e]
        have g10 : zRn D l (fun i => decide (i < k + 1)) 10 w = zRn D l (fun i => decide (i < k)) 10 w := by
          rw [zRn_10, zRn_10]
          have e : decide (w < k + 1) = decide (w < k) := decide_eq_decide.mpr (by omega)
          simp only [e]
        rw [hf _ (by omega) (by omega), hf _ (by omega) (by omega), hf _ (by omega) (by omega), hf _ (by omega) (by omega)]
        rw [show dSo (zRn D l (fun i => decide (i < k + 1))) w = _ from eo 8 w (by decide) (by decide), show dWe (zRn D l (fun i => decide (i < k + 1))) w = _ from eo 11 w (by decide) (by decide), show dA (zRn D l (fun i => decide (i < k + 1))) w = _ from g9, show dB (zRn D l (fun i => decide (i < k + 1))) w = _ from g10]
        exact hC.2.2.2.2.1 w (by rw [eW]; exact hw)
    · rw [hf _ (by omega) (by omega), hf _ (by omega) (by omega)]
      exact hC.2.2.2.2.2.1 t h
    · rw [hf _ (by omega) (by omega)]
      exact hC.2.2.2.2.2.2.1 t h
    · rw [hf _ (by omega) (by omega)]
      exact hC.2.2.2.2.2.2.2 t h
  · have h0 := z_ofWish (σ := sj_up σ 2 c) ok (w := k) (k := 0) (by omega) (by decide)
    rw [sj_up_s, e0] at h0
    refine c_X8_renumber ok ⟨_, _, h0, ?_⟩
    rw [pk_mul, nI_add, nI_add, nI_clamp (by omega), sj_up_s, e1]
    refine ⟨fun _ => z_in (by omega) (by decide), fun _ _ => ⟨z_in (by omega) (by decide), z_in (by omega) (by decide)⟩, ?_⟩
    have eA : (if nI (D 8 k) < nI 2 then sj_up σ 2 c else if nI (D 9 k) ≤ nI l then sj_up σ 2 c else sj_st (sj_up σ 2 c) 2 (48 + k * 4 + 1) (nI (D 9 k) - nI 1)) = sj_up σ 2 (upd c (48 + k * 4 + 1) (nI a')) := by
      rw [← ea, z_st_up]
      have es : upd c (48 + k * 4 + 1) (nI (D 9 k)) = c := by rw [← e1, z_u_self]
      by_cases q1 : 2 ≤ D 8 k
      · rw [if_neg (nI_nlt q1 (by omega))]
        by_cases q2 : l < D 9 k
        · rw [if_neg (nI_ge q2 (by omega)), if_pos ⟨q1, q2⟩, pk_sub (by omega)]
        · rw [if_pos (nI_le (by omega) (by omega)), if_neg (fun r => q2 r.2), es]
      · rw [if_pos (nI_lt (by omega) (by omega)), if_neg (fun r => q1 r.1), es]
    rw [eA]
    have e2' : upd c (48 + k * 4 + 1) (nI a') (48 + k * 4 + 2) = nI (D 10 k) := by rw [z_un (by omega)]; exact e2
    unfold wp_X8_renumber_46 wp_X8_renumber_77
    rw [nI_add, nI_clamp (by omega), sj_up_s, e2']
    refine ⟨fun _ => z_in (by omega) (by decide), fun _ _ => ⟨z_in (by omega) (by decide), z_in (by omega) (by decide)⟩, ?_⟩
    rw [← eb, z_st_up]
    have es : upd (upd c (48 + k * 4 + 1) (nI a')) (48 + k * 4 + 2) (nI (D 10 k)) = upd c (48 + k * 4 + 1) (nI a') := by rw [← e2', z_u_self]
    by_cases q1 : 4 ≤ D 8 k
    · rw [if_neg (nI_nlt q1 (by omega))]
      by_cases q2 : l < D 10 k
      · rw [if_neg (nI_ge q2 (by omega)), if_pos ⟨q1, q2⟩, pk_sub (by omega)]
      · rw [if_pos (nI_le (by omega) (by omega)), if_neg (fun r => q2 r.2), es]
    · rw [if_pos (nI_lt (by omega) (by omega)), if_neg (fun r => q1 r.1), es]
end ZPE
