/-! PAIRS 6: wish -/
def zAW (D : zD) (s a b g : Nat) : zD := fun f i => if f = 1 then (if i = 0 then D 1 0 + 1 else D 1 i) else if 8 ≤ f ∧ f ≤ 11 ∧ i = D 1 0 then (if f = 8 then s else if f = 9 then a else if f = 10 then b else g) else D f i
section ZP6
variable {G : sj_G} {σ : sj_S} {D : zD} {T : Nat → Nat}
theorem zAW_o {s a b g f i : Nat} (h : f ≠ 1) (h2 : f < 8 ∨ 11 < f) : zAW D s a b g f i = D f i := by
  unfold zAW
  rw [if_neg h, if_neg (by omega)]
theorem zAW_n {s a b g f i : Nat} (h : f ≠ 1) (h2 : i ≠ dW D) : zAW D s a b g f i = D f i := by
  unfold zAW
  rw [if_neg h, if_neg (fun q => h2 q.2.2)]
theorem zAW_e {s a b g f : Nat} (h : 8 ≤ f) (h2 : f ≤ 11) : zAW D s a b g f (dW D) = (if f = 8 then s else if f = 9 then a else if f = 10 then b else g) := by
  unfold zAW
  rw [if_neg (by omega), if_pos ⟨h, h2, rfl⟩]
theorem zAW_noT {s a b g : Nat} : zAW (zNoT D) s a b g = zNoT (zAW D s a b g) := by
  funext f i
  unfold zAW zNoT zUp
  by_cases h : f = 2
  · subst h; simp
  · simp [h]
def okW (n s a b g : Nat) : Prop := s ≤ 6 ∧ g ≤ 9 ∧ (s = 0 → a < 6 ∧ b < 20) ∧ (s = 1 → a < 4 ∧ b < 20) ∧ (s = 2 → a < n ∧ b < 5) ∧ (s = 3 → a < n ∧ b < 20) ∧ (4 ≤ s → a < n ∧ b < n ∧ a ≠ b)
theorem okD_aw {s a b g : Nat} (v : okD D) (hn : dW D < 12) (ha : okW (dN D) s a b g) : okD (zAW D s a b g) := by
  have eN : dN (zAW D s a b g) = dN D := zAW_o (by decide) (by decide)
  have eW : dW (zAW D s a b g) = dW D + 1 := rfl
  have eT : dT (zAW D s a b g) = dT D := zAW_o (by decide) (by decide)
  refine ⟨by rw [eN]; exact v.1, by rw [eW]; omega, by rw [eT]; exact v.2.2.1, fun l hl => ?_, fun w hw => ?_, fun x h => ?_, fun k h => ?_, fun e h => ?_⟩
  · rw [eN] at hl
    rw [show dG (zAW D s a b g) l = _ from zAW_o (by decide) (by decide), show dTe (zAW D s a b g) l = _ from zAW_o (by decide) (by decide), show dSu (zAW D s a b g) l = _ from zAW_o (by decide) (by decide), show dKi (zAW D s a b g) l = _ from zAW_o (by decide) (by decide), show dDb (zAW D s a b g) l = _ from zAW_o (by decide) (by decide)]
    exact v.2.2.2.1 l hl
  · rw [eW] at hw
    rw [eN]
    by_cases q : w = dW D
    · subst q
      rw [show dSo (zAW D s a b g) (dW D) = _ from zAW_e (by decide) (by decide), show dA (zAW D s a b g) (dW D) = _ from zAW_e (by decide) (by decide), show dB (zAW D s a b g) (dW D) = _ from zAW_e (by decide) (by decide), show dWe (zAW D s a b g) (dW D) = _ from zAW_e (by decide) (by decide)]
      exact ha
    · rw [show dSo (zAW D s a b g) w = _ from zAW_n (by decide) q, show dA (zAW D s a b g) w = _ from zAW_n (by decide) q, show dB (zAW D s a b g) w = _ from zAW_n (by decide) q, show dWe (zAW D s a b g) w = _ from zAW_n (by decide) q]
      exact v.2.2.2.2.1 w (by omega)
  · rw [show dTch (zAW D s a b g) x = _ from zAW_o (by decide) (by decide), show dIll (zAW D s a b g) x = _ from zAW_o (by decide) (by decide)]
    exact v.2.2.2.2.2.1 x h
  · rw [show dRo (zAW D s a b g) k = _ from zAW_o (by decide) (by decide)]
    exact v.2.2.2.2.2.2.1 k h
  · have q : ∀ e, dAp (zAW D s a b g) e = dAp D e := fun e => zAW_o (by decide) (by decide)
    rw [q]
    exact ⟨(v.2.2.2.2.2.2.2 e h).1, fun o ho => by rw [q]; exact (v.2.2.2.2.2.2.2 e h).2 o ho⟩
theorem repC_aw {c : Nat → Int32} {s a b g : Nat} (v : okD D) (hC : repC D c) (hn : dW D < 12) :
    repC (zAW D s a b g) (upd (upd (upd (upd (upd c (48 + dW D * 4 + 0) (nI s)) (48 + dW D * 4 + 1) (nI a)) (48 + dW D * 4 + 2) (nI b)) (48 + dW D * 4 + 3) (nI g)) 1 (nI (dW D + 1))) := by
  generalize ec : (upd (upd (upd (upd (upd c (48 + dW D * 4 + 0) (nI s)) (48 + dW D * 4 + 1) (nI a)) (48 + dW D * 4 + 2) (nI b)) (48 + dW D * 4 + 3) (nI g)) 1 (nI (dW D + 1))) = c'
  have h9 := v.1
  have hf : ∀ i, i ≠ 1 → (i < 48 + dW D * 4 ∨ 48 + dW D * 4 + 4 ≤ i) → c' i = c i := fun i p q => by
    rw [← ec, z_un p, z_un (by omega), z_un (by omega), z_un (by omega), z_un (by omega)]
  have h0 : c' 1 = nI (dW D + 1) := by rw [← ec, z_ue]
  have eN : dN (zAW D s a b g) = dN D := zAW_o (by decide) (by decide)
  have eT : dT (zAW D s a b g) = dT D := zAW_o (by decide) (by decide)
  refine ⟨by rw [eN]; exact (hf _ (by omega) (by omega)).trans hC.1, h0, by rw [eT]; exact (hf _ (by omega) (by omega)).trans hC.2.2.1, fun l hl => ?_, fun w hw => ?_, fun x h => ?_, fun k h => ?_, fun e h => ?_⟩
  · rw [eN] at hl
    rw [show dG (zAW D s a b g) l = _ from zAW_o (by decide) (by decide), show dTe (zAW D s a b g) l = _ from zAW_o (by decide) (by decide), show dSu (zAW D s a b g) l = _ from zAW_o (by decide) (by decide), show dKi (zAW D s a b g) l = _ from zAW_o (by decide) (by decide), show dDb (zAW D s a b g) l = _ from zAW_o (by decide) (by decide)]
    rw [hf _ (by omega) (by omega), hf _ (by omega) (by omega), hf _ (by omega) (by omega), hf _ (by omega) (by omega), hf _ (by omega) (by omega)]
    exact hC.2.2.2.1 l hl
  · have hw : w < dW D + 1 := hw
    by_cases q : w = dW D
    · subst q
      rw [show dSo (zAW D s a b g) (dW D) = _ from zAW_e (by decide) (by decide), show dA (zAW D s a b g) (dW D) = _ from zAW_e (by decide) (by decide), show dB (zAW D s a b g) (dW D) = _ from zAW_e (by decide) (by decide), show dWe (zAW D s a b g) (dW D) = _ from zAW_e (by decide) (by decide), ← ec]
      refine ⟨?_, ?_, ?_, ?_⟩
      · rw [z_un (by omega), z_un (by omega), z_un (by omega), z_un (by omega), z_ue]; rfl
      · rw [z_un (by omega), z_un (by omega), z_un (by omega), z_ue]; rfl
      · rw [z_un (by omega), z_un (by omega), z_ue]; rfl
      · rw [z_un (by omega), z_ue]; rfl
    · rw [show dSo (zAW D s a b g) w = _ from zAW_n (by decide) q, show dA (zAW D s a b g) w = _ from zAW_n (by decide) q, show dB (zAW D s a b g) w = _ from zAW_n (by decide) q, show dWe (zAW D s a b g) w = _ from zAW_n (by decide) q]
      rw [hf _ (by omega) (by omega), hf _ (by omega) (by omega), hf _ (by omega) (by omega), hf _ (by omega) (by omega)]
      exact hC.2.2.2.2.1 w (by omega)
  · rw [show dTch (zAW D s a b g) x = _ from zAW_o (by decide) (by decide), show dIll (zAW D s a b g) x = _ from zAW_o (by decide) (by decide), hf _ (by omega) (by omega), hf _ (by omega) (by omega)]
    exact hC.2.2.2.2.2.1 x h
  · rw [show dRo (zAW D s a b g) k = _ from zAW_o (by decide) (by decide), hf _ (by omega) (by omega)]
    exact hC.2.2.2.2.2.2.1 k h
  · rw [show dAp (zAW D s a b g) e = _ from zAW_o (by decide) (by decide), hf _ (by omega) (by omega)]
    exact hC.2.2.2.2.2.2.2 e h
theorem repM_aw {c : Nat → Int32} {s a b g : Nat} (v : okD D) (hC : repM D c) (hn : dW D < 12) :
    repM (zAW D s a b g) (upd (upd (upd (upd (upd c (45 + dW D) (nI s)) (57 + dW D) (nI a)) (69 + dW D) (nI b)) (81 + dW D) (nI g)) 126 (nI (dW D + 1))) := by
  generalize ec : (upd (upd (upd (upd (upd c (45 + dW D) (nI s)) (57 + dW D) (nI a)) (69 + dW D) (nI b)) (81 + dW D) (nI g)) 126 (nI (dW D + 1))) = c'
  have h9 := v.1
  have hf : ∀ i, i ≠ 126 → i ≠ 45 + dW D → i ≠ 57 + dW D → i ≠ 69 + dW D → i ≠ 81 + dW D → c' i = c i := fun i p p1 p2 p3 p4 => by
    rw [← ec, z_un p, z_un p4, z_un p3, z_un p2, z_un p1]
  have h0 : c' 126 = nI (dW D + 1) := by rw [← ec, z_ue]
  have hx : ∀ i, (i < 45 ∨ 93 ≤ i) → i ≠ 126 → c' i = c i := fun k p q => hf _ q (by omega) (by omega) (by omega) (by omega)
  have eN : dN (zAW D s a b g) = dN D := zAW_o (by decide) (by decide)
  have eT : dT (zAW D s a b g) = dT D := zAW_o (by decide) (by decide)
  refine ⟨by rw [eN]; exact (hx _ (by omega) (by omega)).trans hC.1, h0, by rw [eT]; exact (hx _ (by omega) (by omega)).trans hC.2.2.1, fun l hl => ?_, fun w hw => ?_, fun x h => ?_, fun k h => ?_, fun e h => ?_⟩
  · rw [eN] at hl
    rw [show dG (zAW D s a b g) l = _ from zAW_o (by decide) (by decide), show dTe (zAW D s a b g) l = _ from zAW_o (by decide) (by decide), show dSu (zAW D s a b g) l = _ from zAW_o (by decide) (by decide), show dKi (zAW D s a b g) l = _ from zAW_o (by decide) (by decide), show dDb (zAW D s a b g) l = _ from zAW_o (by decide) (by decide)]
    rw [hx _ (by omega) (by omega), hx _ (by omega) (by omega), hx _ (by omega) (by omega), hx _ (by omega) (by omega), hx _ (by omega) (by omega)]
    exact hC.2.2.2.1 l hl
  · have hw : w < dW D + 1 := hw
    by_cases q : w = dW D
    · subst q
      rw [show dSo (zAW D s a b g) (dW D) = _ from zAW_e (by decide) (by decide), show dA (zAW D s a b g) (dW D) = _ from zAW_e (by decide) (by decide), show dB (zAW D s a b g) (dW D) = _ from zAW_e (by decide) (by decide), show dWe (zAW D s a b g) (dW D) = _ from zAW_e (by decide) (by decide), ← ec]
      refine ⟨?_, ?_, ?_, ?_⟩
      · rw [z_un (by omega), z_un (by omega), z_un (by omega), z_un (by omega), z_ue]; rfl
      · rw [z_un (by omega), z_un (by omega), z_un (by omega), z_ue]; rfl
      · rw [z_un (by omega), z_un (by omega), z_ue]; rfl
      · rw [z_un (by omega), z_ue]; rfl
    · rw [show dSo (zAW D s a b g) w = _ from zAW_n (by decide) q, show dA (zAW D s a b g) w = _ from zAW_n (by decide) q, show dB (zAW D s a b g) w = _ from zAW_n (by decide) q, show dWe (zAW D s a b g) w = _ from zAW_n (by decide) q]
      have hy : ∀ k, (k = 45 ∨ k = 57 ∨ k = 69 ∨ k = 81) → c' (k + w) = c (k + w) := fun k hk => hf _ (by omega) (by omega) (by omega) (by omega) (by omega)
      rw [hy 45 (by decide), hy 57 (by decide), hy 69 (by decide), hy 81 (by decide)]
      exact hC.2.2.2.2.1 w (by omega)
  · rw [show dTch (zAW D s a b g) x = _ from zAW_o (by decide) (by decide), show dIll (zAW D s a b g) x = _ from zAW_o (by decide) (by decide), hx _ (by omega) (by omega), hx _ (by omega) (by omega)]
    exact hC.2.2.2.2.2.1 x h
  · rw [show dRo (zAW D s a b g) k = _ from zAW_o (by decide) (by decide), hx _ (by omega) (by omega)]
    exact hC.2.2.2.2.2.2.1 k h
  · rw [show dAp (zAW D s a b g) e = _ from zAW_o (by decide) (by decide), hx _ (by omega) (by omega)]
    exact hC.2.2.2.2.2.2.2 e h
/-- the end of both: the wish is good as it is told -/
theorem p_wishEnd (ok : sj_ok G) (h : zA σ) (v : okD D) (hC : repC D (σ 2)) (hM : repM D (σ 57)) {s a b g : Nat} (ha : okW (dN D) s a b g) :
    ∃ R σ1 rm σ2, wp_X11_wish_108 G (R, σ1) (nI s) (nI a) (nI b) (nI g) σ ∧ σ1 57 = σ 57 ∧ wp_X12_wish_166 G (.ok rm, σ2) (nI s) (nI a) (nI b) (nI g) (sj_st σ1 56 0 (nI 0)) ∧ zSame (zcd 1 3 2) R (σ2 56 0) rm ∧ zI2 σ σ2 := by
  have h12 := v.2.1
  by_cases hn : dW D < 12
  · obtain ⟨B, hB, eB, hch⟩ := z_chg2 ok h
    generalize eL : sj_st B 2 2 (nI 0) = L
    have hlt : sj_C G 2 me_X8_loseTable [.ref (sj_ad G 1)] B (.ok 0, L) := by
      rw [← eL]
      exact z_loseTable ok
    have hL2 : L 2 = upd (σ 2) 2 (nI 0) := by
      rw [← eL, z_sta, eB 2 (by decide) (by decide) (by decide)]
    have hr := z_addWish (σ := L) ok (s := nI s) (a := nI a) (b := nI b) (g := nI g) hn (by rw [hL2, z_un (by decide)]; exact hC.2.1)
    generalize eτ : zAddW L (dW D) (nI s) (nI a) (nI b) (nI g) = τ at hr
    have hτ : ∀ b, b ≠ 2 → τ b = B b := fun b hb => by
      rw [← eτ]
      unfold zAddW
      rw [z_stn hb, z_stn hb, z_stn hb, z_stn hb, z_stn hb, ← eL, z_stn hb]
    have t2 : τ 2 = upd (upd (upd (upd (upd (upd (σ 2) 2 (nI 0)) (48 + dW D * 4 + 0) (nI s)) (48 + dW D * 4 + 1) (nI a)) (48 + dW D * 4 + 2) (nI b)) (48 + dW D * 4 + 3) (nI g)) 1 (nI (dW D + 1)) := by
      rw [← eτ]
      unfold zAddW
      rw [z_sta, z_sta, z_sta, z_sta, z_sta, hL2]
    obtain ⟨σ', hkp, k1, k57, k0, hfin⟩ := hch τ (fun b hb => hτ b (zne (by decide) hb))
    have t57 : τ 57 = σ 57 := by rw [hτ 57 (by decide), eB 57 (by decide) (by decide) (by decide)]
    have u57 : sj_st τ 56 0 (nI 0) 57 = σ 57 := by rw [z_stn (by decide), t57]
    generalize eρ : sj_st (sj_st (sj_st (sj_st (sj_st (sj_st σ' 57 (45 + dW D) (nI s)) 57 (57 + dW D) (nI a)) 57 (69 + dW D) (nI b)) 57 (81 + dW D) (nI g)) 57 126 (nI (dW D + 1))) 57 127 (nI 0) = ρ
    have hρ : ∀ b, b ≠ 57 → ρ b = σ' b := fun b hb => by
      rw [← eρ, z_stn hb, z_stn hb, z_stn hb, z_stn hb, z_stn hb, z_stn hb]
    refine ⟨.ok (nI (dW D)), τ, nI (dW D), ρ, ⟨_, _, z_wishTotal ok, fun _ => ⟨_, hB, _, hlt, _, _, hr, rfl⟩, fun q => ?_⟩, t57, ?_, zSame_ok ?_ rfl, hfin _ (fun b hb => hρ b (zne (by decide) hb)) ?_⟩
    · rw [hC.2.1] at q
      exact absurd (nI_lt hn (by omega)) q
    · unfold wp_X12_wish_166
      rw [u57, hM.2.1, if_neg (nI_ge hn (by omega))]
      refine ⟨_, _, y_fails1 ok zT00, fun _ => ⟨_, hkp, ?_⟩, fun q => absurd nI_0 q⟩
      rw [k57, hM.2.1]
      simp only [nI_add]
      refine ⟨z_in (by omega) (by decide), z_in (by omega) (by decide), z_in (by omega) (by decide), z_in (by omega) (by decide), ?_⟩
      rw [nI_clamp (by omega), nI_clamp (by omega), nI_clamp (by omega), nI_clamp (by omega), z_sti (by omega), z_sti (by omega), z_sti (by omega), z_sti (by omega), k57, hM.2.1, nI_add, eρ]
    · rw [hρ 56 (by decide), k0]
    · have r57 : ρ 57 = upd (upd (upd (upd (upd (upd (σ 57) (45 + dW D) (nI s)) (57 + dW D) (nI a)) (69 + dW D) (nI b)) (81 + dW D) (nI g)) 126 (nI (dW D + 1))) 127 (nI 0) := by
        rw [← eρ, z_sta, z_sta, z_sta, z_sta, z_sta, z_sta, k57]
      rw [hρ 2 (by decide), k1 2 (by decide) (by decide), t2, r57]
      have v0 : okD (zNoT D) := okD_noT v
      refine ⟨zAW (zNoT D) s a b g, fun _ => 0, okD_aw v0 hn ha, repC_aw v0 (repC_noT v hC) hn, ?_, fun q => absurd (show (0 : Nat) = 1 from q) (by decide)⟩
      rw [zAW_noT]
      exact repM_noT (okD_aw v hn ha) (repM_aw v hM hn)
  · refine ⟨.error 2, σ, nI 0, sj_st (sj_st σ 56 0 (nI 0)) 56 0 (nI 3), ⟨_, _, z_wishTotal ok, fun q => ?_, fun _ => rfl⟩, rfl, ?_, zSame_er (by decide) z_ste, zI2_th2 h⟩
    · rw [hC.2.1] at q
      exact absurd q (nI_nlt (by omega) (by omega))
    · unfold wp_X12_wish_166
      rw [z_stn (by decide), hM.2.1, if_pos (nI_le (by omega) (by omega))]
      exact ⟨_, _, y_fails0 ok zT00 (by decide), fun q => absurd q z_10, fun _ => rfl⟩
theorem y_isOfTwo0 (ok : sj_ok G) {s : Nat} (hs : s ≤ 3) : sj_C G 2 me_X12_isOfTwo [.ref (sj_ad G 56), .int (nI s)] σ (.ok (nI 0), σ) := by
  have h := y_isOfTwo (σ := σ) ok (s := s) (by omega)
  rw [if_pos hs] at h
  exact h
theorem y_isOfTwo1 (ok : sj_ok G) {s : Nat} (hs : 4 ≤ s) (h7 : s < 7) : sj_C G 2 me_X12_isOfTwo [.ref (sj_ad G 56), .int (nI s)] σ (.ok (nI 1), σ) := by
  have h := y_isOfTwo (σ := σ) ok (s := s) (by omega)
  rw [if_neg (by omega)] at h
  exact h
theorem y_isOfLesson0 (ok : sj_ok G) {s : Nat} (hs : s ≤ 1) : sj_C G 2 me_X12_isOfLesson [.ref (sj_ad G 56), .int (nI s)] σ (.ok (nI 0), σ) := by
  have h := y_isOfLesson (σ := σ) ok (s := s) (by omega)
  rw [if_pos hs] at h
  exact h
theorem y_isOfLesson1 (ok : sj_ok G) {s : Nat} (hs : 2 ≤ s) (h7 : s < 7) : sj_C G 2 me_X12_isOfLesson [.ref (sj_ad G 56), .int (nI s)] σ (.ok (nI 1), σ) := by
  have h := y_isOfLesson (σ := σ) ok (s := s) (by omega)
  rw [if_neg (by omega)] at h
  exact h
theorem z_wish_cls (ok : sj_ok G) {R : sj_R} {s g : Nat} {x2 x3 : Int32} (hs : s < 7) (hg : g < 10) (h1 : s ≤ 1 → wp_X11_wish_24 G R (nI s) x2 x3 (nI g) σ) (h2 : s = 2 ∨ s = 3 → wp_X11_wish_59 G R (nI s) x2 x3 (nI g) σ)
    (h3 : 4 ≤ s → (¬ x2 = x3 → ((∃ σ8, sj_C G 9 me_X11_requireLesson [.ref (sj_ad G 0), .int x2] σ (.ok 0, σ8) ∧ ((∃ σ9, sj_C G 9 me_X11_requireLesson [.ref (sj_ad G 0), .int x3] σ8 (.ok 0, σ9) ∧ (wp_X11_wish_108 G R (nI s) x2 x3 (nI g) σ9)) ∨ (∃ k9 σ9, sj_C G 9 me_X11_requireLesson [.ref (sj_ad G 0), .int x3] σ8 (.error k9, σ9) ∧ R = (.error k9, σ9)))) ∨ (∃ k8 σ8, sj_C G 9 me_X11_requireLesson [.ref (sj_ad G 0), .int x2] σ (.error k8, σ8) ∧ R = (.error k8, σ8)))) ∧ (x2 = x3 → R = (.error 1, σ))) :
    sj_C G 11 me_X11_wish [.ref (sj_ad G 0), .int (nI s), .int x2, .int x3, .int (nI g)] σ R := by
  have e : ∀ k, k < 7 → (nI s = nI k) = (s = k) := fun k hk => by rw [nI_eq (by omega) (by omega)]
  have e0 : (nI s = 0) = (s = 0) := by rw [← e 0 (by decide), nI_0]
  refine c_X11_wish ok (Or.inl ⟨_, z_range0 ok hs (by decide), Or.inl ⟨_, z_range0 ok hg (by decide), fun q => ?_, fun q => ⟨fun q1 => ⟨fun q2 => ?_, fun q2 => ⟨fun q3 => ?_, fun q3 => ?_⟩⟩, fun q1 => ?_⟩⟩⟩)
  · rw [e0] at q
    exact h1 (by omega)
  · rw [e 2 (by decide)] at q2
    exact h2 (Or.inl q2)
  · rw [e0] at q
    rw [e 1 (by decide)] at q1
    rw [e 2 (by decide)] at q2
    rw [e 3 (by decide)] at q3
    exact h3 (by omega)
  · rw [e 3 (by decide)] at q3
    exact h2 (Or.inr q3)
  · rw [e 1 (by decide)] at q1
    exact h1 (by omega)
theorem y_wish_mod (ok : sj_ok G) {R : sj_R} {s g : Nat} {x2 x3 : Int32} (hs : s < 7) (hg : g < 10) (h1 : s ≤ 1 → wp_X12_wish_58 G R (nI s) x2 x3 (nI g) (if nI s = 0 then nI 5 else nI 3) (nI 0) x2 (sj_st σ 56 0 (nI 0))) (h2 : 2 ≤ s → wp_X12_wish_70 G R (nI s) x2 x3 (nI g) (sj_st σ 56 0 (nI 0))) :
    sj_C G 4 me_X12_wish [.ref (sj_ad G 56), .int (nI s), .int x2, .int x3, .int (nI g)] σ R := by
  refine c_X12_wish ok ⟨_, _, y_inr1 ok (B := 6) hs (by decide), fun q => absurd q z_10, fun _ => ⟨_, _, y_inr1 ok (B := 9) hg (by decide), ?_⟩⟩
  rw [if_neg z_10]
  refine ⟨_, _, y_fails1 ok zT00, fun _ => ⟨fun q => h2 ?_, fun q => h1 ?_⟩, fun q => absurd nI_0 q⟩
  · rw [nI_leI (by decide) (by omega)] at q
    exact q
  · rw [nI_leI (by decide) (by omega)] at q
    omega
theorem y_w58n (ok : sj_ok G) {s g B : Nat} {x2 x3 : Int32} {b : Int32} (hb : b = nI B) (hB : B < 2 ^ 30) (hx : ∀ j, j < B + 1 → ¬ x2 = nI j) : wp_X12_wish_58 G (.ok (nI 0), sj_st (sj_st σ 56 0 (nI 0)) 56 0 (nI 1)) (nI s) x2 x3 (nI g) b (nI 0) x2 (sj_st σ 56 0 (nI 0)) := by
  subst hb
  exact ⟨_, _, y_inr0 ok hx hB, _, _, y_fails0 ok zT00 (by decide), fun q => absurd q z_10, fun _ => rfl⟩
theorem y_w58 (ok : sj_ok G) {R : sj_R} {s g B j : Nat} {x3 : Int32} {b : Int32} (hb : b = nI B) (hB : B < 2 ^ 30) (hj : j < B + 1) (h70 : wp_X12_wish_70 G R (nI s) (nI j) x3 (nI g) (sj_st σ 56 0 (nI 0))) : wp_X12_wish_58 G R (nI s) (nI j) x3 (nI g) b (nI 0) (nI j) (sj_st σ 56 0 (nI 0)) := by
  subst hb
  exact ⟨_, _, y_inr1 ok hj hB, _, _, y_fails1 ok zT00, fun _ => h70, fun q => absurd nI_0 q⟩
theorem y_w70n (ok : sj_ok G) {s g B : Nat} {x2 x3 : Int32} (hs : s ≤ 3) (hb : (if nI s = nI 2 then nI 4 else nI 19) = nI B) (hB : B < 2 ^ 30) (hx : ∀ j, j < B + 1 → ¬ x3 = nI j) : wp_X12_wish_70 G (.ok (nI 0), sj_st (sj_st σ 56 0 (nI 0)) 56 0 (nI 1)) (nI s) x2 x3 (nI g) (sj_st σ 56 0 (nI 0)) := by
  refine ⟨_, _, y_isOfTwo0 ok hs, fun q => absurd nI_0 q, fun _ => ?_⟩
  rw [hb]
  exact ⟨_, _, y_inr0 ok hx hB, _, _, y_fails0 ok zT00 (by decide), fun q => absurd q z_10, fun _ => rfl⟩
theorem y_w70 (ok : sj_ok G) {R : sj_R} {s g B j : Nat} {x2 : Int32} (hs : s ≤ 3) (hb : (if nI s = nI 2 then nI 4 else nI 19) = nI B) (hB : B < 2 ^ 30) (hj : j < B + 1) (h132 : wp_X12_wish_132 G R (nI s) x2 (nI j) (nI g) (sj_st σ 56 0 (nI 0))) : wp_X12_wish_70 G R (nI s) x2 (nI j) (nI g) (sj_st σ 56 0 (nI 0)) := by
  refine ⟨_, _, y_isOfTwo0 ok hs, fun q => absurd nI_0 q, fun _ => ?_⟩
  rw [hb]
  exact ⟨_, _, y_inr1 ok hj hB, _, _, y_fails1 ok zT00, fun _ => ⟨_, _, y_isOfTwo0 ok hs, fun _ => h132, fun q => absurd nI_0 q⟩, fun q => absurd nI_0 q⟩
theorem p_wish (ok : sj_ok G) (h : zA σ) (x1 x2 x3 x4 : Int32) : zPair G (zI2 σ) 11 me_X11_wish 4 me_X12_wish [.int x1, .int x2, .int x3, .int x4] (zcd 1 3 2) σ := by
  obtain ⟨D, T, v, hC, hM, hT⟩ := h.1
  have h9 := v.1
  have hM0 : repM D (sj_st σ 56 0 (nI 0) 57) := by rw [z_stn (by decide)]; exact hM
  have hf : wp_X12_wish_32 G (.ok (nI 0), sj_st (sj_st σ 56 0 (nI 0)) 56 0 (nI 1)) x1 x2 x3 x4 (nI 0) (sj_st σ 56 0 (nI 0)) :=
    ⟨_, _, y_fails0 ok zT00 (by decide), fun h => absurd h z_10, fun _ => rfl⟩
  rcases z_rg x1 7 with ⟨s, hs, rfl⟩ | hx
  · rcases z_rg x4 10 with ⟨g, hg, rfl⟩ | hx
    · by_cases s1 : s ≤ 1
      · obtain ⟨A, hA1, hA2, hA3⟩ : ∃ A, (if nI s = 0 then nI 6 else nI 4) = nI (A + 1) ∧ (if nI s = 0 then nI 5 else nI 3) = nI A ∧ ((s = 0 ∧ A = 5) ∨ (s = 1 ∧ A = 3)) := by
          rcases (by omega : s = 0 ∨ s = 1) with e | e <;> subst e
          · exact ⟨5, by decide, by decide, Or.inl ⟨rfl, rfl⟩⟩
          · exact ⟨3, by decide, by decide, Or.inr ⟨rfl, rfl⟩⟩
        have hb : (if nI s = nI 2 then nI 4 else nI 19) = nI 19 := by
          rcases (by omega : s = 0 ∨ s = 1) with e | e <;> subst e <;> decide
        rcases z_rg x2 (A + 1) with ⟨a, ha, rfl⟩ | hx
        · rcases z_rg x3 20 with ⟨b, hb20, rfl⟩ | hx
          · obtain ⟨R, σ1, rm, σ2, e1, e2, e3, e4, e5⟩ := p_wishEnd ok h v hC hM (s := s) (a := a) (b := b) (g := g) ⟨by omega, by omega, fun q => ⟨by omega, by omega⟩, fun q => ⟨by omega, by omega⟩, fun q => by omega, fun q => by omega, fun q => by omega⟩
            refine ⟨R, σ1, rm, σ2, z_wish_cls ok hs hg (fun _ => ?_) (fun q => by omega) (fun q => by omega), y_wish_mod ok hs hg (fun _ => y_w58 ok hA2 (by omega) ha (y_w70 ok (by omega) hb (by decide) hb20 ⟨_, _, y_isOfLesson0 ok s1, fun _ => ⟨_, _, y_isOfTwo0 ok (by omega), fun _ => e3, fun q => absurd nI_0 q⟩, fun q => absurd nI_0 q⟩)) (fun q => by omega), e4, e5⟩
            unfold wp_X11_wish_24
            rw [hA1]
            exact Or.inl ⟨_, z_range0 ok ha (by omega), Or.inl ⟨_, z_range0 ok hb20 (by decide), e1⟩⟩
          · refine ⟨.error 1, σ, nI 0, sj_st (sj_st σ 56 0 (nI 0)) 56 0 (nI 1), z_wish_cls ok hs hg (fun _ => ?_) (fun q => by omega) (fun q => by omega), y_wish_mod ok hs hg (fun _ => y_w58 ok hA2 (by omega) ha (y_w70n ok (by omega) hb (by decide) hx)) (fun q => by omega), zSame_er (by decide) z_ste, zI2_th2 h⟩
            unfold wp_X11_wish_24
            rw [hA1]
            exact Or.inl ⟨_, z_range0 ok ha (by omega), Or.inr ⟨_, _, z_range1 ok hx (by decide) (by decide), rfl⟩⟩
        · refine ⟨.error 1, σ, nI 0, sj_st (sj_st σ 56 0 (nI 0)) 56 0 (nI 1), z_wish_cls ok hs hg (fun _ => ?_) (fun q => by omega) (fun q => by omega), y_wish_mod ok hs hg (fun _ => y_w58n ok hA2 (by omega) hx) (fun q => by omega), zSame_er (by decide) z_ste, zI2_th2 h⟩
          unfold wp_X11_wish_24
          rw [hA1]
          exact Or.inr ⟨_, _, z_range1 ok hx (by omega) (by omega), rfl⟩
      · by_cases s3 : s ≤ 3
        · obtain ⟨B, hB1, hB2, hB3⟩ : ∃ B, (if nI s = nI 2 then nI 5 else nI 20) = nI (B + 1) ∧ (if nI s = nI 2 then nI 4 else nI 19) = nI B ∧ ((s = 2 ∧ B = 4) ∨ (s = 3 ∧ B = 19)) := by
            rcases (by omega : s = 2 ∨ s = 3) with e | e <;> subst e
            · exact ⟨4, by decide, by decide, Or.inl ⟨rfl, rfl⟩⟩
            · exact ⟨19, by decide, by decide, Or.inr ⟨rfl, rfl⟩⟩
          rcases z_rg x3 (B + 1) with ⟨b, hb, rfl⟩ | hx
          · rcases z_rg x2 (dN D) with ⟨a, ha, rfl⟩ | hx
            · obtain ⟨R, σ1, rm, σ2, e1, e2, e3, e4, e5⟩ := p_wishEnd ok h v hC hM (s := s) (a := a) (b := b) (g := g) ⟨by omega, by omega, fun q => by omega, fun q => by omega, fun q => ⟨by omega, by omega⟩, fun q => ⟨by omega, by omega⟩, fun q => by omega⟩
              have hM1 : repM D (sj_st σ1 56 0 (nI 0) 57) := by rw [z_stn (by decide), e2]; exact hM
              refine ⟨R, σ1, rm, σ2, z_wish_cls ok hs hg (fun q => by omega) (fun _ => ?_) (fun q => by omega), y_wish_mod ok hs hg (fun q => by omega) (fun _ => y_w70 ok s3 hB2 (by omega) hb ⟨_, _, y_isOfLesson1 ok (by omega) hs, fun q => absurd q z_10, fun _ => ⟨_, _, y_noLesson0 ok hM1 v zT00 ha, fun q => absurd nI_0 q, fun _ => ⟨_, _, y_isOfTwo0 ok s3, fun _ => e3, fun q => absurd nI_0 q⟩⟩⟩), e4, e5⟩
              unfold wp_X11_wish_59
              rw [hB1]
              exact Or.inl ⟨_, z_range0 ok hb (by omega), Or.inl ⟨_, z_requireLesson0 ok hC v ha, e1⟩⟩
            · refine ⟨.error 3, σ, nI 0, sj_st (sj_st σ 56 0 (nI 0)) 56 0 (nI 2), z_wish_cls ok hs hg (fun q => by omega) (fun _ => ?_) (fun q => by omega), y_wish_mod ok hs hg (fun q => by omega) (fun _ => y_w70 ok s3 hB2 (by omega) hb ⟨_, _, y_isOfLesson1 ok (by omega) hs, fun q => absurd q z_10, fun _ => ⟨_, _, y_noLesson1 ok hM0 v zT00 hx (by decide), fun _ => rfl, fun q => absurd q z_10⟩⟩), zSame_er (by decide) z_ste, zI2_th2 h⟩
              unfold wp_X11_wish_59
              rw [hB1]
              exact Or.inl ⟨_, z_range0 ok hb (by omega), Or.inr ⟨_, _, z_requireLesson1 ok hC v hx, rfl⟩⟩
          · refine ⟨.error 1, σ, nI 0, sj_st (sj_st σ 56 0 (nI 0)) 56 0 (nI 1), z_wish_cls ok hs hg (fun q => by omega) (fun _ => ?_) (fun q => by omega), y_wish_mod ok hs hg (fun q => by omega) (fun _ => y_w70n ok s3 hB2 (by omega) hx), zSame_er (by decide) z_ste, zI2_th2 h⟩
            unfold wp_X11_wish_59
            rw [hB1]
            exact Or.inr ⟨_, _, z_range1 ok hx (by omega) (by omega), rfl⟩
        · have w70 : ∀ {R : sj_R} {τ : sj_S}, (wp_X12_wish_123 G R (nI s) x2 x3 (nI g) (if x2 = x3 then nI 0 else nI 1) (sj_st τ 56 0 (nI 0))) → wp_X12_wish_70 G R (nI s) x2 x3 (nI g) (sj_st τ 56 0 (nI 0)) := fun q =>
            ⟨_, _, y_isOfTwo1 ok (by omega) hs, fun _ => ⟨_, _, y_isOfTwo1 ok (by omega) hs, fun q => absurd q z_10, fun _ => q⟩, fun q => absurd q z_10⟩
          by_cases hab : x2 = x3
          · refine ⟨.error 1, σ, nI 0, sj_st (sj_st σ 56 0 (nI 0)) 56 0 (nI 1), z_wish_cls ok hs hg (fun q => by omega) (fun q => by omega) (fun _ => ⟨fun q => absurd hab q, fun _ => rfl⟩), y_wish_mod ok hs hg (fun q => by omega) (fun _ => w70 ?_), zSame_er (by decide) z_ste, zI2_th2 h⟩
            rw [if_pos hab]
            exact ⟨_, _, y_fails0 ok zT00 (by decide), fun q => absurd q z_10, fun _ => rfl⟩
          · have w132 : ∀ {R : sj_R} {τ : sj_S}, (wp_X12_wish_132 G R (nI s) x2 x3 (nI g) (sj_st τ 56 0 (nI 0))) → wp_X12_wish_70 G R (nI s) x2 x3 (nI g) (sj_st τ 56 0 (nI 0)) := fun q => by
              refine w70 ?_
              rw [if_neg hab]
              exact ⟨_, _, y_fails1 ok zT00, fun _ => q, fun q => absurd nI_0 q⟩
            rcases z_rg x2 (dN D) with ⟨a, ha, rfl⟩ | hx
            · rcases z_rg x3 (dN D) with ⟨b, hb, rfl⟩ | hx
              · have hne : a ≠ b := fun q => hab (by rw [q])
                obtain ⟨R, σ1, rm, σ2, e1, e2, e3, e4, e5⟩ := p_wishEnd ok h v hC hM (s := s) (a := a) (b := b) (g := g) ⟨by omega, by omega, fun q => by omega, fun q => by omega, fun q => by omega, fun q => by omega, fun q => ⟨ha, hb, hne⟩⟩
                have hM1 : repM D (sj_st σ1 56 0 (nI 0) 57) := by rw [z_stn (by decide), e2]; exact hM
                exact ⟨R, σ1, rm, σ2, z_wish_cls ok hs hg (fun q => by omega) (fun q => by omega) (fun _ => ⟨fun _ => Or.inl ⟨_, z_requireLesson0 ok hC v ha, Or.inl ⟨_, z_requireLesson0 ok hC v hb, e1⟩⟩, fun q => absurd q hab⟩), y_wish_mod ok hs hg (fun q => by omega) (fun _ => w132 ⟨_, _, y_isOfLesson1 ok (by omega) hs, fun q => absurd q z_10, fun _ => ⟨_, _, y_noLesson0 ok hM1 v zT00 ha, fun q => absurd nI_0 q, fun _ => ⟨_, _, y_isOfTwo1 ok (by omega) hs, fun q => absurd q z_10, fun _ => ⟨_, _, y_noLesson0 ok hM1 v zT00 hb, fun q => absurd nI_0 q, fun _ => e3⟩⟩⟩⟩), e4, e5⟩
              · exact ⟨.error 3, σ, nI 0, sj_st (sj_st σ 56 0 (nI 0)) 56 0 (nI 2), z_wish_cls ok hs hg (fun q => by omega) (fun q => by omega) (fun _ => ⟨fun _ => Or.inl ⟨_, z_requireLesson0 ok hC v ha, Or.inr ⟨_, _, z_requireLesson1 ok hC v hx, rfl⟩⟩, fun q => absurd q hab⟩), y_wish_mod ok hs hg (fun q => by omega) (fun _ => w132 ⟨_, _, y_isOfLesson1 ok (by omega) hs, fun q => absurd q z_10, fun _ => ⟨_, _, y_noLesson0 ok hM0 v zT00 ha, fun q => absurd nI_0 q, fun _ => ⟨_, _, y_isOfTwo1 ok (by omega) hs, fun q => absurd q z_10, fun _ => ⟨_, _, y_noLesson1 ok hM0 v zT00 hx (by decide), fun _ => rfl, fun q => absurd q z_10⟩⟩⟩⟩), zSame_er (by decide) z_ste, zI2_th2 h⟩
            · exact ⟨.error 3, σ, nI 0, sj_st (sj_st σ 56 0 (nI 0)) 56 0 (nI 2), z_wish_cls ok hs hg (fun q => by omega) (fun q => by omega) (fun _ => ⟨fun _ => Or.inr ⟨_, _, z_requireLesson1 ok hC v hx, rfl⟩, fun q => absurd q hab⟩), y_wish_mod ok hs hg (fun q => by omega) (fun _ => w132 ⟨_, _, y_isOfLesson1 ok (by omega) hs, fun q => absurd q z_10, fun _ => ⟨_, _, y_noLesson1 ok hM0 v zT00 hx (by decide), fun _ => rfl, fun q => absurd q z_10⟩⟩), zSame_er (by decide) z_ste, zI2_th2 h⟩
    · refine ⟨_, _, _, _, c_X11_wish ok (Or.inl ⟨_, z_range0 ok hs (by decide), Or.inr ⟨_, _, z_range1 ok hx (by decide) (by decide), rfl⟩⟩), c_X12_wish ok (R := (.ok (nI 0), sj_st (sj_st σ 56 0 (nI 0)) 56 0 (nI 1))) ⟨_, _, y_inr1 ok (B := 6) hs (by decide), fun q => absurd q z_10, fun _ => ⟨_, _, y_inr0 ok (B := 9) hx (by decide), ?_⟩⟩, zSame_er (by decide) z_ste, zI2_th2 h⟩
      rw [if_pos z_00]
      exact hf
  · exact ⟨_, _, _, _, c_X11_wish ok (Or.inr ⟨_, _, z_range1 ok hx (by decide) (by decide), rfl⟩), c_X12_wish ok (R := (.ok (nI 0), sj_st (sj_st σ 56 0 (nI 0)) 56 0 (nI 1))) ⟨_, _, y_inr0 ok (B := 6) hx (by decide), fun _ => hf, fun q => absurd nI_0 q⟩, zSame_er (by decide) z_ste, zI2_th2 h⟩
end ZP6
