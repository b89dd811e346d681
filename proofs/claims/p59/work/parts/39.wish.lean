/-! PAIRS 6: wish -/
def zAW (D : zD) (s a b g : Nat) : zD := fun f i => if f = 1 then (if i = 0 then D 1 0 + 1 else D 1 i) else if 8 ≤ f ∧ f ≤ 11 ∧ i = D 1 0 then (if f = 8 then s else if f = 9 then a else if f = 10 then b else g) else D f i
section ZP6
variable {G : sj_G} {σ : sj_S} {D : zD} {T : Nat → Nat}
theorem zAW_o {s a b g f i : Nat} (h : f ≠ 1) (h2 : f < 8 ∨ 11 < f) : zAW D s a b g f i = D f i := by
  unfold zAW
  rw [if_neg h, if_neg (by omega)]
theorem zAW_n {s a b g f i : Nat} (h : f ≠ 1) (h2 : i ≠ dW D) : zAW D s a b g f i = D f i := by
  unfold zAW
  rw [if_neg h, if_neg (fun q => h2 q.2.2)]
theorem zAW_e {s a b g f : Nat} (h : 8 ≤ f) (h2 : f ≤ 11) : zAW D s a b g f (dW D) = (if f = 8 then s else if f = 9 then a else if f = 10 then b else g) := by
  unfold zAW
  rw [if_neg (by omega), if_pos ⟨h, h2, rfl⟩]
theorem zAW_noT {s a b g : Nat} : zAW (zNoT D) s a b g = zNoT (zAW D s a b g) := by
  funext f i
  unfold zAW zNoT zUp
  by_cases h : f = 2
  · subst h; simp
  · simp [h]
def okW (n s a b g : Nat) : Prop := s ≤ 6 ∧ g ≤ 9 ∧ (s = 0 → a < 6 ∧ b < 20) ∧ (s = 1 → a < 4 ∧ b < 20) ∧ (s = 2 → a < n ∧ b < 5) ∧ (s = 3 → a < n ∧ b < 20) ∧ (4 ≤ s → a < n ∧ b < n ∧ a ≠ b)
theorem okD_aw {s a b g : Nat} (v : okD D) (hn : dW D < 12) (ha : okW (dN D) s a b g) : okD (zAW D s a b g) := by
  have eN : dN (zAW D s a b g) = dN D := zAW_o (by decide) (by decide)
  have eW : dW (zAW D s a b g) = dW D + 1 := rfl
  have eT : dT (zAW D s a b g) = dT D := zAW_o (by decide) (by decide)
  refine ⟨by rw [eN]; exact v.1, by rw [eW]; omega, by rw [eT]; exact v.2.2.1, fun l hl => ?_, fun w hw => ?_, fun x h => ?_, fun k h => ?_, fun e h => ?_⟩
  · rw [eN] at hl
    rw [show dG (zAW D s a b g) l = _ from zAW_o (by decide) (by decide), show dTe (zAW D s a b g) l = _ from zAW_o (by decide) (by decide), show dSu (zAW D s a b g) l = _ from zAW_o (by decide) (by decide), show dKi (zAW D s a b g) l = _ from zAW_o (by decide) (by decide), show dDb (zAW D s a b g) l = _ from zAW_o (by decide) (by decide)]
    exact v.2.2.2.1 l hl
  · rw [eW] at hw
    rw [eN]
    by_cases q : w = dW D
    · subst q
      rw [show dSo (zAW D s a b g) (dW D) = _ from zAW_e (by decide) (by decide), show dA (zAW D s a b g) (dW D) = _ from zAW_e (by decide) (by decide), show dB (zAW D s a b g) (dW D) = _ from zAW_e (by decide) (by decide), show dWe (zAW D s a b g) (dW D) = _ from zAW_e (by decide) (by decide)]
      exact ha
    · rw [show dSo (zAW D s a b g) w = _ from zAW_n (by decide) q, show dA (zAW D s a b g) w = _ from zAW_n (by decide) q, show dB (zAW D s a b g) w = _ from zAW_n (by decide) q, show dWe (zAW D s a b g) w = _ from zAW_n (by decide) q]
      exact v.2.2.2.2.1 w (by omega)
  · rw [show dTch (zAW D s a b g) x = _ from zAW_o (by decide) (by decide), show dIll (zAW D s a b g) x = _ from zAW_o (by decide) (by decide)]
    exact v.2.2.2.2.2.1 x h
  · rw [show dRo (zAW D s a b g) k = _ from zAW_o (by decide) (by decide)]
    exact v.2.2.2.2.2.2.1 k h
  · have q : ∀ e, dAp (zAW D s a b g) e = dAp D e := fun e => zAW_o (by decide) (by decide)
    rw [q]
    exact ⟨(v.2.2.2.2.2.2.2 e h).1, fun o ho => by rw [q]; exact (v.2.2.2.2.2.2.2 e h).2 o ho⟩
theorem repC_aw {c : Nat → Int32} {s a b g : Nat} (v : okD D) (hC : repC D c) (hn : dW D < 12) :
    repC (zAW D s a b g) (upd (upd (upd (upd (upd c (48 + dW D * 4 + 0) (nI s)) (48 + dW D * 4 + 1) (nI a)) (48 + dW D * 4 + 2) (nI b)) (48 + dW D * 4 + 3) (nI g)) 1 (nI (dW D + 1))) := by
  generalize ec : (upd (upd (upd (upd (upd c (48 + dW D * 4 + 0) (nI s)) (48 + dW D * 4 + 1) (nI a)) (48 + dW D * 4 + 2) (nI b)) (48 + dW D * 4 + 3) (nI g)) 1 (nI (dW D + 1))) = c'
  have h9 := v.1
  have hf : ∀ i, i ≠ 1 → (i < 48 + dW D * 4 ∨ 48 + dW D * 4 + 4 ≤ i) → c' i = c i := fun i p q => by
    rw [← ec, z_un p, z_un (by omega), z_un (by omega), z_un (by omega), z_un (by omega)]
  have h0 : c' 1 = nI (dW D + 1) := by rw [← ec, z_ue]
  have eN : dN (zAW D s a b g) = dN D := zAW_o (by decide) (by decide)
  have eT : dT (zAW D s a b g) = dT D := zAW_o (by decide) (by decide)
  refine ⟨by rw [eN]; exact (hf _ (by omega) (by omega)).trans hC.1, h0, by rw [eT]; exact (hf _ (by omega) (by omega)).trans hC.2.2.1, fun l hl => ?_, fun w hw => ?_, fun x h => ?_, fun k h => ?_, fun e h => ?_⟩
  · rw [eN] at hl
    rw [show dG (zAW D s a b g) l = _ from zAW_o (by decide) (by decide), show dTe (zAW D s a b g) l = _ from zAW_o (by decide) (by decide), show dSu (zAW D s a b g) l = _ from zAW_o (by decide) (by decide), show dKi (zAW D s a b g) l = _ from zAW_o (by decide) (by decide), show dDb (zAW D s a b g) l = _ from zAW_o (by decide) (by decide)]
    rw [hf _ (by omega) (by omega), hf _ (by omega) (by omega), hf _ (by omega) (by omega), hf _ (by omega) (by omega), hf _ (by omega) (by omega)]
    exact hC.2.2.2.1 l hl
  · have hw : w < dW D + 1 := hw
    by_cases q : w = dW D
    · subst q
      rw [show dSo (zAW D s a b g) (dW D) = _ from zAW_e (by decide) (by decide), show dA (zAW D s a b g) (dW D) = _ from zAW_e (by decide) (by decide), show dB (zAW D s a b g) (dW D) = _ from zAW_e (by decide) (by decide), show dWe (zAW D s a b g) (dW D) = _ from zAW_e (by decide) (by decide), ← ec]
      refine ⟨?_, ?_, ?_, ?_⟩
      · rw [z_un (by omega), z_un (by omega), z_un (by omega), z_un (by omega), z_ue]; rfl
      · rw [z_un (by omega), z_un (by omega), z_un (by omega), z_ue]; rfl
      · rw [z_un (by omega), z_un (by omega), z_ue]; rfl
      · rw [z_un (by omega), z_ue]; rfl
    · rw [show dSo (zAW D s a b g) w = _ from zAW_n (by decide) q, show dA (zAW D s a b g) w = _ from zAW_n (by decide) q, show dB (zAW D s a b g) w = _ from zAW_n (by decide) q, show dWe (zAW D s a b g) w = _ from zAW_n (by decide) q]
      rw [hf _ (by omega) (by omega), hf _ (by omega) (by omega), hf _ (by omega) (by omega), hf _ (by omega) (by omega)]
      exact hC.2.2.2.2.1 w (by omega)
  · rw [show dTch (zAW D s a b g) x = _ from zAW_o (by decide) (by decide), show dIll (zAW D s a b g) x = _ from zAW_o (by decide) (by decide), hf _ (by omega) (by omega), hf _ (by omega) (by omega)]
    exact hC.2.2.2.2.2.1 x h
  · rw [show dRo (zAW D s a b g) k = _ from zAW_o (by decide) (by decide), hf _ (by omega) (by omega)]
    exact hC.2.2.2.2.2.2.1 k h
  · rw [show dAp (zAW D s a b g) e = _ from zAW_o (by decide) (by decide), hf _ (by omega) (by omega)]
    exact hC.2.2.2.2.2.2.2 e h
theorem repM_aw {c : Nat → Int32} {s a b g : Nat} (v : okD D) (hC : repM D c) (hn : dW D < 12) :
    repM (zAW D s a b g) (upd (upd (upd (upd (upd c (45 + dW D) (nI s)) (57 + dW D) (nI a)) (69 + dW D) (nI b)) (81 + dW D) (nI g)) 126 (nI (dW D + 1))) := by
  generalize ec : (upd (upd (upd (upd (upd c (45 + dW D) (nI s)) (57 + dW D) (nI a)) (69 + dW D) (nI b)) (81 + dW D) (nI g)) 126 (nI (dW D + 1))) = c'
  have h9 := v.1
  have hf : ∀ i, i ≠ 126 → i ≠ 45 + dW D → i ≠ 57 + dW D → i ≠ 69 + dW D → i ≠ 81 + dW D → c' i = c i := fun i p p1 p2 p3 p4 => by
    rw [← ec, z_un p, z_un p4, z_un p3, z_un p2, z_un p1]
  have h0 : c' 126 = nI (dW D + 1) := by rw [← ec, z_ue]
  have hx : ∀ i, (i < 45 ∨ 93 ≤ i) → i ≠ 126 → c' i = c i := fun k p q => hf _ q (by omega) (by omega) (by omega) (by omega)
  have eN : dN (zAW D s a b g) = dN D := zAW_o (by decide) (by decide)
  have eT : dT (zAW D s a b g) = dT D := zAW_o (by decide) (by decide)
  refine ⟨by rw [eN]; exact (hx _ (by omega) (by omega)).trans hC.1, h0, by rw [eT]; exact (hx _ (by omega) (by omega)).trans hC.2.2.1, fun l hl => ?_, fun w hw => ?_, fun x h => ?_, fun k h => ?_, fun e h => ?_⟩
  · rw [eN] at hl
    rw [show dG (zAW D s a b g) l = _ from zAW_o (by decide) (by decide), show dTe (zAW D s a b g) l = _ from zAW_o (by decide) (by decide), show dSu (zAW D s a b g) l = _ from zAW_o (by decide) (by decide), show dKi (zAW D s a b g) l = _ from zAW_o (by decide) (by decide), show dDb (zAW D s a b g) l = _ from zAW_o (by decide) (by decide)]
    rw [hx _ (by omega) (by omega), hx _ (by omega) (by omega), hx _ (by omega) (by omega), hx _ (by omega) (by omega), hx _ (by omega) (by omega)]
    exact hC.2.2.2.1 l hl
  · have hw : w < dW D + 1 := hw
    by_cases q : w = dW D
    · subst q
      rw [show dSo (zAW D s a b g) (dW D) = _ from zAW_e (by decide) (by decide), show dA (zAW D s a b g) (dW D) = _ from zAW_e (by decide) (by decide), show dB (zAW D s a b g) (dW D) = _ from zAW_e (by decide) (by decide), show dWe (zAW D s a b g) (dW D) = _ from zAW_e (by decide) (by decide), ← ec]
      refine ⟨?_, ?_, ?_, ?_⟩
      · rw [z_un (by omega), z_un (by omega), z_un (by omega), z_un (by omega), z_ue]; rfl
      · rw [z_un (by omega), z_un (by omega), z_un (by omega), z_ue]; rfl
      · rw [z_un (by omega), z_un (by omega), z_ue]; rfl
      · rw [z_un (by omega), z_ue]; rfl
    · rw [show dSo (zAW D s a b g) w = _ from zAW_n (by decide) q, show dA (zAW D s a b g) w = _ from zAW_n (by decide) q, show dB (zAW D s a b g) w = _ from zAW_n (by decide) q, show dWe (zAW D s a b g) w = _ from zAW_n (by decide) q]
      have hy : ∀ k, (k = 45 ∨ k = 57 ∨ k = 69 ∨ k = 81) → c' (k + w) = c (k + w) := fun k hk => hf _ (by omega) (by omega) (by omega) (by omega) (by omega)
      rw [hy 45 (by decide), hy 57 (by decide), hy 69 (by decide), hy 81 (by decide)]
      exact hC.2.2.2.2.1 w (by omega)
  · rw [show dTch (zAW D s a b g) x = _ from zAW_o (by decide) (by decide), show dIll (zAW D s a b g) x = _ from zAW_o (by decide) (by decide), hx _ (by omega) (by omega), hx _ (by omega) (by omega)]
    exact hC.2.2.2.2.2.1 x h
  · rw [show dRo (zAW D s a b g) k = _ from zAW_o (by decide) (by decide), hx _ (by omega) (by omega)]
    exact hC.2.2.2.2.2.2.1 k h
  · rw [show dAp (zAW D s a b g) e = _ from zAW_o (by decide) (by decide), hx _ (by omega) (by omega)]
    exact hC.2.2.2.2.2.2.2 e h
theorem z_wish_cls (ok : sj_ok G) {R : sj_R} {s g : Nat} {x2 x3 : Int32} (hs : s < 7) (hg : g < 10) (h1 : s ≤ 1 → wp_X11_wish_24 G R (nI s) x2 x3 (nI g) σ) (h2 : s = 2 ∨ s = 3 → wp_X11_wish_59 G R (nI s) x2 x3 (nI g) σ)
    (h3 : 4 ≤ s → (¬ x2 = x3 → ((∃ σ8, sj_C G 9 me_X11_requireLesson [.ref (sj_ad G 0), .int x2] σ (.ok 0, σ8) ∧ ((∃ σ9, sj_C G 9 me_X11_requireLesson [.ref (sj_ad G 0), .int x3] σ8 (.ok 0, σ9) ∧ (wp_X11_wish_108 G R (nI s) x2 x3 (nI g) σ9)) ∨ (∃ k9 σ9, sj_C G 9 me_X11_requireLesson [.ref (sj_ad G 0), .int x3] σ8 (.error k9, σ9) ∧ R = (.error k9, σ9)))) ∨ (∃ k8 σ8, sj_C G 9 me_X11_requireLesson [.ref (sj_ad G 0), .int x2] σ (.error k8, σ8) ∧ R = (.error k8, σ8)))) ∧ (x2 = x3 → R = (.error 1, σ))) :
    sj_C G 11 me_X11_wish [.ref (sj_ad G 0), .int (nI s), .int x2, .int x3, .int (nI g)] σ R := by
  have e : ∀ k, k < 7 → (nI s = nI k) = (s = k) := fun k hk => by rw [nI_eq (by omega) (by omega)]
  have e0 : (nI s = 0) = (s = 0) := by rw [← e 0 (by decide), nI_0]
  refine c_X11_wish ok (Or.inl ⟨_, z_range0 ok hs (by decide), Or.inl ⟨_, z_range0 ok hg (by decide), fun q => ?_, fun q => ⟨fun q1 => ⟨fun q2 => ?_, fun q2 => ⟨fun q3 => ?_, fun q3 => ?_⟩⟩, fun q1 => ?_⟩⟩⟩)
  · rw [e0] at q
    exact h1 (by omega)
  · rw [e 2 (by decide)] at q2
    exact h2 (Or.inl q2)
  · rw [e0] at q
    rw [e 1 (by decide)] at q1
    rw [e 2 (by decide)] at q2
    rw [e 3 (by decide)] at q3
    exact h3 (by omega)
  · rw [e 3 (by decide)] at q3
    exact h2 (Or.inr q3)
  · rw [e 1 (by decide)] at q1
    exact h1 (by omega)
end ZP6
