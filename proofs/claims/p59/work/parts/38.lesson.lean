/-! PAIRS 5: lesson -/
def zAL (D : zD) (g t s K d : Nat) : zD := fun f i => if f = 0 then (if i = 0 then D 0 0 + 1 else D 0 i) else if 3 ≤ f ∧ f ≤ 7 ∧ i = D 0 0 then (if f = 3 then g else if f = 4 then t else if f = 5 then s else if f = 6 then K else d) else D f i
section ZP5
variable {G : sj_G} {σ : sj_S} {D : zD} {T : Nat → Nat}
theorem zAL_o {g t s K d f i : Nat} (h : f ≠ 0) (h2 : f < 3 ∨ 7 < f) : zAL D g t s K d f i = D f i := by
  unfold zAL
  rw [if_neg h, if_neg (by omega)]
theorem zAL_n {g t s K d f i : Nat} (h : f ≠ 0) (h2 : i ≠ dN D) : zAL D g t s K d f i = D f i := by
  unfold zAL
  rw [if_neg h, if_neg (fun q => h2 q.2.2)]
theorem zAL_noT {g t s K d : Nat} : zAL (zNoT D) g t s K d = zNoT (zAL D g t s K d) := by
  funext f i
  unfold zAL zNoT zUp
  by_cases h : f = 2
  · subst h; simp
  · simp [h]
theorem okD_al {g t s K d : Nat} (v : okD D) (hn : dN D < 9) (hg : g < 4) (ht : t < 6) (hs : s < 6) (hK : K ≤ 3) (hd : d ≤ 1) : okD (zAL D g t s K d) := by
  have eN : dN (zAL D g t s K d) = dN D + 1 := rfl
  have eW : dW (zAL D g t s K d) = dW D := zAL_o (by decide) (by decide)
  have eT : dT (zAL D g t s K d) = dT D := zAL_o (by decide) (by decide)
  refine ⟨by rw [eN]; omega, by rw [eW]; exact v.2.1, by rw [eT]; exact v.2.2.1, fun l hl => ?_, fun w hw => ?_, fun x h => ?_, fun k h => ?_, fun e h => ?_⟩
  · rw [eN] at hl
    by_cases q : l = dN D
    · subst q
      have e : ∀ f, 3 ≤ f → f ≤ 7 → zAL D g t s K d f (dN D) = (if f = 3 then g else if f = 4 then t else if f = 5 then s else if f = 6 then K else d) := fun f a b => by
        unfold zAL
        rw [if_neg (by omega), if_pos ⟨a, b, rfl⟩]
      rw [show dG (zAL D g t s K d) (dN D) = _ from e 3 (by decide) (by decide), show dTe (zAL D g t s K d) (dN D) = _ from e 4 (by decide) (by decide), show dSu (zAL D g t s K d) (dN D) = _ from e 5 (by decide) (by decide), show dKi (zAL D g t s K d) (dN D) = _ from e 6 (by decide) (by decide), show dDb (zAL D g t s K d) (dN D) = _ from e 7 (by decide) (by decide)]
      exact ⟨hg, ht, hs, hK, hd⟩
    · rw [show dG (zAL D g t s K d) l = _ from zAL_n (by decide) q, show dTe (zAL D g t s K d) l = _ from zAL_n (by decide) q, show dSu (zAL D g t s K d) l = _ from zAL_n (by decide) q, show dKi (zAL D g t s K d) l = _ from zAL_n (by decide) q, show dDb (zAL D g t s K d) l = _ from zAL_n (by decide) q]
      exact v.2.2.2.1 l (by omega)
  · rw [eW] at hw
    rw [eN, show dSo (zAL D g t s K d) w = _ from zAL_o (by decide) (by decide), show dA (zAL D g t s K d) w = _ from zAL_o (by decide) (by decide), show dB (zAL D g t s K d) w = _ from zAL_o (by decide) (by decide), show dWe (zAL D g t s K d) w = _ from zAL_o (by decide) (by decide)]
    obtain ⟨a1, a2, a3, a4, a5, a6, a7⟩ := v.2.2.2.2.1 w hw
    exact ⟨a1, a2, a3, a4, fun q => ⟨Nat.lt_succ_of_lt (a5 q).1, (a5 q).2⟩, fun q => ⟨Nat.lt_succ_of_lt (a6 q).1, (a6 q).2⟩, fun q => ⟨Nat.lt_succ_of_lt (a7 q).1, Nat.lt_succ_of_lt (a7 q).2.1, (a7 q).2.2⟩⟩
  · rw [show dTch (zAL D g t s K d) x = _ from zAL_o (by decide) (by decide), show dIll (zAL D g t s K d) x = _ from zAL_o (by decide) (by decide)]
    exact v.2.2.2.2.2.1 x h
  · rw [show dRo (zAL D g t s K d) k = _ from zAL_o (by decide) (by decide)]
    exact v.2.2.2.2.2.2.1 k h
  · have q : ∀ e, dAp (zAL D g t s K d) e = dAp D e := fun e => zAL_o (by decide) (by decide)
    rw [q]
    exact ⟨(v.2.2.2.2.2.2.2 e h).1, fun o ho => by rw [q]; exact (v.2.2.2.2.2.2.2 e h).2 o ho⟩
theorem repC_al {c : Nat → Int32} {g t s K d : Nat} (v : okD D) (hC : repC D c) (hn : dN D < 9) :
    repC (zAL D g t s K d) (upd (upd (upd (upd (upd (upd c (3 + dN D * 5 + 0) (nI g)) (3 + dN D * 5 + 1) (nI t)) (3 + dN D * 5 + 2) (nI s)) (3 + dN D * 5 + 3) (zk K)) (3 + dN D * 5 + 4) (nI d)) 0 (nI (dN D + 1))) := by
  generalize ec : (upd (upd (upd (upd (upd (upd c (3 + dN D * 5 + 0) (nI g)) (3 + dN D * 5 + 1) (nI t)) (3 + dN D * 5 + 2) (nI s)) (3 + dN D * 5 + 3) (zk K)) (3 + dN D * 5 + 4) (nI d)) 0 (nI (dN D + 1))) = c'
  have hf : ∀ i, i ≠ 0 → (i < 3 + dN D * 5 ∨ 3 + dN D * 5 + 5 ≤ i) → c' i = c i := fun i a b => by
    rw [← ec, z_un a, z_un (by omega), z_un (by omega), z_un (by omega), z_un (by omega), z_un (by omega)]
  have h0 : c' 0 = nI (dN D + 1) := by rw [← ec, z_ue]
  have eW : dW (zAL D g t s K d) = dW D := zAL_o (by decide) (by decide)
  have eT : dT (zAL D g t s K d) = dT D := zAL_o (by decide) (by decide)
  refine ⟨h0, by rw [eW]; exact (hf _ (by omega) (by omega)).trans hC.2.1, by rw [eT]; exact (hf _ (by omega) (by omega)).trans hC.2.2.1, fun l hl => ?_, fun w hw => ?_, fun x h => ?_, fun k h => ?_, fun e h => ?_⟩
  · have hl : l < dN D + 1 := hl
    by_cases q : l = dN D
    · subst q
      have e : ∀ f, 3 ≤ f → f ≤ 7 → zAL D g t s K d f (dN D) = (if f = 3 then g else if f = 4 then t else if f = 5 then s else if f = 6 then K else d) := fun f a b => by
        unfold zAL
        rw [if_neg (by omega), if_pos ⟨a, b, rfl⟩]
      rw [show dG (zAL D g t s K d) (dN D) = _ from e 3 (by decide) (by decide), show dTe (zAL D g t s K d) (dN D) = _ from e 4 (by decide) (by decide), show dSu (zAL D g t s K d) (dN D) = _ from e 5 (by decide) (by decide), show dKi (zAL D g t s K d) (dN D) = _ from e 6 (by decide) (by decide), show dDb (zAL D g t s K d) (dN D) = _ from e 7 (by decide) (by decide), ← ec]
      refine ⟨?_, ?_, ?_, ?_, ?_⟩
      · rw [z_un (by omega), z_un (by omega), z_un (by omega), z_un (by omega), z_un (by omega), z_ue]; rfl
      · rw [z_un (by omega), z_un (by omega), z_un (by omega), z_un (by omega), z_ue]; rfl
      · rw [z_un (by omega), z_un (by omega), z_un (by omega), z_ue]; rfl
      · rw [z_un (by omega), z_un (by omega), z_ue]; rfl
      · rw [z_un (by omega), z_ue]; rfl
    · rw [show dG (zAL D g t s K d) l = _ from zAL_n (by decide) q, show dTe (zAL D g t s K d) l = _ from zAL_n (by decide) q, show dSu (zAL D g t s K d) l = _ from zAL_n (by decide) q, show dKi (zAL D g t s K d) l = _ from zAL_n (by decide) q, show dDb (zAL D g t s K d) l = _ from zAL_n (by decide) q]
      rw [hf _ (by omega) (by omega), hf _ (by omega) (by omega), hf _ (by omega) (by omega), hf _ (by omega) (by omega), hf _ (by omega) (by omega)]
      exact hC.2.2.2.1 l (by omega)
  · rw [eW] at hw
    have := v.2.1
    rw [show dSo (zAL D g t s K d) w = _ from zAL_o (by decide) (by decide), show dA (zAL D g t s K d) w = _ from zAL_o (by decide) (by decide), show dB (zAL D g t s K d) w = _ from zAL_o (by decide) (by decide), show dWe (zAL D g t s K d) w = _ from zAL_o (by decide) (by decide)]
    rw [hf _ (by omega) (by omega), hf _ (by omega) (by omega), hf _ (by omega) (by omega), hf _ (by omega) (by omega)]
    exact hC.2.2.2.2.1 w hw
  · rw [show dTch (zAL D g t s K d) x = _ from zAL_o (by decide) (by decide), show dIll (zAL D g t s K d) x = _ from zAL_o (by decide) (by decide), hf _ (by omega) (by omega), hf _ (by omega) (by omega)]
    exact hC.2.2.2.2.2.1 x h
  · rw [show dRo (zAL D g t s K d) k = _ from zAL_o (by decide) (by decide), hf _ (by omega) (by omega)]
    exact hC.2.2.2.2.2.2.1 k h
  · rw [show dAp (zAL D g t s K d) e = _ from zAL_o (by decide) (by decide), hf _ (by omega) (by omega)]
    exact hC.2.2.2.2.2.2.2 e h
theorem repM_al {c : Nat → Int32} {g t s K d : Nat} (v : okD D) (hC : repM D c) (hn : dN D < 9) :
    repM (zAL D g t s K d) (upd (upd (upd (upd (upd (upd c (0 + dN D) (nI g)) (9 + dN D) (nI t)) (18 + dN D) (nI s)) (27 + dN D) (zk K)) (36 + dN D) (nI d)) 125 (nI (dN D + 1))) := by
  generalize ec : (upd (upd (upd (upd (upd (upd c (0 + dN D) (nI g)) (9 + dN D) (nI t)) (18 + dN D) (nI s)) (27 + dN D) (zk K)) (36 + dN D) (nI d)) 125 (nI (dN D + 1))) = c'
  have hf : ∀ i, i ≠ 125 → i ≠ 0 + dN D → i ≠ 9 + dN D → i ≠ 18 + dN D → i ≠ 27 + dN D → i ≠ 36 + dN D → c' i = c i := fun i a a1 a2 a3 a4 a5 => by
    rw [← ec, z_un a, z_un a5, z_un a4, z_un a3, z_un a2, z_un a1]
  have h0 : c' 125 = nI (dN D + 1) := by rw [← ec, z_ue]
  have eW : dW (zAL D g t s K d) = dW D := zAL_o (by decide) (by decide)
  have eT : dT (zAL D g t s K d) = dT D := zAL_o (by decide) (by decide)
  refine ⟨h0, by rw [eW]; exact (hf _ (by omega) (by omega) (by omega) (by omega) (by omega) (by omega)).trans hC.2.1, by rw [eT]; exact (hf _ (by omega) (by omega) (by omega) (by omega) (by omega) (by omega)).trans hC.2.2.1, fun l hl => ?_, fun w hw => ?_, fun x h => ?_, fun k h => ?_, fun e h => ?_⟩
  · have hl : l < dN D + 1 := hl
    by_cases q : l = dN D
    · subst q
      have e : ∀ f, 3 ≤ f → f ≤ 7 → zAL D g t s K d f (dN D) = (if f = 3 then g else if f = 4 then t else if f = 5 then s else if f = 6 then K else d) := fun f a b => by
        unfold zAL
        rw [if_neg (by omega), if_pos ⟨a, b, rfl⟩]
      rw [show dG (zAL D g t s K d) (dN D) = _ from e 3 (by decide) (by decide), show dTe (zAL D g t s K d) (dN D) = _ from e 4 (by decide) (by decide), show dSu (zAL D g t s K d) (dN D) = _ from e 5 (by decide) (by decide), show dKi (zAL D g t s K d) (dN D) = _ from e 6 (by decide) (by decide), show dDb (zAL D g t s K d) (dN D) = _ from e 7 (by decide) (by decide), ← ec]
      refine ⟨?_, ?_, ?_, ?_, ?_⟩
      · rw [z_un (by omega), z_un (by omega), z_un (by omega), z_un (by omega), z_un (by omega), z_ue]; rfl
      · rw [z_un (by omega), z_un (by omega), z_un (by omega), z_un (by omega), z_ue]; rfl
      · rw [z_un (by omega), z_un (by omega), z_un (by omega), z_ue]; rfl
      · rw [z_un (by omega), z_un (by omega), z_ue]; rfl
      · rw [z_un (by omega), z_ue]; rfl
    · rw [show dG (zAL D g t s K d) l = _ from zAL_n (by decide) q, show dTe (zAL D g t s K d) l = _ from zAL_n (by decide) q, show dSu (zAL D g t s K d) l = _ from zAL_n (by decide) q, show dKi (zAL D g t s K d) l = _ from zAL_n (by decide) q, show dDb (zAL D g t s K d) l = _ from zAL_n (by decide) q]
      have hx : ∀ k, (k = 0 ∨ k = 9 ∨ k = 18 ∨ k = 27 ∨ k = 36) → c' (k + l) = c (k + l) := fun k hk => hf _ (by omega) (by omega) (by omega) (by omega) (by omega) (by omega)
      rw [hx 0 (by decide), hx 9 (by decide), hx 18 (by decide), hx 27 (by decide), hx 36 (by decide)]
      exact hC.2.2.2.1 l (by omega)
  · rw [eW] at hw
    have := v.2.1
    have hx : ∀ i, 45 ≤ i → i < 93 → c' i = c i := fun k a b => hf _ (by omega) (by omega) (by omega) (by omega) (by omega) (by omega)
    rw [show dSo (zAL D g t s K d) w = _ from zAL_o (by decide) (by decide), show dA (zAL D g t s K d) w = _ from zAL_o (by decide) (by decide), show dB (zAL D g t s K d) w = _ from zAL_o (by decide) (by decide), show dWe (zAL D g t s K d) w = _ from zAL_o (by decide) (by decide)]
    rw [hx _ (by omega) (by omega), hx _ (by omega) (by omega), hx _ (by omega) (by omega), hx _ (by omega) (by omega)]
    exact hC.2.2.2.2.1 w hw
  · have hx : ∀ i, 45 ≤ i → i < 125 → c' i = c i := fun k a b => hf _ (by omega) (by omega) (by omega) (by omega) (by omega) (by omega)
    rw [show dTch (zAL D g t s K d) x = _ from zAL_o (by decide) (by decide), show dIll (zAL D g t s K d) x = _ from zAL_o (by decide) (by decide), hx _ (by omega) (by omega), hx _ (by omega) (by omega)]
    exact hC.2.2.2.2.2.1 x h
  · have hx : ∀ i, 45 ≤ i → i < 125 → c' i = c i := fun k a b => hf _ (by omega) (by omega) (by omega) (by omega) (by omega) (by omega)
    rw [show dRo (zAL D g t s K d) k = _ from zAL_o (by decide) (by decide), hx _ (by omega) (by omega)]
    exact hC.2.2.2.2.2.2.1 k h
  · have hx : ∀ i, 45 ≤ i → i < 125 → c' i = c i := fun k a b => hf _ (by omega) (by omega) (by omega) (by omega) (by omega) (by omega)
    rw [show dAp (zAL D g t s K d) e = _ from zAL_o (by decide) (by decide), hx _ (by omega) (by omega)]
    exact hC.2.2.2.2.2.2.2 e h
theorem z_kin1 {K : Nat} (h : K ≤ 3) : ¬ zk K < -1 ∧ ¬ nI 2 < zk K ∧ (zk K = -1 ∨ ∃ j, j < 3 ∧ zk K = nI j) := by
  rcases (by omega : K = 0 ∨ K = 1 ∨ K = 2 ∨ K = 3) with e | e | e | e <;> subst e
  · exact ⟨by decide, by decide, Or.inl rfl⟩
  · exact ⟨by decide, by decide, Or.inr ⟨0, by decide, rfl⟩⟩
  · exact ⟨by decide, by decide, Or.inr ⟨1, by decide, rfl⟩⟩
  · exact ⟨by decide, by decide, Or.inr ⟨2, by decide, rfl⟩⟩
theorem z_kin0 {x : Int32} (h1 : ¬ x = -1) (h2 : ∀ j, j < 3 → ¬ x = nI j) : x < -1 ∨ nI 2 < x := by
  by_cases h : x < 0
  · left
    rw [Int32.lt_iff_toInt_lt, Int32.toInt_zero] at h
    rw [Int32.lt_iff_toInt_lt, show (-1 : Int32).toInt = -1 by decide]
    have : ¬ x.toInt = -1 := fun q => h1 (Int32.toInt_inj.mp (q.trans (show (-1 : Int32).toInt = -1 by decide).symm))
    omega
  · right
    obtain ⟨j, hj, e⟩ := nI_of h
    have : ¬ j < 3 := fun q => h2 j q e
    rw [e]
    exact nI_lt (by omega) hj
theorem z_kin (x : Int32) : (∃ K, K ≤ 3 ∧ x = zk K) ∨ (¬ x = -1 ∧ ∀ j, j < 3 → ¬ x = nI j) := by
  by_cases h : x = -1
  · exact Or.inl ⟨0, by decide, h⟩
  · by_cases h2 : ∃ j, j < 3 ∧ x = nI j
    · obtain ⟨j, hj, e⟩ := h2
      exact Or.inl ⟨j + 1, by omega, by rw [e]; unfold zk; rw [if_neg (by omega)]; rfl⟩
    · exact Or.inr ⟨h, fun j hj e => h2 ⟨j, hj, e⟩⟩
theorem z_bb (b : Bool) : (if (if b then nI 1 else nI 0) = 0 then nI 0 else nI 1) = nI (if b then 1 else 0) := by
  cases b <;> rfl
theorem z_lesson_cls (ok : sj_ok G) {R : sj_R} {g t s K : Nat} {x5 : Int32} (hg : g < 4) (ht : t < 6) (hs : s < 6) (hK : K ≤ 3) (h33 : wp_X11_lesson_33 G R (nI g) (nI t) (nI s) (zk K) x5 σ) : sj_C G 11 me_X11_lesson [.ref (sj_ad G 0), .int (nI g), .int (nI t), .int (nI s), .int (zk K), .int x5] σ R := by
  refine c_X11_lesson ok (Or.inl ⟨_, z_range0 ok hg (by decide), Or.inl ⟨_, z_range0 ok ht (by decide), Or.inl ⟨_, z_range0 ok hs (by decide), fun _ => h33, fun q => ?_⟩⟩⟩)
  rcases (z_kin1 hK).2.2 with e | ⟨j, hj, e⟩
  · exact absurd e q
  · exact Or.inl ⟨_, by rw [e]; exact z_range0 ok hj (by decide), h33⟩
end ZP5
