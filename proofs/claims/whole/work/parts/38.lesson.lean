/-! PAIRS 5: lesson -/
def zAL (D : zD) (g t s K d : Nat) : zD := fun f i => if f = 0 then (if i = 0 then D 0 0 + 1 else D 0 i) else if 3 ≤ f ∧ f ≤ 7 ∧ i = D 0 0 then (if f = 3 then g else if f = 4 then t else if f = 5 then s else if f = 6 then K else d) else D f i
section ZP5
variable {G : sj_G} {σ : sj_S} {D : zD} {T : Nat → Nat}
theorem zAL_o {g t s K d f i : Nat} (h : f ≠ 0) (h2 : f < 3 ∨ 7 < f) : zAL D g t s K d f i = D f i := by
  unfold zAL
  rw [if_neg h, if_neg (by omega)]
theorem zAL_n {g t s K d f i : Nat} (h : f ≠ 0) (h2 : i ≠ dN D) : zAL D g t s K d f i = D f i := by
  unfold zAL
  rw [if_neg h, if_neg (fun q => h2 q.2.2)]
theorem zAL_noT {g t s K d : Nat} : zAL (zNoT D) g t s K d = zNoT (zAL D g t s K d) := by
  funext f i
  unfold zAL zNoT zUp
  by_cases h : f = 2
  · subst h; simp
  · simp [h]
theorem okD_al {g t s K d : Nat} (v : okD D) (hn : dN D < 9) (hg : g < 4) (ht : t < 6) (hs : s < 6) (hK : K ≤ 3) (hd : d ≤ 1) : okD (zAL D g t s K d) := by
  have eN : dN (zAL D g t s K d) = dN D + 1 := rfl
  have eW : dW (zAL D g t s K d) = dW D := zAL_o (by decide) (by decide)
  have eT : dT (zAL D g t s K d) = dT D := zAL_o (by decide) (by decide)
  refine ⟨by rw [eN]; omega, by rw [eW]; exact v.2.1, by rw [eT]; exact v.2.2.1, fun l hl => ?_, fun w hw => ?_, fun x h => ?_, fun k h => ?_, fun e h => ?_⟩
  · rw [eN] at hl
    by_cases q : l = dN D
    · subst q
      have e : ∀ f, 3 ≤ f → f ≤ 7 → zAL D g t s K d f (dN D) = (if f = 3 then g else if f = 4 then t else if f = 5 then s else if f = 6 then K else d) := fun f a b => by
        unfold zAL
        rw [if_neg (by omega), if_pos ⟨a, b, rfl⟩]
      rw [show dG (zAL D g t s K d) (dN D) = _ from e 3 (by decide) (by decide), show dTe (zAL D g t s K d) (dN D) = _ from e 4 (by decide) (by decide), show dSu (zAL D g t s K d) (dN D) = _ from e 5 (by decide) (by decide), show dKi (zAL D g t s K d) (dN D) = _ from e 6 (by decide) (by decide), show dDb (zAL D g t s K d) (dN D) = _ from e 7 (by decide) (by decide)]
      exact ⟨hg, ht, hs, hK, hd⟩
    · rw [show dG (zAL D g t s K d) l = _ from zAL_n (by decide) q, show dTe (zAL D g t s K d) l = _ from zAL_n (by decide) q, show dSu (zAL D g t s K d) l = _ from zAL_n (by decide) q, show dKi (zAL D g t s K d) l = _ from zAL_n (by decide) q, show dDb (zAL D g t s K d) l = _ from zAL_n (by decide) q]
      exact v.2.2.2.1 l (by omega)
  · rw [eW] at hw
    rw [eN, show dSo (zAL D g t s K d) w = _ from zAL_o (by decide) (by decide), show dA (zAL D g t s K d) w = _ from zAL_o (by decide) (by decide), show dB (zAL D g t s K d) w = _ from zAL_o (by decide) (by decide), show dWe (zAL D g t s K d) w = _ from zAL_o (by decide) (by decide)]
    obtain ⟨a1, a2, a3, a4, a5, a6, a7⟩ := v.2.2.2.2.1 w hw
    exact ⟨a1, a2, a3, a4, fun q => ⟨Nat.lt_succ_of_lt (a5 q).1, (a5 q).2⟩, fun q => ⟨Nat.lt_succ_of_lt (a6 q).1, (a6 q).2⟩, fun q => ⟨Nat.lt_succ_of_lt (a7 q).1, Nat.lt_succ_of_lt (a7 q).2.1, (a7 q).2.2⟩⟩
  · rw [show dTch (zAL D g t s K d) x = _ from zAL_o (by decide) (by decide), show dIll (zAL D g t s K d) x = _ from zAL_o (by decide) (by decide)]
    exact v.2.2.2.2.2.1 x h
  · rw [show dRo (zAL D g t s K d) k = _ from zAL_o (by decide) (by decide)]
    exact v.2.2.2.2.2.2.1 k h
  · have q : ∀ e, dAp (zAL D g t s K d) e = dAp D e := fun e => zAL_o (by decide) (by decide)
    rw [q]
    exact ⟨(v.2.2.2.2.2.2.2 e h).1, fun o ho => by rw [q]; exact (v.2.2.2.2.2.2.2 e h).2 o ho⟩
theorem repC_al {c : Nat → Int32} {g t s K d : Nat} (v : okD D) (hC : repC D c) (hn : dN D < 9) :
    repC (zAL D g t s K d) (upd (upd (upd (upd (upd (upd c (3 + dN D * 5 + 0) (nI g)) (3 + dN D * 5 + 1) (nI t)) (3 + dN D * 5 + 2) (nI s)) (3 + dN D * 5 + 3) (zk K)) (3 + dN D * 5 + 4) (nI d)) 0 (nI (dN D + 1))) := by
  generalize ec : (upd (upd (upd (upd (upd (upd c (3 + dN D * 5 + 0) (nI g)) (3 + dN D * 5 + 1) (nI t)) (3 + dN D * 5 + 2) (nI s)) (3 + dN D * 5 + 3) (zk K)) (3 + dN D * 5 + 4) (nI d)) 0 (nI (dN D + 1))) = c'
  have hf : ∀ i, i ≠ 0 → (i < 3 + dN D * 5 ∨ 3 + dN D * 5 + 5 ≤ i) → c' i = c i := fun i a b => by
    rw [← ec, z_un a, z_un (by omega), z_un (by omega), z_un (by omega), z_un (by omega), z_un (by omega)]
  have h0 : c' 0 = nI (dN D + 1) := by rw [← ec, z_ue]
  have eW : dW (zAL D g t s K d) = dW D := zAL_o (by decide) (by decide)
  have eT : dT (zAL D g t s K d) = dT D := zAL_o (by decide) (by decide)
  refine ⟨h0, by rw [eW]; exact (hf _ (by omega) (by omega)).trans hC.2.1, by rw [eT]; exact (hf _ (by omega) (by omega)).trans hC.2.2.1, fun l hl => ?_, fun w hw => ?_, fun x h => ?_, fun k h => ?_, fun e h => ?_⟩
  · have hl : l < dN D + 1 := hl
    by_cases q : l = dN D
    · subst q
      have e : ∀ f, 3 ≤ f → f ≤ 7 → zAL D g t s K d f (dN D) = (if f = 3 then g else if f = 4 then t else if f = 5 then s else if f = 6 then K else d) := fun f a b => by
        unfold zAL
        rw [if_neg (by omega), if_pos ⟨a, b, rfl⟩]
      rw [show dG (zAL D g t s K d) (dN D) = _ from e 3 (by decide) (by decide), show dTe (zAL D g t s K d) (dN D) = _ from e 4 (by decide) (by decide), show dSu (zAL D g t s K d) (dN D) = _ from e 5 (by decide) (by decide), show dKi (zAL D g t s K d) (dN D) = _ from e 6 (by decide) (by decide), show dDb (zAL D g t s K d) (dN D) = _ from e 7 (by decide) (by decide), ← ec]
      refine ⟨?_, ?_, ?_, ?_, ?_⟩
      · rw [z_un (by omega), z_un (by omega), z_un (by omega), z_un (by omega), z_un (by omega), z_ue]; rfl
      · rw [z_un (by omega), z_un (by omega), z_un (by omega), z_un (by omega), z_ue]; rfl
      · rw [z_un (by omega), z_un (by omega), z_un (by omega), z_ue]; rfl
      · rw [z_un (by omega), z_un (by omega), z_ue]; rfl
      · rw [z_un (by omega), z_ue]; rfl
    · rw [show dG (zAL D g t s K d) l = _ from zAL_n (by decide) q, show dTe (zAL D g t s K d) l = _ from zAL_n (by decide) q, show dSu (zAL D g t s K d) l = _ from zAL_n (by decide) q, show dKi (zAL D g t s K d) l = _ from zAL_n (by decide) q, show dDb (zAL D g t s K d) l = _ from zAL_n (by decide) q]
      rw [hf _ (by omega) (by omega), hf _ (by omega) (by omega), hf _ (by omega) (by omega), hf _ (by omega) (by omega), hf _ (by omega) (by omega)]
      exact hC.2.2.2.1 l (by omega)
  · rw [eW] at hw
    have := v.2.1
    rw [show dSo (zAL D g t s K d) w = _ from zAL_o (by decide) (by decide), show dA (zAL D g t s K d) w = _ from zAL_o (by decide) (by decide), show dB (zAL D g t s K d) w = _ from zAL_o (by decide) (by decide), show dWe (zAL D g t s K d) w = _ from zAL_o (by decide) (by decide)]
    rw [hf _ (by omega) (by omega), hf _ (by omega) (by omega), hf _ (by omega) (by omega), hf _ (by omega) (by omega)]
    exact hC.2.2.2.2.1 w hw
  · rw [show dTch (zAL D g t s K d) x = _ from zAL_o (by decide) (by decide), show dIll (zAL D g t s K d) x = _ from zAL_o (by decide) (by decide), hf _ (by omega) (by omega), hf _ (by omega) (by omega)]
    exact hC.2.2.2.2.2.1 x h
  · rw [show dRo (zAL D g t s K d) k = _ from zAL_o (by decide) (by decide), hf _ (by omega) (by omega)]
    exact hC.2.2.2.2.2.2.1 k h
  · rw [show dAp (zAL D g t s K d) e = _ from zAL_o (by decide) (by decide), hf _ (by omega) (by omega)]
    exact hC.2.2.2.2.2.2.2 e h
theorem repM_al {c : Nat → Int32} {g t s K d : Nat} (v : okD D) (hC : repM D c) (hn : dN D < 9) :
    repM (zAL D g t s K d) (upd (upd (upd (upd (upd (upd c (0 + dN D) (nI g)) (9 + dN D) (nI t)) (18 + dN D) (nI s)) (27 + dN D) (zk K)) (36 + dN D) (nI d)) 125 (nI (dN D + 1))) := by
  generalize ec : (upd (upd (upd (upd (upd (upd c (0 + dN D) (nI g)) (9 + dN D) (nI t)) (18 + dN D) (nI s)) (27 + dN D) (zk K)) (36 + dN D) (nI d)) 125 (nI (dN D + 1))) = c'
  have hf : ∀ i, i ≠ 125 → i ≠ 0 + dN D → i ≠ 9 + dN D → i ≠ 18 + dN D → i ≠ 27 + dN D → i ≠ 36 + dN D → c' i = c i := fun i a a1 a2 a3 a4 a5 => by
    rw [← ec, z_un a, z_un a5, z_un a4, z_un a3, z_un a2, z_un a1]
  have h0 : c' 125 = nI (dN D + 1) := by rw [← ec, z_ue]
  have eW : dW (zAL D g t s K d) = dW D := zAL_o (by decide) (by decide)
  have eT : dT (zAL D g t s K d) = dT D := zAL_o (by decide) (by decide)
  refine ⟨h0, by rw [eW]; exact (hf _ (by omega) (by omega) (by omega) (by omega) (by omega) (by omega)).trans hC.2.1, by rw [eT]; exact (hf _ (by omega) (by omega) (by omega) (by omega) (by omega) (by omega)).trans hC.2.2.1, fun l hl => ?_, fun w hw => ?_, fun x h => ?_, fun k h => ?_, fun e h => ?_⟩
  · have hl : l < dN D + 1 := hl
    by_cases q : l = dN D
    · subst q
      have e : ∀ f, 3 ≤ f → f ≤ 7 → zAL D g t s K d f (dN D) = (if f = 3 then g else if f = 4 then t else if f = 5 then s else if f = 6 then K else d) := fun f a b => by
        unfold zAL
        rw [if_neg (by omega), if_pos ⟨a, b, rfl⟩]
      rw [show dG (zAL D g t s K d) (dN D) = _ from e 3 (by decide) (by decide), show dTe (zAL D g t s K d) (dN D) = _ from e 4 (by decide) (by decide), show dSu (zAL D g t s K d) (dN D) = _ from e 5 (by decide) (by decide), show dKi (zAL D g t s K d) (dN D) = _ from e 6 (by decide) (by decide), show dDb (zAL D g t s K d) (dN D) = _ from e 7 (by decide) (by decide), ← ec]
      refine ⟨?_, ?_, ?_, ?_, ?_⟩
      · rw [z_un (by omega), z_un (by omega), z_un (by omega), z_un (by omega), z_un (by omega), z_ue]; rfl
      · rw [z_un (by omega), z_un (by omega), z_un (by omega), z_un (by omega), z_ue]; rfl
      · rw [z_un (by omega), z_un (by omega), z_un (by omega), z_ue]; rfl
      · rw [z_un (by omega), z_un (by omega), z_ue]; rfl
      · rw [z_un (by omega), z_ue]; rfl
    · rw [show dG (zAL D g t s K d) l = _ from zAL_n (by decide) q, show dTe (zAL D g t s K d) l = _ from zAL_n (by decide) q, show dSu (zAL D g t s K d) l = _ from zAL_n (by decide) q, show dKi (zAL D g t s K d) l = _ from zAL_n (by decide) q, show dDb (zAL D g t s K d) l = _ from zAL_n (by decide) q]
      have hx : ∀ k, (k = 0 ∨ k = 9 ∨ k = 18 ∨ k = 27 ∨ k = 36) → c' (k + l) = c (k + l) := fun k hk => hf _ (by omega) (by omega) (by omega) (by omega) (by omega) (by omega)
      rw [hx 0 (by decide), hx 9 (by decide), hx 18 (by decide), hx 27 (by decide), hx 36 (by decide)]
      exact hC.2.2.2.1 l (by omega)
  · rw [eW] at hw
    have := v.2.1
    have hx : ∀ i, 45 ≤ i → i < 93 → c' i = c i := fun k a b => hf _ (by omega) (by omega) (by omega) (by omega) (by omega) (by omega)
    rw [show dSo (zAL D g t s K d) w = _ from zAL_o (by decide) (by decide), show dA (zAL D g t s K d) w = _ from zAL_o (by decide) (by decide), show dB (zAL D g t s K d) w = _ from zAL_o (by decide) (by decide), show dWe (zAL D g t s K d) w = _ from zAL_o (by decide) (by decide)]
    rw [hx _ (by omega) (by omega), hx _ (by omega) (by omega), hx _ (by omega) (by omega), hx _ (by omega) (by omega)]
    exact hC.2.2.2.2.1 w hw
  · have hx : ∀ i, 45 ≤ i → i < 125 → c' i = c i := fun k a b => hf _ (by omega) (by omega) (by omega) (by omega) (by omega) (by omega)
    rw [show dTch (zAL D g t s K d) x = _ from zAL_o (by decide) (by decide), show dIll (zAL D g t s K d) x = _ from zAL_o (by decide) (by decide), hx _ (by omega) (by omega), hx _ (by omega) (by omega)]
    exact hC.2.2.2.2.2.1 x h
  · have hx : ∀ i, 45 ≤ i → i < 125 → c' i = c i := fun k a b => hf _ (by omega) (by omega) (by omega) (by omega) (by omega) (by omega)
    rw [show dRo (zAL D g t s K d) k = _ from zAL_o (by decide) (by decide), hx _ (by omega) (by omega)]
    exact hC.2.2.2.2.2.2.1 k h
  · have hx : ∀ i, 45 ≤ i → i < 125 → c' i = c i := fun k a b => hf _ (by omega) (by omega) (by omega) (by omega) (by omega) (by omega)
    rw [show dAp (zAL D g t s K d) e = _ from zAL_o (by decide) (by decide), hx _ (by omega) (by omega)]
    exact hC.2.2.2.2.2.2.2 e h
theorem z_kin1 {K : Nat} (h : K ≤ 3) : ¬ zk K < -1 ∧ ¬ nI 2 < zk K ∧ (zk K = -1 ∨ ∃ j, j < 3 ∧ zk K = nI j) := by
  rcases (by omega : K = 0 ∨ K = 1 ∨ K = 2 ∨ K = 3) with e | e | e | e <;> subst e
  · exact ⟨by decide, by decide, Or.inl rfl⟩
  · exact ⟨by decide, by decide, Or.inr ⟨0, by decide, rfl⟩⟩
  · exact ⟨by decide, by decide, Or.inr ⟨1, by decide, rfl⟩⟩
  · exact ⟨by decide, by decide, Or.inr ⟨2, by decide, rfl⟩⟩
theorem z_kin0 {x : Int32} (h1 : ¬ x = -1) (h2 : ∀ j, j < 3 → ¬ x = nI j) : x < -1 ∨ nI 2 < x := by
  by_cases h : x < 0
  · left
    rw [Int32.lt_iff_toInt_lt, Int32.toInt_zero] at h
    rw [Int32.lt_iff_toInt_lt, show (-1 : Int32).toInt = -1 by decide]
    have : ¬ x.toInt = -1 := fun q => h1 (Int32.toInt_inj.mp (q.trans (show (-1 : Int32).toInt = -1 by decide).symm))
    omega
  · right
    obtain ⟨j, hj, e⟩ := nI_of h
    have : ¬ j < 3 := fun q => h2 j q e
    rw [e]
    exact nI_lt (by omega) hj
theorem z_kin (x : Int32) : (∃ K, K ≤ 3 ∧ x = zk K) ∨ (¬ x = -1 ∧ ∀ j, j < 3 → ¬ x = nI j) := by
  by_cases h : x = -1
  · exact Or.inl ⟨0, by decide, h⟩
  · by_cases h2 : ∃ j, j < 3 ∧ x = nI j
    · obtain ⟨j, hj, e⟩ := h2
      exact Or.inl ⟨j + 1, by omega, by rw [e]; unfold zk; rw [if_neg (by omega)]; rfl⟩
    · exact Or.inr ⟨h, fun j hj e => h2 ⟨j, hj, e⟩⟩
theorem z_bb (b : Bool) : (if (if b then nI 1 else nI 0) = 0 then nI 0 else nI 1) = nI (if b then 1 else 0) := by
  cases b <;> rfl
theorem z_lesson_cls (ok : sj_ok G) {R : sj_R} {g t s K : Nat} {x5 : Int32} (hg : g < 4) (ht : t < 6) (hs : s < 6) (hK : K ≤ 3) (h33 : wp_X11_lesson_33 G R (nI g) (nI t) (nI s) (zk K) x5 σ) : sj_C G 11 me_X11_lesson [.ref (sj_ad G 0), .int (nI g), .int (nI t), .int (nI s), .int (zk K), .int x5] σ R := by
  refine c_X11_lesson ok (Or.inl ⟨_, z_range0 ok hg (by decide), Or.inl ⟨_, z_range0 ok ht (by decide), Or.inl ⟨_, z_range0 ok hs (by decide), fun _ => h33, fun q => ?_⟩⟩⟩)
  rcases (z_kin1 hK).2.2 with e | ⟨j, hj, e⟩
  · exact absurd e q
  · exact Or.inl ⟨_, by rw [e]; exact z_range0 ok hj (by decide), h33⟩
theorem y_lesson_mod (ok : sj_ok G) {R : sj_R} {g t s K : Nat} {x5 : Int32} (hg : g < 4) (ht : t < 6) (hs : s < 6) (hK : K ≤ 3) (h48 : wp_X12_lesson_48 G R (nI g) (nI t) (nI s) (zk K) x5 (nI 1) (sj_st σ 56 0 (nI 0))) : sj_C G 3 me_X12_lesson [.ref (sj_ad G 56), .int (nI g), .int (nI t), .int (nI s), .int (zk K), .int x5] σ R := by
  obtain ⟨k1, k2, -⟩ := z_kin1 hK
  refine c_X12_lesson ok ⟨_, _, y_inr1 ok (B := 3) hg (by decide), fun h => absurd h z_10, fun _ => ⟨_, _, y_inr1 ok (B := 5) ht (by decide), fun h => absurd h z_10, fun _ => ⟨_, _, y_inr1 ok (B := 5) hs (by decide), fun h => absurd h z_10, fun _ => ⟨_, _, y_in1 ok k1 k2, ?_⟩⟩⟩⟩
  rw [if_neg z_10]
  exact h48
theorem y_lesson_no (ok : sj_ok G) {x1 x2 x3 x4 x5 : Int32} (hin : (∀ j, j < 4 → ¬ x1 = nI j) ∨ (∃ g, g < 4 ∧ x1 = nI g) ∧ ((∀ j, j < 6 → ¬ x2 = nI j) ∨ (∃ g, g < 6 ∧ x2 = nI g) ∧ ((∀ j, j < 6 → ¬ x3 = nI j) ∨ (∃ g, g < 6 ∧ x3 = nI g) ∧ (¬ x4 = -1 ∧ ∀ j, j < 3 → ¬ x4 = nI j)))) :
    sj_C G 3 me_X12_lesson [.ref (sj_ad G 56), .int x1, .int x2, .int x3, .int x4, .int x5] σ (.ok (nI 0), sj_st (sj_st σ 56 0 (nI 0)) 56 0 (nI 1)) := by
  have hf : wp_X12_lesson_48 G (.ok (nI 0), sj_st (sj_st σ 56 0 (nI 0)) 56 0 (nI 1)) x1 x2 x3 x4 x5 (nI 0) (sj_st σ 56 0 (nI 0)) :=
    ⟨_, _, y_fails0 ok zT00 (by decide), fun h => absurd h z_10, fun _ => rfl⟩
  rcases hin with hx | ⟨⟨g, hg, rfl⟩, hx | ⟨⟨t, ht, rfl⟩, hx | ⟨⟨s, hs, rfl⟩, hx, hx2⟩⟩⟩
  · exact c_X12_lesson ok ⟨_, _, y_inr0 ok (B := 3) hx (by decide), fun _ => hf, fun h => absurd nI_0 h⟩
  · exact c_X12_lesson ok ⟨_, _, y_inr1 ok (B := 3) hg (by decide), fun h => absurd h z_10, fun _ => ⟨_, _, y_inr0 ok (B := 5) hx (by decide), fun _ => hf, fun h => absurd nI_0 h⟩⟩
  · exact c_X12_lesson ok ⟨_, _, y_inr1 ok (B := 3) hg (by decide), fun h => absurd h z_10, fun _ => ⟨_, _, y_inr1 ok (B := 5) ht (by decide), fun h => absurd h z_10, fun _ => ⟨_, _, y_inr0 ok (B := 5) hx (by decide), fun _ => hf, fun h => absurd nI_0 h⟩⟩⟩
  · refine c_X12_lesson ok ⟨_, _, y_inr1 ok (B := 3) hg (by decide), fun h => absurd h z_10, fun _ => ⟨_, _, y_inr1 ok (B := 5) ht (by decide), fun h => absurd h z_10, fun _ => ⟨_, _, y_inr1 ok (B := 5) hs (by decide), fun h => absurd h z_10, fun _ => ⟨_, _, y_in0 ok (z_kin0 hx hx2), ?_⟩⟩⟩⟩
    rw [if_pos z_00]
    exact hf
theorem p_lesson (ok : sj_ok G) (h : zA σ) (x1 x2 x3 x4 : Int32) (b : Bool) : zPair G (zI2 σ) 11 me_X11_lesson 3 me_X12_lesson [.int x1, .int x2, .int x3, .int x4, .int (if b then nI 1 else nI 0)] (zcd 1 2 0) σ := by
  obtain ⟨D, T, v, hC, hM, hT⟩ := h.1
  have h9 := v.1
  rcases z_rg x1 4 with ⟨g, hg, rfl⟩ | hx
  · rcases z_rg x2 6 with ⟨t, ht, rfl⟩ | hx
    · rcases z_rg x3 6 with ⟨s, hs, rfl⟩ | hx
      · rcases z_kin x4 with ⟨K, hK, rfl⟩ | hx
        · have c1 : σ 2 (96 + t) = nI (dTch D t) := (hC.2.2.2.2.2.1 t ht).1
          have m1 : σ 57 (93 + t) = nI (dTch D t) := (hM.2.2.2.2.2.1 t ht).1
          cases hbit : bt (nI (dTch D t)) s
          · have hc : sj_C G 11 me_X11_lesson [.ref (sj_ad G 0), .int (nI g), .int (nI t), .int (nI s), .int (zk K), .int (if b then nI 1 else nI 0)] σ (.error 1, σ) := by
              refine z_lesson_cls ok hg ht hs hK ⟨_, _, z_subjectsOf ok ht, fun q => ?_, fun _ => rfl⟩
              rw [z_bit (by omega), c1] at q
              exact absurd hbit q
            have hm : sj_C G 3 me_X12_lesson [.ref (sj_ad G 56), .int (nI g), .int (nI t), .int (nI s), .int (zk K), .int (if b then nI 1 else nI 0)] σ (.ok (nI 0), sj_st (sj_st σ 56 0 (nI 0)) 56 0 (nI 1)) := by
              refine y_lesson_mod ok hg ht hs hK ⟨_, _, y_fails1 ok zT00, fun _ => ⟨by rw [nI_add]; exact z_in (by omega) (by decide), ?_⟩, fun q => absurd nI_0 q⟩
              rw [nI_add, nI_clamp (by omega), z_stn (by decide), m1, z_bit1 (by omega), hbit, if_neg (show ¬ (false = true) by decide)]
              exact ⟨_, _, y_fails0 ok zT00 (by decide), fun _ => rfl, fun q => absurd q z_10⟩
            exact ⟨_, _, _, _, hc, hm, zSame_er (by decide) z_ste, zI2_th2 h⟩
          · have hb1 : ¬ ((σ 2 (96 + t) >>> (nI s &&& 31)) &&& nI 1) = 0 := by
              rw [z_bit (by omega), c1, hbit]
              decide
            by_cases hn : dN D < 9
            · obtain ⟨B, hB, eB, hch⟩ := z_chg2 ok h
              generalize eL : sj_st B 2 2 (nI 0) = L
              have hL2 : L 2 = upd (σ 2) 2 (nI 0) := by
                rw [← eL, z_sta, eB 2 (by decide) (by decide) (by decide)]
              have hlt : sj_C G 2 me_X8_loseTable [.ref (sj_ad G 1)] B (.ok 0, L) := by
                rw [← eL]
                exact z_loseTable ok
              have hr := z_addLesson (σ := L) ok (g := nI g) (t := nI t) (s := nI s) (k := zk K) (d := nI (if b then 1 else 0)) hn (by rw [hL2, z_un (by decide)]; exact hC.1)
              generalize eτ : zAddL L (dN D) (nI g) (nI t) (nI s) (zk K) (nI (if b then 1 else 0)) = τ at hr
              have hτ : ∀ b, b ≠ 2 → τ b = B b := fun b hb => by
                rw [← eτ]
                unfold zAddL
                rw [z_stn hb, z_stn hb, z_stn hb, z_stn hb, z_stn hb, z_stn hb, ← eL, z_stn hb]
              have t2 : τ 2 = upd (upd (upd (upd (upd (upd (upd (σ 2) 2 (nI 0)) (3 + dN D * 5 + 0) (nI g)) (3 + dN D * 5 + 1) (nI t)) (3 + dN D * 5 + 2) (nI s)) (3 + dN D * 5 + 3) (zk K)) (3 + dN D * 5 + 4) (nI (if b then 1 else 0))) 0 (nI (dN D + 1)) := by
                rw [← eτ]
                unfold zAddL
                rw [z_sta, z_sta, z_sta, z_sta, z_sta, z_sta, hL2]
              obtain ⟨σ', hkp, k1, k57, k0, hfin⟩ := hch τ (fun b hb => hτ b (zne (by decide) hb))
              have hc : sj_C G 11 me_X11_lesson [.ref (sj_ad G 0), .int (nI g), .int (nI t), .int (nI s), .int (zk K), .int (if b then nI 1 else nI 0)] σ (.ok (nI (dN D)), τ) := by
                refine z_lesson_cls ok hg ht hs hK ⟨_, _, z_subjectsOf ok ht, fun _ => ⟨_, _, z_lessonTotal ok, fun _ => ⟨_, hB, _, hlt, ?_⟩, fun q => ?_⟩, fun q => absurd q hb1⟩
                · unfold wp_X11_lesson_110
                  rw [z_bb]
                  exact ⟨_, _, hr, rfl⟩
                · rw [hC.1] at q
                  exact absurd (nI_lt hn (by omega)) q
              have t57 : sj_st τ 56 0 (nI 0) 57 = σ 57 := by rw [z_stn (by decide), hτ 57 (by decide), eB 57 (by decide) (by decide) (by decide)]
              generalize eρ : sj_st (sj_st (sj_st (sj_st (sj_st (sj_st (sj_st σ' 57 (0 + dN D) (nI g)) 57 (9 + dN D) (nI t)) 57 (18 + dN D) (nI s)) 57 (27 + dN D) (zk K)) 57 (36 + dN D) (nI (if b then 1 else 0))) 57 125 (nI (dN D + 1))) 57 127 (nI 0) = ρ
              have hm : sj_C G 3 me_X12_lesson [.ref (sj_ad G 56), .int (nI g), .int (nI t), .int (nI s), .int (zk K), .int (if b then nI 1 else nI 0)] τ (.ok (nI (dN D)), ρ) := by
                refine y_lesson_mod ok hg ht hs hK ⟨_, _, y_fails1 ok zT00, fun _ => ⟨by rw [nI_add]; exact z_in (by omega) (by decide), ?_⟩, fun q => absurd nI_0 q⟩
                rw [nI_add, nI_clamp (by omega), t57, m1, z_bit1 (by omega), hbit, if_pos rfl]
                refine ⟨_, _, y_fails1 ok zT00, fun q => absurd nI_0 q, fun _ => ⟨_, _, y_many ok, ?_⟩⟩
                rw [t57, hM.1, if_neg (nI_ge hn (by omega))]
                refine ⟨_, _, y_fails1 ok zT00, fun _ => ⟨_, hkp, _, _, y_many ok, ?_⟩, fun q => absurd nI_0 q⟩
                rw [k57, hM.1]
                simp only [nI_add]
                refine ⟨z_in (by omega) (by decide), z_in (by omega) (by decide), z_in (by omega) (by decide), z_in (by omega) (by decide), ?_⟩
                unfold wp_X12_lesson_184
                rw [nI_clamp (by omega), nI_clamp (by omega), nI_clamp (by omega), nI_clamp (by omega), nI_clamp (by omega), z_bb]
                refine ⟨z_in (by omega) (by decide), ?_⟩
                rw [z_sti (by omega), z_sti (by omega), z_sti (by omega), z_sti (by omega), z_sti (by omega), k57, hM.1, nI_add, eρ]
              have hρ : ∀ b, b ≠ 57 → ρ b = σ' b := fun b hb => by
                rw [← eρ, z_stn hb, z_stn hb, z_stn hb, z_stn hb, z_stn hb, z_stn hb, z_stn hb]
              refine ⟨_, _, _, _, hc, hm, zSame_ok ?_ rfl, hfin _ (fun b hb => hρ b (zne (by decide) hb)) ?_⟩
              · rw [hρ 56 (by decide), k0]
              · have r57 : ρ 57 = upd (upd (upd (upd (upd (upd (upd (σ 57) (0 + dN D) (nI g)) (9 + dN D) (nI t)) (18 + dN D) (nI s)) (27 + dN D) (zk K)) (36 + dN D) (nI (if b then 1 else 0))) 125 (nI (dN D + 1))) 127 (nI 0) := by
                  rw [← eρ, z_sta, z_sta, z_sta, z_sta, z_sta, z_sta, z_sta, k57]
                rw [hρ 2 (by decide), k1 2 (by decide) (by decide), t2, r57]
                have hd : (if b then 1 else 0) ≤ 1 := by split <;> omega
                have v0 : okD (zNoT D) := okD_noT v
                refine ⟨zAL (zNoT D) g t s K (if b then 1 else 0), T, okD_al v0 hn hg ht hs hK hd, repC_al v0 (repC_noT v hC) hn, ?_, fun q => absurd (show (0 : Nat) = 1 from q) (by decide)⟩
                rw [zAL_noT]
                exact repM_noT (okD_al v hn hg ht hs hK hd) (repM_al v hM hn)
            · have hc : sj_C G 11 me_X11_lesson [.ref (sj_ad G 0), .int (nI g), .int (nI t), .int (nI s), .int (zk K), .int (if b then nI 1 else nI 0)] σ (.error 2, σ) := by
                refine z_lesson_cls ok hg ht hs hK ⟨_, _, z_subjectsOf ok ht, fun _ => ⟨_, _, z_lessonTotal ok, fun q => ?_, fun _ => rfl⟩, fun q => absurd q hb1⟩
                rw [hC.1] at q
                exact absurd q (nI_nlt (by omega) (by omega))
              have hm : sj_C G 3 me_X12_lesson [.ref (sj_ad G 56), .int (nI g), .int (nI t), .int (nI s), .int (zk K), .int (if b then nI 1 else nI 0)] σ (.ok (nI 0), sj_st (sj_st σ 56 0 (nI 0)) 56 0 (nI 2)) := by
                refine y_lesson_mod ok hg ht hs hK ⟨_, _, y_fails1 ok zT00, fun _ => ⟨by rw [nI_add]; exact z_in (by omega) (by decide), ?_⟩, fun q => absurd nI_0 q⟩
                rw [nI_add, nI_clamp (by omega), z_stn (by decide), m1, z_bit1 (by omega), hbit, if_pos rfl]
                refine ⟨_, _, y_fails1 ok zT00, fun q => absurd nI_0 q, fun _ => ⟨_, _, y_many ok, ?_⟩⟩
                rw [z_stn (by decide), hM.1, if_pos (nI_le (by omega) (by omega))]
                exact ⟨_, _, y_fails0 ok zT00 (by decide), fun q => absurd q z_10, fun _ => rfl⟩
              exact ⟨_, _, _, _, hc, hm, zSame_er (by decide) z_ste, zI2_th2 h⟩
        · exact ⟨_, _, _, _, c_X11_lesson ok (Or.inl ⟨_, z_range0 ok hg (by decide), Or.inl ⟨_, z_range0 ok ht (by decide), Or.inl ⟨_, z_range0 ok hs (by decide), fun q => absurd q hx.1, fun _ => Or.inr ⟨_, _, z_range1 ok hx.2 (by decide) (by decide), rfl⟩⟩⟩⟩), y_lesson_no ok (Or.inr ⟨⟨g, hg, rfl⟩, Or.inr ⟨⟨t, ht, rfl⟩, Or.inr ⟨⟨s, hs, rfl⟩, hx⟩⟩⟩), zSame_er (by decide) z_ste, zI2_th2 h⟩
      · exact ⟨_, _, _, _, c_X11_lesson ok (Or.inl ⟨_, z_range0 ok hg (by decide), Or.inl ⟨_, z_range0 ok ht (by decide), Or.inr ⟨_, _, z_range1 ok hx (by decide) (by decide), rfl⟩⟩⟩), y_lesson_no ok (Or.inr ⟨⟨g, hg, rfl⟩, Or.inr ⟨⟨t, ht, rfl⟩, Or.inl hx⟩⟩), zSame_er (by decide) z_ste, zI2_th2 h⟩
    · exact ⟨_, _, _, _, c_X11_lesson ok (Or.inl ⟨_, z_range0 ok hg (by decide), Or.inr ⟨_, _, z_range1 ok hx (by decide) (by decide), rfl⟩⟩), y_lesson_no ok (Or.inr ⟨⟨g, hg, rfl⟩, Or.inl hx⟩), zSame_er (by decide) z_ste, zI2_th2 h⟩
  · exact ⟨_, _, _, _, c_X11_lesson ok (Or.inr ⟨_, _, z_range1 ok hx (by decide) (by decide), rfl⟩), y_lesson_no ok (Or.inl hx), zSame_er (by decide) z_ste, zI2_th2 h⟩
end ZP5
