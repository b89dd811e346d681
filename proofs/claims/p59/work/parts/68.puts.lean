/-! A NEW TABLE: a school but for whether it has a table; keeps and puts; choices, move -/
def zD2 (D' D : zD) : Prop := ∀ f, f ≠ 2 → D' f = D f
theorem zD2_up {D : zD} {x : Nat} : zD2 (zUp D 2 0 x) D := fun f h => by
  funext i
  show (if f = 2 then _ else D f i) = D f i
  rw [if_neg h]
section ZD2
variable {D D' : zD} {T : Nat → Nat} {H : Nat → Bool}
theorem zAny_2 (h : zD2 D' D) {b p i : Nat} : ∀ n, zAny D' b p T i n = zAny D b p T i n := by
  have e3 := h 3 (by decide)
  have e4 := h 4 (by decide)
  have e7 := h 7 (by decide)
  intro n
  induction n with
  | zero => rfl
  | succ n ih =>
    show (zAny D' b p T i n || (decide (dP D' b n = p) && zTk D' T n i)) = (zAny D b p T i n || (decide (dP D b n = p) && zTk D T n i))
    rw [ih]
    unfold dP zTk dTe dG dDb
    rw [e3, e4, e7]
theorem zFul_2 (h : zD2 D' D) (w : Nat) : zFul D' T w = zFul D T w := by
  unfold zFul dSo dA dB dN
  rw [h 8 (by decide), h 9 (by decide), h 10 (by decide), h 0 (by decide), zAny_2 h, zAny_2 h]
theorem zCost_2 (h : zD2 D' D) : zCost D' T = zCost D T := by
  have eg : ∀ b p, zGap D' T b p = zGap D T b p := fun b p => by
    unfold zGap dN
    rw [h 0 (by decide)]
    have e : (fun i => zAny D' b p T i (D 0 0)) = (fun i => zAny D b p T i (D 0 0)) := funext (fun i => zAny_2 h _)
    rw [e]
  have ew : ∀ w, zWt D' T w = zWt D T w := fun w => by
    unfold zWt dWe
    rw [zFul_2 h, h 11 (by decide)]
  unfold zCost dW
  rw [h 1 (by decide), zSumN_congr 4 (fun i _ => eg 0 i), zSumN_congr 6 (fun i _ => eg 1 i), zSumN_congr (D 1 0) (fun i _ => ew i)]
theorem zF1_2 (h : zD2 D' D) (w l : Nat) : zF1 D' T w l = zF1 D T w l := by
  unfold zF1 zTk dDb
  rw [h 8 (by decide), h 9 (by decide), h 10 (by decide), h 3 (by decide), h 4 (by decide), h 7 (by decide)]
theorem zSt_2 (h : zD2 D' D) (l i : Nat) : zSt D' H l i = zSt D H l i := by
  have e : q_any (fun w => H w && decide (dSo D' w ≤ 3) && !zF1 D' (fun _ => i) w l) (dW D) = q_any (fun w => H w && decide (dSo D w ≤ 3) && !zF1 D (fun _ => i) w l) (dW D) := q_any_congr _ (fun w _ => by
    unfold dSo
    rw [h 8 (by decide), zF1_2 h])
  unfold zSt
  rw [← e]
  unfold dDb dW
  rw [h 7 (by decide), h 1 (by decide)]
theorem zCn_2 (h : zD2 D' D) (l i f : Nat) : zCn D' T l i f = zCn D T l i f := by
  unfold zCn
  refine q_cnt_congr f (fun o _ => ?_)
  unfold zTk dKi dDb
  rw [h 6 (by decide), h 7 (by decide)]
theorem zRm_2 (h : zD2 D' D) (l i f : Nat) : zRm D' T l i f = zRm D T l i f := by
  unfold zRm
  rw [zCn_2 h, zCn_2 h]
  unfold dKi dDb dRo
  rw [h 6 (by decide), h 7 (by decide), h 13 (by decide)]
theorem zPr_2 (h : zD2 D' D) (l i o j : Nat) : zPr D' H l i o j = zPr D H l i o j := by
  have e : q_any (fun w => !zPw D' H l i o j w) (dW D) = q_any (fun w => !zPw D H l i o j w) (dW D) := q_any_congr _ (fun w _ => by
    unfold zPw dSo dA dB
    rw [h 8 (by decide), h 9 (by decide), h 10 (by decide)])
  unfold zPr
  rw [← e]
  unfold zClash zLike dG dTe dSu dDb dW
  rw [h 3 (by decide), h 4 (by decide), h 5 (by decide), h 7 (by decide), h 1 (by decide)]
theorem zRi_2 (h : zD2 D' D) : zRi D' H T ↔ zRi D H T := by
  have e0 : dN D' = dN D := by unfold dN; rw [h 0 (by decide)]
  unfold zRi
  rw [e0]
  refine forall_congr' (fun l => imp_congr_right (fun _ => ?_))
  rw [zSt_2 h, zRm_2 h]
  refine and_congr_right (fun _ => and_congr_right (fun _ => and_congr_right (fun _ => ?_)))
  refine forall_congr' (fun o => imp_congr_right (fun _ => ?_))
  rw [zPr_2 h]
theorem zHd_2 (h : zD2 D' D) : zHd D' = zHd D := by
  funext w
  unfold zHd dWe
  rw [h 11 (by decide)]
theorem zRt_2 (h : zD2 D' D) (v : okD D) (v' : okD D') : zRtH D' (zHd D') T ↔ zRi D (zHd D) T := by
  rw [zRi_iff v', zHd_2 h, zRi_2 h]
end ZD2
theorem okD_T {D : zD} (v : okD D) : okD (zUp D 2 0 1) := ⟨v.1, v.2.1, Nat.le_refl 1, v.2.2.2.1, v.2.2.2.2.1, v.2.2.2.2.2.1, v.2.2.2.2.2.2.1, v.2.2.2.2.2.2.2⟩
theorem repC_T {D : zD} {c : Nat → Int32} (v : okD D) (hC : repC D c) : repC (zUp D 2 0 1) (upd c 2 (nI 1)) :=
  ⟨(z_un (by decide)).trans hC.1, (z_un (by decide)).trans hC.2.1, z_ue, rC_L (D := D) v hC (fun i h1 h2 => z_un (by omega)), rC_W (D := D) v hC (fun i h1 h2 => z_un (by omega)), rC_T (D := D) hC (fun i h1 h2 => z_un (by omega)) (fun i h1 h2 => z_un (by omega)), rC_R (D := D) hC (fun i h1 h2 => z_un (by omega)), rC_A (D := D) hC (fun i h1 h2 => z_un (by omega))⟩
theorem repM_T {D : zD} {c c' : Nat → Int32} (v : okD D) (hM : repM D c) (h : ∀ i, i < 116 → c' i = c i) (h1 : c' 125 = c 125) (h2 : c' 126 = c 126) (h3 : c' 127 = nI 1) : repM (zUp D 2 0 1) c' :=
  ⟨h1.trans hM.1, h2.trans hM.2.1, h3, rM_L (D := D) v hM (fun i h1 => h i (by omega)), rM_W (D := D) v hM (fun i _ h2 => h i (by omega)), rM_T (D := D) hM (fun i _ h2 => h i (by omega)) (fun i _ h2 => h i (by omega)), rM_R (D := D) hM (fun i _ h2 => h i (by omega)), rM_A (D := D) hM (fun i _ h2 => h i (by omega))⟩
section ZPU
variable {G : sj_G} {σ : sj_S} {D : zD} {T : Nat → Nat}
def zPt (f a : Nat → Int32) (n : Nat) : Nat → Int32 := fun i => if i = 127 then nI 1 else if 116 ≤ i ∧ i < 116 + n then a (i - 116) else f i
theorem zPt_rep {f a : Nat → Int32} (v : okD D) (hM : repM D f) : repM (zUp D 2 0 1) (zPt f a (dN D)) := by
  have h9 := v.1
  refine repM_T v hM (fun i hi => ?_) ?_ ?_ ?_
  · unfold zPt; rw [if_neg (by omega), if_neg (by omega)]
  · unfold zPt; rw [if_neg (by omega), if_neg (by omega)]
  · unfold zPt; rw [if_neg (by omega), if_neg (by omega)]
  · unfold zPt; rw [if_pos rfl]
theorem zPt_at {f a : Nat → Int32} {n l : Nat} (hl : l < n) (hn : n ≤ 9) : zPt f a n (116 + l) = a l := by
  unfold zPt
  rw [if_neg (by omega), if_pos (by omega), show 116 + l - 116 = l by omega]
theorem z_hard (ok : sj_ok G) (hC : repC D (σ 2)) (v : okD D) : ∃ τ, sj_C G 3 me_X8_hardWishes [.ref (sj_ad G 1)] σ (.ok (zHard D (dW D)), σ) ∧ sj_C G 5 me_X7_take [.ref (sj_ad G 6), .ref (sj_ad G 1), .int (zHard D (dW D))] σ (.ok 0, τ) ∧ zRu D (zHd D) τ 6 ∧ ∀ k, (k < 6 ∨ 16 < k) → τ k = σ k := by
  obtain ⟨τ, h1, h2, h3⟩ := z_take (b := 6) ok hC v (Or.inl rfl) (zHard D (dW D))
  exact ⟨τ, z_hardWishes ok hC v, h1, zRu_H (zHard_H v) h2, fun k hk => h3 k (fun j hj => by omega)⟩
theorem zI2_tr {σ1 : sj_S} {ρ : sj_S} (hk : ∀ k, (k < 6 ∨ 16 < k) → σ1 k = σ k) (h : zI2 σ1 ρ) : zI2 σ ρ := by
  obtain ⟨h1, h2, h3, h4⟩ := h
  refine ⟨h1, fun b hb => (h2 b hb).trans (hk b ?_), fun k hq => by rw [h3 k hq, hk 56 (by omega)], by rw [h4, hk 30 (by omega)]⟩
  have : ∀ b, b ∈ [33, 46, 47, 48, 49, 50, 51, 52, 54, 55, 70, 71, 72, 73, 74, 75, 76] → b < 6 ∨ 16 < b := by decide
  exact this b hb
theorem zA_tr {σ1 : sj_S} (hk : ∀ k, (k < 6 ∨ 16 < k) → σ1 k = σ k) (h : zA σ) : zA σ1 := by
  refine zA_of h (fun b hb => hk b ?_) (by rw [hk 56 (by omega)]) (by rw [hk 56 (by omega)]) (by rw [hk 30 (by omega)])
  have : ∀ b, b ∈ [2, 3, 4, 5, 32, 57, 58, 62] → b < 6 ∨ 16 < b := by decide
  exact this b hb
end ZPU
