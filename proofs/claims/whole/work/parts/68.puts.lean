/-! A NEW TABLE: a school but for whether it has a table; keeps and puts; choices, move -/
def zD2 (D' D : zD) : Prop := ∀ f, f ≠ 2 → D' f = D f
theorem zD2_up {D : zD} {x : Nat} : zD2 (zUp D 2 0 x) D := fun f h => by
  funext i
  show (if f = 2 then _ else D f i) = D f i
  rw [if_neg h]
section ZD2
variable {D D' : zD} {T : Nat → Nat} {H : Nat → Bool}
theorem zAny_2 (h : zD2 D' D) {b p i : Nat} : ∀ n, zAny D' b p T i n = zAny D b p T i n := by
  have e3 := h 3 (by decide)
  have e4 := h 4 (by decide)
  have e7 := h 7 (by decide)
  intro n
  induction n with
  | zero => rfl
  | succ n ih =>
    show (zAny D' b p T i n || (decide (dP D' b n = p) && zTk D' T n i)) = (zAny D b p T i n || (decide (dP D b n = p) && zTk D T n i))
    rw [ih]
    unfold dP zTk dTe dG dDb
    rw [e3, e4, e7]
theorem zFul_2 (h : zD2 D' D) (w : Nat) : zFul D' T w = zFul D T w := by
  unfold zFul dSo dA dB dN
  rw [h 8 (by decide), h 9 (by decide), h 10 (by decide), h 0 (by decide), zAny_2 h, zAny_2 h]
theorem zCost_2 (h : zD2 D' D) : zCost D' T = zCost D T := by
  have eg : ∀ b p, zGap D' T b p = zGap D T b p := fun b p => by
    unfold zGap dN
    rw [h 0 (by decide)]
    have e : (fun i => zAny D' b p T i (D 0 0)) = (fun i => zAny D b p T i (D 0 0)) := funext (fun i => zAny_2 h _)
    rw [e]
  have ew : ∀ w, zWt D' T w = zWt D T w := fun w => by
    unfold zWt dWe
    rw [zFul_2 h, h 11 (by decide)]
  unfold zCost dW
  rw [h 1 (by decide), zSumN_congr 4 (fun i _ => eg 0 i), zSumN_congr 6 (fun i _ => eg 1 i), zSumN_congr (D 1 0) (fun i _ => ew i)]
theorem zF1_2 (h : zD2 D' D) (w l : Nat) : zF1 D' T w l = zF1 D T w l := by
  unfold zF1 zTk dDb
  rw [h 8 (by decide), h 9 (by decide), h 10 (by decide), h 3 (by decide), h 4 (by decide), h 7 (by decide)]
theorem zSt_2 (h : zD2 D' D) (l i : Nat) : zSt D' H l i = zSt D H l i := by
  have e : q_any (fun w => H w && decide (dSo D' w ≤ 3) && !zF1 D' (fun _ => i) w l) (dW D) = q_any (fun w => H w && decide (dSo D w ≤ 3) && !zF1 D (fun _ => i) w l) (dW D) := q_any_congr _ (fun w _ => by
    unfold dSo
    rw [h 8 (by decide), zF1_2 h])
  unfold zSt
  rw [← e]
  unfold dDb dW
  rw [h 7 (by decide), h 1 (by decide)]
theorem zCn_2 (h : zD2 D' D) (l i f : Nat) : zCn D' T l i f = zCn D T l i f := by
  unfold zCn
  refine q_cnt_congr f (fun o _ => ?_)
  unfold zTk dKi dDb
  rw [h 6 (by decide), h 7 (by decide)]
theorem zRm_2 (h : zD2 D' D) (l i f : Nat) : zRm D' T l i f = zRm D T l i f := by
  unfold zRm
  rw [zCn_2 h, zCn_2 h]
  unfold dKi dDb dRo
  rw [h 6 (by decide), h 7 (by decide), h 13 (by decide)]
theorem zPr_2 (h : zD2 D' D) (l i o j : Nat) : zPr D' H l i o j = zPr D H l i o j := by
  have e : q_any (fun w => !zPw D' H l i o j w) (dW D) = q_any (fun w => !zPw D H l i o j w) (dW D) := q_any_congr _ (fun w _ => by
    unfold zPw dSo dA dB
    rw [h 8 (by decide), h 9 (by decide), h 10 (by decide)])
  unfold zPr
  rw [← e]
  unfold zClash zLike dG dTe dSu dDb dW
  rw [h 3 (by decide), h 4 (by decide), h 5 (by decide), h 7 (by decide), h 1 (by decide)]
theorem zRi_2 (h : zD2 D' D) : zRi D' H T ↔ zRi D H T := by
  have e0 : dN D' = dN D := by unfold dN; rw [h 0 (by decide)]
  unfold zRi
  rw [e0]
  refine forall_congr' (fun l => imp_congr_right (fun _ => ?_))
  rw [zSt_2 h, zRm_2 h]
  refine and_congr_right (fun _ => and_congr_right (fun _ => and_congr_right (fun _ => ?_)))
  refine forall_congr' (fun o => imp_congr_right (fun _ => ?_))
  rw [zPr_2 h]
theorem zHd_2 (h : zD2 D' D) : zHd D' = zHd D := by
  funext w
  unfold zHd dWe
  rw [h 11 (by decide)]
theorem zRt_2 (h : zD2 D' D) (v : okD D) (v' : okD D') : zRtH D' (zHd D') T ↔ zRi D (zHd D) T := by
  rw [zRi_iff v', zHd_2 h, zRi_2 h]
end ZD2
theorem okD_T {D : zD} (v : okD D) : okD (zUp D 2 0 1) := ⟨v.1, v.2.1, Nat.le_refl 1, v.2.2.2.1, v.2.2.2.2.1, v.2.2.2.2.2.1, v.2.2.2.2.2.2.1, v.2.2.2.2.2.2.2⟩
theorem repC_T {D : zD} {c : Nat → Int32} (v : okD D) (hC : repC D c) : repC (zUp D 2 0 1) (upd c 2 (nI 1)) :=
  ⟨(z_un (by decide)).trans hC.1, (z_un (by decide)).trans hC.2.1, z_ue, rC_L (D := D) v hC (fun i h1 h2 => z_un (by omega)), rC_W (D := D) v hC (fun i h1 h2 => z_un (by omega)), rC_T (D := D) hC (fun i h1 h2 => z_un (by omega)) (fun i h1 h2 => z_un (by omega)), rC_R (D := D) hC (fun i h1 h2 => z_un (by omega)), rC_A (D := D) hC (fun i h1 h2 => z_un (by omega))⟩
theorem repM_T {D : zD} {c c' : Nat → Int32} (v : okD D) (hM : repM D c) (h : ∀ i, i < 116 → c' i = c i) (h1 : c' 125 = c 125) (h2 : c' 126 = c 126) (h3 : c' 127 = nI 1) : repM (zUp D 2 0 1) c' :=
  ⟨h1.trans hM.1, h2.trans hM.2.1, h3, rM_L (D := D) v hM (fun i h1 => h i (by omega)), rM_W (D := D) v hM (fun i _ h2 => h i (by omega)), rM_T (D := D) hM (fun i _ h2 => h i (by omega)) (fun i _ h2 => h i (by omega)), rM_R (D := D) hM (fun i _ h2 => h i (by omega)), rM_A (D := D) hM (fun i _ h2 => h i (by omega))⟩
section ZPU
variable {G : sj_G} {σ : sj_S} {D : zD} {T : Nat → Nat}
theorem z_chg3 (ok : sj_ok G) (h : zA σ) : ∃ B, sj_C G 3 me_X11_beginChange [.ref (sj_ad G 0)] σ (.ok 0, B) ∧ (∀ b, b ≠ 4 → b ≠ 5 → b ≠ 30 → B b = σ b) ∧ ∀ κ, (∀ b, b ∈ zLB → b ≠ 56 → κ b = B b) → (∀ k, k ≠ 0 → κ 56 k = B 56 k) → κ 56 0 = nI 0 → ∃ σ', sj_C G 2 me_X12_keeps [.ref (sj_ad G 56)] κ (.ok 0, σ') ∧ (∀ b, b ≠ 56 → b ≠ 58 → σ' b = κ b) ∧ σ' 57 = σ 57 ∧ σ' 56 0 = nI 0 ∧ ∀ ρ, (∀ b, b ∈ zLR → ρ b = σ' b) → zSR (ρ 2) (ρ 3) (ρ 57) → zI2 σ ρ := by
  obtain ⟨B, hB, eB, hch⟩ := z_chg2 ok h
  refine ⟨B, hB, eB, fun κ h1 h2 h3 => ?_⟩
  have e1 : sj_st (sj_st κ 56 0 (B 56 0)) 56 0 (nI 0) = κ := by
    have e : sj_st (sj_st κ 56 0 (B 56 0)) 56 0 (nI 0) = sj_st κ 56 0 (κ 56 0) := by
      rw [h3]
      funext b
      by_cases q : b = 56
      · subst q
        rw [z_sta, z_sta, z_sta]
        funext i
        unfold upd
        by_cases r : i = 0
        · rw [if_pos r, if_pos r]
        · rw [if_neg r, if_neg r, if_neg r]
      · rw [z_stn q, z_stn q, z_stn q]
    rw [e, z_st_self]
  obtain ⟨σ', g1, g2, g3, g4, g5⟩ := hch (sj_st κ 56 0 (B 56 0)) (fun b hb => by
    by_cases q : b = 56
    · subst q
      rw [z_sta]
      funext i
      unfold upd
      by_cases r : i = 0
      · rw [if_pos r, r]
      · rw [if_neg r]; exact h2 i r
    · rw [z_stn q]; exact h1 b hb q)
  rw [e1] at g1
  exact ⟨σ', g1, fun b q1 q2 => by rw [g2 b q1 q2, z_stn q1], g3, g4, g5⟩
def zPt (f a : Nat → Int32) (n : Nat) : Nat → Int32 := fun i => if i = 127 then nI 1 else if 116 ≤ i ∧ i < 116 + n then a (i - 116) else f i
theorem y_puts (ok : sj_ok G) {σ' : sj_S} (hk : sj_C G 2 me_X12_keeps [.ref (sj_ad G 56)] σ (.ok 0, σ')) {n : Nat} (hn : n ≤ 9) (h0 : σ' 57 125 = nI n) : sj_C G 3 me_X12_puts [.ref (sj_ad G 56)] σ (.ok 0, sj_up σ' 57 (zPt (σ' 57) (σ' 59) n)) := by
  refine c_X12_puts ok ⟨_, hk, ?_⟩
  have key : ∀ j i, i + j = n → sj_J G 3 me_X12_puts (.ok 0, sj_up σ' 57 (zPt (σ' 57) (σ' 59) n)) 6 [.ref (sj_ad G 56), .int (nI i)] (sj_up σ' 57 (fun k => if 116 ≤ k ∧ k < 116 + i then σ' 59 (k - 116) else σ' 57 k)) [] := by
    intro j
    induction j with
    | zero =>
      intro i hi
      have : i = n := by omega
      subst this
      refine t_X12_puts_6 ⟨_, _, y_many ok, fun _ => ?_, fun q => ?_⟩
      · rw [z_st_up]
        refine congrArg (fun f => ((.ok 0, sj_up σ' 57 f) : sj_R)) ?_
        funext k
        unfold zPt upd
        by_cases q : k = 127
        · rw [if_pos q]
        · rw [if_neg q]
      · rw [sj_up_s] at q
        have q : ¬ (if 116 ≤ 125 ∧ 125 < 116 + i then σ' 59 (125 - 116) else σ' 57 125) ≤ nI i := q
        rw [if_neg (by omega), h0] at q
        exact absurd (nI_le (by omega) (by omega)) q
    | succ j ih =>
      intro i hi
      have h1 := ih (i + 1) (by omega)
      refine t_X12_puts_6 ⟨_, _, y_many ok, fun q => ?_, fun _ => ⟨z_in (by omega) (by decide), ?_, ?_⟩⟩
      · rw [sj_up_s] at q
        have q : (if 116 ≤ 125 ∧ 125 < 116 + i then σ' 59 (125 - 116) else σ' 57 125) ≤ nI i := q
        rw [if_neg (by omega), h0] at q
        exact absurd q (nI_ge (by omega) (by omega))
      · rw [nI_add]; exact z_in (by omega) (by decide)
      · rw [nI_add, nI_add, nI_clamp (by omega), nI_clamp (by omega), z_upn (by decide), z_st_up]
        have e : upd (fun k => if 116 ≤ k ∧ k < 116 + i then σ' 59 (k - 116) else σ' 57 k) (116 + i) (σ' 59 i) = fun k => if 116 ≤ k ∧ k < 116 + (i + 1) then σ' 59 (k - 116) else σ' 57 k := by
          funext k
          unfold upd
          by_cases q : k = 116 + i
          · rw [if_pos q, if_pos (by omega), show k - 116 = i by omega]
          · rw [if_neg q]
            show (if 116 ≤ k ∧ k < 116 + i then σ' 59 (k - 116) else σ' 57 k) = _
            by_cases r : 116 ≤ k ∧ k < 116 + i
            · rw [if_pos r, if_pos (by omega)]
            · rw [if_neg r, if_neg (by omega)]
        rw [e]
        exact h1
  have h1 := key n 0 (by omega)
  have e : (fun k => if 116 ≤ k ∧ k < 116 + 0 then σ' 59 (k - 116) else σ' 57 k) = σ' 57 := by
    funext k
    rw [if_neg (by omega)]
  rw [e, z_up_self] at h1
  exact h1
/-- the reference's row behind puts() -/
theorem zPt_rep {f a : Nat → Int32} (v : okD D) (hM : repM D f) : repM (zUp D 2 0 1) (zPt f a (dN D)) := by
  have h9 := v.1
  refine repM_T v hM (fun i hi => ?_) ?_ ?_ ?_
  · unfold zPt; rw [if_neg (by omega), if_neg (by omega)]
  · unfold zPt; rw [if_neg (by omega), if_neg (by omega)]
  · unfold zPt; rw [if_neg (by omega), if_neg (by omega)]
  · unfold zPt; rw [if_pos rfl]
theorem zPt_at {f a : Nat → Int32} {n l : Nat} (hl : l < n) (hn : n ≤ 9) : zPt f a n (116 + l) = a l := by
  unfold zPt
  rw [if_neg (by omega), if_pos (by omega), show 116 + l - 116 = l by omega]
theorem z_hard (ok : sj_ok G) (hC : repC D (σ 2)) (v : okD D) : ∃ τ, sj_C G 3 me_X8_hardWishes [.ref (sj_ad G 1)] σ (.ok (zHard D (dW D)), σ) ∧ sj_C G 5 me_X7_take [.ref (sj_ad G 6), .ref (sj_ad G 1), .int (zHard D (dW D))] σ (.ok 0, τ) ∧ zRu D (zHd D) τ 6 ∧ ∀ k, (k < 6 ∨ 16 < k) → τ k = σ k := by
  obtain ⟨τ, h1, h2, h3⟩ := z_take (b := 6) ok hC v (Or.inl rfl) (zHard D (dW D))
  exact ⟨τ, z_hardWishes ok hC v, h1, zRu_H (zHard_H v) h2, fun k hk => h3 k (fun j hj => by omega)⟩
theorem zI2_tr {σ1 : sj_S} {ρ : sj_S} (hk : ∀ k, (k < 6 ∨ 16 < k) → σ1 k = σ k) (h : zI2 σ1 ρ) : zI2 σ ρ := by
  obtain ⟨h1, h2, h3, h4⟩ := h
  refine ⟨h1, fun b hb => (h2 b hb).trans (hk b ?_), fun k hq => by rw [h3 k hq, hk 56 (by omega)], by rw [h4, hk 30 (by omega)]⟩
  have : ∀ b, b ∈ [33, 46, 47, 48, 49, 50, 51, 52, 54, 55, 70, 71, 72, 73, 74, 75, 76] → b < 6 ∨ 16 < b := by decide
  exact this b hb
theorem zA_tr {σ1 : sj_S} (hk : ∀ k, (k < 6 ∨ 16 < k) → σ1 k = σ k) (h : zA σ) : zA σ1 := by
  refine zA_of h (fun b hb => hk b ?_) (by rw [hk 56 (by omega)]) (by rw [hk 56 (by omega)]) (by rw [hk 30 (by omega)])
  have : ∀ b, b ∈ [2, 3, 4, 5, 32, 57, 58, 62] → b < 6 ∨ 16 < b := by decide
  exact this b hb
theorem p_choices (ok : sj_ok G) (h : zA σ) (x : Int32) : zPair G (zI2 σ) 10 me_X11_choices 7 me_X12_choices [.int x] (zcd 3 2 0) σ := by
  obtain ⟨D, T, v, hC, hM, hT⟩ := h.1
  have h9 := v.1
  have hM0 : repM D (sj_st σ 56 0 (nI 0) 57) := by rw [z_stn (by decide)]; exact hM
  rcases z_rg x (dN D) with ⟨l, hl, rfl⟩ | hx
  · by_cases hq : dT D = 1
    · obtain ⟨hT, hrt⟩ := hT hq
      rw [zRi_iff v] at hrt
      obtain ⟨τ, hh, htk, hru, hτ⟩ := z_hard (σ := σ) ok hC v
      have hR : repT (dN D) T (τ 3) := fun o ho => by rw [hτ 3 (by omega)]; exact ⟨(hT o ho).1, (hT o ho).2.2⟩
      obtain ⟨r, hal, hr⟩ := z_allowed (T := T) ok v (Or.inl rfl) z_sl3 hru hl (x3 := -1) (fun o ho _ _ => hR o ho)
      -- the class's number
      have hw : ∀ i, i < 32 → bt (r &&& ((nI 1 <<< (nI (T l) &&& 31)) ^^^ (-1))) i = (decide (i < 20) && (!decide (i = T l) && zRb D (zHd D) (zMv T l i))) := by
        intro i hi
        rw [b_and, b_xor, b_m1 i hi, Bool.xor_true, z_shl1 (by have := (hT l hl).2.2; omega) hi, hr i hi]
        have e1 : zAl D (zHd D) T (bt (-1)) l i = zAl D (zHd D) T (fun _ => true) l i := zAl_H (fun _ _ => rfl) (fun o ho => b_m1 o (by omega)) l i
        rw [e1]
        by_cases h20 : i < 20
        · have e2 : zAl D (zHd D) T (fun _ => true) l i = zRb D (zHd D) (zMv T l i) := by
            rw [Bool.eq_iff_iff, zRb_iff, zRi_move hrt hl]
          rw [e2, decide_eq_true h20, Bool.true_and, Bool.and_comm]
        · have e2 : zAl D (zHd D) T (fun _ => true) l i = false := by
            unfold zAl
            rw [decide_eq_false h20]; rfl
          rw [e2, decide_eq_false h20]; rfl
      obtain ⟨m, hm, em, hb⟩ := z_word hw
      have hbc := z_bitCount (σ := τ) ok hm
      rw [← em, q_cnt_congr 20 (fun i hi => hb i hi)] at hbc
      have t3 : τ 3 l = nI (T l) := (hR l hl).1
      have hc : sj_C G 10 me_X11_choices [.ref (sj_ad G 0), .int (nI l)] σ (.ok (nI (q_cnt (fun i => !decide (i = T l) && zRb D (zHd D) (zMv T l i)) 20)), τ) := by
        refine c_X11_choices ok (Or.inl ⟨_, z_requireLesson0 ok hC v hl, Or.inl ⟨_, z_requireTable0 ok (hC.2.2.1.trans (by rw [hq])), _, _, hh, _, htk, _, _, hal, z_in (by omega) (by decide), ?_⟩⟩)
        rw [nI_clamp (by omega), t3]
        exact ⟨_, _, hbc, rfl⟩
      -- the reference's
      have τ57 : τ 57 = σ 57 := hτ 57 (by omega)
      have hM1 : repM D (sj_st τ 56 0 (nI 0) 57) := by rw [z_stn (by decide), τ57]; exact hM
      obtain ⟨κ, hlk, f1, f2, f3⟩ := y_looksAtTable (σ := sj_st τ 56 0 (nI 0)) ok h9 hM1.1
      have κ57 : κ 57 = σ 57 := by rw [f1 57 (by decide) (by decide), z_stn (by decide), τ57]
      have hU : zUo D (fun _ => false) (κ 60) := fun w hw => by
        have h12 := v.2.1
        rw [f3 w (by omega)]; rfl
      have hat : ∀ o, o < dN D → κ 59 o = nI (T o) := fun o ho => by
        rw [f2 o ho, z_stn (by decide), τ57]
        exact (hT o ho).2.1
      have key : ∀ j i y, i + j = 20 → sj_J G 7 me_X12_choices (.ok (nI (q_cnt (fun i => !decide (i = T l) && zRb D (zHd D) (zMv T l i)) 20)), sj_st κ 59 l (nI 19)) 32 [.ref (sj_ad G 56), .int (nI l), .int (nI (q_cnt (fun i => !decide (i = T l) && zRb D (zHd D) (zMv T l i)) i)), .int (nI i)] (sj_st κ 59 l (if i = 0 then y else nI (i - 1))) [] := by
        intro j
        induction j with
        | zero =>
          intro i y hi
          have : i = 20 := by omega
          subst this
          exact t_X12_choices_32 ⟨fun _ => rfl, fun q => absurd (nI_le (by omega) (by omega)) q⟩
        | succ j ih =>
          intro i y hi
          have h1 := ih (i + 1) y (by omega)
          rw [if_neg (by omega), show i + 1 - 1 = i by omega] at h1
          have eq1 : q_cnt (fun i => !decide (i = T l) && zRb D (zHd D) (zMv T l i)) (i + 1) = q_cnt (fun i => !decide (i = T l) && zRb D (zHd D) (zMv T l i)) i + (if (!decide (i = T l) && zRb D (zHd D) (zMv T l i)) then 1 else 0) := rfl
          have est : ∀ a b : Int32, sj_st (sj_st κ 59 l a) 59 l b = sj_st κ 59 l b := fun a b => by
            funext c
            by_cases q : c = 59
            · subst q
              rw [z_sta, z_sta, z_sta]
              funext k
              unfold upd
              by_cases s : k = l
              · rw [if_pos s, if_pos s]
              · rw [if_neg s, if_neg s, if_neg s]
            · rw [z_stn q, z_stn q, z_stn q]
          have s57 : ∀ a : Int32, sj_st κ 59 l a 57 (nI 116 + nI l).toNatClampNeg = nI (T l) := fun a => by
            rw [z_stn (by decide), κ57, nI_add, nI_clamp (by omega)]
            exact (hT l hl).2.1
          refine t_X12_choices_32 ⟨fun q => absurd q (nI_ge (by omega) (by decide)), fun _ => ⟨z_in (by omega) (by decide), ?_, fun q => ?_, fun q => ?_⟩⟩
          · rw [nI_add]; exact z_in (by omega) (by decide)
          · rw [s57, nI_eq (by omega) (by have := (hT l hl).2.2; omega)] at q
            unfold wp_X12_choices_70 wp_X12_choices_71
            rw [decide_eq_true q] at eq1
            rw [show q_cnt (fun i => !decide (i = T l) && zRb D (zHd D) (zMv T l i)) (i + 1) = q_cnt (fun i => !decide (i = T l) && zRb D (zHd D) (zMv T l i)) i by rw [eq1]; rfl] at h1
            rw [nI_clamp (by omega), est, nI_add, nI_add, Nat.add_zero]
            exact h1
          · rw [s57, nI_eq (by omega) (by have := (hT l hl).2.2; omega)] at q
            rw [nI_clamp (by omega), est]
            have hi2 := y_isRight (σ := sj_st κ 59 l (nI i)) (T := zMv T l i) (U := fun _ => false) ok (by rw [z_stn (by decide), κ57]; exact hM) v (by rw [z_stn (by decide)]; exact hU) (fun o ho => by
              unfold zMv
              by_cases e : o = l
              · subst e
                rw [z_ste, if_pos rfl]
                exact ⟨rfl, by omega⟩
              · rw [z_sti e, if_neg e]
                exact ⟨hat o ho, (hT o ho).2.2⟩)
            rw [zRb_H (zHu_0 (fun _ _ => rfl))] at hi2
            refine ⟨_, _, hi2, ?_⟩
            unfold wp_X12_choices_71
            have e2 : (if (if zRb D (zHd D) (zMv T l i) then nI 1 else nI 0) = 0 then nI 0 else nI 1) = nI (if (!decide (i = T l) && zRb D (zHd D) (zMv T l i)) then 1 else 0) := by
              rw [decide_eq_false q]
              cases zRb D (zHd D) (zMv T l i) <;> decide
            rw [e2, nI_add, nI_add, ← eq1]
            exact h1
      have k0 := key 20 0 (κ 59 l) (by omega)
      rw [if_pos rfl, z_st_self] at k0
      refine ⟨_, _, _, _, hc, c_X12_choices ok ⟨_, _, y_noLesson0 ok hM1 v zT00 hl, fun q => absurd nI_0 q, fun _ => ⟨_, _, y_noTable0 ok zT00 (hM1.2.2.1.trans (by rw [hq])), fun _ => ⟨_, hlk, k0⟩, fun q => absurd nI_0 q⟩⟩, zSame_ok ?_ rfl, zI2_tr hτ (zI2_lk (zA_tr hτ h) (fun b h1 h2 => ?_))⟩
      · rw [z_stn (by decide), f1 56 (by decide) (by decide), z_ste]
      · rw [z_stn h1, f1 b h1 h2]
    · have hq := zT_of v hq
      exact ⟨_, _, _, _, c_X11_choices ok (Or.inl ⟨_, z_requireLesson0 ok hC v hl, Or.inr ⟨_, _, z_requireTable1 ok (hC.2.2.1.trans (by rw [hq])), rfl⟩⟩), c_X12_choices ok (R := (.ok (nI 0), sj_st (sj_st σ 56 0 (nI 0)) 56 0 (nI 2))) ⟨_, _, y_noLesson0 ok hM0 v zT00 hl, fun q => absurd nI_0 q, fun _ => ⟨_, _, y_noTable1 ok zT00 (hM0.2.2.1.trans (by rw [hq])) (by decide), fun q => absurd q z_10, fun _ => rfl⟩⟩, zSame_er (by decide) z_ste, zI2_th2 h⟩
  · exact ⟨_, _, _, _, c_X11_choices ok (Or.inr ⟨_, _, z_requireLesson1 ok hC v hx, rfl⟩), c_X12_choices ok (R := (.ok (nI 0), sj_st (sj_st σ 56 0 (nI 0)) 56 0 (nI 1))) ⟨_, _, y_noLesson1 ok hM0 v zT00 hx (by decide), fun _ => rfl, fun q => absurd q z_10⟩, zSame_er (by decide) z_ste, zI2_th2 h⟩
end ZPU
