def wp_X7_take_10 (G : sj_G) (R : sj_R) (b : Nat) (x2 : Int32) (x3 : Int32) (σ : sj_S) : Prop := ((σ b 0) ≤ x3 → sj_J G 5 me_X7_take R 32 [.ref (sj_ad G b), .ref (sj_ad G 1), .int x2, .int (nI 0)] σ []) ∧ (¬ ((σ b 0) ≤ x3) → ∃ σ2, sj_C G 4 me_X7_takeLesson [.ref (sj_ad G b), .ref (sj_ad G 1), .int x3] σ (.ok 0, σ2) ∧ sj_J G 5 me_X7_take R 10 [.ref (sj_ad G b), .ref (sj_ad G 1), .int x2, .int (x3 + (nI 1))] σ2 [])
set_option maxRecDepth 20000 in
theorem t_X7_take_10 {G : sj_G} {R : sj_R} {b : Nat} {x2 : Int32} {x3 : Int32} {σ : sj_S} (hb : b = 6 ∨ b = 18) (h : wp_X7_take_10 G R b x2 x3 σ) : sj_J G 5 me_X7_take R 10 [.ref (sj_ad G b), .ref (sj_ad G 1), .int x2, .int x3] σ [] := by
  unfold wp_X7_take_10 at h
  refine sj_iload_n dX7_take_10 (i := 3) rfl rfl ?_
  refine sj_aload_n dX7_take_11 (i := 0) rfl rfl ?_
  refine sj_get (a := b) (k9 := 0) (v := .int (σ b 0)) dX7_take_12 (by rcases hb with rfl | rfl <;> decide +kernel) (by rcases hb with rfl | rfl <;> rfl) ?_
  refine sj_icmp_ge (tgt := 30) dX7_take_15 (by decide) (fun c1 => ?_) (fun c1 => ?_)
  · replace h := h.1 c1
    refine sj_iconst (v := (nI 0)) dX7_take_30 (by decide +kernel) ?_
    refine sj_istore_n dX7_take_31 (i := 3) rfl (by decide) ?_
    exact h
  · replace h := h.2 c1
    refine sj_aload_n dX7_take_18 (i := 0) rfl rfl ?_
    refine sj_aload_n dX7_take_19 (i := 1) rfl rfl ?_
    refine sj_iload_n dX7_take_20 (i := 3) rfl rfl ?_
    obtain ⟨σ2, hc2, h⟩ := h
    refine sj_callVv (M' := me_X7_takeLesson) (b := b) (As := [.ref (sj_ad G 1), .int x3]) (rest := []) dX7_take_21 gX7_take_X7_takeLesson rfl hd_X7_takeLesson (by rcases hb with rfl | rfl <;> decide +kernel) (by rcases hb with rfl | rfl <;> decide +kernel) (by rcases hb with rfl | rfl <;> rfl) (Nat.le_of_ble_eq_true rfl) (by omega) rfl hc2 ?_
    refine sj_iinc (v := (x3 + (nI 1))) dX7_take_24 (by decide) rfl rfl ?_
    refine sj_goto (tgt := 10) dX7_take_27 (by decide) ?_
    exact h
def wp_X7_take_71 (G : sj_G) (R : sj_R) (b : Nat) (x2 : Int32) (x3 : Int32) (σ : sj_S) : Prop := sj_J G 5 me_X7_take R 32 [.ref (sj_ad G b), .ref (sj_ad G 1), .int x2, .int (x3 + (nI 1))] σ []
set_option maxRecDepth 20000 in
theorem t_X7_take_71 {G : sj_G} {R : sj_R} {b : Nat} {x2 : Int32} {x3 : Int32} {σ : sj_S} (hb : b = 6 ∨ b = 18) (h : wp_X7_take_71 G R b x2 x3 σ) : sj_J G 5 me_X7_take R 71 [.ref (sj_ad G b), .ref (sj_ad G 1), .int x2, .int x3] σ [] := by
  unfold wp_X7_take_71 at h
  refine sj_iinc (v := (x3 + (nI 1))) dX7_take_71 (by decide) rfl rfl ?_
  refine sj_goto (tgt := 32) dX7_take_74 (by decide) ?_
  exact h
def wp_X7_take_32 (G : sj_G) (R : sj_R) (b : Nat) (x2 : Int32) (x3 : Int32) (σ : sj_S) : Prop := ∃ v1 σ1, sj_C G 2 me_X8_wishTotal [.ref (sj_ad G 1)] σ (.ok v1, σ1) ∧ (v1 ≤ x3 → R = (.ok 0, σ1)) ∧ (¬ (v1 ≤ x3) → (((x2 >>> (x3 &&& 31)) &&& (nI 1)) = 0 → (wp_X7_take_71 G R b x2 x3 σ1)) ∧ (¬ (((x2 >>> (x3 &&& 31)) &&& (nI 1)) = 0) → ∃ v5 σ5, sj_C G 2 me_X8_ofWish [.ref (sj_ad G 1), .int x3, .int (nI 0)] σ1 (.ok v5, σ5) ∧ ∃ v6 σ6, sj_C G 2 me_X8_ofWish [.ref (sj_ad G 1), .int x3, .int (nI 1)] σ5 (.ok v6, σ6) ∧ ∃ v7 σ7, sj_C G 2 me_X8_ofWish [.ref (sj_ad G 1), .int x3, .int (nI 2)] σ6 (.ok v7, σ7) ∧ ∃ σ8, sj_C G 3 me_X7_takeWish [.ref (sj_ad G b), .ref (sj_ad G 1), .int v5, .int v6, .int v7] σ7 (.ok 0, σ8) ∧ (wp_X7_take_71 G R b x2 x3 σ8)))
set_option maxRecDepth 20000 in
theorem t_X7_take_32 {G : sj_G} {R : sj_R} {b : Nat} {x2 : Int32} {x3 : Int32} {σ : sj_S} (hb : b = 6 ∨ b = 18) (h : wp_X7_take_32 G R b x2 x3 σ) : sj_J G 5 me_X7_take R 32 [.ref (sj_ad G b), .ref (sj_ad G 1), .int x2, .int x3] σ [] := by
  unfold wp_X7_take_32 at h
  refine sj_iload_n dX7_take_32 (i := 3) rfl rfl ?_
  refine sj_aload_n dX7_take_33 (i := 1) rfl rfl ?_
  obtain ⟨v1, σ1, hc1, h⟩ := h
  refine sj_callVi (M' := me_X8_wishTotal) (b := 1) (As := []) (rest := [.int x3]) dX7_take_34 gX7_take_X8_wishTotal rfl hd_X8_wishTotal (by decide +kernel) (by decide +kernel) rfl (Nat.le_of_ble_eq_true rfl) (by omega) rfl hc1 ?_
  refine sj_icmp_ge (tgt := 77) dX7_take_37 (by decide) (fun c2 => ?_) (fun c2 => ?_)
  · replace h := h.1 c2
    subst h
    exact sj_vret dX7_take_77 rfl
  · replace h := h.2 c2
    refine sj_iload_n dX7_take_40 (i := 2) rfl rfl ?_
    refine sj_iload_n dX7_take_41 (i := 3) rfl rfl ?_
    refine sj_ishr dX7_take_42 ?_
    refine sj_iconst (v := (nI 1)) dX7_take_43 (by decide +kernel) ?_
    refine sj_iand dX7_take_44 ?_
    refine sj_if_eq (tgt := 71) dX7_take_45 (by decide) (fun c4 => ?_) (fun c4 => ?_)
    · replace h := h.1 c4
      exact t_X7_take_71 hb h
    · replace h := h.2 c4
      refine sj_aload_n dX7_take_48 (i := 0) rfl rfl ?_
      refine sj_aload_n dX7_take_49 (i := 1) rfl rfl ?_
      refine sj_aload_n dX7_take_50 (i := 1) rfl rfl ?_
      refine sj_iload_n dX7_take_51 (i := 3) rfl rfl ?_
      refine sj_iconst (v := (nI 0)) dX7_take_52 (by decide +kernel) ?_
      obtain ⟨v5, σ5, hc5, h⟩ := h
      refine sj_callVi (M' := me_X8_ofWish) (b := 1) (As := [.int x3, .int (nI 0)]) (rest := [.ref (sj_ad G 1), .ref (sj_ad G b)]) dX7_take_53 gX7_take_X8_ofWish rfl hd_X8_ofWish (by decide +kernel) (by decide +kernel) rfl (Nat.le_of_ble_eq_true rfl) (by omega) rfl hc5 ?_
      refine sj_aload_n dX7_take_56 (i := 1) rfl rfl ?_
      refine sj_iload_n dX7_take_57 (i := 3) rfl rfl ?_
      refine sj_iconst (v := (nI 1)) dX7_take_58 (by decide +kernel) ?_
      obtain ⟨v6, σ6, hc6, h⟩ := h
      refine sj_callVi (M' := me_X8_ofWish) (b := 1) (As := [.int x3, .int (nI 1)]) (rest := [.int v5, .ref (sj_ad G 1), .ref (sj_ad G b)]) dX7_take_59 gX7_take_X8_ofWish rfl hd_X8_ofWish (by decide +kernel) (by decide +kernel) rfl (Nat.le_of_ble_eq_true rfl) (by omega) rfl hc6 ?_
      refine sj_aload_n dX7_take_62 (i := 1) rfl rfl ?_
      refine sj_iload_n dX7_take_63 (i := 3) rfl rfl ?_
      refine sj_iconst (v := (nI 2)) dX7_take_64 (by decide +kernel) ?_
      obtain ⟨v7, σ7, hc7, h⟩ := h
      refine sj_callVi (M' := me_X8_ofWish) (b := 1) (As := [.int x3, .int (nI 2)]) (rest := [.int v6, .int v5, .ref (sj_ad G 1), .ref (sj_ad G b)]) dX7_take_65 gX7_take_X8_ofWish rfl hd_X8_ofWish (by decide +kernel) (by decide +kernel) rfl (Nat.le_of_ble_eq_true rfl) (by omega) rfl hc7 ?_
      obtain ⟨σ8, hc8, h⟩ := h
      refine sj_callVv (M' := me_X7_takeWish) (b := b) (As := [.ref (sj_ad G 1), .int v5, .int v6, .int v7]) (rest := []) dX7_take_68 gX7_take_X7_takeWish rfl hd_X7_takeWish (by rcases hb with rfl | rfl <;> decide +kernel) (by rcases hb with rfl | rfl <;> decide +kernel) (by rcases hb with rfl | rfl <;> rfl) (Nat.le_of_ble_eq_true rfl) (by omega) rfl hc8 ?_
      exact t_X7_take_71 hb h
def wp_X7_take_0 (G : sj_G) (R : sj_R) (b : Nat) (x2 : Int32) (σ : sj_S) : Prop := ∃ v1 σ1, sj_C G 2 me_X8_lessonTotal [.ref (sj_ad G 1)] σ (.ok v1, σ1) ∧ sj_J G 5 me_X7_take R 10 [.ref (sj_ad G b), .ref (sj_ad G 1), .int x2, .int (nI 0)] (sj_st σ1 b 0 v1) []
set_option maxRecDepth 20000 in
theorem t_X7_take_0 {G : sj_G} {R : sj_R} {b : Nat} {x2 : Int32} {σ : sj_S} (hb : b = 6 ∨ b = 18) (h : wp_X7_take_0 G R b x2 σ) : sj_J G 5 me_X7_take R 0 [.ref (sj_ad G b), .ref (sj_ad G 1), .int x2, .null] σ [] := by
  unfold wp_X7_take_0 at h
  refine sj_aload_n dX7_take_0 (i := 0) rfl rfl ?_
  refine sj_aload_n dX7_take_1 (i := 1) rfl rfl ?_
  obtain ⟨v1, σ1, hc1, h⟩ := h
  refine sj_callVi (M' := me_X8_lessonTotal) (b := 1) (As := []) (rest := [.ref (sj_ad G b)]) dX7_take_2 gX7_take_X8_lessonTotal rfl hd_X8_lessonTotal (by decide +kernel) (by decide +kernel) rfl (Nat.le_of_ble_eq_true rfl) (by omega) rfl hc1 ?_
  refine sj_put (a := b) (k9 := 0) dX7_take_5 (by rcases hb with rfl | rfl <;> decide +kernel) (by rcases hb with rfl | rfl <;> decide +kernel) (by rcases hb with rfl | rfl <;> rfl) ?_
  refine sj_iconst (v := (nI 0)) dX7_take_8 (by decide +kernel) ?_
  refine sj_istore_n dX7_take_9 (i := 3) rfl (by decide) ?_
  exact h
theorem c_X7_take {G : sj_G} (ok : sj_ok G) {R : sj_R} {b : Nat} {x2 : Int32} {σ : sj_S} (hb : b = 6 ∨ b = 18) (h : wp_X7_take_0 G R b x2 σ) : sj_C G 5 me_X7_take [.ref (sj_ad G b), .ref (sj_ad G 1), .int x2] σ R :=
  sj_enter ok (by decide +kernel) rfl rfl (Nat.le_of_ble_eq_true rfl) (by simp [Value.category]) (t_X7_take_0 hb h)
def wp_X7_takeLesson_107 (G : sj_G) (R : sj_R) (b : Nat) (x2 : Int32) (s0 : Int32) (s1 : Int32) (σ : sj_S) : Prop := vp_in s1 9 ∧ vp_in x2 9 ∧ vp_in x2 9 ∧ vp_in x2 9 ∧ vp_in x2 9 ∧ vp_in x2 9 ∧ vp_in x2 9 ∧ sj_J G 4 me_X7_takeLesson R 153 [.ref (sj_ad G b), .ref (sj_ad G 1), .int x2, .null, .null, .int (nI 0)] (sj_st (sj_st (sj_st (sj_st (sj_st (sj_st (sj_st σ (b + 1) s1.toNatClampNeg s0) (b + 4) x2.toNatClampNeg (nI 0)) (b + 5) x2.toNatClampNeg (nI 0)) (b + 6) x2.toNatClampNeg (nI 0)) (b + 7) x2.toNatClampNeg (nI 0)) (b + 8) x2.toNatClampNeg (nI 0)) (b + 9) x2.toNatClampNeg (nI 0)) []
set_option maxRecDepth 20000 in
theorem t_X7_takeLesson_107 {G : sj_G} {R : sj_R} {b : Nat} {x2 : Int32} {s0 : Int32} {s1 : Int32} {σ : sj_S} (hb : b = 6 ∨ b = 18) (h : wp_X7_takeLesson_107 G R b x2 s0 s1 σ) : sj_J G 4 me_X7_takeLesson R 107 [.ref (sj_ad G b), .ref (sj_ad G 1), .int x2, .null, .null, .null] σ [.int s0, .int s1, .ref (sj_ad G (b + 1))] := by
  unfold wp_X7_takeLesson_107 at h
  obtain ⟨b1, h⟩ := h
  refine sj_iast (a := (b + 1)) (j := s1.toNatClampNeg) dX7_takeLesson_107 (by rcases hb with rfl | rfl <;> rfl) (by rcases hb with rfl | rfl <;> decide +kernel) (by rcases hb with rfl | rfl <;> exact b1) rfl ?_
  refine sj_aload_n dX7_takeLesson_108 (i := 0) rfl rfl ?_
  refine sj_get (a := b) (k9 := 4) (v := .ref (sj_ad G (b + 4))) dX7_takeLesson_109 (by rcases hb with rfl | rfl <;> decide +kernel) (by rcases hb with rfl | rfl <;> rfl) ?_
  refine sj_iload_n dX7_takeLesson_112 (i := 2) rfl rfl ?_
  refine sj_iconst (v := (nI 0)) dX7_takeLesson_113 (by decide +kernel) ?_
  obtain ⟨b2, h⟩ := h
  refine sj_iast (a := (b + 4)) (j := x2.toNatClampNeg) dX7_takeLesson_114 (by rcases hb with rfl | rfl <;> rfl) (by rcases hb with rfl | rfl <;> decide +kernel) (by rcases hb with rfl | rfl <;> exact b2) rfl ?_
  refine sj_aload_n dX7_takeLesson_115 (i := 0) rfl rfl ?_
  refine sj_get (a := b) (k9 := 5) (v := .ref (sj_ad G (b + 5))) dX7_takeLesson_116 (by rcases hb with rfl | rfl <;> decide +kernel) (by rcases hb with rfl | rfl <;> rfl) ?_
  refine sj_iload_n dX7_takeLesson_119 (i := 2) rfl rfl ?_
  refine sj_iconst (v := (nI 0)) dX7_takeLesson_120 (by decide +kernel) ?_
  obtain ⟨b3, h⟩ := h
  refine sj_iast (a := (b + 5)) (j := x2.toNatClampNeg) dX7_takeLesson_121 (by rcases hb with rfl | rfl <;> rfl) (by rcases hb with rfl | rfl <;> decide +kernel) (by rcases hb with rfl | rfl <;> exact b3) rfl ?_
  refine sj_aload_n dX7_takeLesson_122 (i := 0) rfl rfl ?_
  refine sj_get (a := b) (k9 := 6) (v := .ref (sj_ad G (b + 6))) dX7_takeLesson_123 (by rcases hb with rfl | rfl <;> decide +kernel) (by rcases hb with rfl | rfl <;> rfl) ?_
  refine sj_iload_n dX7_takeLesson_126 (i := 2) rfl rfl ?_
  refine sj_iconst (v := (nI 0)) dX7_takeLesson_127 (by decide +kernel) ?_
  obtain ⟨b4, h⟩ := h
  refine sj_iast (a := (b + 6)) (j := x2.toNatClampNeg) dX7_takeLesson_128 (by rcases hb with rfl | rfl <;> rfl) (by rcases hb with rfl | rfl <;> decide +kernel) (by rcases hb with rfl | rfl <;> exact b4) rfl ?_
  refine sj_aload_n dX7_takeLesson_129 (i := 0) rfl rfl ?_
  refine sj_get (a := b) (k9 := 7) (v := .ref (sj_ad G (b + 7))) dX7_takeLesson_130 (by rcases hb with rfl | rfl <;> decide +kernel) (by rcases hb with rfl | rfl <;> rfl) ?_
  refine sj_iload_n dX7_takeLesson_133 (i := 2) rfl rfl ?_
  refine sj_iconst (v := (nI 0)) dX7_takeLesson_134 (by decide +kernel) ?_
  obtain ⟨b5, h⟩ := h
  refine sj_iast (a := (b + 7)) (j := x2.toNatClampNeg) dX7_takeLesson_135 (by rcases hb with rfl | rfl <;> rfl) (by rcases hb with rfl | rfl <;> decide +kernel) (by rcases hb with rfl | rfl <;> exact b5) rfl ?_
  refine sj_aload_n dX7_takeLesson_136 (i := 0) rfl rfl ?_
  refine sj_get (a := b) (k9 := 8) (v := .ref (sj_ad G (b + 8))) dX7_takeLesson_137 (by rcases hb with rfl | rfl <;> decide +kernel) (by rcases hb with rfl | rfl <;> rfl) ?_
  refine sj_iload_n dX7_takeLesson_140 (i := 2) rfl rfl ?_
  refine sj_iconst (v := (nI 0)) dX7_takeLesson_141 (by decide +kernel) ?_
  obtain ⟨b6, h⟩ := h
  refine sj_iast (a := (b + 8)) (j := x2.toNatClampNeg) dX7_takeLesson_142 (by rcases hb with rfl | rfl <;> rfl) (by rcases hb with rfl | rfl <;> decide +kernel) (by rcases hb with rfl | rfl <;> exact b6) rfl ?_
  refine sj_aload_n dX7_takeLesson_143 (i := 0) rfl rfl ?_
  refine sj_get (a := b) (k9 := 9) (v := .ref (sj_ad G (b + 9))) dX7_takeLesson_144 (by rcases hb with rfl | rfl <;> decide +kernel) (by rcases hb with rfl | rfl <;> rfl) ?_
  refine sj_iload_n dX7_takeLesson_147 (i := 2) rfl rfl ?_
  refine sj_iconst (v := (nI 0)) dX7_takeLesson_148 (by decide +kernel) ?_
  obtain ⟨b7, h⟩ := h
  refine sj_iast (a := (b + 9)) (j := x2.toNatClampNeg) dX7_takeLesson_149 (by rcases hb with rfl | rfl <;> rfl) (by rcases hb with rfl | rfl <;> decide +kernel) (by rcases hb with rfl | rfl <;> exact b7) rfl ?_
  refine sj_iconst (v := (nI 0)) dX7_takeLesson_150 (by decide +kernel) ?_
  refine sj_istore dX7_takeLesson_151 (by decide) ?_
  exact h
def wp_X7_takeLesson_76 (G : sj_G) (R : sj_R) (b : Nat) (x2 : Int32) (x4 : Int32) (s0 : Int32) (s1 : Int32) (σ : sj_S) : Prop := vp_in s1 9 ∧ vp_in x2 9 ∧ (wp_X7_takeLesson_107 G R b x2 (if ((sj_st σ (b + 3) s1.toNatClampNeg s0) (b + 10) x2.toNatClampNeg) = 0 then (nI 0) else (if x4 = 0 then (nI 1048575) else (nI 489335))) x2 (sj_st σ (b + 3) s1.toNatClampNeg s0))
set_option maxRecDepth 20000 in
theorem t_X7_takeLesson_76 {G : sj_G} {R : sj_R} {b : Nat} {x2 : Int32} {x4 : Int32} {s0 : Int32} {s1 : Int32} {σ : sj_S} (hb : b = 6 ∨ b = 18) (h : wp_X7_takeLesson_76 G R b x2 x4 s0 s1 σ) : sj_J G 4 me_X7_takeLesson R 76 [.ref (sj_ad G b), .ref (sj_ad G 1), .int x2, .null, .int x4, .null] σ [.int s0, .int s1, .ref (sj_ad G (b + 3))] := by
  unfold wp_X7_takeLesson_76 at h
  obtain ⟨b1, h⟩ := h
  refine sj_iast (a := (b + 3)) (j := s1.toNatClampNeg) dX7_takeLesson_76 (by rcases hb with rfl | rfl <;> rfl) (by rcases hb with rfl | rfl <;> decide +kernel) (by rcases hb with rfl | rfl <;> exact b1) rfl ?_
  refine sj_aload_n dX7_takeLesson_77 (i := 0) rfl rfl ?_
  refine sj_get (a := b) (k9 := 1) (v := .ref (sj_ad G (b + 1))) dX7_takeLesson_78 (by rcases hb with rfl | rfl <;> decide +kernel) (by rcases hb with rfl | rfl <;> rfl) ?_
  refine sj_iload_n dX7_takeLesson_81 (i := 2) rfl rfl ?_
  refine sj_aload_n dX7_takeLesson_82 (i := 0) rfl rfl ?_
  refine sj_get (a := b) (k9 := 10) (v := .ref (sj_ad G (b + 10))) dX7_takeLesson_83 (by rcases hb with rfl | rfl <;> decide +kernel) (by rcases hb with rfl | rfl <;> rfl) ?_
  refine sj_iload_n dX7_takeLesson_86 (i := 2) rfl rfl ?_
  obtain ⟨b2, h⟩ := h
  refine sj_iald (a := (b + 10)) (j := x2.toNatClampNeg) (x := ((sj_st σ (b + 3) s1.toNatClampNeg s0) (b + 10) x2.toNatClampNeg)) dX7_takeLesson_87 (by rcases hb with rfl | rfl <;> rfl) (by rcases hb with rfl | rfl <;> decide +kernel) (by rcases hb with rfl | rfl <;> exact b2) rfl rfl ?_
  refine sj_if_ne (tgt := 95) dX7_takeLesson_88 (by decide) (fun c3 => ?_) (fun c3 => ?_)
  · refine sj_iload dX7_takeLesson_95 rfl ?_
    refine sj_if_eq (tgt := 105) dX7_takeLesson_97 (by decide) (fun c4 => ?_) (fun c4 => ?_)
    · refine sj_ldc (v := (nI 1048575)) dX7_takeLesson_105 (by decide +kernel) ?_
      try simp only [if_neg c3, if_pos c4] at h
      refine sj_fg [4] ?_
      exact t_X7_takeLesson_107 hb h
    · refine sj_ldc (v := (nI 489335)) dX7_takeLesson_100 (by decide +kernel) ?_
      refine sj_goto (tgt := 107) dX7_takeLesson_102 (by decide) ?_
      try simp only [if_neg c3, if_neg c4] at h
      refine sj_fg [4] ?_
      exact t_X7_takeLesson_107 hb h
  · refine sj_iconst (v := (nI 0)) dX7_takeLesson_91 (by decide +kernel) ?_
    refine sj_goto (tgt := 107) dX7_takeLesson_92 (by decide) ?_
    try simp only [if_pos c3] at h
    refine sj_fg [4] ?_
    exact t_X7_takeLesson_107 hb h
def wp_X7_takeLesson_60 (G : sj_G) (R : sj_R) (b : Nat) (x2 : Int32) (x4 : Int32) (s0 : Int32) (s1 : Int32) (σ : sj_S) : Prop := vp_in s1 9 ∧ (wp_X7_takeLesson_76 G R b x2 x4 (if x4 = 0 then (nI 0) else (nI 1)) x2 (sj_st σ (b + 2) s1.toNatClampNeg s0))
set_option maxRecDepth 20000 in
theorem t_X7_takeLesson_60 {G : sj_G} {R : sj_R} {b : Nat} {x2 : Int32} {x4 : Int32} {s0 : Int32} {s1 : Int32} {σ : sj_S} (hb : b = 6 ∨ b = 18) (h : wp_X7_takeLesson_60 G R b x2 x4 s0 s1 σ) : sj_J G 4 me_X7_takeLesson R 60 [.ref (sj_ad G b), .ref (sj_ad G 1), .int x2, .null, .int x4, .null] σ [.int s0, .int s1, .ref (sj_ad G (b + 2))] := by
  unfold wp_X7_takeLesson_60 at h
  obtain ⟨b1, h⟩ := h
  refine sj_iast (a := (b + 2)) (j := s1.toNatClampNeg) dX7_takeLesson_60 (by rcases hb with rfl | rfl <;> rfl) (by rcases hb with rfl | rfl <;> decide +kernel) (by rcases hb with rfl | rfl <;> exact b1) rfl ?_
  refine sj_aload_n dX7_takeLesson_61 (i := 0) rfl rfl ?_
  refine sj_get (a := b) (k9 := 3) (v := .ref (sj_ad G (b + 3))) dX7_takeLesson_62 (by rcases hb with rfl | rfl <;> decide +kernel) (by rcases hb with rfl | rfl <;> rfl) ?_
  refine sj_iload_n dX7_takeLesson_65 (i := 2) rfl rfl ?_
  refine sj_iload dX7_takeLesson_66 rfl ?_
  refine sj_if_eq (tgt := 75) dX7_takeLesson_68 (by decide) (fun c2 => ?_) (fun c2 => ?_)
  · refine sj_iconst (v := (nI 0)) dX7_takeLesson_75 (by decide +kernel) ?_
    try simp only [if_pos c2] at h
    exact t_X7_takeLesson_76 hb h
  · refine sj_iconst (v := (nI 1)) dX7_takeLesson_71 (by decide +kernel) ?_
    refine sj_goto (tgt := 76) dX7_takeLesson_72 (by decide) ?_
    try simp only [if_neg c2] at h
    exact t_X7_takeLesson_76 hb h
def wp_X7_takeLesson_44 (G : sj_G) (R : sj_R) (b : Nat) (x2 : Int32) (x4 : Int32) (s0 : Int32) (s1 : Int32) (σ : sj_S) : Prop := vp_in s1 9 ∧ (wp_X7_takeLesson_60 G R b x2 x4 (if x4 = 0 then (nI 1) else (nI 3)) x2 (sj_st σ (b + 10) s1.toNatClampNeg s0))
set_option maxRecDepth 20000 in
theorem t_X7_takeLesson_44 {G : sj_G} {R : sj_R} {b : Nat} {x2 : Int32} {x4 : Int32} {s0 : Int32} {s1 : Int32} {σ : sj_S} (hb : b = 6 ∨ b = 18) (h : wp_X7_takeLesson_44 G R b x2 x4 s0 s1 σ) : sj_J G 4 me_X7_takeLesson R 44 [.ref (sj_ad G b), .ref (sj_ad G 1), .int x2, .null, .int x4, .null] σ [.int s0, .int s1, .ref (sj_ad G (b + 10))] := by
  unfold wp_X7_takeLesson_44 at h
  obtain ⟨b1, h⟩ := h
  refine sj_iast (a := (b + 10)) (j := s1.toNatClampNeg) dX7_takeLesson_44 (by rcases hb with rfl | rfl <;> rfl) (by rcases hb with rfl | rfl <;> decide +kernel) (by rcases hb with rfl | rfl <;> exact b1) rfl ?_
  refine sj_aload_n dX7_takeLesson_45 (i := 0) rfl rfl ?_
  refine sj_get (a := b) (k9 := 2) (v := .ref (sj_ad G (b + 2))) dX7_takeLesson_46 (by rcases hb with rfl | rfl <;> decide +kernel) (by rcases hb with rfl | rfl <;> rfl) ?_
  refine sj_iload_n dX7_takeLesson_49 (i := 2) rfl rfl ?_
  refine sj_iload dX7_takeLesson_50 rfl ?_
  refine sj_if_eq (tgt := 59) dX7_takeLesson_52 (by decide) (fun c2 => ?_) (fun c2 => ?_)
  · refine sj_iconst (v := (nI 1)) dX7_takeLesson_59 (by decide +kernel) ?_
    try simp only [if_pos c2] at h
    exact t_X7_takeLesson_60 hb h
  · refine sj_iconst (v := (nI 3)) dX7_takeLesson_55 (by decide +kernel) ?_
    refine sj_goto (tgt := 60) dX7_takeLesson_56 (by decide) ?_
    try simp only [if_neg c2] at h
    exact t_X7_takeLesson_60 hb h
def wp_X7_takeLesson_22 (G : sj_G) (R : sj_R) (b : Nat) (x2 : Int32) (x3 : Int32) (s0 : Int32) (σ : sj_S) : Prop := (¬ x3 = (-1) → ∃ v3 σ3, sj_C G 2 me_X8_roomsOf [.ref (sj_ad G 1), .int x3] σ (.ok v3, σ3) ∧ (wp_X7_takeLesson_44 G R b x2 s0 v3 x2 σ3)) ∧ (x3 = (-1) → (wp_X7_takeLesson_44 G R b x2 s0 (nI 9) x2 σ))
set_option maxRecDepth 20000 in
theorem t_X7_takeLesson_22 {G : sj_G} {R : sj_R} {b : Nat} {x2 : Int32} {x3 : Int32} {s0 : Int32} {σ : sj_S} (hb : b = 6 ∨ b = 18) (h : wp_X7_takeLesson_22 G R b x2 x3 s0 σ) : sj_J G 4 me_X7_takeLesson R 22 [.ref (sj_ad G b), .ref (sj_ad G 1), .int x2, .int x3, .null, .null] σ [.int s0] := by
  unfold wp_X7_takeLesson_22 at h
  refine sj_istore dX7_takeLesson_22 (by decide) ?_
  refine sj_aload_n dX7_takeLesson_24 (i := 0) rfl rfl ?_
  refine sj_get (a := b) (k9 := 10) (v := .ref (sj_ad G (b + 10))) dX7_takeLesson_25 (by rcases hb with rfl | rfl <;> decide +kernel) (by rcases hb with rfl | rfl <;> rfl) ?_
  refine sj_iload_n dX7_takeLesson_28 (i := 2) rfl rfl ?_
  refine sj_iload_n dX7_takeLesson_29 (i := 3) rfl rfl ?_
  refine sj_iconst (v := (-1)) dX7_takeLesson_30 (by decide +kernel) ?_
  refine sj_icmp_ne (tgt := 39) dX7_takeLesson_31 (by decide) (fun c2 => ?_) (fun c2 => ?_)
  · replace h := h.1 c2
    refine sj_aload_n dX7_takeLesson_39 (i := 1) rfl rfl ?_
    refine sj_iload_n dX7_takeLesson_40 (i := 3) rfl rfl ?_
    obtain ⟨v3, σ3, hc3, h⟩ := h
    refine sj_callVi (M' := me_X8_roomsOf) (b := 1) (As := [.int x3]) (rest := [.int x2, .ref (sj_ad G (b + 10))]) dX7_takeLesson_41 gX7_takeLesson_X8_roomsOf rfl hd_X8_roomsOf (by decide +kernel) (by decide +kernel) rfl (Nat.le_of_ble_eq_true rfl) (by omega) rfl hc3 ?_
    refine sj_fg [3] ?_
    exact t_X7_takeLesson_44 hb h
  · replace h := h.2 c2
    refine sj_bipush (v := (nI 9)) dX7_takeLesson_34 (by decide +kernel) ?_
    refine sj_goto (tgt := 44) dX7_takeLesson_36 (by decide) ?_
    refine sj_fg [3] ?_
    exact t_X7_takeLesson_44 hb h
def wp_X7_takeLesson_176 (G : sj_G) (R : sj_R) (b : Nat) (x2 : Int32) (x5 : Int32) (σ : sj_S) : Prop := sj_J G 4 me_X7_takeLesson R 153 [.ref (sj_ad G b), .ref (sj_ad G 1), .int x2, .null, .null, .int (x5 + (nI 1))] σ []
set_option maxRecDepth 20000 in
theorem t_X7_takeLesson_176 {G : sj_G} {R : sj_R} {b : Nat} {x2 : Int32} {x5 : Int32} {σ : sj_S} (hb : b = 6 ∨ b = 18) (h : wp_X7_takeLesson_176 G R b x2 x5 σ) : sj_J G 4 me_X7_takeLesson R 176 [.ref (sj_ad G b), .ref (sj_ad G 1), .int x2, .null, .null, .int x5] σ [] := by
  unfold wp_X7_takeLesson_176 at h
  refine sj_iinc (v := (x5 + (nI 1))) dX7_takeLesson_176 (by decide) rfl rfl ?_
  refine sj_goto (tgt := 153) dX7_takeLesson_179 (by decide) ?_
  exact h
def wp_X7_takeLesson_153 (G : sj_G) (R : sj_R) (b : Nat) (x2 : Int32) (x5 : Int32) (σ : sj_S) : Prop := ((σ b 0) ≤ x5 → R = (.ok 0, σ)) ∧ (¬ ((σ b 0) ≤ x5) → (x5 = x2 → (wp_X7_takeLesson_176 G R b x2 x5 σ)) ∧ (¬ (x5 = x2) → ∃ σ4, sj_C G 3 me_X7_compare [.ref (sj_ad G b), .ref (sj_ad G 1), .int x2, .int x5] σ (.ok 0, σ4) ∧ (wp_X7_takeLesson_176 G R b x2 x5 σ4)))
set_option maxRecDepth 20000 in
theorem t_X7_takeLesson_153 {G : sj_G} {R : sj_R} {b : Nat} {x2 : Int32} {x5 : Int32} {σ : sj_S} (hb : b = 6 ∨ b = 18) (h : wp_X7_takeLesson_153 G R b x2 x5 σ) : sj_J G 4 me_X7_takeLesson R 153 [.ref (sj_ad G b), .ref (sj_ad G 1), .int x2, .null, .null, .int x5] σ [] := by
  unfold wp_X7_takeLesson_153 at h
  refine sj_iload dX7_takeLesson_153 rfl ?_
  refine sj_aload_n dX7_takeLesson_155 (i := 0) rfl rfl ?_
  refine sj_get (a := b) (k9 := 0) (v := .int (σ b 0)) dX7_takeLesson_156 (by rcases hb with rfl | rfl <;> decide +kernel) (by rcases hb with rfl | rfl <;> rfl) ?_
  refine sj_icmp_ge (tgt := 182) dX7_takeLesson_159 (by decide) (fun c1 => ?_) (fun c1 => ?_)
  · replace h := h.1 c1
    subst h
    exact sj_vret dX7_takeLesson_182 rfl
  · replace h := h.2 c1
    refine sj_iload dX7_takeLesson_162 rfl ?_
    refine sj_iload_n dX7_takeLesson_164 (i := 2) rfl rfl ?_
    refine sj_icmp_eq (tgt := 176) dX7_takeLesson_165 (by decide) (fun c3 => ?_) (fun c3 => ?_)
    · replace h := h.1 c3
      exact t_X7_takeLesson_176 hb h
    · replace h := h.2 c3
      refine sj_aload_n dX7_takeLesson_168 (i := 0) rfl rfl ?_
      refine sj_aload_n dX7_takeLesson_169 (i := 1) rfl rfl ?_
      refine sj_iload_n dX7_takeLesson_170 (i := 2) rfl rfl ?_
      refine sj_iload dX7_takeLesson_171 rfl ?_
      obtain ⟨σ4, hc4, h⟩ := h
      refine sj_callVv (M' := me_X7_compare) (b := b) (As := [.ref (sj_ad G 1), .int x2, .int x5]) (rest := []) dX7_takeLesson_173 gX7_takeLesson_X7_compare rfl hd_X7_compare (by rcases hb with rfl | rfl <;> decide +kernel) (by rcases hb with rfl | rfl <;> decide +kernel) (by rcases hb with rfl | rfl <;> rfl) (Nat.le_of_ble_eq_true rfl) (by omega) rfl hc4 ?_
      exact t_X7_takeLesson_176 hb h
def wp_X7_takeLesson_0 (G : sj_G) (R : sj_R) (b : Nat) (x2 : Int32) (σ : sj_S) : Prop := ∃ v1 σ1, sj_C G 2 me_X8_ofLesson [.ref (sj_ad G 1), .int x2, .int (nI 3)] σ (.ok v1, σ1) ∧ ∃ v2 σ2, sj_C G 2 me_X8_ofLesson [.ref (sj_ad G 1), .int x2, .int (nI 4)] σ1 (.ok v2, σ2) ∧ (wp_X7_takeLesson_22 G R b x2 v1 (if v2 = (nI 1) then (nI 1) else (nI 0)) σ2)
set_option maxRecDepth 20000 in
theorem t_X7_takeLesson_0 {G : sj_G} {R : sj_R} {b : Nat} {x2 : Int32} {σ : sj_S} (hb : b = 6 ∨ b = 18) (h : wp_X7_takeLesson_0 G R b x2 σ) : sj_J G 4 me_X7_takeLesson R 0 [.ref (sj_ad G b), .ref (sj_ad G 1), .int x2, .null, .null, .null] σ [] := by
  unfold wp_X7_takeLesson_0 at h
  refine sj_aload_n dX7_takeLesson_0 (i := 1) rfl rfl ?_
  refine sj_iload_n dX7_takeLesson_1 (i := 2) rfl rfl ?_
  refine sj_iconst (v := (nI 3)) dX7_takeLesson_2 (by decide +kernel) ?_
  obtain ⟨v1, σ1, hc1, h⟩ := h
  refine sj_callVi (M' := me_X8_ofLesson) (b := 1) (As := [.int x2, .int (nI 3)]) (rest := []) dX7_takeLesson_3 gX7_takeLesson_X8_ofLesson rfl hd_X8_ofLesson (by decide +kernel) (by decide +kernel) rfl (Nat.le_of_ble_eq_true rfl) (by omega) rfl hc1 ?_
  refine sj_istore_n dX7_takeLesson_6 (i := 3) rfl (by decide) ?_
  refine sj_aload_n dX7_takeLesson_7 (i := 1) rfl rfl ?_
  refine sj_iload_n dX7_takeLesson_8 (i := 2) rfl rfl ?_
  refine sj_iconst (v := (nI 4)) dX7_takeLesson_9 (by decide +kernel) ?_
  obtain ⟨v2, σ2, hc2, h⟩ := h
  refine sj_callVi (M' := me_X8_ofLesson) (b := 1) (As := [.int x2, .int (nI 4)]) (rest := []) dX7_takeLesson_10 gX7_takeLesson_X8_ofLesson rfl hd_X8_ofLesson (by decide +kernel) (by decide +kernel) rfl (Nat.le_of_ble_eq_true rfl) (by omega) rfl hc2 ?_
  refine sj_iconst (v := (nI 1)) dX7_takeLesson_13 (by decide +kernel) ?_
  refine sj_icmp_ne (tgt := 21) dX7_takeLesson_14 (by decide) (fun c3 => ?_) (fun c3 => ?_)
  · refine sj_iconst (v := (nI 0)) dX7_takeLesson_21 (by decide +kernel) ?_
    try simp only [if_neg c3] at h
    exact t_X7_takeLesson_22 hb h
  · refine sj_iconst (v := (nI 1)) dX7_takeLesson_17 (by decide +kernel) ?_
    refine sj_goto (tgt := 22) dX7_takeLesson_18 (by decide) ?_
    try simp only [if_pos c3] at h
    exact t_X7_takeLesson_22 hb h
theorem c_X7_takeLesson {G : sj_G} (ok : sj_ok G) {R : sj_R} {b : Nat} {x2 : Int32} {σ : sj_S} (hb : b = 6 ∨ b = 18) (h : wp_X7_takeLesson_0 G R b x2 σ) : sj_C G 4 me_X7_takeLesson [.ref (sj_ad G b), .ref (sj_ad G 1), .int x2] σ R :=
  sj_enter ok (by decide +kernel) rfl rfl (Nat.le_of_ble_eq_true rfl) (by simp [Value.category]) (t_X7_takeLesson_0 hb h)
def wp_X7_compare_123 (G : sj_G) (R : sj_R) (b : Nat) (σ : sj_S) : Prop := R = (.ok 0, σ)
set_option maxRecDepth 20000 in
theorem t_X7_compare_123 {G : sj_G} {R : sj_R} {b : Nat} {σ : sj_S} (hb : b = 6 ∨ b = 18) (h : wp_X7_compare_123 G R b σ) : sj_J G 3 me_X7_compare R 123 [.null, .null, .null, .null, .null, .null] σ [] := by
  unfold wp_X7_compare_123 at h
  subst h
  exact sj_vret dX7_compare_123 rfl
def wp_X7_compare_86 (G : sj_G) (R : sj_R) (b : Nat) (x2 : Int32) (x3 : Int32) (σ : sj_S) : Prop := ∃ v1 σ1, sj_C G 2 me_X8_ofLesson [.ref (sj_ad G 1), .int x2, .int (nI 3)] σ (.ok v1, σ1) ∧ (v1 = (-1) → (wp_X7_compare_123 G R b σ1)) ∧ (¬ (v1 = (-1)) → ∃ v4 σ4, sj_C G 2 me_X8_ofLesson [.ref (sj_ad G 1), .int x3, .int (nI 3)] σ1 (.ok v4, σ4) ∧ ((v4 = v1) → vp_in x2 9 ∧ vp_in x2 9) ∧ (wp_X7_compare_123 G R b (if v4 = v1 then (sj_st σ4 (b + 9) x2.toNatClampNeg ((σ4 (b + 9) x2.toNatClampNeg) ||| ((nI 1) <<< (x3 &&& 31)))) else σ4)))
set_option maxRecDepth 20000 in
theorem t_X7_compare_86 {G : sj_G} {R : sj_R} {b : Nat} {x2 : Int32} {x3 : Int32} {σ : sj_S} (hb : b = 6 ∨ b = 18) (h : wp_X7_compare_86 G R b x2 x3 σ) : sj_J G 3 me_X7_compare R 86 [.ref (sj_ad G b), .ref (sj_ad G 1), .int x2, .int x3, .null, .null] σ [] := by
  unfold wp_X7_compare_86 at h
  refine sj_aload_n dX7_compare_86 (i := 1) rfl rfl ?_
  refine sj_iload_n dX7_compare_87 (i := 2) rfl rfl ?_
  refine sj_iconst (v := (nI 3)) dX7_compare_88 (by decide +kernel) ?_
  obtain ⟨v1, σ1, hc1, h⟩ := h
  refine sj_callVi (M' := me_X8_ofLesson) (b := 1) (As := [.int x2, .int (nI 3)]) (rest := []) dX7_compare_89 gX7_compare_X8_ofLesson rfl hd_X8_ofLesson (by decide +kernel) (by decide +kernel) rfl (Nat.le_of_ble_eq_true rfl) (by omega) rfl hc1 ?_
  refine sj_istore dX7_compare_92 (by decide) ?_
  refine sj_iload dX7_compare_94 rfl ?_
  refine sj_iconst (v := (-1)) dX7_compare_96 (by decide +kernel) ?_
  refine sj_icmp_eq (tgt := 123) dX7_compare_97 (by decide) (fun c3 => ?_) (fun c3 => ?_)
  · replace h := h.1 c3
    refine sj_fg [0, 1, 2, 3, 5] ?_
    exact t_X7_compare_123 hb h
  · replace h := h.2 c3
    refine sj_aload_n dX7_compare_100 (i := 1) rfl rfl ?_
    refine sj_iload_n dX7_compare_101 (i := 3) rfl rfl ?_
    refine sj_iconst (v := (nI 3)) dX7_compare_102 (by decide +kernel) ?_
    obtain ⟨v4, σ4, hc4, h⟩ := h
    refine sj_callVi (M' := me_X8_ofLesson) (b := 1) (As := [.int x3, .int (nI 3)]) (rest := []) dX7_compare_103 gX7_compare_X8_ofLesson rfl hd_X8_ofLesson (by decide +kernel) (by decide +kernel) rfl (Nat.le_of_ble_eq_true rfl) (by omega) rfl hc4 ?_
    refine sj_iload dX7_compare_106 rfl ?_
    obtain ⟨f8, h⟩ := h
    refine sj_icmp_ne (tgt := 123) dX7_compare_108 (by decide) (fun c5 => ?_) (fun c5 => ?_)
    · try simp only [if_neg c5] at h
      refine sj_fg [0, 1, 2, 3, 5] ?_
      exact t_X7_compare_123 hb h
    · obtain ⟨b6, b7⟩ := f8 c5
      refine sj_aload_n dX7_compare_111 (i := 0) rfl rfl ?_
      refine sj_get (a := b) (k9 := 9) (v := .ref (sj_ad G (b + 9))) dX7_compare_112 (by rcases hb with rfl | rfl <;> decide +kernel) (by rcases hb with rfl | rfl <;> rfl) ?_
      refine sj_iload_n dX7_compare_115 (i := 2) rfl rfl ?_
      refine sj_dup2 dX7_compare_116 rfl rfl ?_
      refine sj_iald (a := (b + 9)) (j := x2.toNatClampNeg) (x := (σ4 (b + 9) x2.toNatClampNeg)) dX7_compare_117 (by rcases hb with rfl | rfl <;> rfl) (by rcases hb with rfl | rfl <;> decide +kernel) (by rcases hb with rfl | rfl <;> exact b6) rfl rfl ?_
      refine sj_iconst (v := (nI 1)) dX7_compare_118 (by decide +kernel) ?_
      refine sj_iload_n dX7_compare_119 (i := 3) rfl rfl ?_
      refine sj_ishl dX7_compare_120 ?_
      refine sj_ior dX7_compare_121 ?_
      refine sj_iast (a := (b + 9)) (j := x2.toNatClampNeg) dX7_compare_122 (by rcases hb with rfl | rfl <;> rfl) (by rcases hb with rfl | rfl <;> decide +kernel) (by rcases hb with rfl | rfl <;> exact b7) rfl ?_
      try simp only [if_pos c5] at h
      refine sj_fg [0, 1, 2, 3, 5] ?_
      exact t_X7_compare_123 hb h
def wp_X7_compare_54 (G : sj_G) (R : sj_R) (b : Nat) (x2 : Int32) (x3 : Int32) (x4 : Int32) (σ : sj_S) : Prop := (x4 = 0 → (wp_X7_compare_86 G R b x2 x3 σ)) ∧ (¬ (x4 = 0) → ∃ v3 σ3, sj_C G 2 me_X8_ofLesson [.ref (sj_ad G 1), .int x3, .int (nI 2)] σ (.ok v3, σ3) ∧ ∃ v4 σ4, sj_C G 2 me_X8_ofLesson [.ref (sj_ad G 1), .int x2, .int (nI 2)] σ3 (.ok v4, σ4) ∧ ((v3 = v4) → vp_in x2 9 ∧ vp_in x2 9) ∧ (wp_X7_compare_86 G R b x2 x3 (if v3 = v4 then (sj_st σ4 (b + 6) x2.toNatClampNeg ((σ4 (b + 6) x2.toNatClampNeg) ||| ((nI 1) <<< (x3 &&& 31)))) else σ4)))
set_option maxRecDepth 20000 in
theorem t_X7_compare_54 {G : sj_G} {R : sj_R} {b : Nat} {x2 : Int32} {x3 : Int32} {x4 : Int32} {σ : sj_S} (hb : b = 6 ∨ b = 18) (h : wp_X7_compare_54 G R b x2 x3 x4 σ) : sj_J G 3 me_X7_compare R 54 [.ref (sj_ad G b), .ref (sj_ad G 1), .int x2, .int x3, .int x4, .null] σ [] := by
  unfold wp_X7_compare_54 at h
  refine sj_iload dX7_compare_54 rfl ?_
  refine sj_if_eq (tgt := 86) dX7_compare_56 (by decide) (fun c2 => ?_) (fun c2 => ?_)
  · replace h := h.1 c2
    refine sj_fg [4] ?_
    exact t_X7_compare_86 hb h
  · replace h := h.2 c2
    refine sj_aload_n dX7_compare_59 (i := 1) rfl rfl ?_
    refine sj_iload_n dX7_compare_60 (i := 3) rfl rfl ?_
    refine sj_iconst (v := (nI 2)) dX7_compare_61 (by decide +kernel) ?_
    obtain ⟨v3, σ3, hc3, h⟩ := h
    refine sj_callVi (M' := me_X8_ofLesson) (b := 1) (As := [.int x3, .int (nI 2)]) (rest := []) dX7_compare_62 gX7_compare_X8_ofLesson rfl hd_X8_ofLesson (by decide +kernel) (by decide +kernel) rfl (Nat.le_of_ble_eq_true rfl) (by omega) rfl hc3 ?_
    refine sj_aload_n dX7_compare_65 (i := 1) rfl rfl ?_
    refine sj_iload_n dX7_compare_66 (i := 2) rfl rfl ?_
    refine sj_iconst (v := (nI 2)) dX7_compare_67 (by decide +kernel) ?_
    obtain ⟨v4, σ4, hc4, h⟩ := h
    refine sj_callVi (M' := me_X8_ofLesson) (b := 1) (As := [.int x2, .int (nI 2)]) (rest := [.int v3]) dX7_compare_68 gX7_compare_X8_ofLesson rfl hd_X8_ofLesson (by decide +kernel) (by decide +kernel) rfl (Nat.le_of_ble_eq_true rfl) (by omega) rfl hc4 ?_
    obtain ⟨f8, h⟩ := h
    refine sj_icmp_ne (tgt := 86) dX7_compare_71 (by decide) (fun c5 => ?_) (fun c5 => ?_)
    · try simp only [if_neg c5] at h
      refine sj_fg [4] ?_
      exact t_X7_compare_86 hb h
    · obtain ⟨b6, b7⟩ := f8 c5
      refine sj_aload_n dX7_compare_74 (i := 0) rfl rfl ?_
      refine sj_get (a := b) (k9 := 6) (v := .ref (sj_ad G (b + 6))) dX7_compare_75 (by rcases hb with rfl | rfl <;> decide +kernel) (by rcases hb with rfl | rfl <;> rfl) ?_
      refine sj_iload_n dX7_compare_78 (i := 2) rfl rfl ?_
      refine sj_dup2 dX7_compare_79 rfl rfl ?_
      refine sj_iald (a := (b + 6)) (j := x2.toNatClampNeg) (x := (σ4 (b + 6) x2.toNatClampNeg)) dX7_compare_80 (by rcases hb with rfl | rfl <;> rfl) (by rcases hb with rfl | rfl <;> decide +kernel) (by rcases hb with rfl | rfl <;> exact b6) rfl rfl ?_
      refine sj_iconst (v := (nI 1)) dX7_compare_81 (by decide +kernel) ?_
      refine sj_iload_n dX7_compare_82 (i := 3) rfl rfl ?_
      refine sj_ishl dX7_compare_83 ?_
      refine sj_ior dX7_compare_84 ?_
      refine sj_iast (a := (b + 6)) (j := x2.toNatClampNeg) dX7_compare_85 (by rcases hb with rfl | rfl <;> rfl) (by rcases hb with rfl | rfl <;> decide +kernel) (by rcases hb with rfl | rfl <;> exact b7) rfl ?_
      try simp only [if_pos c5] at h
      refine sj_fg [4] ?_
      exact t_X7_compare_86 hb h
def wp_X7_compare_42 (G : sj_G) (R : sj_R) (b : Nat) (x2 : Int32) (x3 : Int32) (x4 : Int32) (σ : sj_S) : Prop := vp_in x2 9 ∧ vp_in x2 9 ∧ (wp_X7_compare_54 G R b x2 x3 x4 (sj_st σ (b + 4) x2.toNatClampNeg ((σ (b + 4) x2.toNatClampNeg) ||| ((nI 1) <<< (x3 &&& 31)))))
set_option maxRecDepth 20000 in
theorem t_X7_compare_42 {G : sj_G} {R : sj_R} {b : Nat} {x2 : Int32} {x3 : Int32} {x4 : Int32} {σ : sj_S} (hb : b = 6 ∨ b = 18) (h : wp_X7_compare_42 G R b x2 x3 x4 σ) : sj_J G 3 me_X7_compare R 42 [.ref (sj_ad G b), .ref (sj_ad G 1), .int x2, .int x3, .int x4, .null] σ [] := by
  unfold wp_X7_compare_42 at h
  refine sj_aload_n dX7_compare_42 (i := 0) rfl rfl ?_
  refine sj_get (a := b) (k9 := 4) (v := .ref (sj_ad G (b + 4))) dX7_compare_43 (by rcases hb with rfl | rfl <;> decide +kernel) (by rcases hb with rfl | rfl <;> rfl) ?_
  refine sj_iload_n dX7_compare_46 (i := 2) rfl rfl ?_
  refine sj_dup2 dX7_compare_47 rfl rfl ?_
  obtain ⟨b1, h⟩ := h
  refine sj_iald (a := (b + 4)) (j := x2.toNatClampNeg) (x := (σ (b + 4) x2.toNatClampNeg)) dX7_compare_48 (by rcases hb with rfl | rfl <;> rfl) (by rcases hb with rfl | rfl <;> decide +kernel) (by rcases hb with rfl | rfl <;> exact b1) rfl rfl ?_
  refine sj_iconst (v := (nI 1)) dX7_compare_49 (by decide +kernel) ?_
  refine sj_iload_n dX7_compare_50 (i := 3) rfl rfl ?_
  refine sj_ishl dX7_compare_51 ?_
  refine sj_ior dX7_compare_52 ?_
  obtain ⟨b2, h⟩ := h
  refine sj_iast (a := (b + 4)) (j := x2.toNatClampNeg) dX7_compare_53 (by rcases hb with rfl | rfl <;> rfl) (by rcases hb with rfl | rfl <;> decide +kernel) (by rcases hb with rfl | rfl <;> exact b2) rfl ?_
  exact t_X7_compare_54 hb h
def wp_X7_compare_20 (G : sj_G) (R : sj_R) (b : Nat) (x2 : Int32) (x3 : Int32) (s0 : Int32) (σ : sj_S) : Prop := (¬ s0 = 0 → (wp_X7_compare_42 G R b x2 x3 s0 σ)) ∧ (s0 = 0 → ∃ v5 σ5, sj_C G 2 me_X8_ofLesson [.ref (sj_ad G 1), .int x3, .int (nI 1)] σ (.ok v5, σ5) ∧ ∃ v6 σ6, sj_C G 2 me_X8_ofLesson [.ref (sj_ad G 1), .int x2, .int (nI 1)] σ5 (.ok v6, σ6) ∧ ((v5 = v6) → vp_in x2 9 ∧ vp_in x2 9) ∧ (wp_X7_compare_54 G R b x2 x3 s0 (if v5 = v6 then (sj_st σ6 (b + 4) x2.toNatClampNeg ((σ6 (b + 4) x2.toNatClampNeg) ||| ((nI 1) <<< (x3 &&& 31)))) else σ6)))
set_option maxRecDepth 20000 in
theorem t_X7_compare_20 {G : sj_G} {R : sj_R} {b : Nat} {x2 : Int32} {x3 : Int32} {s0 : Int32} {σ : sj_S} (hb : b = 6 ∨ b = 18) (h : wp_X7_compare_20 G R b x2 x3 s0 σ) : sj_J G 3 me_X7_compare R 20 [.ref (sj_ad G b), .ref (sj_ad G 1), .int x2, .int x3, .null, .null] σ [.int s0] := by
  unfold wp_X7_compare_20 at h
  refine sj_istore dX7_compare_20 (by decide) ?_
  refine sj_iload dX7_compare_22 rfl ?_
  refine sj_if_ne (tgt := 42) dX7_compare_24 (by decide) (fun c4 => ?_) (fun c4 => ?_)
  · replace h := h.1 c4
    exact t_X7_compare_42 hb h
  · replace h := h.2 c4
    refine sj_aload_n dX7_compare_27 (i := 1) rfl rfl ?_
    refine sj_iload_n dX7_compare_28 (i := 3) rfl rfl ?_
    refine sj_iconst (v := (nI 1)) dX7_compare_29 (by decide +kernel) ?_
    obtain ⟨v5, σ5, hc5, h⟩ := h
    refine sj_callVi (M' := me_X8_ofLesson) (b := 1) (As := [.int x3, .int (nI 1)]) (rest := []) dX7_compare_30 gX7_compare_X8_ofLesson rfl hd_X8_ofLesson (by decide +kernel) (by decide +kernel) rfl (Nat.le_of_ble_eq_true rfl) (by omega) rfl hc5 ?_
    refine sj_aload_n dX7_compare_33 (i := 1) rfl rfl ?_
    refine sj_iload_n dX7_compare_34 (i := 2) rfl rfl ?_
    refine sj_iconst (v := (nI 1)) dX7_compare_35 (by decide +kernel) ?_
    obtain ⟨v6, σ6, hc6, h⟩ := h
    refine sj_callVi (M' := me_X8_ofLesson) (b := 1) (As := [.int x2, .int (nI 1)]) (rest := [.int v5]) dX7_compare_36 gX7_compare_X8_ofLesson rfl hd_X8_ofLesson (by decide +kernel) (by decide +kernel) rfl (Nat.le_of_ble_eq_true rfl) (by omega) rfl hc6 ?_
    obtain ⟨f10, h⟩ := h
    refine sj_icmp_ne (tgt := 54) dX7_compare_39 (by decide) (fun c7 => ?_) (fun c7 => ?_)
    · try simp only [if_neg c7] at h
      exact t_X7_compare_54 hb h
    · obtain ⟨b8, b9⟩ := f10 c7
      refine sj_aload_n dX7_compare_42 (i := 0) rfl rfl ?_
      refine sj_get (a := b) (k9 := 4) (v := .ref (sj_ad G (b + 4))) dX7_compare_43 (by rcases hb with rfl | rfl <;> decide +kernel) (by rcases hb with rfl | rfl <;> rfl) ?_
      refine sj_iload_n dX7_compare_46 (i := 2) rfl rfl ?_
      refine sj_dup2 dX7_compare_47 rfl rfl ?_
      refine sj_iald (a := (b + 4)) (j := x2.toNatClampNeg) (x := (σ6 (b + 4) x2.toNatClampNeg)) dX7_compare_48 (by rcases hb with rfl | rfl <;> rfl) (by rcases hb with rfl | rfl <;> decide +kernel) (by rcases hb with rfl | rfl <;> exact b8) rfl rfl ?_
      refine sj_iconst (v := (nI 1)) dX7_compare_49 (by decide +kernel) ?_
      refine sj_iload_n dX7_compare_50 (i := 3) rfl rfl ?_
      refine sj_ishl dX7_compare_51 ?_
      refine sj_ior dX7_compare_52 ?_
      refine sj_iast (a := (b + 4)) (j := x2.toNatClampNeg) dX7_compare_53 (by rcases hb with rfl | rfl <;> rfl) (by rcases hb with rfl | rfl <;> decide +kernel) (by rcases hb with rfl | rfl <;> exact b9) rfl ?_
      try simp only [if_pos c7] at h
      exact t_X7_compare_54 hb h
def wp_X7_compare_0 (G : sj_G) (R : sj_R) (b : Nat) (x2 : Int32) (x3 : Int32) (σ : sj_S) : Prop := ∃ v1 σ1, sj_C G 2 me_X8_ofLesson [.ref (sj_ad G 1), .int x3, .int (nI 0)] σ (.ok v1, σ1) ∧ ∃ v2 σ2, sj_C G 2 me_X8_ofLesson [.ref (sj_ad G 1), .int x2, .int (nI 0)] σ1 (.ok v2, σ2) ∧ (wp_X7_compare_20 G R b x2 x3 (if v1 = v2 then (nI 1) else (nI 0)) σ2)
set_option maxRecDepth 20000 in
theorem t_X7_compare_0 {G : sj_G} {R : sj_R} {b : Nat} {x2 : Int32} {x3 : Int32} {σ : sj_S} (hb : b = 6 ∨ b = 18) (h : wp_X7_compare_0 G R b x2 x3 σ) : sj_J G 3 me_X7_compare R 0 [.ref (sj_ad G b), .ref (sj_ad G 1), .int x2, .int x3, .null, .null] σ [] := by
  unfold wp_X7_compare_0 at h
  refine sj_aload_n dX7_compare_0 (i := 1) rfl rfl ?_
  refine sj_iload_n dX7_compare_1 (i := 3) rfl rfl ?_
  refine sj_iconst (v := (nI 0)) dX7_compare_2 (by decide +kernel) ?_
  obtain ⟨v1, σ1, hc1, h⟩ := h
  refine sj_callVi (M' := me_X8_ofLesson) (b := 1) (As := [.int x3, .int (nI 0)]) (rest := []) dX7_compare_3 gX7_compare_X8_ofLesson rfl hd_X8_ofLesson (by decide +kernel) (by decide +kernel) rfl (Nat.le_of_ble_eq_true rfl) (by omega) rfl hc1 ?_
  refine sj_aload_n dX7_compare_6 (i := 1) rfl rfl ?_
  refine sj_iload_n dX7_compare_7 (i := 2) rfl rfl ?_
  refine sj_iconst (v := (nI 0)) dX7_compare_8 (by decide +kernel) ?_
  obtain ⟨v2, σ2, hc2, h⟩ := h
  refine sj_callVi (M' := me_X8_ofLesson) (b := 1) (As := [.int x2, .int (nI 0)]) (rest := [.int v1]) dX7_compare_9 gX7_compare_X8_ofLesson rfl hd_X8_ofLesson (by decide +kernel) (by decide +kernel) rfl (Nat.le_of_ble_eq_true rfl) (by omega) rfl hc2 ?_
  refine sj_icmp_ne (tgt := 19) dX7_compare_12 (by decide) (fun c3 => ?_) (fun c3 => ?_)
  · refine sj_iconst (v := (nI 0)) dX7_compare_19 (by decide +kernel) ?_
    try simp only [if_neg c3] at h
    exact t_X7_compare_20 hb h
  · refine sj_iconst (v := (nI 1)) dX7_compare_15 (by decide +kernel) ?_
    refine sj_goto (tgt := 20) dX7_compare_16 (by decide) ?_
    try simp only [if_pos c3] at h
    exact t_X7_compare_20 hb h
theorem c_X7_compare {G : sj_G} (ok : sj_ok G) {R : sj_R} {b : Nat} {x2 : Int32} {x3 : Int32} {σ : sj_S} (hb : b = 6 ∨ b = 18) (h : wp_X7_compare_0 G R b x2 x3 σ) : sj_C G 3 me_X7_compare [.ref (sj_ad G b), .ref (sj_ad G 1), .int x2, .int x3] σ R :=
  sj_enter ok (by decide +kernel) rfl rfl (Nat.le_of_ble_eq_true rfl) (by simp [Value.category]) (t_X7_compare_0 hb h)
def wp_X7_takeWish_9 (G : sj_G) (R : sj_R) (b : Nat) (x2 : Int32) (x3 : Int32) (x4 : Int32) (σ : sj_S) : Prop := sj_J G 3 me_X7_takeWish R 12 [.ref (sj_ad G b), .ref (sj_ad G 1), .int x2, .int x3, .int x4, .int (nI 0)] σ []
set_option maxRecDepth 20000 in
theorem t_X7_takeWish_9 {G : sj_G} {R : sj_R} {b : Nat} {x2 : Int32} {x3 : Int32} {x4 : Int32} {σ : sj_S} (hb : b = 6 ∨ b = 18) (h : wp_X7_takeWish_9 G R b x2 x3 x4 σ) : sj_J G 3 me_X7_takeWish R 9 [.ref (sj_ad G b), .ref (sj_ad G 1), .int x2, .int x3, .int x4, .null] σ [] := by
  unfold wp_X7_takeWish_9 at h
  refine sj_iconst (v := (nI 0)) dX7_takeWish_9 (by decide +kernel) ?_
  refine sj_istore dX7_takeWish_10 (by decide) ?_
  exact h
def wp_X7_takeWish_69 (G : sj_G) (R : sj_R) (b : Nat) (x2 : Int32) (x3 : Int32) (x4 : Int32) (x5 : Int32) (σ : sj_S) : Prop := sj_J G 3 me_X7_takeWish R 12 [.ref (sj_ad G b), .ref (sj_ad G 1), .int x2, .int x3, .int x4, .int (x5 + (nI 1))] σ []
set_option maxRecDepth 20000 in
theorem t_X7_takeWish_69 {G : sj_G} {R : sj_R} {b : Nat} {x2 : Int32} {x3 : Int32} {x4 : Int32} {x5 : Int32} {σ : sj_S} (hb : b = 6 ∨ b = 18) (h : wp_X7_takeWish_69 G R b x2 x3 x4 x5 σ) : sj_J G 3 me_X7_takeWish R 69 [.ref (sj_ad G b), .ref (sj_ad G 1), .int x2, .int x3, .int x4, .int x5] σ [] := by
  unfold wp_X7_takeWish_69 at h
  refine sj_iinc (v := (x5 + (nI 1))) dX7_takeWish_69 (by decide) rfl rfl ?_
  refine sj_goto (tgt := 12) dX7_takeWish_72 (by decide) ?_
  exact h
def wp_X7_takeWish_33 (G : sj_G) (R : sj_R) (b : Nat) (x2 : Int32) (x3 : Int32) (x4 : Int32) (x5 : Int32) (s0 : Int32) (s1 : Int32) (σ : sj_S) : Prop := ∃ v1 σ1, sj_C G 2 me_X8_isOf [.ref (sj_ad G 1), .int s1, .int s0, .int x3] σ (.ok v1, σ1) ∧ ((¬ (v1 = 0)) → vp_in x5 9 ∧ vp_in x5 9 ∧ vp_in x5 9) ∧ (wp_X7_takeWish_69 G R b x2 x3 x4 x5 (if v1 = 0 then σ1 else (sj_st σ1 (b + 1) x5.toNatClampNeg ((σ1 (b + 1) x5.toNatClampNeg) &&& ((((nI 1) <<< (x4 &&& 31)) ||| (((nI 1) <<< (x4 &&& 31)) >>> ((σ1 (b + 3) x5.toNatClampNeg) &&& 31))) ^^^ (-1))))))
set_option maxRecDepth 20000 in
theorem t_X7_takeWish_33 {G : sj_G} {R : sj_R} {b : Nat} {x2 : Int32} {x3 : Int32} {x4 : Int32} {x5 : Int32} {s0 : Int32} {s1 : Int32} {σ : sj_S} (hb : b = 6 ∨ b = 18) (h : wp_X7_takeWish_33 G R b x2 x3 x4 x5 s0 s1 σ) : sj_J G 3 me_X7_takeWish R 33 [.ref (sj_ad G b), .ref (sj_ad G 1), .int x2, .int x3, .int x4, .int x5] σ [.int s0, .int s1, .ref (sj_ad G 1)] := by
  unfold wp_X7_takeWish_33 at h
  refine sj_iload_n dX7_takeWish_33 (i := 3) rfl rfl ?_
  obtain ⟨v1, σ1, hc1, h⟩ := h
  refine sj_callVi (M' := me_X8_isOf) (b := 1) (As := [.int s1, .int s0, .int x3]) (rest := []) dX7_takeWish_34 gX7_takeWish_X8_isOf rfl hd_X8_isOf (by decide +kernel) (by decide +kernel) rfl (Nat.le_of_ble_eq_true rfl) (by omega) rfl hc1 ?_
  obtain ⟨f6, h⟩ := h
  refine sj_if_eq (tgt := 69) dX7_takeWish_37 (by decide) (fun c2 => ?_) (fun c2 => ?_)
  · try simp only [if_pos c2] at h
    exact t_X7_takeWish_69 hb h
  · obtain ⟨b3, b4, b5⟩ := f6 c2
    refine sj_aload_n dX7_takeWish_40 (i := 0) rfl rfl ?_
    refine sj_get (a := b) (k9 := 1) (v := .ref (sj_ad G (b + 1))) dX7_takeWish_41 (by rcases hb with rfl | rfl <;> decide +kernel) (by rcases hb with rfl | rfl <;> rfl) ?_
    refine sj_iload dX7_takeWish_44 rfl ?_
    refine sj_dup2 dX7_takeWish_46 rfl rfl ?_
    refine sj_iald (a := (b + 1)) (j := x5.toNatClampNeg) (x := (σ1 (b + 1) x5.toNatClampNeg)) dX7_takeWish_47 (by rcases hb with rfl | rfl <;> rfl) (by rcases hb with rfl | rfl <;> decide +kernel) (by rcases hb with rfl | rfl <;> exact b3) rfl rfl ?_
    refine sj_iconst (v := (nI 1)) dX7_takeWish_48 (by decide +kernel) ?_
    refine sj_iload dX7_takeWish_49 rfl ?_
    refine sj_ishl dX7_takeWish_51 ?_
    refine sj_iconst (v := (nI 1)) dX7_takeWish_52 (by decide +kernel) ?_
    refine sj_iload dX7_takeWish_53 rfl ?_
    refine sj_ishl dX7_takeWish_55 ?_
    refine sj_aload_n dX7_takeWish_56 (i := 0) rfl rfl ?_
    refine sj_get (a := b) (k9 := 3) (v := .ref (sj_ad G (b + 3))) dX7_takeWish_57 (by rcases hb with rfl | rfl <;> decide +kernel) (by rcases hb with rfl | rfl <;> rfl) ?_
    refine sj_iload dX7_takeWish_60 rfl ?_
    refine sj_iald (a := (b + 3)) (j := x5.toNatClampNeg) (x := (σ1 (b + 3) x5.toNatClampNeg)) dX7_takeWish_62 (by rcases hb with rfl | rfl <;> rfl) (by rcases hb with rfl | rfl <;> decide +kernel) (by rcases hb with rfl | rfl <;> exact b4) rfl rfl ?_
    refine sj_ishr dX7_takeWish_63 ?_
    refine sj_ior dX7_takeWish_64 ?_
    refine sj_iconst (v := (-1)) dX7_takeWish_65 (by decide +kernel) ?_
    refine sj_ixor dX7_takeWish_66 ?_
    refine sj_iand dX7_takeWish_67 ?_
    refine sj_iast (a := (b + 1)) (j := x5.toNatClampNeg) dX7_takeWish_68 (by rcases hb with rfl | rfl <;> rfl) (by rcases hb with rfl | rfl <;> decide +kernel) (by rcases hb with rfl | rfl <;> exact b5) rfl ?_
    try simp only [if_neg c2] at h
    exact t_X7_takeWish_69 hb h
def wp_X7_takeWish_200 (G : sj_G) (R : sj_R) (b : Nat) (σ : sj_S) : Prop := R = (.ok 0, σ)
set_option maxRecDepth 20000 in
theorem t_X7_takeWish_200 {G : sj_G} {R : sj_R} {b : Nat} {σ : sj_S} (hb : b = 6 ∨ b = 18) (h : wp_X7_takeWish_200 G R b σ) : sj_J G 3 me_X7_takeWish R 200 [.null, .null, .null, .null, .null, .null] σ [] := by
  unfold wp_X7_takeWish_200 at h
  subst h
  exact sj_vret dX7_takeWish_200 rfl
def wp_X7_takeWish_12 (G : sj_G) (R : sj_R) (b : Nat) (x2 : Int32) (x3 : Int32) (x4 : Int32) (x5 : Int32) (σ : sj_S) : Prop := ((σ b 0) ≤ x5 → (wp_X7_takeWish_200 G R b σ)) ∧ (¬ ((σ b 0) ≤ x5) → (wp_X7_takeWish_33 G R b x2 x3 x4 x5 (if x2 = 0 then (nI 1) else (nI 0)) x5 σ))
set_option maxRecDepth 20000 in
theorem t_X7_takeWish_12 {G : sj_G} {R : sj_R} {b : Nat} {x2 : Int32} {x3 : Int32} {x4 : Int32} {x5 : Int32} {σ : sj_S} (hb : b = 6 ∨ b = 18) (h : wp_X7_takeWish_12 G R b x2 x3 x4 x5 σ) : sj_J G 3 me_X7_takeWish R 12 [.ref (sj_ad G b), .ref (sj_ad G 1), .int x2, .int x3, .int x4, .int x5] σ [] := by
  unfold wp_X7_takeWish_12 at h
  refine sj_iload dX7_takeWish_12 rfl ?_
  refine sj_aload_n dX7_takeWish_14 (i := 0) rfl rfl ?_
  refine sj_get (a := b) (k9 := 0) (v := .int (σ b 0)) dX7_takeWish_15 (by rcases hb with rfl | rfl <;> decide +kernel) (by rcases hb with rfl | rfl <;> rfl) ?_
  refine sj_icmp_ge (tgt := 75) dX7_takeWish_18 (by decide) (fun c1 => ?_) (fun c1 => ?_)
  · replace h := h.1 c1
    refine sj_goto (tgt := 200) dX7_takeWish_75 (by decide) ?_
    refine sj_fg [0, 1, 2, 3, 4, 5] ?_
    exact t_X7_takeWish_200 hb h
  · replace h := h.2 c1
    refine sj_aload_n dX7_takeWish_21 (i := 1) rfl rfl ?_
    refine sj_iload dX7_takeWish_22 rfl ?_
    refine sj_iload_n dX7_takeWish_24 (i := 2) rfl rfl ?_
    refine sj_if_ne (tgt := 32) dX7_takeWish_25 (by decide) (fun c2 => ?_) (fun c2 => ?_)
    · refine sj_iconst (v := (nI 0)) dX7_takeWish_32 (by decide +kernel) ?_
      try simp only [if_neg c2] at h
      exact t_X7_takeWish_33 hb h
    · refine sj_iconst (v := (nI 1)) dX7_takeWish_28 (by decide +kernel) ?_
      refine sj_goto (tgt := 33) dX7_takeWish_29 (by decide) ?_
      try simp only [if_pos c2] at h
      exact t_X7_takeWish_33 hb h
def wp_X7_takeWish_0 (G : sj_G) (R : sj_R) (b : Nat) (x2 : Int32) (x3 : Int32) (x4 : Int32) (σ : sj_S) : Prop := (x2 = 0 → (wp_X7_takeWish_9 G R b x2 x3 x4 σ)) ∧ (¬ (x2 = 0) → (¬ x2 = (nI 1) → (¬ x2 = (nI 2) → (¬ x2 = (nI 3) → ((¬ (x2 = (nI 6))) → (¬ (x2 = (nI 4))) → vp_in x3 9 ∧ vp_in x3 9 ∧ vp_in x4 9 ∧ vp_in x4 9) ∧ ((¬ (x2 = (nI 6))) → (x2 = (nI 4)) → vp_in x3 9 ∧ vp_in x3 9 ∧ vp_in x4 9 ∧ vp_in x4 9) ∧ ((x2 = (nI 6)) → vp_in x4 9 ∧ vp_in x4 9 ∧ vp_in x3 9 ∧ vp_in x3 9) ∧ (wp_X7_takeWish_200 G R b (if x2 = (nI 6) then (sj_st (sj_st σ (b + 7) x4.toNatClampNeg ((σ (b + 7) x4.toNatClampNeg) ||| ((nI 1) <<< (x3 &&& 31)))) (b + 8) x3.toNatClampNeg (((sj_st σ (b + 7) x4.toNatClampNeg ((σ (b + 7) x4.toNatClampNeg) ||| ((nI 1) <<< (x3 &&& 31)))) (b + 8) x3.toNatClampNeg) ||| ((nI 1) <<< (x4 &&& 31)))) else (if x2 = (nI 4) then (sj_st (sj_st σ (b + 5) x3.toNatClampNeg ((σ (b + 5) x3.toNatClampNeg) ||| ((nI 1) <<< (x4 &&& 31)))) (b + 5) x4.toNatClampNeg (((sj_st σ (b + 5) x3.toNatClampNeg ((σ (b + 5) x3.toNatClampNeg) ||| ((nI 1) <<< (x4 &&& 31)))) (b + 5) x4.toNatClampNeg) ||| ((nI 1) <<< (x3 &&& 31)))) else (sj_st (sj_st σ (b + 6) x3.toNatClampNeg ((σ (b + 6) x3.toNatClampNeg) ||| ((nI 1) <<< (x4 &&& 31)))) (b + 6) x4.toNatClampNeg (((sj_st σ (b + 6) x3.toNatClampNeg ((σ (b + 6) x3.toNatClampNeg) ||| ((nI 1) <<< (x4 &&& 31)))) (b + 6) x4.toNatClampNeg) ||| ((nI 1) <<< (x3 &&& 31)))))))) ∧ (x2 = (nI 3) → vp_in x3 9 ∧ vp_in x3 9 ∧ (wp_X7_takeWish_200 G R b (sj_st σ (b + 1) x3.toNatClampNeg ((σ (b + 1) x3.toNatClampNeg) &&& ((nI 1) <<< (x4 &&& 31))))))) ∧ (x2 = (nI 2) → vp_in x3 9 ∧ vp_in x3 9 ∧ (wp_X7_takeWish_200 G R b (sj_st σ (b + 1) x3.toNatClampNeg ((σ (b + 1) x3.toNatClampNeg) &&& (((nI 15) <<< ((x4 * (nI 4)) &&& 31)) ^^^ (-1))))))) ∧ (x2 = (nI 1) → (wp_X7_takeWish_9 G R b x2 x3 x4 σ)))
set_option maxRecDepth 20000 in
theorem t_X7_takeWish_0 {G : sj_G} {R : sj_R} {b : Nat} {x2 : Int32} {x3 : Int32} {x4 : Int32} {σ : sj_S} (hb : b = 6 ∨ b = 18) (h : wp_X7_takeWish_0 G R b x2 x3 x4 σ) : sj_J G 3 me_X7_takeWish R 0 [.ref (sj_ad G b), .ref (sj_ad G 1), .int x2, .int x3, .int x4, .null] σ [] := by
  unfold wp_X7_takeWish_0 at h
  refine sj_iload_n dX7_takeWish_0 (i := 2) rfl rfl ?_
  refine sj_if_eq (tgt := 9) dX7_takeWish_1 (by decide) (fun c2 => ?_) (fun c2 => ?_)
  · replace h := h.1 c2
    exact t_X7_takeWish_9 hb h
  · replace h := h.2 c2
    refine sj_iload_n dX7_takeWish_4 (i := 2) rfl rfl ?_
    refine sj_iconst (v := (nI 1)) dX7_takeWish_5 (by decide +kernel) ?_
    refine sj_icmp_ne (tgt := 78) dX7_takeWish_6 (by decide) (fun c18 => ?_) (fun c18 => ?_)
    · replace h := h.1 c18
      refine sj_iload_n dX7_takeWish_78 (i := 2) rfl rfl ?_
      refine sj_iconst (v := (nI 2)) dX7_takeWish_79 (by decide +kernel) ?_
      refine sj_icmp_ne (tgt := 104) dX7_takeWish_80 (by decide) (fun c34 => ?_) (fun c34 => ?_)
      · replace h := h.1 c34
        refine sj_iload_n dX7_takeWish_104 (i := 2) rfl rfl ?_
        refine sj_iconst (v := (nI 3)) dX7_takeWish_105 (by decide +kernel) ?_
        refine sj_icmp_ne (tgt := 125) dX7_takeWish_106 (by decide) (fun c50 => ?_) (fun c50 => ?_)
        · replace h := h.1 c50
          refine sj_iload_n dX7_takeWish_125 (i := 2) rfl rfl ?_
          refine sj_bipush (v := (nI 6)) dX7_takeWish_126 (by decide +kernel) ?_
          obtain ⟨f65, f66, f67, h⟩ := h
          refine sj_icmp_ne (tgt := 160) dX7_takeWish_128 (by decide) (fun c51 => ?_) (fun c51 => ?_)
          · refine sj_iload_n dX7_takeWish_160 (i := 2) rfl rfl ?_
            refine sj_iconst (v := (nI 4)) dX7_takeWish_161 (by decide +kernel) ?_
            refine sj_icmp_ne (tgt := 172) dX7_takeWish_162 (by decide) (fun c52 => ?_) (fun c52 => ?_)
            · obtain ⟨b53, b54, b55, b56⟩ := f65 c51 c52
              refine sj_aload_n dX7_takeWish_172 (i := 0) rfl rfl ?_
              refine sj_get (a := b) (k9 := 6) (v := .ref (sj_ad G (b + 6))) dX7_takeWish_173 (by rcases hb with rfl | rfl <;> decide +kernel) (by rcases hb with rfl | rfl <;> rfl) ?_
              refine sj_astore dX7_takeWish_176 (by decide) ?_
              refine sj_aload dX7_takeWish_178 rfl ?_
              refine sj_iload_n dX7_takeWish_180 (i := 3) rfl rfl ?_
              refine sj_dup2 dX7_takeWish_181 rfl rfl ?_
              refine sj_iald (a := (b + 6)) (j := x3.toNatClampNeg) (x := (σ (b + 6) x3.toNatClampNeg)) dX7_takeWish_182 (by rcases hb with rfl | rfl <;> rfl) (by rcases hb with rfl | rfl <;> decide +kernel) (by rcases hb with rfl | rfl <;> exact b53) rfl rfl ?_
              refine sj_iconst (v := (nI 1)) dX7_takeWish_183 (by decide +kernel) ?_
              refine sj_iload dX7_takeWish_184 rfl ?_
              refine sj_ishl dX7_takeWish_186 ?_
              refine sj_ior dX7_takeWish_187 ?_
              refine sj_iast (a := (b + 6)) (j := x3.toNatClampNeg) dX7_takeWish_188 (by rcases hb with rfl | rfl <;> rfl) (by rcases hb with rfl | rfl <;> decide +kernel) (by rcases hb with rfl | rfl <;> exact b54) rfl ?_
              refine sj_aload dX7_takeWish_189 rfl ?_
              refine sj_iload dX7_takeWish_191 rfl ?_
              refine sj_dup2 dX7_takeWish_193 rfl rfl ?_
              refine sj_iald (a := (b + 6)) (j := x4.toNatClampNeg) (x := ((sj_st σ (b + 6) x3.toNatClampNeg ((σ (b + 6) x3.toNatClampNeg) ||| ((nI 1) <<< (x4 &&& 31)))) (b + 6) x4.toNatClampNeg)) dX7_takeWish_194 (by rcases hb with rfl | rfl <;> rfl) (by rcases hb with rfl | rfl <;> decide +kernel) (by rcases hb with rfl | rfl <;> exact b55) rfl rfl ?_
              refine sj_iconst (v := (nI 1)) dX7_takeWish_195 (by decide +kernel) ?_
              refine sj_iload_n dX7_takeWish_196 (i := 3) rfl rfl ?_
              refine sj_ishl dX7_takeWish_197 ?_
              refine sj_ior dX7_takeWish_198 ?_
              refine sj_iast (a := (b + 6)) (j := x4.toNatClampNeg) dX7_takeWish_199 (by rcases hb with rfl | rfl <;> rfl) (by rcases hb with rfl | rfl <;> decide +kernel) (by rcases hb with rfl | rfl <;> exact b56) rfl ?_
              try simp only [if_neg c51, if_neg c52] at h
              refine sj_fg [0, 1, 2, 3, 4, 5] ?_
              exact t_X7_takeWish_200 hb h
            · obtain ⟨b57, b58, b59, b60⟩ := f66 c51 c52
              refine sj_aload_n dX7_takeWish_165 (i := 0) rfl rfl ?_
              refine sj_get (a := b) (k9 := 5) (v := .ref (sj_ad G (b + 5))) dX7_takeWish_166 (by rcases hb with rfl | rfl <;> decide +kernel) (by rcases hb with rfl | rfl <;> rfl) ?_
              refine sj_goto (tgt := 176) dX7_takeWish_169 (by decide) ?_
              refine sj_astore dX7_takeWish_176 (by decide) ?_
              refine sj_aload dX7_takeWish_178 rfl ?_
              refine sj_iload_n dX7_takeWish_180 (i := 3) rfl rfl ?_
              refine sj_dup2 dX7_takeWish_181 rfl rfl ?_
              refine sj_iald (a := (b + 5)) (j := x3.toNatClampNeg) (x := (σ (b + 5) x3.toNatClampNeg)) dX7_takeWish_182 (by rcases hb with rfl | rfl <;> rfl) (by rcases hb with rfl | rfl <;> decide +kernel) (by rcases hb with rfl | rfl <;> exact b57) rfl rfl ?_
              refine sj_iconst (v := (nI 1)) dX7_takeWish_183 (by decide +kernel) ?_
              refine sj_iload dX7_takeWish_184 rfl ?_
              refine sj_ishl dX7_takeWish_186 ?_
              refine sj_ior dX7_takeWish_187 ?_
              refine sj_iast (a := (b + 5)) (j := x3.toNatClampNeg) dX7_takeWish_188 (by rcases hb with rfl | rfl <;> rfl) (by rcases hb with rfl | rfl <;> decide +kernel) (by rcases hb with rfl | rfl <;> exact b58) rfl ?_
              refine sj_aload dX7_takeWish_189 rfl ?_
              refine sj_iload dX7_takeWish_191 rfl ?_
              refine sj_dup2 dX7_takeWish_193 rfl rfl ?_
              refine sj_iald (a := (b + 5)) (j := x4.toNatClampNeg) (x := ((sj_st σ (b + 5) x3.toNatClampNeg ((σ (b + 5) x3.toNatClampNeg) ||| ((nI 1) <<< (x4 &&& 31)))) (b + 5) x4.toNatClampNeg)) dX7_takeWish_194 (by rcases hb with rfl | rfl <;> rfl) (by rcases hb with rfl | rfl <;> decide +kernel) (by rcases hb with rfl | rfl <;> exact b59) rfl rfl ?_
              refine sj_iconst (v := (nI 1)) dX7_takeWish_195 (by decide +kernel) ?_
              refine sj_iload_n dX7_takeWish_196 (i := 3) rfl rfl ?_
              refine sj_ishl dX7_takeWish_197 ?_
              refine sj_ior dX7_takeWish_198 ?_
              refine sj_iast (a := (b + 5)) (j := x4.toNatClampNeg) dX7_takeWish_199 (by rcases hb with rfl | rfl <;> rfl) (by rcases hb with rfl | rfl <;> decide +kernel) (by rcases hb with rfl | rfl <;> exact b60) rfl ?_
              try simp only [if_neg c51, if_pos c52] at h
              refine sj_fg [0, 1, 2, 3, 4, 5] ?_
              exact t_X7_takeWish_200 hb h
          · obtain ⟨b61, b62, b63, b64⟩ := f67 c51
            refine sj_aload_n dX7_takeWish_131 (i := 0) rfl rfl ?_
            refine sj_get (a := b) (k9 := 7) (v := .ref (sj_ad G (b + 7))) dX7_takeWish_132 (by rcases hb with rfl | rfl <;> decide +kernel) (by rcases hb with rfl | rfl <;> rfl) ?_
            refine sj_iload dX7_takeWish_135 rfl ?_
            refine sj_dup2 dX7_takeWish_137 rfl rfl ?_
            refine sj_iald (a := (b + 7)) (j := x4.toNatClampNeg) (x := (σ (b + 7) x4.toNatClampNeg)) dX7_takeWish_138 (by rcases hb with rfl | rfl <;> rfl) (by rcases hb with rfl | rfl <;> decide +kernel) (by rcases hb with rfl | rfl <;> exact b61) rfl rfl ?_
            refine sj_iconst (v := (nI 1)) dX7_takeWish_139 (by decide +kernel) ?_
            refine sj_iload_n dX7_takeWish_140 (i := 3) rfl rfl ?_
            refine sj_ishl dX7_takeWish_141 ?_
            refine sj_ior dX7_takeWish_142 ?_
            refine sj_iast (a := (b + 7)) (j := x4.toNatClampNeg) dX7_takeWish_143 (by rcases hb with rfl | rfl <;> rfl) (by rcases hb with rfl | rfl <;> decide +kernel) (by rcases hb with rfl | rfl <;> exact b62) rfl ?_
            refine sj_aload_n dX7_takeWish_144 (i := 0) rfl rfl ?_
            refine sj_get (a := b) (k9 := 8) (v := .ref (sj_ad G (b + 8))) dX7_takeWish_145 (by rcases hb with rfl | rfl <;> decide +kernel) (by rcases hb with rfl | rfl <;> rfl) ?_
            refine sj_iload_n dX7_takeWish_148 (i := 3) rfl rfl ?_
            refine sj_dup2 dX7_takeWish_149 rfl rfl ?_
            refine sj_iald (a := (b + 8)) (j := x3.toNatClampNeg) (x := ((sj_st σ (b + 7) x4.toNatClampNeg ((σ (b + 7) x4.toNatClampNeg) ||| ((nI 1) <<< (x3 &&& 31)))) (b + 8) x3.toNatClampNeg)) dX7_takeWish_150 (by rcases hb with rfl | rfl <;> rfl) (by rcases hb with rfl | rfl <;> decide +kernel) (by rcases hb with rfl | rfl <;> exact b63) rfl rfl ?_
            refine sj_iconst (v := (nI 1)) dX7_takeWish_151 (by decide +kernel) ?_
            refine sj_iload dX7_takeWish_152 rfl ?_
            refine sj_ishl dX7_takeWish_154 ?_
            refine sj_ior dX7_takeWish_155 ?_
            refine sj_iast (a := (b + 8)) (j := x3.toNatClampNeg) dX7_takeWish_156 (by rcases hb with rfl | rfl <;> rfl) (by rcases hb with rfl | rfl <;> decide +kernel) (by rcases hb with rfl | rfl <;> exact b64) rfl ?_
            refine sj_goto (tgt := 200) dX7_takeWish_157 (by decide) ?_
            try simp only [if_pos c51] at h
            refine sj_fg [0, 1, 2, 3, 4] ?_
            exact t_X7_takeWish_200 hb h
        · replace h := h.2 c50
          refine sj_aload_n dX7_takeWish_109 (i := 0) rfl rfl ?_
          refine sj_get (a := b) (k9 := 1) (v := .ref (sj_ad G (b + 1))) dX7_takeWish_110 (by rcases hb with rfl | rfl <;> decide +kernel) (by rcases hb with rfl | rfl <;> rfl) ?_
          refine sj_iload_n dX7_takeWish_113 (i := 3) rfl rfl ?_
          refine sj_dup2 dX7_takeWish_114 rfl rfl ?_
          obtain ⟨b68, h⟩ := h
          refine sj_iald (a := (b + 1)) (j := x3.toNatClampNeg) (x := (σ (b + 1) x3.toNatClampNeg)) dX7_takeWish_115 (by rcases hb with rfl | rfl <;> rfl) (by rcases hb with rfl | rfl <;> decide +kernel) (by rcases hb with rfl | rfl <;> exact b68) rfl rfl ?_
          refine sj_iconst (v := (nI 1)) dX7_takeWish_116 (by decide +kernel) ?_
          refine sj_iload dX7_takeWish_117 rfl ?_
          refine sj_ishl dX7_takeWish_119 ?_
          refine sj_iand dX7_takeWish_120 ?_
          obtain ⟨b69, h⟩ := h
          refine sj_iast (a := (b + 1)) (j := x3.toNatClampNeg) dX7_takeWish_121 (by rcases hb with rfl | rfl <;> rfl) (by rcases hb with rfl | rfl <;> decide +kernel) (by rcases hb with rfl | rfl <;> exact b69) rfl ?_
          refine sj_goto (tgt := 200) dX7_takeWish_122 (by decide) ?_
          refine sj_fg [0, 1, 2, 3, 4] ?_
          exact t_X7_takeWish_200 hb h
      · replace h := h.2 c34
        refine sj_aload_n dX7_takeWish_83 (i := 0) rfl rfl ?_
        refine sj_get (a := b) (k9 := 1) (v := .ref (sj_ad G (b + 1))) dX7_takeWish_84 (by rcases hb with rfl | rfl <;> decide +kernel) (by rcases hb with rfl | rfl <;> rfl) ?_
        refine sj_iload_n dX7_takeWish_87 (i := 3) rfl rfl ?_
        refine sj_dup2 dX7_takeWish_88 rfl rfl ?_
        obtain ⟨b70, h⟩ := h
        refine sj_iald (a := (b + 1)) (j := x3.toNatClampNeg) (x := (σ (b + 1) x3.toNatClampNeg)) dX7_takeWish_89 (by rcases hb with rfl | rfl <;> rfl) (by rcases hb with rfl | rfl <;> decide +kernel) (by rcases hb with rfl | rfl <;> exact b70) rfl rfl ?_
        refine sj_bipush (v := (nI 15)) dX7_takeWish_90 (by decide +kernel) ?_
        refine sj_iload dX7_takeWish_92 rfl ?_
        refine sj_iconst (v := (nI 4)) dX7_takeWish_94 (by decide +kernel) ?_
        refine sj_imul dX7_takeWish_95 ?_
        refine sj_ishl dX7_takeWish_96 ?_
        refine sj_iconst (v := (-1)) dX7_takeWish_97 (by decide +kernel) ?_
        refine sj_ixor dX7_takeWish_98 ?_
        refine sj_iand dX7_takeWish_99 ?_
        obtain ⟨b71, h⟩ := h
        refine sj_iast (a := (b + 1)) (j := x3.toNatClampNeg) dX7_takeWish_100 (by rcases hb with rfl | rfl <;> rfl) (by rcases hb with rfl | rfl <;> decide +kernel) (by rcases hb with rfl | rfl <;> exact b71) rfl ?_
        refine sj_goto (tgt := 200) dX7_takeWish_101 (by decide) ?_
        refine sj_fg [0, 1, 2, 3, 4] ?_
        exact t_X7_takeWish_200 hb h
    · replace h := h.2 c18
      exact t_X7_takeWish_9 hb h
theorem c_X7_takeWish {G : sj_G} (ok : sj_ok G) {R : sj_R} {b : Nat} {x2 : Int32} {x3 : Int32} {x4 : Int32} {σ : sj_S} (hb : b = 6 ∨ b = 18) (h : wp_X7_takeWish_0 G R b x2 x3 x4 σ) : sj_C G 3 me_X7_takeWish [.ref (sj_ad G b), .ref (sj_ad G 1), .int x2, .int x3, .int x4] σ R :=
  sj_enter ok (by decide +kernel) rfl rfl (Nat.le_of_ble_eq_true rfl) (by simp [Value.category]) (t_X7_takeWish_0 hb h)
def wp_X7_allowed_255 (G : sj_G) (R : sj_R) (b : Nat) (sl : Nat) (x1 : Int32) (x3 : Int32) (x4 : Int32) (x5 : Int32) (x6 : Int32) (x7 : Int32) (x8 : Int32) (σ : sj_S) : Prop := sj_J G 2 me_X7_allowed R 20 [.ref (sj_ad G b), .int x1, .ref (sj_ad G sl), .int x3, .int x4, .int x5, .int x6, .int x7, .int (x8 + (nI 1)), .null, .null, .null, .null] σ []
set_option maxRecDepth 20000 in
theorem t_X7_allowed_255 {G : sj_G} {R : sj_R} {b : Nat} {sl : Nat} {x1 : Int32} {x3 : Int32} {x4 : Int32} {x5 : Int32} {x6 : Int32} {x7 : Int32} {x8 : Int32} {σ : sj_S} (hb : b = 6 ∨ b = 18) (hsl : sj_lk sl = 13 ∧ sl < sj_NA ∧ sj_ln sl = 9) (h : wp_X7_allowed_255 G R b sl x1 x3 x4 x5 x6 x7 x8 σ) : sj_J G 2 me_X7_allowed R 255 [.ref (sj_ad G b), .int x1, .ref (sj_ad G sl), .int x3, .int x4, .int x5, .int x6, .int x7, .int x8, .null, .null, .null, .null] σ [] := by
  unfold wp_X7_allowed_255 at h
  refine sj_iinc (v := (x8 + (nI 1))) dX7_allowed_255 (by decide) rfl rfl ?_
  refine sj_goto (tgt := 20) dX7_allowed_258 (by decide) ?_
  exact h
def wp_X7_allowed_213 (G : sj_G) (R : sj_R) (b : Nat) (sl : Nat) (x1 : Int32) (x3 : Int32) (x5 : Int32) (x6 : Int32) (x7 : Int32) (x8 : Int32) (x9 : Int32) (x11 : Int32) (s0 : Int32) (s1 : Int32) (σ : sj_S) : Prop := vp_in x1 9 ∧ (wp_X7_allowed_255 G R b sl x1 x3 (s1 &&& s0) (if ((σ (b + 9) x1.toNatClampNeg) &&& x9) = 0 then x5 else (x5 ||| x11)) (if ((σ (b + 9) x1.toNatClampNeg) &&& x9) = 0 then x6 else (x6 ||| (x5 &&& x11))) (if ((σ (b + 9) x1.toNatClampNeg) &&& x9) = 0 then x7 else (x7 ||| (x6 &&& x11))) x8 σ)
set_option maxRecDepth 20000 in
theorem t_X7_allowed_213 {G : sj_G} {R : sj_R} {b : Nat} {sl : Nat} {x1 : Int32} {x3 : Int32} {x5 : Int32} {x6 : Int32} {x7 : Int32} {x8 : Int32} {x9 : Int32} {x11 : Int32} {s0 : Int32} {s1 : Int32} {σ : sj_S} (hb : b = 6 ∨ b = 18) (hsl : sj_lk sl = 13 ∧ sl < sj_NA ∧ sj_ln sl = 9) (h : wp_X7_allowed_213 G R b sl x1 x3 x5 x6 x7 x8 x9 x11 s0 s1 σ) : sj_J G 2 me_X7_allowed R 213 [.ref (sj_ad G b), .int x1, .ref (sj_ad G sl), .int x3, .null, .int x5, .int x6, .int x7, .int x8, .int x9, .null, .int x11, .null] σ [.int s0, .int s1] := by
  unfold wp_X7_allowed_213 at h
  refine sj_iand dX7_allowed_213 ?_
  refine sj_istore dX7_allowed_214 (by decide) ?_
  refine sj_aload_n dX7_allowed_216 (i := 0) rfl rfl ?_
  refine sj_get (a := b) (k9 := 9) (v := .ref (sj_ad G (b + 9))) dX7_allowed_217 (by rcases hb with rfl | rfl <;> decide +kernel) (by rcases hb with rfl | rfl <;> rfl) ?_
  refine sj_iload_n dX7_allowed_220 (i := 1) rfl rfl ?_
  obtain ⟨b1, h⟩ := h
  refine sj_iald (a := (b + 9)) (j := x1.toNatClampNeg) (x := (σ (b + 9) x1.toNatClampNeg)) dX7_allowed_221 (by rcases hb with rfl | rfl <;> rfl) (by rcases hb with rfl | rfl <;> decide +kernel) (by rcases hb with rfl | rfl <;> exact b1) rfl rfl ?_
  refine sj_iload dX7_allowed_222 rfl ?_
  refine sj_iand dX7_allowed_224 ?_
  refine sj_if_eq (tgt := 255) dX7_allowed_225 (by decide) (fun c2 => ?_) (fun c2 => ?_)
  · try simp only [if_pos c2] at h
    refine sj_fg [9, 11] ?_
    exact t_X7_allowed_255 hb hsl h
  · refine sj_iload dX7_allowed_228 rfl ?_
    refine sj_iload dX7_allowed_230 rfl ?_
    refine sj_iload dX7_allowed_232 rfl ?_
    refine sj_iand dX7_allowed_234 ?_
    refine sj_ior dX7_allowed_235 ?_
    refine sj_istore dX7_allowed_236 (by decide) ?_
    refine sj_iload dX7_allowed_238 rfl ?_
    refine sj_iload dX7_allowed_240 rfl ?_
    refine sj_iload dX7_allowed_242 rfl ?_
    refine sj_iand dX7_allowed_244 ?_
    refine sj_ior dX7_allowed_245 ?_
    refine sj_istore dX7_allowed_246 (by decide) ?_
    refine sj_iload dX7_allowed_248 rfl ?_
    refine sj_iload dX7_allowed_250 rfl ?_
    refine sj_ior dX7_allowed_252 ?_
    refine sj_istore dX7_allowed_253 (by decide) ?_
    try simp only [if_neg c2] at h
    refine sj_fg [9, 11] ?_
    exact t_X7_allowed_255 hb hsl h
def wp_X7_allowed_186 (G : sj_G) (R : sj_R) (b : Nat) (sl : Nat) (x1 : Int32) (x3 : Int32) (x5 : Int32) (x6 : Int32) (x7 : Int32) (x8 : Int32) (x9 : Int32) (x10 : Int32) (x11 : Int32) (s0 : Int32) (s1 : Int32) (σ : sj_S) : Prop := vp_in x1 9 ∧ (wp_X7_allowed_213 G R b sl x1 x3 x5 x6 x7 x8 x9 x11 (if ((σ (b + 8) x1.toNatClampNeg) &&& x9) = 0 then (-1) else (((nI 1) <<< (x10 &&& 31)) - (nI 1))) (s1 &&& s0) σ)
set_option maxRecDepth 20000 in
theorem t_X7_allowed_186 {G : sj_G} {R : sj_R} {b : Nat} {sl : Nat} {x1 : Int32} {x3 : Int32} {x5 : Int32} {x6 : Int32} {x7 : Int32} {x8 : Int32} {x9 : Int32} {x10 : Int32} {x11 : Int32} {s0 : Int32} {s1 : Int32} {σ : sj_S} (hb : b = 6 ∨ b = 18) (hsl : sj_lk sl = 13 ∧ sl < sj_NA ∧ sj_ln sl = 9) (h : wp_X7_allowed_186 G R b sl x1 x3 x5 x6 x7 x8 x9 x10 x11 s0 s1 σ) : sj_J G 2 me_X7_allowed R 186 [.ref (sj_ad G b), .int x1, .ref (sj_ad G sl), .int x3, .null, .int x5, .int x6, .int x7, .int x8, .int x9, .int x10, .int x11, .null] σ [.int s0, .int s1] := by
  unfold wp_X7_allowed_186 at h
  refine sj_iand dX7_allowed_186 ?_
  refine sj_istore dX7_allowed_187 (by decide) ?_
  refine sj_iload dX7_allowed_189 rfl ?_
  refine sj_aload_n dX7_allowed_191 (i := 0) rfl rfl ?_
  refine sj_get (a := b) (k9 := 8) (v := .ref (sj_ad G (b + 8))) dX7_allowed_192 (by rcases hb with rfl | rfl <;> decide +kernel) (by rcases hb with rfl | rfl <;> rfl) ?_
  refine sj_iload_n dX7_allowed_195 (i := 1) rfl rfl ?_
  obtain ⟨b1, h⟩ := h
  refine sj_iald (a := (b + 8)) (j := x1.toNatClampNeg) (x := (σ (b + 8) x1.toNatClampNeg)) dX7_allowed_196 (by rcases hb with rfl | rfl <;> rfl) (by rcases hb with rfl | rfl <;> decide +kernel) (by rcases hb with rfl | rfl <;> exact b1) rfl rfl ?_
  refine sj_iload dX7_allowed_197 rfl ?_
  refine sj_iand dX7_allowed_199 ?_
  refine sj_if_eq (tgt := 212) dX7_allowed_200 (by decide) (fun c2 => ?_) (fun c2 => ?_)
  · refine sj_iconst (v := (-1)) dX7_allowed_212 (by decide +kernel) ?_
    try simp only [if_pos c2] at h
    refine sj_fg [4, 10] ?_
    exact t_X7_allowed_213 hb hsl h
  · refine sj_iconst (v := (nI 1)) dX7_allowed_203 (by decide +kernel) ?_
    refine sj_iload dX7_allowed_204 rfl ?_
    refine sj_ishl dX7_allowed_206 ?_
    refine sj_iconst (v := (nI 1)) dX7_allowed_207 (by decide +kernel) ?_
    refine sj_isub dX7_allowed_208 ?_
    refine sj_goto (tgt := 213) dX7_allowed_209 (by decide) ?_
    try simp only [if_neg c2] at h
    refine sj_fg [4, 10] ?_
    exact t_X7_allowed_213 hb hsl h
def wp_X7_allowed_157 (G : sj_G) (R : sj_R) (b : Nat) (sl : Nat) (x1 : Int32) (x3 : Int32) (x5 : Int32) (x6 : Int32) (x7 : Int32) (x8 : Int32) (x9 : Int32) (x10 : Int32) (x11 : Int32) (s0 : Int32) (s1 : Int32) (σ : sj_S) : Prop := vp_in x1 9 ∧ (wp_X7_allowed_186 G R b sl x1 x3 x5 x6 x7 x8 x9 x10 x11 (if ((σ (b + 7) x1.toNatClampNeg) &&& x9) = 0 then (-1) else ((((nI 2) <<< (x10 &&& 31)) - (nI 1)) ^^^ (-1))) (s1 &&& s0) σ)
set_option maxRecDepth 20000 in
theorem t_X7_allowed_157 {G : sj_G} {R : sj_R} {b : Nat} {sl : Nat} {x1 : Int32} {x3 : Int32} {x5 : Int32} {x6 : Int32} {x7 : Int32} {x8 : Int32} {x9 : Int32} {x10 : Int32} {x11 : Int32} {s0 : Int32} {s1 : Int32} {σ : sj_S} (hb : b = 6 ∨ b = 18) (hsl : sj_lk sl = 13 ∧ sl < sj_NA ∧ sj_ln sl = 9) (h : wp_X7_allowed_157 G R b sl x1 x3 x5 x6 x7 x8 x9 x10 x11 s0 s1 σ) : sj_J G 2 me_X7_allowed R 157 [.ref (sj_ad G b), .int x1, .ref (sj_ad G sl), .int x3, .null, .int x5, .int x6, .int x7, .int x8, .int x9, .int x10, .int x11, .null] σ [.int s0, .int s1] := by
  unfold wp_X7_allowed_157 at h
  refine sj_iand dX7_allowed_157 ?_
  refine sj_istore dX7_allowed_158 (by decide) ?_
  refine sj_iload dX7_allowed_160 rfl ?_
  refine sj_aload_n dX7_allowed_162 (i := 0) rfl rfl ?_
  refine sj_get (a := b) (k9 := 7) (v := .ref (sj_ad G (b + 7))) dX7_allowed_163 (by rcases hb with rfl | rfl <;> decide +kernel) (by rcases hb with rfl | rfl <;> rfl) ?_
  refine sj_iload_n dX7_allowed_166 (i := 1) rfl rfl ?_
  obtain ⟨b1, h⟩ := h
  refine sj_iald (a := (b + 7)) (j := x1.toNatClampNeg) (x := (σ (b + 7) x1.toNatClampNeg)) dX7_allowed_167 (by rcases hb with rfl | rfl <;> rfl) (by rcases hb with rfl | rfl <;> decide +kernel) (by rcases hb with rfl | rfl <;> exact b1) rfl rfl ?_
  refine sj_iload dX7_allowed_168 rfl ?_
  refine sj_iand dX7_allowed_170 ?_
  refine sj_if_eq (tgt := 185) dX7_allowed_171 (by decide) (fun c2 => ?_) (fun c2 => ?_)
  · refine sj_iconst (v := (-1)) dX7_allowed_185 (by decide +kernel) ?_
    try simp only [if_pos c2] at h
    refine sj_fg [4] ?_
    exact t_X7_allowed_186 hb hsl h
  · refine sj_iconst (v := (nI 2)) dX7_allowed_174 (by decide +kernel) ?_
    refine sj_iload dX7_allowed_175 rfl ?_
    refine sj_ishl dX7_allowed_177 ?_
    refine sj_iconst (v := (nI 1)) dX7_allowed_178 (by decide +kernel) ?_
    refine sj_isub dX7_allowed_179 ?_
    refine sj_iconst (v := (-1)) dX7_allowed_180 (by decide +kernel) ?_
    refine sj_ixor dX7_allowed_181 ?_
    refine sj_goto (tgt := 186) dX7_allowed_182 (by decide) ?_
    try simp only [if_neg c2] at h
    refine sj_fg [4] ?_
    exact t_X7_allowed_186 hb hsl h
def wp_X7_allowed_132 (G : sj_G) (R : sj_R) (b : Nat) (sl : Nat) (x1 : Int32) (x3 : Int32) (x5 : Int32) (x6 : Int32) (x7 : Int32) (x8 : Int32) (x9 : Int32) (x10 : Int32) (x11 : Int32) (x12 : Int32) (s0 : Int32) (s1 : Int32) (σ : sj_S) : Prop := vp_in x1 9 ∧ (wp_X7_allowed_157 G R b sl x1 x3 x5 x6 x7 x8 x9 x10 x11 (if ((σ (b + 6) x1.toNatClampNeg) &&& x9) = 0 then (-1) else (x12 ^^^ (-1))) (s1 &&& s0) σ)
set_option maxRecDepth 20000 in
theorem t_X7_allowed_132 {G : sj_G} {R : sj_R} {b : Nat} {sl : Nat} {x1 : Int32} {x3 : Int32} {x5 : Int32} {x6 : Int32} {x7 : Int32} {x8 : Int32} {x9 : Int32} {x10 : Int32} {x11 : Int32} {x12 : Int32} {s0 : Int32} {s1 : Int32} {σ : sj_S} (hb : b = 6 ∨ b = 18) (hsl : sj_lk sl = 13 ∧ sl < sj_NA ∧ sj_ln sl = 9) (h : wp_X7_allowed_132 G R b sl x1 x3 x5 x6 x7 x8 x9 x10 x11 x12 s0 s1 σ) : sj_J G 2 me_X7_allowed R 132 [.ref (sj_ad G b), .int x1, .ref (sj_ad G sl), .int x3, .null, .int x5, .int x6, .int x7, .int x8, .int x9, .int x10, .int x11, .int x12] σ [.int s0, .int s1] := by
  unfold wp_X7_allowed_132 at h
  refine sj_iand dX7_allowed_132 ?_
  refine sj_istore dX7_allowed_133 (by decide) ?_
  refine sj_iload dX7_allowed_135 rfl ?_
  refine sj_aload_n dX7_allowed_137 (i := 0) rfl rfl ?_
  refine sj_get (a := b) (k9 := 6) (v := .ref (sj_ad G (b + 6))) dX7_allowed_138 (by rcases hb with rfl | rfl <;> decide +kernel) (by rcases hb with rfl | rfl <;> rfl) ?_
  refine sj_iload_n dX7_allowed_141 (i := 1) rfl rfl ?_
  obtain ⟨b1, h⟩ := h
  refine sj_iald (a := (b + 6)) (j := x1.toNatClampNeg) (x := (σ (b + 6) x1.toNatClampNeg)) dX7_allowed_142 (by rcases hb with rfl | rfl <;> rfl) (by rcases hb with rfl | rfl <;> decide +kernel) (by rcases hb with rfl | rfl <;> exact b1) rfl rfl ?_
  refine sj_iload dX7_allowed_143 rfl ?_
  refine sj_iand dX7_allowed_145 ?_
  refine sj_if_eq (tgt := 156) dX7_allowed_146 (by decide) (fun c2 => ?_) (fun c2 => ?_)
  · refine sj_iconst (v := (-1)) dX7_allowed_156 (by decide +kernel) ?_
    try simp only [if_pos c2] at h
    refine sj_fg [4, 12] ?_
    exact t_X7_allowed_157 hb hsl h
  · refine sj_iload dX7_allowed_149 rfl ?_
    refine sj_iconst (v := (-1)) dX7_allowed_151 (by decide +kernel) ?_
    refine sj_ixor dX7_allowed_152 ?_
    refine sj_goto (tgt := 157) dX7_allowed_153 (by decide) ?_
    try simp only [if_neg c2] at h
    refine sj_fg [4, 12] ?_
    exact t_X7_allowed_157 hb hsl h
def wp_X7_allowed_109 (G : sj_G) (R : sj_R) (b : Nat) (sl : Nat) (x1 : Int32) (x3 : Int32) (x5 : Int32) (x6 : Int32) (x7 : Int32) (x8 : Int32) (x9 : Int32) (x10 : Int32) (x11 : Int32) (x12 : Int32) (s0 : Int32) (s1 : Int32) (σ : sj_S) : Prop := vp_in x1 9 ∧ (wp_X7_allowed_132 G R b sl x1 x3 x5 x6 x7 x8 x9 x10 x11 x12 (if ((σ (b + 5) x1.toNatClampNeg) &&& x9) = 0 then (-1) else x12) (s1 &&& s0) σ)
set_option maxRecDepth 20000 in
theorem t_X7_allowed_109 {G : sj_G} {R : sj_R} {b : Nat} {sl : Nat} {x1 : Int32} {x3 : Int32} {x5 : Int32} {x6 : Int32} {x7 : Int32} {x8 : Int32} {x9 : Int32} {x10 : Int32} {x11 : Int32} {x12 : Int32} {s0 : Int32} {s1 : Int32} {σ : sj_S} (hb : b = 6 ∨ b = 18) (hsl : sj_lk sl = 13 ∧ sl < sj_NA ∧ sj_ln sl = 9) (h : wp_X7_allowed_109 G R b sl x1 x3 x5 x6 x7 x8 x9 x10 x11 x12 s0 s1 σ) : sj_J G 2 me_X7_allowed R 109 [.ref (sj_ad G b), .int x1, .ref (sj_ad G sl), .int x3, .null, .int x5, .int x6, .int x7, .int x8, .int x9, .int x10, .int x11, .int x12] σ [.int s0, .int s1] := by
  unfold wp_X7_allowed_109 at h
  refine sj_iand dX7_allowed_109 ?_
  refine sj_istore dX7_allowed_110 (by decide) ?_
  refine sj_iload dX7_allowed_112 rfl ?_
  refine sj_aload_n dX7_allowed_114 (i := 0) rfl rfl ?_
  refine sj_get (a := b) (k9 := 5) (v := .ref (sj_ad G (b + 5))) dX7_allowed_115 (by rcases hb with rfl | rfl <;> decide +kernel) (by rcases hb with rfl | rfl <;> rfl) ?_
  refine sj_iload_n dX7_allowed_118 (i := 1) rfl rfl ?_
  obtain ⟨b1, h⟩ := h
  refine sj_iald (a := (b + 5)) (j := x1.toNatClampNeg) (x := (σ (b + 5) x1.toNatClampNeg)) dX7_allowed_119 (by rcases hb with rfl | rfl <;> rfl) (by rcases hb with rfl | rfl <;> decide +kernel) (by rcases hb with rfl | rfl <;> exact b1) rfl rfl ?_
  refine sj_iload dX7_allowed_120 rfl ?_
  refine sj_iand dX7_allowed_122 ?_
  refine sj_if_eq (tgt := 131) dX7_allowed_123 (by decide) (fun c2 => ?_) (fun c2 => ?_)
  · refine sj_iconst (v := (-1)) dX7_allowed_131 (by decide +kernel) ?_
    try simp only [if_pos c2] at h
    refine sj_fg [4] ?_
    exact t_X7_allowed_132 hb hsl h
  · refine sj_iload dX7_allowed_126 rfl ?_
    refine sj_goto (tgt := 132) dX7_allowed_128 (by decide) ?_
    try simp only [if_neg c2] at h
    refine sj_fg [4] ?_
    exact t_X7_allowed_132 hb hsl h
def wp_X7_allowed_303 (G : sj_G) (R : sj_R) (b : Nat) (sl : Nat) (x1 : Int32) (x4 : Int32) (s0 : Int32) (σ : sj_S) : Prop := vp_in x1 9 ∧ R = (.ok (x4 &&& ((s0 ||| (s0 >>> ((σ (b + 3) x1.toNatClampNeg) &&& 31))) ^^^ (-1))), σ)
set_option maxRecDepth 20000 in
theorem t_X7_allowed_303 {G : sj_G} {R : sj_R} {b : Nat} {sl : Nat} {x1 : Int32} {x4 : Int32} {s0 : Int32} {σ : sj_S} (hb : b = 6 ∨ b = 18) (hsl : sj_lk sl = 13 ∧ sl < sj_NA ∧ sj_ln sl = 9) (h : wp_X7_allowed_303 G R b sl x1 x4 s0 σ) : sj_J G 2 me_X7_allowed R 303 [.ref (sj_ad G b), .int x1, .null, .null, .int x4, .null, .null, .null, .null, .null, .null, .null, .null] σ [.int s0] := by
  unfold wp_X7_allowed_303 at h
  refine sj_istore dX7_allowed_303 (by decide) ?_
  refine sj_iload dX7_allowed_305 rfl ?_
  refine sj_iload dX7_allowed_307 rfl ?_
  refine sj_iload dX7_allowed_309 rfl ?_
  refine sj_aload_n dX7_allowed_311 (i := 0) rfl rfl ?_
  refine sj_get (a := b) (k9 := 3) (v := .ref (sj_ad G (b + 3))) dX7_allowed_312 (by rcases hb with rfl | rfl <;> decide +kernel) (by rcases hb with rfl | rfl <;> rfl) ?_
  refine sj_iload_n dX7_allowed_315 (i := 1) rfl rfl ?_
  obtain ⟨b1, h⟩ := h
  refine sj_iald (a := (b + 3)) (j := x1.toNatClampNeg) (x := (σ (b + 3) x1.toNatClampNeg)) dX7_allowed_316 (by rcases hb with rfl | rfl <;> rfl) (by rcases hb with rfl | rfl <;> decide +kernel) (by rcases hb with rfl | rfl <;> exact b1) rfl rfl ?_
  refine sj_ishr dX7_allowed_317 ?_
  refine sj_ior dX7_allowed_318 ?_
  refine sj_iconst (v := (-1)) dX7_allowed_319 (by decide +kernel) ?_
  refine sj_ixor dX7_allowed_320 ?_
  refine sj_iand dX7_allowed_321 ?_
  subst h
  exact sj_ret dX7_allowed_322 rfl rfl
def wp_X7_allowed_20 (G : sj_G) (R : sj_R) (b : Nat) (sl : Nat) (x1 : Int32) (x3 : Int32) (x4 : Int32) (x5 : Int32) (x6 : Int32) (x7 : Int32) (x8 : Int32) (σ : sj_S) : Prop := ((σ b 0) ≤ x8 → vp_in x1 9 ∧ (wp_X7_allowed_303 G R b sl x1 x4 (if (σ (b + 10) x1.toNatClampNeg) = (nI 1) then x5 else (if (σ (b + 10) x1.toNatClampNeg) = (nI 2) then x6 else (if (σ (b + 10) x1.toNatClampNeg) = (nI 3) then x7 else (nI 0)))) σ)) ∧ (¬ ((σ b 0) ≤ x8) → (x8 = x1 → (wp_X7_allowed_255 G R b sl x1 x3 x4 x5 x6 x7 x8 σ)) ∧ (¬ (x8 = x1) → ((x3 &&& ((nI 1) <<< (x8 &&& 31))) = 0 → (wp_X7_allowed_255 G R b sl x1 x3 x4 x5 x6 x7 x8 σ)) ∧ (¬ ((x3 &&& ((nI 1) <<< (x8 &&& 31))) = 0) → vp_in x8 9 ∧ vp_in x8 9 ∧ vp_in x1 9 ∧ ((¬ (((σ (b + 4) x1.toNatClampNeg) &&& ((nI 1) <<< (x8 &&& 31))) = 0)) → vp_in x1 9) ∧ (wp_X7_allowed_109 G R b sl x1 x3 x5 x6 x7 x8 ((nI 1) <<< (x8 &&& 31)) (σ sl x8.toNatClampNeg) ((σ (b + 2) x8.toNatClampNeg) <<< ((σ sl x8.toNatClampNeg) &&& 31)) ((nI 15) <<< ((((σ sl x8.toNatClampNeg) / (nI 4)) * (nI 4)) &&& 31)) (if ((σ (b + 4) x1.toNatClampNeg) &&& ((nI 1) <<< (x8 &&& 31))) = 0 then (-1) else ((((σ (b + 2) x8.toNatClampNeg) <<< ((σ sl x8.toNatClampNeg) &&& 31)) ||| (((σ (b + 2) x8.toNatClampNeg) <<< ((σ sl x8.toNatClampNeg) &&& 31)) >>> ((σ (b + 3) x1.toNatClampNeg) &&& 31))) ^^^ (-1))) x4 σ))))
set_option maxRecDepth 20000 in
theorem t_X7_allowed_20 {G : sj_G} {R : sj_R} {b : Nat} {sl : Nat} {x1 : Int32} {x3 : Int32} {x4 : Int32} {x5 : Int32} {x6 : Int32} {x7 : Int32} {x8 : Int32} {σ : sj_S} (hb : b = 6 ∨ b = 18) (hsl : sj_lk sl = 13 ∧ sl < sj_NA ∧ sj_ln sl = 9) (h : wp_X7_allowed_20 G R b sl x1 x3 x4 x5 x6 x7 x8 σ) : sj_J G 2 me_X7_allowed R 20 [.ref (sj_ad G b), .int x1, .ref (sj_ad G sl), .int x3, .int x4, .int x5, .int x6, .int x7, .int x8, .null, .null, .null, .null] σ [] := by
  unfold wp_X7_allowed_20 at h
  refine sj_iload dX7_allowed_20 rfl ?_
  refine sj_aload_n dX7_allowed_22 (i := 0) rfl rfl ?_
  refine sj_get (a := b) (k9 := 0) (v := .int (σ b 0)) dX7_allowed_23 (by rcases hb with rfl | rfl <;> decide +kernel) (by rcases hb with rfl | rfl <;> rfl) ?_
  refine sj_icmp_ge (tgt := 261) dX7_allowed_26 (by decide) (fun c1 => ?_) (fun c1 => ?_)
  · replace h := h.1 c1
    refine sj_aload_n dX7_allowed_261 (i := 0) rfl rfl ?_
    refine sj_get (a := b) (k9 := 10) (v := .ref (sj_ad G (b + 10))) dX7_allowed_262 (by rcases hb with rfl | rfl <;> decide +kernel) (by rcases hb with rfl | rfl <;> rfl) ?_
    refine sj_iload_n dX7_allowed_265 (i := 1) rfl rfl ?_
    obtain ⟨b2, h⟩ := h
    refine sj_iald (a := (b + 10)) (j := x1.toNatClampNeg) (x := (σ (b + 10) x1.toNatClampNeg)) dX7_allowed_266 (by rcases hb with rfl | rfl <;> rfl) (by rcases hb with rfl | rfl <;> decide +kernel) (by rcases hb with rfl | rfl <;> exact b2) rfl rfl ?_
    refine sj_istore dX7_allowed_267 (by decide) ?_
    refine sj_iload dX7_allowed_269 rfl ?_
    refine sj_iconst (v := (nI 1)) dX7_allowed_271 (by decide +kernel) ?_
    refine sj_icmp_ne (tgt := 280) dX7_allowed_272 (by decide) (fun c3 => ?_) (fun c3 => ?_)
    · refine sj_iload dX7_allowed_280 rfl ?_
      refine sj_iconst (v := (nI 2)) dX7_allowed_282 (by decide +kernel) ?_
      refine sj_icmp_ne (tgt := 291) dX7_allowed_283 (by decide) (fun c4 => ?_) (fun c4 => ?_)
      · refine sj_iload dX7_allowed_291 rfl ?_
        refine sj_iconst (v := (nI 3)) dX7_allowed_293 (by decide +kernel) ?_
        refine sj_icmp_ne (tgt := 302) dX7_allowed_294 (by decide) (fun c5 => ?_) (fun c5 => ?_)
        · refine sj_iconst (v := (nI 0)) dX7_allowed_302 (by decide +kernel) ?_
          try simp only [if_neg c3, if_neg c4, if_neg c5] at h
          refine sj_fg [2, 3, 5, 6, 7, 8] ?_
          exact t_X7_allowed_303 hb hsl h
        · refine sj_iload dX7_allowed_297 rfl ?_
          refine sj_goto (tgt := 303) dX7_allowed_299 (by decide) ?_
          try simp only [if_neg c3, if_neg c4, if_pos c5] at h
          refine sj_fg [2, 3, 5, 6, 7, 8] ?_
          exact t_X7_allowed_303 hb hsl h
      · refine sj_iload dX7_allowed_286 rfl ?_
        refine sj_goto (tgt := 303) dX7_allowed_288 (by decide) ?_
        try simp only [if_neg c3, if_pos c4] at h
        refine sj_fg [2, 3, 5, 6, 7, 8] ?_
        exact t_X7_allowed_303 hb hsl h
    · refine sj_iload dX7_allowed_275 rfl ?_
      refine sj_goto (tgt := 303) dX7_allowed_277 (by decide) ?_
      try simp only [if_pos c3] at h
      refine sj_fg [2, 3, 5, 6, 7, 8] ?_
      exact t_X7_allowed_303 hb hsl h
  · replace h := h.2 c1
    refine sj_iconst (v := (nI 1)) dX7_allowed_29 (by decide +kernel) ?_
    refine sj_iload dX7_allowed_30 rfl ?_
    refine sj_ishl dX7_allowed_32 ?_
    refine sj_istore dX7_allowed_33 (by decide) ?_
    refine sj_iload dX7_allowed_35 rfl ?_
    refine sj_iload_n dX7_allowed_37 (i := 1) rfl rfl ?_
    refine sj_icmp_eq (tgt := 255) dX7_allowed_38 (by decide) (fun c18 => ?_) (fun c18 => ?_)
    · replace h := h.1 c18
      refine sj_fg [9] ?_
      exact t_X7_allowed_255 hb hsl h
    · replace h := h.2 c18
      refine sj_iload_n dX7_allowed_41 (i := 3) rfl rfl ?_
      refine sj_iload dX7_allowed_42 rfl ?_
      refine sj_iand dX7_allowed_44 ?_
      refine sj_if_eq (tgt := 255) dX7_allowed_45 (by decide) (fun c31 => ?_) (fun c31 => ?_)
      · replace h := h.1 c31
        refine sj_fg [9] ?_
        exact t_X7_allowed_255 hb hsl h
      · replace h := h.2 c31
        refine sj_aload_n dX7_allowed_48 (i := 2) rfl rfl ?_
        refine sj_iload dX7_allowed_49 rfl ?_
        obtain ⟨b32, h⟩ := h
        refine sj_iald (a := sl) (j := x8.toNatClampNeg) (x := (σ sl x8.toNatClampNeg)) dX7_allowed_51 hsl.1 hsl.2.1 (by rw [hsl.2.2]; exact b32) rfl rfl ?_
        refine sj_istore dX7_allowed_52 (by decide) ?_
        refine sj_aload_n dX7_allowed_54 (i := 0) rfl rfl ?_
        refine sj_get (a := b) (k9 := 2) (v := .ref (sj_ad G (b + 2))) dX7_allowed_55 (by rcases hb with rfl | rfl <;> decide +kernel) (by rcases hb with rfl | rfl <;> rfl) ?_
        refine sj_iload dX7_allowed_58 rfl ?_
        obtain ⟨b33, h⟩ := h
        refine sj_iald (a := (b + 2)) (j := x8.toNatClampNeg) (x := (σ (b + 2) x8.toNatClampNeg)) dX7_allowed_60 (by rcases hb with rfl | rfl <;> rfl) (by rcases hb with rfl | rfl <;> decide +kernel) (by rcases hb with rfl | rfl <;> exact b33) rfl rfl ?_
        refine sj_iload dX7_allowed_61 rfl ?_
        refine sj_ishl dX7_allowed_63 ?_
        refine sj_istore dX7_allowed_64 (by decide) ?_
        refine sj_bipush (v := (nI 15)) dX7_allowed_66 (by decide +kernel) ?_
        refine sj_iload dX7_allowed_68 rfl ?_
        refine sj_iconst (v := (nI 4)) dX7_allowed_70 (by decide +kernel) ?_
        refine sj_idiv dX7_allowed_71 (by decide +kernel) ?_
        refine sj_iconst (v := (nI 4)) dX7_allowed_72 (by decide +kernel) ?_
        refine sj_imul dX7_allowed_73 ?_
        refine sj_ishl dX7_allowed_74 ?_
        refine sj_istore dX7_allowed_75 (by decide) ?_
        refine sj_iload dX7_allowed_77 rfl ?_
        refine sj_aload_n dX7_allowed_79 (i := 0) rfl rfl ?_
        refine sj_get (a := b) (k9 := 4) (v := .ref (sj_ad G (b + 4))) dX7_allowed_80 (by rcases hb with rfl | rfl <;> decide +kernel) (by rcases hb with rfl | rfl <;> rfl) ?_
        refine sj_iload_n dX7_allowed_83 (i := 1) rfl rfl ?_
        obtain ⟨b34, h⟩ := h
        refine sj_iald (a := (b + 4)) (j := x1.toNatClampNeg) (x := (σ (b + 4) x1.toNatClampNeg)) dX7_allowed_84 (by rcases hb with rfl | rfl <;> rfl) (by rcases hb with rfl | rfl <;> decide +kernel) (by rcases hb with rfl | rfl <;> exact b34) rfl rfl ?_
        refine sj_iload dX7_allowed_85 rfl ?_
        refine sj_iand dX7_allowed_87 ?_
        obtain ⟨f37, h⟩ := h
        refine sj_if_eq (tgt := 108) dX7_allowed_88 (by decide) (fun c35 => ?_) (fun c35 => ?_)
        · refine sj_iconst (v := (-1)) dX7_allowed_108 (by decide +kernel) ?_
          try simp only [if_pos c35] at h
          refine sj_fg [4] ?_
          exact t_X7_allowed_109 hb hsl h
        · have b36 := f37 c35
          refine sj_iload dX7_allowed_91 rfl ?_
          refine sj_iload dX7_allowed_93 rfl ?_
          refine sj_aload_n dX7_allowed_95 (i := 0) rfl rfl ?_
          refine sj_get (a := b) (k9 := 3) (v := .ref (sj_ad G (b + 3))) dX7_allowed_96 (by rcases hb with rfl | rfl <;> decide +kernel) (by rcases hb with rfl | rfl <;> rfl) ?_
          refine sj_iload_n dX7_allowed_99 (i := 1) rfl rfl ?_
          refine sj_iald (a := (b + 3)) (j := x1.toNatClampNeg) (x := (σ (b + 3) x1.toNatClampNeg)) dX7_allowed_100 (by rcases hb with rfl | rfl <;> rfl) (by rcases hb with rfl | rfl <;> decide +kernel) (by rcases hb with rfl | rfl <;> exact b36) rfl rfl ?_
          refine sj_ishr dX7_allowed_101 ?_
          refine sj_ior dX7_allowed_102 ?_
          refine sj_iconst (v := (-1)) dX7_allowed_103 (by decide +kernel) ?_
          refine sj_ixor dX7_allowed_104 ?_
          refine sj_goto (tgt := 109) dX7_allowed_105 (by decide) ?_
          try simp only [if_neg c35] at h
          refine sj_fg [4] ?_
          exact t_X7_allowed_109 hb hsl h
def wp_X7_allowed_0 (G : sj_G) (R : sj_R) (b : Nat) (sl : Nat) (x1 : Int32) (x3 : Int32) (σ : sj_S) : Prop := vp_in x1 9 ∧ sj_J G 2 me_X7_allowed R 20 [.ref (sj_ad G b), .int x1, .ref (sj_ad G sl), .int x3, .int (σ (b + 1) x1.toNatClampNeg), .int (nI 0), .int (nI 0), .int (nI 0), .int (nI 0), .null, .null, .null, .null] σ []
set_option maxRecDepth 20000 in
theorem t_X7_allowed_0 {G : sj_G} {R : sj_R} {b : Nat} {sl : Nat} {x1 : Int32} {x3 : Int32} {σ : sj_S} (hb : b = 6 ∨ b = 18) (hsl : sj_lk sl = 13 ∧ sl < sj_NA ∧ sj_ln sl = 9) (h : wp_X7_allowed_0 G R b sl x1 x3 σ) : sj_J G 2 me_X7_allowed R 0 [.ref (sj_ad G b), .int x1, .ref (sj_ad G sl), .int x3, .null, .null, .null, .null, .null, .null, .null, .null, .null] σ [] := by
  unfold wp_X7_allowed_0 at h
  refine sj_aload_n dX7_allowed_0 (i := 0) rfl rfl ?_
  refine sj_get (a := b) (k9 := 1) (v := .ref (sj_ad G (b + 1))) dX7_allowed_1 (by rcases hb with rfl | rfl <;> decide +kernel) (by rcases hb with rfl | rfl <;> rfl) ?_
  refine sj_iload_n dX7_allowed_4 (i := 1) rfl rfl ?_
  obtain ⟨b1, h⟩ := h
  refine sj_iald (a := (b + 1)) (j := x1.toNatClampNeg) (x := (σ (b + 1) x1.toNatClampNeg)) dX7_allowed_5 (by rcases hb with rfl | rfl <;> rfl) (by rcases hb with rfl | rfl <;> decide +kernel) (by rcases hb with rfl | rfl <;> exact b1) rfl rfl ?_
  refine sj_istore dX7_allowed_6 (by decide) ?_
  refine sj_iconst (v := (nI 0)) dX7_allowed_8 (by decide +kernel) ?_
  refine sj_istore dX7_allowed_9 (by decide) ?_
  refine sj_iconst (v := (nI 0)) dX7_allowed_11 (by decide +kernel) ?_
  refine sj_istore dX7_allowed_12 (by decide) ?_
  refine sj_iconst (v := (nI 0)) dX7_allowed_14 (by decide +kernel) ?_
  refine sj_istore dX7_allowed_15 (by decide) ?_
  refine sj_iconst (v := (nI 0)) dX7_allowed_17 (by decide +kernel) ?_
  refine sj_istore dX7_allowed_18 (by decide) ?_
  exact h
theorem c_X7_allowed {G : sj_G} (ok : sj_ok G) {R : sj_R} {b : Nat} {sl : Nat} {x1 : Int32} {x3 : Int32} {σ : sj_S} (hb : b = 6 ∨ b = 18) (hsl : sj_lk sl = 13 ∧ sl < sj_NA ∧ sj_ln sl = 9) (h : wp_X7_allowed_0 G R b sl x1 x3 σ) : sj_C G 2 me_X7_allowed [.ref (sj_ad G b), .int x1, .ref (sj_ad G sl), .int x3] σ R :=
  sj_enter ok (by decide +kernel) rfl rfl (Nat.le_of_ble_eq_true rfl) (by simp [Value.category]) (t_X7_allowed_0 hb hsl h)
def wp_X7_isRight_2 (G : sj_G) (R : sj_R) (b : Nat) (sl : Nat) (x2 : Int32) (σ : sj_S) : Prop := ((σ b 0) ≤ x2 → R = (.ok (nI 1), σ)) ∧ (¬ ((σ b 0) ≤ x2) → ∃ v2 σ2, sj_C G 2 me_X7_allowed [.ref (sj_ad G b), .int x2, .ref (sj_ad G sl), .int (-1)] σ (.ok v2, σ2) ∧ vp_in x2 9 ∧ (¬ ((v2 >>> ((σ2 sl x2.toNatClampNeg) &&& 31)) &&& (nI 1)) = 0 → sj_J G 3 me_X7_isRight R 2 [.ref (sj_ad G b), .ref (sj_ad G sl), .int (x2 + (nI 1))] σ2 []) ∧ (((v2 >>> ((σ2 sl x2.toNatClampNeg) &&& 31)) &&& (nI 1)) = 0 → R = (.ok (nI 0), σ2)))
set_option maxRecDepth 20000 in
theorem t_X7_isRight_2 {G : sj_G} {R : sj_R} {b : Nat} {sl : Nat} {x2 : Int32} {σ : sj_S} (hb : b = 6 ∨ b = 18) (hsl : sj_lk sl = 13 ∧ sl < sj_NA ∧ sj_ln sl = 9) (h : wp_X7_isRight_2 G R b sl x2 σ) : sj_J G 3 me_X7_isRight R 2 [.ref (sj_ad G b), .ref (sj_ad G sl), .int x2] σ [] := by
  unfold wp_X7_isRight_2 at h
  refine sj_iload_n dX7_isRight_2 (i := 2) rfl rfl ?_
  refine sj_aload_n dX7_isRight_3 (i := 0) rfl rfl ?_
  refine sj_get (a := b) (k9 := 0) (v := .int (σ b 0)) dX7_isRight_4 (by rcases hb with rfl | rfl <;> decide +kernel) (by rcases hb with rfl | rfl <;> rfl) ?_
  refine sj_icmp_ge (tgt := 34) dX7_isRight_7 (by decide) (fun c1 => ?_) (fun c1 => ?_)
  · replace h := h.1 c1
    refine sj_iconst (v := (nI 1)) dX7_isRight_34 (by decide +kernel) ?_
    subst h
    exact sj_ret dX7_isRight_35 rfl rfl
  · replace h := h.2 c1
    refine sj_aload_n dX7_isRight_10 (i := 0) rfl rfl ?_
    refine sj_iload_n dX7_isRight_11 (i := 2) rfl rfl ?_
    refine sj_aload_n dX7_isRight_12 (i := 1) rfl rfl ?_
    refine sj_iconst (v := (-1)) dX7_isRight_13 (by decide +kernel) ?_
    obtain ⟨v2, σ2, hc2, h⟩ := h
    refine sj_callVi (M' := me_X7_allowed) (b := b) (As := [.int x2, .ref (sj_ad G sl), .int (-1)]) (rest := []) dX7_isRight_14 gX7_isRight_X7_allowed rfl hd_X7_allowed (by rcases hb with rfl | rfl <;> decide +kernel) (by rcases hb with rfl | rfl <;> decide +kernel) (by rcases hb with rfl | rfl <;> rfl) (Nat.le_of_ble_eq_true rfl) (by omega) rfl hc2 ?_
    refine sj_aload_n dX7_isRight_17 (i := 1) rfl rfl ?_
    refine sj_iload_n dX7_isRight_18 (i := 2) rfl rfl ?_
    obtain ⟨b3, h⟩ := h
    refine sj_iald (a := sl) (j := x2.toNatClampNeg) (x := (σ2 sl x2.toNatClampNeg)) dX7_isRight_19 hsl.1 hsl.2.1 (by rw [hsl.2.2]; exact b3) rfl rfl ?_
    refine sj_ishr dX7_isRight_20 ?_
    refine sj_iconst (v := (nI 1)) dX7_isRight_21 (by decide +kernel) ?_
    refine sj_iand dX7_isRight_22 ?_
    refine sj_if_ne (tgt := 28) dX7_isRight_23 (by decide) (fun c4 => ?_) (fun c4 => ?_)
    · replace h := h.1 c4
      refine sj_iinc (v := (x2 + (nI 1))) dX7_isRight_28 (by decide) rfl rfl ?_
      refine sj_goto (tgt := 2) dX7_isRight_31 (by decide) ?_
      exact h
    · replace h := h.2 c4
      refine sj_iconst (v := (nI 0)) dX7_isRight_26 (by decide +kernel) ?_
      subst h
      exact sj_ret dX7_isRight_27 rfl rfl
def wp_X7_isRight_0 (G : sj_G) (R : sj_R) (b : Nat) (sl : Nat) (σ : sj_S) : Prop := sj_J G 3 me_X7_isRight R 2 [.ref (sj_ad G b), .ref (sj_ad G sl), .int (nI 0)] σ []
set_option maxRecDepth 20000 in
theorem t_X7_isRight_0 {G : sj_G} {R : sj_R} {b : Nat} {sl : Nat} {σ : sj_S} (hb : b = 6 ∨ b = 18) (hsl : sj_lk sl = 13 ∧ sl < sj_NA ∧ sj_ln sl = 9) (h : wp_X7_isRight_0 G R b sl σ) : sj_J G 3 me_X7_isRight R 0 [.ref (sj_ad G b), .ref (sj_ad G sl), .null] σ [] := by
  unfold wp_X7_isRight_0 at h
  refine sj_iconst (v := (nI 0)) dX7_isRight_0 (by decide +kernel) ?_
  refine sj_istore_n dX7_isRight_1 (i := 2) rfl (by decide) ?_
  exact h
theorem c_X7_isRight {G : sj_G} (ok : sj_ok G) {R : sj_R} {b : Nat} {sl : Nat} {σ : sj_S} (hb : b = 6 ∨ b = 18) (hsl : sj_lk sl = 13 ∧ sl < sj_NA ∧ sj_ln sl = 9) (h : wp_X7_isRight_0 G R b sl σ) : sj_C G 3 me_X7_isRight [.ref (sj_ad G b), .ref (sj_ad G sl)] σ R :=
  sj_enter ok (by decide +kernel) rfl rfl (Nat.le_of_ble_eq_true rfl) (by simp [Value.category]) (t_X7_isRight_0 hb hsl h)
def wp_X7_giveRooms_2 (G : sj_G) (R : sj_R) (b : Nat) (sl : Nat) (x2 : Int32) (x3 : Int32) (σ : sj_S) : Prop := ((nI 20) ≤ x3 → vp_in x2 9 ∧ R = (.ok (σ (b + 11) x2.toNatClampNeg), σ)) ∧ (¬ ((nI 20) ≤ x3) → sj_J G 3 me_X7_giveRooms R 11 [.ref (sj_ad G b), .ref (sj_ad G sl), .int x2, .int x3, .int (nI 0)] σ [])
set_option maxRecDepth 20000 in
theorem t_X7_giveRooms_2 {G : sj_G} {R : sj_R} {b : Nat} {sl : Nat} {x2 : Int32} {x3 : Int32} {σ : sj_S} (hb : b = 6 ∨ b = 18) (hsl : sj_lk sl = 13 ∧ sl < sj_NA ∧ sj_ln sl = 9) (h : wp_X7_giveRooms_2 G R b sl x2 x3 σ) : sj_J G 3 me_X7_giveRooms R 2 [.ref (sj_ad G b), .ref (sj_ad G sl), .int x2, .int x3, .null] σ [] := by
  unfold wp_X7_giveRooms_2 at h
  refine sj_iload_n dX7_giveRooms_2 (i := 3) rfl rfl ?_
  refine sj_bipush (v := (nI 20)) dX7_giveRooms_3 (by decide +kernel) ?_
  refine sj_icmp_ge (tgt := 70) dX7_giveRooms_5 (by decide) (fun c1 => ?_) (fun c1 => ?_)
  · replace h := h.1 c1
    refine sj_aload_n dX7_giveRooms_70 (i := 0) rfl rfl ?_
    refine sj_get (a := b) (k9 := 11) (v := .ref (sj_ad G (b + 11))) dX7_giveRooms_71 (by rcases hb with rfl | rfl <;> decide +kernel) (by rcases hb with rfl | rfl <;> rfl) ?_
    refine sj_iload_n dX7_giveRooms_74 (i := 2) rfl rfl ?_
    obtain ⟨b2, h⟩ := h
    refine sj_iald (a := (b + 11)) (j := x2.toNatClampNeg) (x := (σ (b + 11) x2.toNatClampNeg)) dX7_giveRooms_75 (by rcases hb with rfl | rfl <;> rfl) (by rcases hb with rfl | rfl <;> decide +kernel) (by rcases hb with rfl | rfl <;> exact b2) rfl rfl ?_
    subst h
    exact sj_ret dX7_giveRooms_76 rfl rfl
  · replace h := h.2 c1
    refine sj_iconst (v := (nI 0)) dX7_giveRooms_8 (by decide +kernel) ?_
    refine sj_istore dX7_giveRooms_9 (by decide) ?_
    exact h
def wp_X7_giveRooms_58 (G : sj_G) (R : sj_R) (b : Nat) (sl : Nat) (x2 : Int32) (x3 : Int32) (x4 : Int32) (σ : sj_S) : Prop := sj_J G 3 me_X7_giveRooms R 11 [.ref (sj_ad G b), .ref (sj_ad G sl), .int x2, .int x3, .int (x4 + (nI 1))] σ []
set_option maxRecDepth 20000 in
theorem t_X7_giveRooms_58 {G : sj_G} {R : sj_R} {b : Nat} {sl : Nat} {x2 : Int32} {x3 : Int32} {x4 : Int32} {σ : sj_S} (hb : b = 6 ∨ b = 18) (hsl : sj_lk sl = 13 ∧ sl < sj_NA ∧ sj_ln sl = 9) (h : wp_X7_giveRooms_58 G R b sl x2 x3 x4 σ) : sj_J G 3 me_X7_giveRooms R 58 [.ref (sj_ad G b), .ref (sj_ad G sl), .int x2, .int x3, .int x4] σ [] := by
  unfold wp_X7_giveRooms_58 at h
  refine sj_iinc (v := (x4 + (nI 1))) dX7_giveRooms_58 (by decide) rfl rfl ?_
  refine sj_goto (tgt := 11) dX7_giveRooms_61 (by decide) ?_
  exact h
def wp_X7_giveRooms_57 (G : sj_G) (R : sj_R) (b : Nat) (sl : Nat) (x2 : Int32) (x3 : Int32) (x4 : Int32) (s0 : Int32) (s1 : Int32) (σ : sj_S) : Prop := vp_in s1 9 ∧ (wp_X7_giveRooms_58 G R b sl x2 x3 x4 (sj_st σ (b + 11) s1.toNatClampNeg s0))
set_option maxRecDepth 20000 in
theorem t_X7_giveRooms_57 {G : sj_G} {R : sj_R} {b : Nat} {sl : Nat} {x2 : Int32} {x3 : Int32} {x4 : Int32} {s0 : Int32} {s1 : Int32} {σ : sj_S} (hb : b = 6 ∨ b = 18) (hsl : sj_lk sl = 13 ∧ sl < sj_NA ∧ sj_ln sl = 9) (h : wp_X7_giveRooms_57 G R b sl x2 x3 x4 s0 s1 σ) : sj_J G 3 me_X7_giveRooms R 57 [.ref (sj_ad G b), .ref (sj_ad G sl), .int x2, .int x3, .int x4] σ [.int s0, .int s1, .ref (sj_ad G (b + 11))] := by
  unfold wp_X7_giveRooms_57 at h
  obtain ⟨b1, h⟩ := h
  refine sj_iast (a := (b + 11)) (j := s1.toNatClampNeg) dX7_giveRooms_57 (by rcases hb with rfl | rfl <;> rfl) (by rcases hb with rfl | rfl <;> decide +kernel) (by rcases hb with rfl | rfl <;> exact b1) rfl ?_
  exact t_X7_giveRooms_58 hb hsl h
def wp_X7_giveRooms_11 (G : sj_G) (R : sj_R) (b : Nat) (sl : Nat) (x2 : Int32) (x3 : Int32) (x4 : Int32) (σ : sj_S) : Prop := ((σ b 0) ≤ x4 → sj_J G 3 me_X7_giveRooms R 2 [.ref (sj_ad G b), .ref (sj_ad G sl), .int x2, .int (x3 + (nI 1)), .null] σ []) ∧ (¬ ((σ b 0) ≤ x4) → vp_in x4 9 ∧ (¬ (σ sl x4.toNatClampNeg) = x3 → (wp_X7_giveRooms_58 G R b sl x2 x3 x4 σ)) ∧ ((σ sl x4.toNatClampNeg) = x3 → vp_in x4 9 ∧ (¬ (σ (b + 10) x4.toNatClampNeg) = (nI 9) → ∃ v10 σ10, sj_C G 2 me_X7_leastRoom [.ref (sj_ad G b), .ref (sj_ad G sl), .int x4] σ (.ok v10, σ10) ∧ (wp_X7_giveRooms_57 G R b sl x2 x3 x4 v10 x4 σ10)) ∧ ((σ (b + 10) x4.toNatClampNeg) = (nI 9) → (wp_X7_giveRooms_57 G R b sl x2 x3 x4 (-1) x4 σ))))
set_option maxRecDepth 20000 in
theorem t_X7_giveRooms_11 {G : sj_G} {R : sj_R} {b : Nat} {sl : Nat} {x2 : Int32} {x3 : Int32} {x4 : Int32} {σ : sj_S} (hb : b = 6 ∨ b = 18) (hsl : sj_lk sl = 13 ∧ sl < sj_NA ∧ sj_ln sl = 9) (h : wp_X7_giveRooms_11 G R b sl x2 x3 x4 σ) : sj_J G 3 me_X7_giveRooms R 11 [.ref (sj_ad G b), .ref (sj_ad G sl), .int x2, .int x3, .int x4] σ [] := by
  unfold wp_X7_giveRooms_11 at h
  refine sj_iload dX7_giveRooms_11 rfl ?_
  refine sj_aload_n dX7_giveRooms_13 (i := 0) rfl rfl ?_
  refine sj_get (a := b) (k9 := 0) (v := .int (σ b 0)) dX7_giveRooms_14 (by rcases hb with rfl | rfl <;> decide +kernel) (by rcases hb with rfl | rfl <;> rfl) ?_
  refine sj_icmp_ge (tgt := 64) dX7_giveRooms_17 (by decide) (fun c1 => ?_) (fun c1 => ?_)
  · replace h := h.1 c1
    refine sj_iinc (v := (x3 + (nI 1))) dX7_giveRooms_64 (by decide) rfl rfl ?_
    refine sj_goto (tgt := 2) dX7_giveRooms_67 (by decide) ?_
    refine sj_fg [4] ?_
    exact h
  · replace h := h.2 c1
    refine sj_aload_n dX7_giveRooms_20 (i := 1) rfl rfl ?_
    refine sj_iload dX7_giveRooms_21 rfl ?_
    obtain ⟨b2, h⟩ := h
    refine sj_iald (a := sl) (j := x4.toNatClampNeg) (x := (σ sl x4.toNatClampNeg)) dX7_giveRooms_23 hsl.1 hsl.2.1 (by rw [hsl.2.2]; exact b2) rfl rfl ?_
    refine sj_iload_n dX7_giveRooms_24 (i := 3) rfl rfl ?_
    refine sj_icmp_ne (tgt := 58) dX7_giveRooms_25 (by decide) (fun c6 => ?_) (fun c6 => ?_)
    · replace h := h.1 c6
      exact t_X7_giveRooms_58 hb hsl h
    · replace h := h.2 c6
      refine sj_aload_n dX7_giveRooms_28 (i := 0) rfl rfl ?_
      refine sj_get (a := b) (k9 := 11) (v := .ref (sj_ad G (b + 11))) dX7_giveRooms_29 (by rcases hb with rfl | rfl <;> decide +kernel) (by rcases hb with rfl | rfl <;> rfl) ?_
      refine sj_iload dX7_giveRooms_32 rfl ?_
      refine sj_aload_n dX7_giveRooms_34 (i := 0) rfl rfl ?_
      refine sj_get (a := b) (k9 := 10) (v := .ref (sj_ad G (b + 10))) dX7_giveRooms_35 (by rcases hb with rfl | rfl <;> decide +kernel) (by rcases hb with rfl | rfl <;> rfl) ?_
      refine sj_iload dX7_giveRooms_38 rfl ?_
      obtain ⟨b7, h⟩ := h
      refine sj_iald (a := (b + 10)) (j := x4.toNatClampNeg) (x := (σ (b + 10) x4.toNatClampNeg)) dX7_giveRooms_40 (by rcases hb with rfl | rfl <;> rfl) (by rcases hb with rfl | rfl <;> decide +kernel) (by rcases hb with rfl | rfl <;> exact b7) rfl rfl ?_
      refine sj_bipush (v := (nI 9)) dX7_giveRooms_41 (by decide +kernel) ?_
      refine sj_icmp_ne (tgt := 50) dX7_giveRooms_43 (by decide) (fun c9 => ?_) (fun c9 => ?_)
      · replace h := h.1 c9
        refine sj_aload_n dX7_giveRooms_50 (i := 0) rfl rfl ?_
        refine sj_aload_n dX7_giveRooms_51 (i := 1) rfl rfl ?_
        refine sj_iload dX7_giveRooms_52 rfl ?_
        obtain ⟨v10, σ10, hc10, h⟩ := h
        refine sj_callVi (M' := me_X7_leastRoom) (b := b) (As := [.ref (sj_ad G sl), .int x4]) (rest := [.int x4, .ref (sj_ad G (b + 11))]) dX7_giveRooms_54 gX7_giveRooms_X7_leastRoom rfl hd_X7_leastRoom (by rcases hb with rfl | rfl <;> decide +kernel) (by rcases hb with rfl | rfl <;> decide +kernel) (by rcases hb with rfl | rfl <;> rfl) (Nat.le_of_ble_eq_true rfl) (by omega) rfl hc10 ?_
        exact t_X7_giveRooms_57 hb hsl h
      · replace h := h.2 c9
        refine sj_iconst (v := (-1)) dX7_giveRooms_46 (by decide +kernel) ?_
        refine sj_goto (tgt := 57) dX7_giveRooms_47 (by decide) ?_
        exact t_X7_giveRooms_57 hb hsl h
def wp_X7_giveRooms_0 (G : sj_G) (R : sj_R) (b : Nat) (sl : Nat) (x2 : Int32) (σ : sj_S) : Prop := sj_J G 3 me_X7_giveRooms R 2 [.ref (sj_ad G b), .ref (sj_ad G sl), .int x2, .int (nI 0), .null] σ []
set_option maxRecDepth 20000 in
theorem t_X7_giveRooms_0 {G : sj_G} {R : sj_R} {b : Nat} {sl : Nat} {x2 : Int32} {σ : sj_S} (hb : b = 6 ∨ b = 18) (hsl : sj_lk sl = 13 ∧ sl < sj_NA ∧ sj_ln sl = 9) (h : wp_X7_giveRooms_0 G R b sl x2 σ) : sj_J G 3 me_X7_giveRooms R 0 [.ref (sj_ad G b), .ref (sj_ad G sl), .int x2, .null, .null] σ [] := by
  unfold wp_X7_giveRooms_0 at h
  refine sj_iconst (v := (nI 0)) dX7_giveRooms_0 (by decide +kernel) ?_
  refine sj_istore_n dX7_giveRooms_1 (i := 3) rfl (by decide) ?_
  exact h
theorem c_X7_giveRooms {G : sj_G} (ok : sj_ok G) {R : sj_R} {b : Nat} {sl : Nat} {x2 : Int32} {σ : sj_S} (hb : b = 6 ∨ b = 18) (hsl : sj_lk sl = 13 ∧ sl < sj_NA ∧ sj_ln sl = 9) (h : wp_X7_giveRooms_0 G R b sl x2 σ) : sj_C G 3 me_X7_giveRooms [.ref (sj_ad G b), .ref (sj_ad G sl), .int x2] σ R :=
  sj_enter ok (by decide +kernel) rfl rfl (Nat.le_of_ble_eq_true rfl) (by simp [Value.category]) (t_X7_giveRooms_0 hb hsl h)
def wp_X7_leastRoom_116 (G : sj_G) (R : sj_R) (b : Nat) (sl : Nat) (x2 : Int32) (x3 : Int32) (x4 : Int32) (σ : sj_S) : Prop := sj_J G 2 me_X7_leastRoom R 5 [.ref (sj_ad G b), .ref (sj_ad G sl), .int x2, .int x3, .int (x4 + (nI 1)), .null, .null] σ []
set_option maxRecDepth 20000 in
theorem t_X7_leastRoom_116 {G : sj_G} {R : sj_R} {b : Nat} {sl : Nat} {x2 : Int32} {x3 : Int32} {x4 : Int32} {σ : sj_S} (hb : b = 6 ∨ b = 18) (hsl : sj_lk sl = 13 ∧ sl < sj_NA ∧ sj_ln sl = 9) (h : wp_X7_leastRoom_116 G R b sl x2 x3 x4 σ) : sj_J G 2 me_X7_leastRoom R 116 [.ref (sj_ad G b), .ref (sj_ad G sl), .int x2, .int x3, .int x4, .null, .null] σ [] := by
  unfold wp_X7_leastRoom_116 at h
  refine sj_iinc (v := (x4 + (nI 1))) dX7_leastRoom_116 (by decide) rfl rfl ?_
  refine sj_goto (tgt := 5) dX7_leastRoom_119 (by decide) ?_
  exact h
def wp_X7_leastRoom_78 (G : sj_G) (R : sj_R) (b : Nat) (sl : Nat) (x2 : Int32) (x3 : Int32) (x4 : Int32) (x5 : Int32) (s0 : Int32) (σ : sj_S) : Prop := ((¬ (x5 = 0)) → (¬ (s0 = 0)) → vp_in x2 9) ∧ ((¬ (x5 = 0)) → (¬ (s0 = 0)) → (¬ ((((σ (b + 9) x2.toNatClampNeg) >>> (x4 &&& 31)) &&& (nI 1)) = 0)) → vp_in x4 9) ∧ (wp_X7_leastRoom_116 G R b sl x2 (if x5 = 0 then x3 else (if s0 = 0 then x3 else (if (((σ (b + 9) x2.toNatClampNeg) >>> (x4 &&& 31)) &&& (nI 1)) = 0 then x3 else (x3 ||| ((nI 1) <<< ((σ (b + 11) x4.toNatClampNeg) &&& 31)))))) x4 σ)
set_option maxRecDepth 20000 in
theorem t_X7_leastRoom_78 {G : sj_G} {R : sj_R} {b : Nat} {sl : Nat} {x2 : Int32} {x3 : Int32} {x4 : Int32} {x5 : Int32} {s0 : Int32} {σ : sj_S} (hb : b = 6 ∨ b = 18) (hsl : sj_lk sl = 13 ∧ sl < sj_NA ∧ sj_ln sl = 9) (h : wp_X7_leastRoom_78 G R b sl x2 x3 x4 x5 s0 σ) : sj_J G 2 me_X7_leastRoom R 78 [.ref (sj_ad G b), .ref (sj_ad G sl), .int x2, .int x3, .int x4, .int x5, .null] σ [.int s0] := by
  unfold wp_X7_leastRoom_78 at h
  refine sj_istore dX7_leastRoom_78 (by decide) ?_
  refine sj_iload dX7_leastRoom_80 rfl ?_
  obtain ⟨f6, f7, h⟩ := h
  refine sj_if_eq (tgt := 116) dX7_leastRoom_82 (by decide) (fun c1 => ?_) (fun c1 => ?_)
  · try simp only [if_pos c1] at h
    refine sj_fg [5, 6] ?_
    exact t_X7_leastRoom_116 hb hsl h
  · refine sj_iload dX7_leastRoom_85 rfl ?_
    refine sj_if_eq (tgt := 116) dX7_leastRoom_87 (by decide) (fun c2 => ?_) (fun c2 => ?_)
    · try simp only [if_neg c1, if_pos c2] at h
      refine sj_fg [5, 6] ?_
      exact t_X7_leastRoom_116 hb hsl h
    · have b3 := f6 c1 c2
      refine sj_aload_n dX7_leastRoom_90 (i := 0) rfl rfl ?_
      refine sj_get (a := b) (k9 := 9) (v := .ref (sj_ad G (b + 9))) dX7_leastRoom_91 (by rcases hb with rfl | rfl <;> decide +kernel) (by rcases hb with rfl | rfl <;> rfl) ?_
      refine sj_iload_n dX7_leastRoom_94 (i := 2) rfl rfl ?_
      refine sj_iald (a := (b + 9)) (j := x2.toNatClampNeg) (x := (σ (b + 9) x2.toNatClampNeg)) dX7_leastRoom_95 (by rcases hb with rfl | rfl <;> rfl) (by rcases hb with rfl | rfl <;> decide +kernel) (by rcases hb with rfl | rfl <;> exact b3) rfl rfl ?_
      refine sj_iload dX7_leastRoom_96 rfl ?_
      refine sj_ishr dX7_leastRoom_98 ?_
      refine sj_iconst (v := (nI 1)) dX7_leastRoom_99 (by decide +kernel) ?_
      refine sj_iand dX7_leastRoom_100 ?_
      refine sj_if_eq (tgt := 116) dX7_leastRoom_101 (by decide) (fun c4 => ?_) (fun c4 => ?_)
      · try simp only [if_neg c1, if_neg c2, if_pos c4] at h
        refine sj_fg [5, 6] ?_
        exact t_X7_leastRoom_116 hb hsl h
      · have b5 := f7 c1 c2 c4
        refine sj_iload_n dX7_leastRoom_104 (i := 3) rfl rfl ?_
        refine sj_iconst (v := (nI 1)) dX7_leastRoom_105 (by decide +kernel) ?_
        refine sj_aload_n dX7_leastRoom_106 (i := 0) rfl rfl ?_
        refine sj_get (a := b) (k9 := 11) (v := .ref (sj_ad G (b + 11))) dX7_leastRoom_107 (by rcases hb with rfl | rfl <;> decide +kernel) (by rcases hb with rfl | rfl <;> rfl) ?_
        refine sj_iload dX7_leastRoom_110 rfl ?_
        refine sj_iald (a := (b + 11)) (j := x4.toNatClampNeg) (x := (σ (b + 11) x4.toNatClampNeg)) dX7_leastRoom_112 (by rcases hb with rfl | rfl <;> rfl) (by rcases hb with rfl | rfl <;> decide +kernel) (by rcases hb with rfl | rfl <;> exact b5) rfl rfl ?_
        refine sj_ishl dX7_leastRoom_113 ?_
        refine sj_ior dX7_leastRoom_114 ?_
        refine sj_istore_n dX7_leastRoom_115 (i := 3) rfl (by decide) ?_
        try simp only [if_neg c1, if_neg c2, if_neg c4] at h
        refine sj_fg [5, 6] ?_
        exact t_X7_leastRoom_116 hb hsl h
def wp_X7_leastRoom_45 (G : sj_G) (R : sj_R) (b : Nat) (sl : Nat) (x2 : Int32) (x3 : Int32) (x4 : Int32) (s0 : Int32) (σ : sj_S) : Prop := vp_in x4 9 ∧ vp_in x4 9 ∧ vp_in x2 9 ∧ vp_in x2 9 ∧ (wp_X7_leastRoom_78 G R b sl x2 x3 x4 s0 (if (((σ (b + 2) x4.toNatClampNeg) <<< ((σ sl x4.toNatClampNeg) &&& 31)) &&& ((σ (b + 2) x2.toNatClampNeg) <<< ((σ sl x2.toNatClampNeg) &&& 31))) = 0 then (nI 0) else (nI 1)) σ)
set_option maxRecDepth 20000 in
theorem t_X7_leastRoom_45 {G : sj_G} {R : sj_R} {b : Nat} {sl : Nat} {x2 : Int32} {x3 : Int32} {x4 : Int32} {s0 : Int32} {σ : sj_S} (hb : b = 6 ∨ b = 18) (hsl : sj_lk sl = 13 ∧ sl < sj_NA ∧ sj_ln sl = 9) (h : wp_X7_leastRoom_45 G R b sl x2 x3 x4 s0 σ) : sj_J G 2 me_X7_leastRoom R 45 [.ref (sj_ad G b), .ref (sj_ad G sl), .int x2, .int x3, .int x4, .null, .null] σ [.int s0] := by
  unfold wp_X7_leastRoom_45 at h
  refine sj_istore dX7_leastRoom_45 (by decide) ?_
  refine sj_aload_n dX7_leastRoom_47 (i := 0) rfl rfl ?_
  refine sj_get (a := b) (k9 := 2) (v := .ref (sj_ad G (b + 2))) dX7_leastRoom_48 (by rcases hb with rfl | rfl <;> decide +kernel) (by rcases hb with rfl | rfl <;> rfl) ?_
  refine sj_iload dX7_leastRoom_51 rfl ?_
  obtain ⟨b1, h⟩ := h
  refine sj_iald (a := (b + 2)) (j := x4.toNatClampNeg) (x := (σ (b + 2) x4.toNatClampNeg)) dX7_leastRoom_53 (by rcases hb with rfl | rfl <;> rfl) (by rcases hb with rfl | rfl <;> decide +kernel) (by rcases hb with rfl | rfl <;> exact b1) rfl rfl ?_
  refine sj_aload_n dX7_leastRoom_54 (i := 1) rfl rfl ?_
  refine sj_iload dX7_leastRoom_55 rfl ?_
  obtain ⟨b2, h⟩ := h
  refine sj_iald (a := sl) (j := x4.toNatClampNeg) (x := (σ sl x4.toNatClampNeg)) dX7_leastRoom_57 hsl.1 hsl.2.1 (by rw [hsl.2.2]; exact b2) rfl rfl ?_
  refine sj_ishl dX7_leastRoom_58 ?_
  refine sj_aload_n dX7_leastRoom_59 (i := 0) rfl rfl ?_
  refine sj_get (a := b) (k9 := 2) (v := .ref (sj_ad G (b + 2))) dX7_leastRoom_60 (by rcases hb with rfl | rfl <;> decide +kernel) (by rcases hb with rfl | rfl <;> rfl) ?_
  refine sj_iload_n dX7_leastRoom_63 (i := 2) rfl rfl ?_
  obtain ⟨b3, h⟩ := h
  refine sj_iald (a := (b + 2)) (j := x2.toNatClampNeg) (x := (σ (b + 2) x2.toNatClampNeg)) dX7_leastRoom_64 (by rcases hb with rfl | rfl <;> rfl) (by rcases hb with rfl | rfl <;> decide +kernel) (by rcases hb with rfl | rfl <;> exact b3) rfl rfl ?_
  refine sj_aload_n dX7_leastRoom_65 (i := 1) rfl rfl ?_
  refine sj_iload_n dX7_leastRoom_66 (i := 2) rfl rfl ?_
  obtain ⟨b4, h⟩ := h
  refine sj_iald (a := sl) (j := x2.toNatClampNeg) (x := (σ sl x2.toNatClampNeg)) dX7_leastRoom_67 hsl.1 hsl.2.1 (by rw [hsl.2.2]; exact b4) rfl rfl ?_
  refine sj_ishl dX7_leastRoom_68 ?_
  refine sj_iand dX7_leastRoom_69 ?_
  refine sj_if_eq (tgt := 77) dX7_leastRoom_70 (by decide) (fun c5 => ?_) (fun c5 => ?_)
  · refine sj_iconst (v := (nI 0)) dX7_leastRoom_77 (by decide +kernel) ?_
    try simp only [if_pos c5] at h
    exact t_X7_leastRoom_78 hb hsl h
  · refine sj_iconst (v := (nI 1)) dX7_leastRoom_73 (by decide +kernel) ?_
    refine sj_goto (tgt := 78) dX7_leastRoom_74 (by decide) ?_
    try simp only [if_neg c5] at h
    exact t_X7_leastRoom_78 hb hsl h
def wp_X7_leastRoom_5 (G : sj_G) (R : sj_R) (b : Nat) (sl : Nat) (x2 : Int32) (x3 : Int32) (x4 : Int32) (σ : sj_S) : Prop := ((σ b 0) ≤ x4 → sj_J G 2 me_X7_leastRoom R 125 [.null, .null, .null, .int x3, .int (nI 0), .null, .null] σ []) ∧ (¬ ((σ b 0) ≤ x4) → vp_in x4 9 ∧ vp_in x2 9 ∧ ((¬ ((σ sl x4.toNatClampNeg) < (σ sl x2.toNatClampNeg))) → vp_in x4 9 ∧ vp_in x2 9) ∧ (wp_X7_leastRoom_45 G R b sl x2 x3 x4 (if (σ sl x4.toNatClampNeg) < (σ sl x2.toNatClampNeg) then (nI 1) else (if (σ sl x4.toNatClampNeg) = (σ sl x2.toNatClampNeg) then (if x2 ≤ x4 then (nI 0) else (nI 1)) else (nI 0))) σ))
set_option maxRecDepth 20000 in
theorem t_X7_leastRoom_5 {G : sj_G} {R : sj_R} {b : Nat} {sl : Nat} {x2 : Int32} {x3 : Int32} {x4 : Int32} {σ : sj_S} (hb : b = 6 ∨ b = 18) (hsl : sj_lk sl = 13 ∧ sl < sj_NA ∧ sj_ln sl = 9) (h : wp_X7_leastRoom_5 G R b sl x2 x3 x4 σ) : sj_J G 2 me_X7_leastRoom R 5 [.ref (sj_ad G b), .ref (sj_ad G sl), .int x2, .int x3, .int x4, .null, .null] σ [] := by
  unfold wp_X7_leastRoom_5 at h
  refine sj_iload dX7_leastRoom_5 rfl ?_
  refine sj_aload_n dX7_leastRoom_7 (i := 0) rfl rfl ?_
  refine sj_get (a := b) (k9 := 0) (v := .int (σ b 0)) dX7_leastRoom_8 (by rcases hb with rfl | rfl <;> decide +kernel) (by rcases hb with rfl | rfl <;> rfl) ?_
  refine sj_icmp_ge (tgt := 122) dX7_leastRoom_11 (by decide) (fun c1 => ?_) (fun c1 => ?_)
  · replace h := h.1 c1
    refine sj_iconst (v := (nI 0)) dX7_leastRoom_122 (by decide +kernel) ?_
    refine sj_istore dX7_leastRoom_123 (by decide) ?_
    refine sj_fg [0, 1, 2] ?_
    exact h
  · replace h := h.2 c1
    refine sj_aload_n dX7_leastRoom_14 (i := 1) rfl rfl ?_
    refine sj_iload dX7_leastRoom_15 rfl ?_
    obtain ⟨b2, h⟩ := h
    refine sj_iald (a := sl) (j := x4.toNatClampNeg) (x := (σ sl x4.toNatClampNeg)) dX7_leastRoom_17 hsl.1 hsl.2.1 (by rw [hsl.2.2]; exact b2) rfl rfl ?_
    refine sj_aload_n dX7_leastRoom_18 (i := 1) rfl rfl ?_
    refine sj_iload_n dX7_leastRoom_19 (i := 2) rfl rfl ?_
    obtain ⟨b3, h⟩ := h
    refine sj_iald (a := sl) (j := x2.toNatClampNeg) (x := (σ sl x2.toNatClampNeg)) dX7_leastRoom_20 hsl.1 hsl.2.1 (by rw [hsl.2.2]; exact b3) rfl rfl ?_
    obtain ⟨f9, h⟩ := h
    refine sj_icmp_lt (tgt := 40) dX7_leastRoom_21 (by decide) (fun c4 => ?_) (fun c4 => ?_)
    · refine sj_iconst (v := (nI 1)) dX7_leastRoom_40 (by decide +kernel) ?_
      refine sj_goto (tgt := 45) dX7_leastRoom_41 (by decide) ?_
      try simp only [if_pos c4] at h
      exact t_X7_leastRoom_45 hb hsl h
    · obtain ⟨b5, b6⟩ := f9 c4
      refine sj_aload_n dX7_leastRoom_24 (i := 1) rfl rfl ?_
      refine sj_iload dX7_leastRoom_25 rfl ?_
      refine sj_iald (a := sl) (j := x4.toNatClampNeg) (x := (σ sl x4.toNatClampNeg)) dX7_leastRoom_27 hsl.1 hsl.2.1 (by rw [hsl.2.2]; exact b5) rfl rfl ?_
      refine sj_aload_n dX7_leastRoom_28 (i := 1) rfl rfl ?_
      refine sj_iload_n dX7_leastRoom_29 (i := 2) rfl rfl ?_
      refine sj_iald (a := sl) (j := x2.toNatClampNeg) (x := (σ sl x2.toNatClampNeg)) dX7_leastRoom_30 hsl.1 hsl.2.1 (by rw [hsl.2.2]; exact b6) rfl rfl ?_
      refine sj_icmp_ne (tgt := 44) dX7_leastRoom_31 (by decide) (fun c7 => ?_) (fun c7 => ?_)
      · refine sj_iconst (v := (nI 0)) dX7_leastRoom_44 (by decide +kernel) ?_
        try simp only [if_neg c4, if_neg c7] at h
        exact t_X7_leastRoom_45 hb hsl h
      · refine sj_iload dX7_leastRoom_34 rfl ?_
        refine sj_iload_n dX7_leastRoom_36 (i := 2) rfl rfl ?_
        refine sj_icmp_ge (tgt := 44) dX7_leastRoom_37 (by decide) (fun c8 => ?_) (fun c8 => ?_)
        · refine sj_iconst (v := (nI 0)) dX7_leastRoom_44 (by decide +kernel) ?_
          try simp only [if_neg c4, if_pos c7, if_pos c8] at h
          exact t_X7_leastRoom_45 hb hsl h
        · refine sj_iconst (v := (nI 1)) dX7_leastRoom_40 (by decide +kernel) ?_
          refine sj_goto (tgt := 45) dX7_leastRoom_41 (by decide) ?_
          try simp only [if_neg c4, if_pos c7, if_neg c8] at h
          exact t_X7_leastRoom_45 hb hsl h
def wp_X7_leastRoom_146 (G : sj_G) (R : sj_R) (b : Nat) (sl : Nat) (x4 : Int32) (σ : sj_S) : Prop := R = (.ok x4, σ)
set_option maxRecDepth 20000 in
theorem t_X7_leastRoom_146 {G : sj_G} {R : sj_R} {b : Nat} {sl : Nat} {x4 : Int32} {σ : sj_S} (hb : b = 6 ∨ b = 18) (hsl : sj_lk sl = 13 ∧ sl < sj_NA ∧ sj_ln sl = 9) (h : wp_X7_leastRoom_146 G R b sl x4 σ) : sj_J G 2 me_X7_leastRoom R 146 [.null, .null, .null, .null, .int x4, .null, .null] σ [] := by
  unfold wp_X7_leastRoom_146 at h
  refine sj_iload dX7_leastRoom_146 rfl ?_
  subst h
  exact sj_ret dX7_leastRoom_148 rfl rfl
def wp_X7_leastRoom_125 (G : sj_G) (R : sj_R) (b : Nat) (sl : Nat) (x3 : Int32) (x4 : Int32) (σ : sj_S) : Prop := ((nI 3) ≤ x4 → (wp_X7_leastRoom_146 G R b sl x4 σ)) ∧ (¬ ((nI 3) ≤ x4) → (((x3 >>> (x4 &&& 31)) &&& (nI 1)) = 0 → (wp_X7_leastRoom_146 G R b sl x4 σ)) ∧ (¬ (((x3 >>> (x4 &&& 31)) &&& (nI 1)) = 0) → sj_J G 2 me_X7_leastRoom R 125 [.null, .null, .null, .int x3, .int (x4 + (nI 1)), .null, .null] σ []))
set_option maxRecDepth 20000 in
theorem t_X7_leastRoom_125 {G : sj_G} {R : sj_R} {b : Nat} {sl : Nat} {x3 : Int32} {x4 : Int32} {σ : sj_S} (hb : b = 6 ∨ b = 18) (hsl : sj_lk sl = 13 ∧ sl < sj_NA ∧ sj_ln sl = 9) (h : wp_X7_leastRoom_125 G R b sl x3 x4 σ) : sj_J G 2 me_X7_leastRoom R 125 [.null, .null, .null, .int x3, .int x4, .null, .null] σ [] := by
  unfold wp_X7_leastRoom_125 at h
  refine sj_iload dX7_leastRoom_125 rfl ?_
  refine sj_iconst (v := (nI 3)) dX7_leastRoom_127 (by decide +kernel) ?_
  refine sj_icmp_ge (tgt := 146) dX7_leastRoom_128 (by decide) (fun c3 => ?_) (fun c3 => ?_)
  · replace h := h.1 c3
    refine sj_fg [3] ?_
    exact t_X7_leastRoom_146 hb hsl h
  · replace h := h.2 c3
    refine sj_iload_n dX7_leastRoom_131 (i := 3) rfl rfl ?_
    refine sj_iload dX7_leastRoom_132 rfl ?_
    refine sj_ishr dX7_leastRoom_134 ?_
    refine sj_iconst (v := (nI 1)) dX7_leastRoom_135 (by decide +kernel) ?_
    refine sj_iand dX7_leastRoom_136 ?_
    refine sj_if_eq (tgt := 146) dX7_leastRoom_137 (by decide) (fun c5 => ?_) (fun c5 => ?_)
    · replace h := h.1 c5
      refine sj_fg [3] ?_
      exact t_X7_leastRoom_146 hb hsl h
    · replace h := h.2 c5
      refine sj_iinc (v := (x4 + (nI 1))) dX7_leastRoom_140 (by decide) rfl rfl ?_
      refine sj_goto (tgt := 125) dX7_leastRoom_143 (by decide) ?_
      exact h
def wp_X7_leastRoom_0 (G : sj_G) (R : sj_R) (b : Nat) (sl : Nat) (x2 : Int32) (σ : sj_S) : Prop := sj_J G 2 me_X7_leastRoom R 5 [.ref (sj_ad G b), .ref (sj_ad G sl), .int x2, .int (nI 0), .int (nI 0), .null, .null] σ []
set_option maxRecDepth 20000 in
theorem t_X7_leastRoom_0 {G : sj_G} {R : sj_R} {b : Nat} {sl : Nat} {x2 : Int32} {σ : sj_S} (hb : b = 6 ∨ b = 18) (hsl : sj_lk sl = 13 ∧ sl < sj_NA ∧ sj_ln sl = 9) (h : wp_X7_leastRoom_0 G R b sl x2 σ) : sj_J G 2 me_X7_leastRoom R 0 [.ref (sj_ad G b), .ref (sj_ad G sl), .int x2, .null, .null, .null, .null] σ [] := by
  unfold wp_X7_leastRoom_0 at h
  refine sj_iconst (v := (nI 0)) dX7_leastRoom_0 (by decide +kernel) ?_
  refine sj_istore_n dX7_leastRoom_1 (i := 3) rfl (by decide) ?_
  refine sj_iconst (v := (nI 0)) dX7_leastRoom_2 (by decide +kernel) ?_
  refine sj_istore dX7_leastRoom_3 (by decide) ?_
  exact h
theorem c_X7_leastRoom {G : sj_G} (ok : sj_ok G) {R : sj_R} {b : Nat} {sl : Nat} {x2 : Int32} {σ : sj_S} (hb : b = 6 ∨ b = 18) (hsl : sj_lk sl = 13 ∧ sl < sj_NA ∧ sj_ln sl = 9) (h : wp_X7_leastRoom_0 G R b sl x2 σ) : sj_C G 2 me_X7_leastRoom [.ref (sj_ad G b), .ref (sj_ad G sl), .int x2] σ R :=
  sj_enter ok (by decide +kernel) rfl rfl (Nat.le_of_ble_eq_true rfl) (by simp [Value.category]) (t_X7_leastRoom_0 hb hsl h)
