def wp_X1_mostOf_4 (G : sj_G) (R : sj_R) (x2 : Int32) (x3 : Int32) (σ : sj_S) : Prop := ((nI 4) ≤ x3 → sj_J G 4 me_X1_mostOf R 29 [.ref (sj_ad G 39), .ref (sj_ad G 1), .int x2, .int (nI 0)] σ []) ∧ (¬ ((nI 4) ≤ x3) → ∃ v2 σ2, sj_C G 3 me_X1_totalOf [.ref (sj_ad G 39), .ref (sj_ad G 1), .int (nI 0), .int x3] σ (.ok v2, σ2) ∧ sj_J G 4 me_X1_mostOf R 4 [.ref (sj_ad G 39), .ref (sj_ad G 1), .int (if x2 < v2 then v2 else x2), .int (x3 + (nI 1))] σ2 [])
set_option maxRecDepth 20000 in
theorem t_X1_mostOf_4 {G : sj_G} {R : sj_R} {x2 : Int32} {x3 : Int32} {σ : sj_S} (h : wp_X1_mostOf_4 G R x2 x3 σ) : sj_J G 4 me_X1_mostOf R 4 [.ref (sj_ad G 39), .ref (sj_ad G 1), .int x2, .int x3] σ [] := by
  unfold wp_X1_mostOf_4 at h
  refine sj_iload_n dX1_mostOf_4 (i := 3) rfl rfl ?_
  refine sj_iconst (v := (nI 4)) dX1_mostOf_5 (by decide +kernel) ?_
  refine sj_icmp_ge (tgt := 27) dX1_mostOf_6 (by decide) (fun c1 => ?_) (fun c1 => ?_)
  · replace h := h.1 c1
    refine sj_iconst (v := (nI 0)) dX1_mostOf_27 (by decide +kernel) ?_
    refine sj_istore_n dX1_mostOf_28 (i := 3) rfl (by decide) ?_
    exact h
  · replace h := h.2 c1
    refine sj_iload_n dX1_mostOf_9 (i := 2) rfl rfl ?_
    refine sj_aload_n dX1_mostOf_10 (i := 0) rfl rfl ?_
    refine sj_aload_n dX1_mostOf_11 (i := 1) rfl rfl ?_
    refine sj_iconst (v := (nI 0)) dX1_mostOf_12 (by decide +kernel) ?_
    refine sj_iload_n dX1_mostOf_13 (i := 3) rfl rfl ?_
    obtain ⟨v2, σ2, hc2, h⟩ := h
    refine sj_callVi (M' := me_X1_totalOf) (b := 39) (As := [.ref (sj_ad G 1), .int (nI 0), .int x3]) (rest := [.int x2]) dX1_mostOf_14 gX1_mostOf_X1_totalOf rfl hd_X1_totalOf (by decide +kernel) (by decide +kernel) rfl (Nat.le_of_ble_eq_true rfl) (by omega) rfl hc2 ?_
    refine sj_mmax dX1_mostOf_17 (by decide +kernel) (by omega) (Nat.le_of_ble_eq_true rfl) ?_
    refine sj_istore_n dX1_mostOf_20 (i := 2) rfl (by decide) ?_
    refine sj_iinc (v := (x3 + (nI 1))) dX1_mostOf_21 (by decide) rfl rfl ?_
    refine sj_goto (tgt := 4) dX1_mostOf_24 (by decide) ?_
    exact h
def wp_X1_mostOf_29 (G : sj_G) (R : sj_R) (x2 : Int32) (x3 : Int32) (σ : sj_S) : Prop := ((nI 6) ≤ x3 → R = (.ok x2, σ)) ∧ (¬ ((nI 6) ≤ x3) → ∃ v2 σ2, sj_C G 3 me_X1_totalOf [.ref (sj_ad G 39), .ref (sj_ad G 1), .int (nI 1), .int x3] σ (.ok v2, σ2) ∧ sj_J G 4 me_X1_mostOf R 29 [.ref (sj_ad G 39), .ref (sj_ad G 1), .int (if x2 < v2 then v2 else x2), .int (x3 + (nI 1))] σ2 [])
set_option maxRecDepth 20000 in
theorem t_X1_mostOf_29 {G : sj_G} {R : sj_R} {x2 : Int32} {x3 : Int32} {σ : sj_S} (h : wp_X1_mostOf_29 G R x2 x3 σ) : sj_J G 4 me_X1_mostOf R 29 [.ref (sj_ad G 39), .ref (sj_ad G 1), .int x2, .int x3] σ [] := by
  unfold wp_X1_mostOf_29 at h
  refine sj_iload_n dX1_mostOf_29 (i := 3) rfl rfl ?_
  refine sj_bipush (v := (nI 6)) dX1_mostOf_30 (by decide +kernel) ?_
  refine sj_icmp_ge (tgt := 53) dX1_mostOf_32 (by decide) (fun c1 => ?_) (fun c1 => ?_)
  · replace h := h.1 c1
    refine sj_iload_n dX1_mostOf_53 (i := 2) rfl rfl ?_
    subst h
    exact sj_ret dX1_mostOf_54 rfl rfl
  · replace h := h.2 c1
    refine sj_iload_n dX1_mostOf_35 (i := 2) rfl rfl ?_
    refine sj_aload_n dX1_mostOf_36 (i := 0) rfl rfl ?_
    refine sj_aload_n dX1_mostOf_37 (i := 1) rfl rfl ?_
    refine sj_iconst (v := (nI 1)) dX1_mostOf_38 (by decide +kernel) ?_
    refine sj_iload_n dX1_mostOf_39 (i := 3) rfl rfl ?_
    obtain ⟨v2, σ2, hc2, h⟩ := h
    refine sj_callVi (M' := me_X1_totalOf) (b := 39) (As := [.ref (sj_ad G 1), .int (nI 1), .int x3]) (rest := [.int x2]) dX1_mostOf_40 gX1_mostOf_X1_totalOf rfl hd_X1_totalOf (by decide +kernel) (by decide +kernel) rfl (Nat.le_of_ble_eq_true rfl) (by omega) rfl hc2 ?_
    refine sj_mmax dX1_mostOf_43 (by decide +kernel) (by omega) (Nat.le_of_ble_eq_true rfl) ?_
    refine sj_istore_n dX1_mostOf_46 (i := 2) rfl (by decide) ?_
    refine sj_iinc (v := (x3 + (nI 1))) dX1_mostOf_47 (by decide) rfl rfl ?_
    refine sj_goto (tgt := 29) dX1_mostOf_50 (by decide) ?_
    exact h
def wp_X1_mostOf_0 (G : sj_G) (R : sj_R) (σ : sj_S) : Prop := sj_J G 4 me_X1_mostOf R 4 [.ref (sj_ad G 39), .ref (sj_ad G 1), .int (nI 0), .int (nI 0)] σ []
set_option maxRecDepth 20000 in
theorem t_X1_mostOf_0 {G : sj_G} {R : sj_R} {σ : sj_S} (h : wp_X1_mostOf_0 G R σ) : sj_J G 4 me_X1_mostOf R 0 [.ref (sj_ad G 39), .ref (sj_ad G 1), .null, .null] σ [] := by
  unfold wp_X1_mostOf_0 at h
  refine sj_iconst (v := (nI 0)) dX1_mostOf_0 (by decide +kernel) ?_
  refine sj_istore_n dX1_mostOf_1 (i := 2) rfl (by decide) ?_
  refine sj_iconst (v := (nI 0)) dX1_mostOf_2 (by decide +kernel) ?_
  refine sj_istore_n dX1_mostOf_3 (i := 3) rfl (by decide) ?_
  exact h
theorem c_X1_mostOf {G : sj_G} (ok : sj_ok G) {R : sj_R} {σ : sj_S} (h : wp_X1_mostOf_0 G R σ) : sj_C G 4 me_X1_mostOf [.ref (sj_ad G 39), .ref (sj_ad G 1)] σ R :=
  sj_enter ok (by decide +kernel) rfl rfl (Nat.le_of_ble_eq_true rfl) (by simp [Value.category]) (t_X1_mostOf_0 h)
def wp_X1_totalOf_33 (G : sj_G) (R : sj_R) (x2 : Int32) (x3 : Int32) (x5 : Int32) (s0 : Int32) (s1 : Int32) (σ : sj_S) : Prop := sj_J G 3 me_X1_totalOf R 6 [.null, .ref (sj_ad G 1), .int x2, .int x3, .int (s1 + s0), .int (x5 + (nI 1))] σ []
set_option maxRecDepth 20000 in
theorem t_X1_totalOf_33 {G : sj_G} {R : sj_R} {x2 : Int32} {x3 : Int32} {x5 : Int32} {s0 : Int32} {s1 : Int32} {σ : sj_S} (h : wp_X1_totalOf_33 G R x2 x3 x5 s0 s1 σ) : sj_J G 3 me_X1_totalOf R 33 [.null, .ref (sj_ad G 1), .int x2, .int x3, .null, .int x5] σ [.int s0, .int s1] := by
  unfold wp_X1_totalOf_33 at h
  refine sj_iadd dX1_totalOf_33 ?_
  refine sj_istore dX1_totalOf_34 (by decide) ?_
  refine sj_iinc (v := (x5 + (nI 1))) dX1_totalOf_36 (by decide) rfl rfl ?_
  refine sj_goto (tgt := 6) dX1_totalOf_39 (by decide) ?_
  exact h
def wp_X1_totalOf_6 (G : sj_G) (R : sj_R) (x2 : Int32) (x3 : Int32) (x4 : Int32) (x5 : Int32) (σ : sj_S) : Prop := ∃ v1 σ1, sj_C G 2 me_X8_lessonTotal [.ref (sj_ad G 1)] σ (.ok v1, σ1) ∧ (v1 ≤ x5 → R = (.ok x4, σ1)) ∧ (¬ (v1 ≤ x5) → ∃ v3 σ3, sj_C G 2 me_X8_isOf [.ref (sj_ad G 1), .int x5, .int x2, .int x3] σ1 (.ok v3, σ3) ∧ (wp_X1_totalOf_33 G R x2 x3 x5 (if v3 = 0 then (nI 0) else (nI 1)) x4 σ3))
set_option maxRecDepth 20000 in
theorem t_X1_totalOf_6 {G : sj_G} {R : sj_R} {x2 : Int32} {x3 : Int32} {x4 : Int32} {x5 : Int32} {σ : sj_S} (h : wp_X1_totalOf_6 G R x2 x3 x4 x5 σ) : sj_J G 3 me_X1_totalOf R 6 [.null, .ref (sj_ad G 1), .int x2, .int x3, .int x4, .int x5] σ [] := by
  unfold wp_X1_totalOf_6 at h
  refine sj_iload dX1_totalOf_6 rfl ?_
  refine sj_aload_n dX1_totalOf_8 (i := 1) rfl rfl ?_
  obtain ⟨v1, σ1, hc1, h⟩ := h
  refine sj_callVi (M' := me_X8_lessonTotal) (b := 1) (As := []) (rest := [.int x5]) dX1_totalOf_9 gX1_totalOf_X8_lessonTotal rfl hd_X8_lessonTotal (by decide +kernel) (by decide +kernel) rfl (Nat.le_of_ble_eq_true rfl) (by omega) rfl hc1 ?_
  refine sj_icmp_ge (tgt := 42) dX1_totalOf_12 (by decide) (fun c2 => ?_) (fun c2 => ?_)
  · replace h := h.1 c2
    refine sj_iload dX1_totalOf_42 rfl ?_
    subst h
    exact sj_ret dX1_totalOf_44 rfl rfl
  · replace h := h.2 c2
    refine sj_iload dX1_totalOf_15 rfl ?_
    refine sj_aload_n dX1_totalOf_17 (i := 1) rfl rfl ?_
    refine sj_iload dX1_totalOf_18 rfl ?_
    refine sj_iload_n dX1_totalOf_20 (i := 2) rfl rfl ?_
    refine sj_iload_n dX1_totalOf_21 (i := 3) rfl rfl ?_
    obtain ⟨v3, σ3, hc3, h⟩ := h
    refine sj_callVi (M' := me_X8_isOf) (b := 1) (As := [.int x5, .int x2, .int x3]) (rest := [.int x4]) dX1_totalOf_22 gX1_totalOf_X8_isOf rfl hd_X8_isOf (by decide +kernel) (by decide +kernel) rfl (Nat.le_of_ble_eq_true rfl) (by omega) rfl hc3 ?_
    refine sj_if_eq (tgt := 32) dX1_totalOf_25 (by decide) (fun c4 => ?_) (fun c4 => ?_)
    · refine sj_iconst (v := (nI 0)) dX1_totalOf_32 (by decide +kernel) ?_
      try simp only [if_pos c4] at h
      refine sj_fg [4] ?_
      exact t_X1_totalOf_33 h
    · refine sj_iconst (v := (nI 1)) dX1_totalOf_28 (by decide +kernel) ?_
      refine sj_goto (tgt := 33) dX1_totalOf_29 (by decide) ?_
      try simp only [if_neg c4] at h
      refine sj_fg [4] ?_
      exact t_X1_totalOf_33 h
def wp_X1_totalOf_0 (G : sj_G) (R : sj_R) (x2 : Int32) (x3 : Int32) (σ : sj_S) : Prop := sj_J G 3 me_X1_totalOf R 6 [.null, .ref (sj_ad G 1), .int x2, .int x3, .int (nI 0), .int (nI 0)] σ []
set_option maxRecDepth 20000 in
theorem t_X1_totalOf_0 {G : sj_G} {R : sj_R} {x2 : Int32} {x3 : Int32} {σ : sj_S} (h : wp_X1_totalOf_0 G R x2 x3 σ) : sj_J G 3 me_X1_totalOf R 0 [.ref (sj_ad G 39), .ref (sj_ad G 1), .int x2, .int x3, .null, .null] σ [] := by
  unfold wp_X1_totalOf_0 at h
  refine sj_iconst (v := (nI 0)) dX1_totalOf_0 (by decide +kernel) ?_
  refine sj_istore dX1_totalOf_1 (by decide) ?_
  refine sj_iconst (v := (nI 0)) dX1_totalOf_3 (by decide +kernel) ?_
  refine sj_istore dX1_totalOf_4 (by decide) ?_
  refine sj_fg [0] ?_
  exact h
theorem c_X1_totalOf {G : sj_G} (ok : sj_ok G) {R : sj_R} {x2 : Int32} {x3 : Int32} {σ : sj_S} (h : wp_X1_totalOf_0 G R x2 x3 σ) : sj_C G 3 me_X1_totalOf [.ref (sj_ad G 39), .ref (sj_ad G 1), .int x2, .int x3] σ R :=
  sj_enter ok (by decide +kernel) rfl rfl (Nat.le_of_ble_eq_true rfl) (by simp [Value.category]) (t_X1_totalOf_0 h)
def wp_X1_paint_92 (G : sj_G) (R : sj_R) (x2 : Int32) (x3 : Int32) (σ : sj_S) : Prop := sj_J G 5 me_X1_paint R 8 [.ref (sj_ad G 39), .ref (sj_ad G 1), .int x2, .int (x3 + (nI 1)), .null, .null, .null, .null] σ []
set_option maxRecDepth 20000 in
theorem t_X1_paint_92 {G : sj_G} {R : sj_R} {x2 : Int32} {x3 : Int32} {σ : sj_S} (h : wp_X1_paint_92 G R x2 x3 σ) : sj_J G 5 me_X1_paint R 92 [.ref (sj_ad G 39), .ref (sj_ad G 1), .int x2, .int x3, .null, .null, .null, .null] σ [] := by
  unfold wp_X1_paint_92 at h
  refine sj_iinc (v := (x3 + (nI 1))) dX1_paint_92 (by decide) rfl rfl ?_
  refine sj_goto (tgt := 8) dX1_paint_95 (by decide) ?_
  exact h
def wp_X1_paint_8 (G : sj_G) (R : sj_R) (x2 : Int32) (x3 : Int32) (σ : sj_S) : Prop := ∃ v1 σ1, sj_C G 2 me_X8_lessonTotal [.ref (sj_ad G 1)] σ (.ok v1, σ1) ∧ (v1 ≤ x3 → R = (.ok 0, σ1)) ∧ (¬ (v1 ≤ x3) → ∃ v3 σ3, sj_C G 3 me_X1_used [.ref (sj_ad G 39), .ref (sj_ad G 1), .int (nI 0), .int x3] σ1 (.ok v3, σ3) ∧ ∃ v4 σ4, sj_C G 3 me_X1_used [.ref (sj_ad G 39), .ref (sj_ad G 1), .int (nI 1), .int x3] σ3 (.ok v4, σ4) ∧ ∃ v5 σ5, sj_C G 2 me_X1_leastBeside [.ref (sj_ad G 39), .int (v3 ||| v4)] σ4 (.ok v5, σ5) ∧ (x2 ≤ v5 → ∃ v8 σ8, sj_C G 2 me_X1_leastBeside [.ref (sj_ad G 39), .int v3] σ5 (.ok v8, σ8) ∧ ∃ v9 σ9, sj_C G 2 me_X1_leastBeside [.ref (sj_ad G 39), .int v4] σ8 (.ok v9, σ9) ∧ ∃ σ10, sj_C G 4 me_X1_turn [.ref (sj_ad G 39), .ref (sj_ad G 1), .int x3, .int v8, .int v9] σ9 (.ok 0, σ10) ∧ vp_in x3 9 ∧ (wp_X1_paint_92 G R x2 x3 (sj_st σ10 40 x3.toNatClampNeg v8))) ∧ (¬ (x2 ≤ v5) → vp_in x3 9 ∧ (wp_X1_paint_92 G R x2 x3 (sj_st σ5 40 x3.toNatClampNeg v5))))
set_option maxRecDepth 20000 in
theorem t_X1_paint_8 {G : sj_G} {R : sj_R} {x2 : Int32} {x3 : Int32} {σ : sj_S} (h : wp_X1_paint_8 G R x2 x3 σ) : sj_J G 5 me_X1_paint R 8 [.ref (sj_ad G 39), .ref (sj_ad G 1), .int x2, .int x3, .null, .null, .null, .null] σ [] := by
  unfold wp_X1_paint_8 at h
  refine sj_iload_n dX1_paint_8 (i := 3) rfl rfl ?_
  refine sj_aload_n dX1_paint_9 (i := 1) rfl rfl ?_
  obtain ⟨v1, σ1, hc1, h⟩ := h
  refine sj_callVi (M' := me_X8_lessonTotal) (b := 1) (As := []) (rest := [.int x3]) dX1_paint_10 gX1_paint_X8_lessonTotal rfl hd_X8_lessonTotal (by decide +kernel) (by decide +kernel) rfl (Nat.le_of_ble_eq_true rfl) (by omega) rfl hc1 ?_
  refine sj_icmp_ge (tgt := 98) dX1_paint_13 (by decide) (fun c2 => ?_) (fun c2 => ?_)
  · replace h := h.1 c2
    subst h
    exact sj_vret dX1_paint_98 rfl
  · replace h := h.2 c2
    refine sj_aload_n dX1_paint_16 (i := 0) rfl rfl ?_
    refine sj_aload_n dX1_paint_17 (i := 1) rfl rfl ?_
    refine sj_iconst (v := (nI 0)) dX1_paint_18 (by decide +kernel) ?_
    refine sj_iload_n dX1_paint_19 (i := 3) rfl rfl ?_
    obtain ⟨v3, σ3, hc3, h⟩ := h
    refine sj_callVi (M' := me_X1_used) (b := 39) (As := [.ref (sj_ad G 1), .int (nI 0), .int x3]) (rest := []) dX1_paint_20 gX1_paint_X1_used rfl hd_X1_used (by decide +kernel) (by decide +kernel) rfl (Nat.le_of_ble_eq_true rfl) (by omega) rfl hc3 ?_
    refine sj_istore dX1_paint_23 (by decide) ?_
    refine sj_aload_n dX1_paint_25 (i := 0) rfl rfl ?_
    refine sj_aload_n dX1_paint_26 (i := 1) rfl rfl ?_
    refine sj_iconst (v := (nI 1)) dX1_paint_27 (by decide +kernel) ?_
    refine sj_iload_n dX1_paint_28 (i := 3) rfl rfl ?_
    obtain ⟨v4, σ4, hc4, h⟩ := h
    refine sj_callVi (M' := me_X1_used) (b := 39) (As := [.ref (sj_ad G 1), .int (nI 1), .int x3]) (rest := []) dX1_paint_29 gX1_paint_X1_used rfl hd_X1_used (by decide +kernel) (by decide +kernel) rfl (Nat.le_of_ble_eq_true rfl) (by omega) rfl hc4 ?_
    refine sj_istore dX1_paint_32 (by decide) ?_
    refine sj_aload_n dX1_paint_34 (i := 0) rfl rfl ?_
    refine sj_iload dX1_paint_35 rfl ?_
    refine sj_iload dX1_paint_37 rfl ?_
    refine sj_ior dX1_paint_39 ?_
    obtain ⟨v5, σ5, hc5, h⟩ := h
    refine sj_callVi (M' := me_X1_leastBeside) (b := 39) (As := [.int (v3 ||| v4)]) (rest := []) dX1_paint_40 gX1_paint_X1_leastBeside rfl hd_X1_leastBeside (by decide +kernel) (by decide +kernel) rfl (Nat.le_of_ble_eq_true rfl) (by omega) rfl hc5 ?_
    refine sj_istore dX1_paint_43 (by decide) ?_
    refine sj_iload dX1_paint_45 rfl ?_
    refine sj_iload_n dX1_paint_47 (i := 2) rfl rfl ?_
    refine sj_icmp_ge (tgt := 62) dX1_paint_48 (by decide) (fun c7 => ?_) (fun c7 => ?_)
    · replace h := h.1 c7
      refine sj_aload_n dX1_paint_62 (i := 0) rfl rfl ?_
      refine sj_iload dX1_paint_63 rfl ?_
      obtain ⟨v8, σ8, hc8, h⟩ := h
      refine sj_callVi (M' := me_X1_leastBeside) (b := 39) (As := [.int v3]) (rest := []) dX1_paint_65 gX1_paint_X1_leastBeside rfl hd_X1_leastBeside (by decide +kernel) (by decide +kernel) rfl (Nat.le_of_ble_eq_true rfl) (by omega) rfl hc8 ?_
      refine sj_istore dX1_paint_68 (by decide) ?_
      refine sj_aload_n dX1_paint_70 (i := 0) rfl rfl ?_
      refine sj_aload_n dX1_paint_71 (i := 1) rfl rfl ?_
      refine sj_iload_n dX1_paint_72 (i := 3) rfl rfl ?_
      refine sj_iload dX1_paint_73 rfl ?_
      refine sj_aload_n dX1_paint_75 (i := 0) rfl rfl ?_
      refine sj_iload dX1_paint_76 rfl ?_
      obtain ⟨v9, σ9, hc9, h⟩ := h
      refine sj_callVi (M' := me_X1_leastBeside) (b := 39) (As := [.int v4]) (rest := [.int v8, .int x3, .ref (sj_ad G 1), .ref (sj_ad G 39)]) dX1_paint_78 gX1_paint_X1_leastBeside rfl hd_X1_leastBeside (by decide +kernel) (by decide +kernel) rfl (Nat.le_of_ble_eq_true rfl) (by omega) rfl hc9 ?_
      obtain ⟨σ10, hc10, h⟩ := h
      refine sj_callVv (M' := me_X1_turn) (b := 39) (As := [.ref (sj_ad G 1), .int x3, .int v8, .int v9]) (rest := []) dX1_paint_81 gX1_paint_X1_turn rfl hd_X1_turn (by decide +kernel) (by decide +kernel) rfl (Nat.le_of_ble_eq_true rfl) (by omega) rfl hc10 ?_
      refine sj_aload_n dX1_paint_84 (i := 0) rfl rfl ?_
      refine sj_get (a := 39) (k9 := 0) (v := .ref (sj_ad G 40)) dX1_paint_85 (by decide +kernel) rfl ?_
      refine sj_iload_n dX1_paint_88 (i := 3) rfl rfl ?_
      refine sj_iload dX1_paint_89 rfl ?_
      obtain ⟨b11, h⟩ := h
      refine sj_iast (a := 40) (j := x3.toNatClampNeg) dX1_paint_91 rfl (by decide +kernel) b11 rfl ?_
      refine sj_fg [4, 5, 6, 7] ?_
      exact t_X1_paint_92 h
    · replace h := h.2 c7
      refine sj_aload_n dX1_paint_51 (i := 0) rfl rfl ?_
      refine sj_get (a := 39) (k9 := 0) (v := .ref (sj_ad G 40)) dX1_paint_52 (by decide +kernel) rfl ?_
      refine sj_iload_n dX1_paint_55 (i := 3) rfl rfl ?_
      refine sj_iload dX1_paint_56 rfl ?_
      obtain ⟨b12, h⟩ := h
      refine sj_iast (a := 40) (j := x3.toNatClampNeg) dX1_paint_58 rfl (by decide +kernel) b12 rfl ?_
      refine sj_goto (tgt := 92) dX1_paint_59 (by decide) ?_
      refine sj_fg [4, 5, 6] ?_
      exact t_X1_paint_92 h
def wp_X1_paint_0 (G : sj_G) (R : sj_R) (σ : sj_S) : Prop := ∃ v1 σ1, sj_C G 4 me_X1_mostOf [.ref (sj_ad G 39), .ref (sj_ad G 1)] σ (.ok v1, σ1) ∧ sj_J G 5 me_X1_paint R 8 [.ref (sj_ad G 39), .ref (sj_ad G 1), .int v1, .int (nI 0), .null, .null, .null, .null] σ1 []
set_option maxRecDepth 20000 in
theorem t_X1_paint_0 {G : sj_G} {R : sj_R} {σ : sj_S} (h : wp_X1_paint_0 G R σ) : sj_J G 5 me_X1_paint R 0 [.ref (sj_ad G 39), .ref (sj_ad G 1), .null, .null, .null, .null, .null, .null] σ [] := by
  unfold wp_X1_paint_0 at h
  refine sj_aload_n dX1_paint_0 (i := 0) rfl rfl ?_
  refine sj_aload_n dX1_paint_1 (i := 1) rfl rfl ?_
  obtain ⟨v1, σ1, hc1, h⟩ := h
  refine sj_callVi (M' := me_X1_mostOf) (b := 39) (As := [.ref (sj_ad G 1)]) (rest := []) dX1_paint_2 gX1_paint_X1_mostOf rfl hd_X1_mostOf (by decide +kernel) (by decide +kernel) rfl (Nat.le_of_ble_eq_true rfl) (by omega) rfl hc1 ?_
  refine sj_istore_n dX1_paint_5 (i := 2) rfl (by decide) ?_
  refine sj_iconst (v := (nI 0)) dX1_paint_6 (by decide +kernel) ?_
  refine sj_istore_n dX1_paint_7 (i := 3) rfl (by decide) ?_
  exact h
theorem c_X1_paint {G : sj_G} (ok : sj_ok G) {R : sj_R} {σ : sj_S} (h : wp_X1_paint_0 G R σ) : sj_C G 5 me_X1_paint [.ref (sj_ad G 39), .ref (sj_ad G 1)] σ R :=
  sj_enter ok (by decide +kernel) rfl rfl (Nat.le_of_ble_eq_true rfl) (by simp [Value.category]) (t_X1_paint_0 h)
def wp_X1_used_11 (G : sj_G) (R : sj_R) (x2 : Int32) (x3 : Int32) (s0 : Int32) (s1 : Int32) (σ : sj_S) : Prop := ∃ v1 σ1, sj_C G 2 me_X8_ofLesson [.ref (sj_ad G 1), .int s1, .int s0] σ (.ok v1, σ1) ∧ sj_J G 3 me_X1_used R 22 [.ref (sj_ad G 39), .ref (sj_ad G 1), .int x2, .int x3, .int v1, .int (nI 0), .int (nI 0)] σ1 []
set_option maxRecDepth 20000 in
theorem t_X1_used_11 {G : sj_G} {R : sj_R} {x2 : Int32} {x3 : Int32} {s0 : Int32} {s1 : Int32} {σ : sj_S} (h : wp_X1_used_11 G R x2 x3 s0 s1 σ) : sj_J G 3 me_X1_used R 11 [.ref (sj_ad G 39), .ref (sj_ad G 1), .int x2, .int x3, .null, .null, .null] σ [.int s0, .int s1, .ref (sj_ad G 1)] := by
  unfold wp_X1_used_11 at h
  obtain ⟨v1, σ1, hc1, h⟩ := h
  refine sj_callVi (M' := me_X8_ofLesson) (b := 1) (As := [.int s1, .int s0]) (rest := []) dX1_used_11 gX1_used_X8_ofLesson rfl hd_X8_ofLesson (by decide +kernel) (by decide +kernel) rfl (Nat.le_of_ble_eq_true rfl) (by omega) rfl hc1 ?_
  refine sj_istore dX1_used_14 (by decide) ?_
  refine sj_iconst (v := (nI 0)) dX1_used_16 (by decide +kernel) ?_
  refine sj_istore dX1_used_17 (by decide) ?_
  refine sj_iconst (v := (nI 0)) dX1_used_19 (by decide +kernel) ?_
  refine sj_istore dX1_used_20 (by decide) ?_
  exact h
def wp_X1_used_54 (G : sj_G) (R : sj_R) (x2 : Int32) (x3 : Int32) (x4 : Int32) (x5 : Int32) (x6 : Int32) (σ : sj_S) : Prop := sj_J G 3 me_X1_used R 22 [.ref (sj_ad G 39), .ref (sj_ad G 1), .int x2, .int x3, .int x4, .int x5, .int (x6 + (nI 1))] σ []
set_option maxRecDepth 20000 in
theorem t_X1_used_54 {G : sj_G} {R : sj_R} {x2 : Int32} {x3 : Int32} {x4 : Int32} {x5 : Int32} {x6 : Int32} {σ : sj_S} (h : wp_X1_used_54 G R x2 x3 x4 x5 x6 σ) : sj_J G 3 me_X1_used R 54 [.ref (sj_ad G 39), .ref (sj_ad G 1), .int x2, .int x3, .int x4, .int x5, .int x6] σ [] := by
  unfold wp_X1_used_54 at h
  refine sj_iinc (v := (x6 + (nI 1))) dX1_used_54 (by decide) rfl rfl ?_
  refine sj_goto (tgt := 22) dX1_used_57 (by decide) ?_
  exact h
def wp_X1_used_22 (G : sj_G) (R : sj_R) (x2 : Int32) (x3 : Int32) (x4 : Int32) (x5 : Int32) (x6 : Int32) (σ : sj_S) : Prop := (x3 ≤ x6 → R = (.ok x5, σ)) ∧ (¬ (x3 ≤ x6) → ∃ v2 σ2, sj_C G 2 me_X8_isOf [.ref (sj_ad G 1), .int x6, .int x2, .int x4] σ (.ok v2, σ2) ∧ ((¬ (v2 = 0)) → vp_in x6 9) ∧ (wp_X1_used_54 G R x2 x3 x4 (if v2 = 0 then x5 else (x5 ||| ((nI 1) <<< ((σ2 40 x6.toNatClampNeg) &&& 31)))) x6 σ2))
set_option maxRecDepth 20000 in
theorem t_X1_used_22 {G : sj_G} {R : sj_R} {x2 : Int32} {x3 : Int32} {x4 : Int32} {x5 : Int32} {x6 : Int32} {σ : sj_S} (h : wp_X1_used_22 G R x2 x3 x4 x5 x6 σ) : sj_J G 3 me_X1_used R 22 [.ref (sj_ad G 39), .ref (sj_ad G 1), .int x2, .int x3, .int x4, .int x5, .int x6] σ [] := by
  unfold wp_X1_used_22 at h
  refine sj_iload dX1_used_22 rfl ?_
  refine sj_iload_n dX1_used_24 (i := 3) rfl rfl ?_
  refine sj_icmp_ge (tgt := 60) dX1_used_25 (by decide) (fun c1 => ?_) (fun c1 => ?_)
  · replace h := h.1 c1
    refine sj_iload dX1_used_60 rfl ?_
    subst h
    exact sj_ret dX1_used_62 rfl rfl
  · replace h := h.2 c1
    refine sj_aload_n dX1_used_28 (i := 1) rfl rfl ?_
    refine sj_iload dX1_used_29 rfl ?_
    refine sj_iload_n dX1_used_31 (i := 2) rfl rfl ?_
    refine sj_iload dX1_used_32 rfl ?_
    obtain ⟨v2, σ2, hc2, h⟩ := h
    refine sj_callVi (M' := me_X8_isOf) (b := 1) (As := [.int x6, .int x2, .int x4]) (rest := []) dX1_used_34 gX1_used_X8_isOf rfl hd_X8_isOf (by decide +kernel) (by decide +kernel) rfl (Nat.le_of_ble_eq_true rfl) (by omega) rfl hc2 ?_
    obtain ⟨f5, h⟩ := h
    refine sj_if_eq (tgt := 54) dX1_used_37 (by decide) (fun c3 => ?_) (fun c3 => ?_)
    · try simp only [if_pos c3] at h
      exact t_X1_used_54 h
    · have b4 := f5 c3
      refine sj_iload dX1_used_40 rfl ?_
      refine sj_iconst (v := (nI 1)) dX1_used_42 (by decide +kernel) ?_
      refine sj_aload_n dX1_used_43 (i := 0) rfl rfl ?_
      refine sj_get (a := 39) (k9 := 0) (v := .ref (sj_ad G 40)) dX1_used_44 (by decide +kernel) rfl ?_
      refine sj_iload dX1_used_47 rfl ?_
      refine sj_iald (a := 40) (j := x6.toNatClampNeg) (x := (σ2 40 x6.toNatClampNeg)) dX1_used_49 rfl (by decide +kernel) b4 rfl rfl ?_
      refine sj_ishl dX1_used_50 ?_
      refine sj_ior dX1_used_51 ?_
      refine sj_istore dX1_used_52 (by decide) ?_
      try simp only [if_neg c3] at h
      exact t_X1_used_54 h
def wp_X1_used_0 (G : sj_G) (R : sj_R) (x2 : Int32) (x3 : Int32) (σ : sj_S) : Prop := (wp_X1_used_11 G R x2 x3 (if x2 = 0 then (nI 0) else (nI 1)) x3 σ)
set_option maxRecDepth 20000 in
theorem t_X1_used_0 {G : sj_G} {R : sj_R} {x2 : Int32} {x3 : Int32} {σ : sj_S} (h : wp_X1_used_0 G R x2 x3 σ) : sj_J G 3 me_X1_used R 0 [.ref (sj_ad G 39), .ref (sj_ad G 1), .int x2, .int x3, .null, .null, .null] σ [] := by
  unfold wp_X1_used_0 at h
  refine sj_aload_n dX1_used_0 (i := 1) rfl rfl ?_
  refine sj_iload_n dX1_used_1 (i := 3) rfl rfl ?_
  refine sj_iload_n dX1_used_2 (i := 2) rfl rfl ?_
  refine sj_if_eq (tgt := 10) dX1_used_3 (by decide) (fun c1 => ?_) (fun c1 => ?_)
  · refine sj_iconst (v := (nI 0)) dX1_used_10 (by decide +kernel) ?_
    try simp only [if_pos c1] at h
    exact t_X1_used_11 h
  · refine sj_iconst (v := (nI 1)) dX1_used_6 (by decide +kernel) ?_
    refine sj_goto (tgt := 11) dX1_used_7 (by decide) ?_
    try simp only [if_neg c1] at h
    exact t_X1_used_11 h
theorem c_X1_used {G : sj_G} (ok : sj_ok G) {R : sj_R} {x2 : Int32} {x3 : Int32} {σ : sj_S} (h : wp_X1_used_0 G R x2 x3 σ) : sj_C G 3 me_X1_used [.ref (sj_ad G 39), .ref (sj_ad G 1), .int x2, .int x3] σ R :=
  sj_enter ok (by decide +kernel) rfl rfl (Nat.le_of_ble_eq_true rfl) (by simp [Value.category]) (t_X1_used_0 h)
def wp_X1_leastBeside_22 (G : sj_G) (R : sj_R) (x2 : Int32) (σ : sj_S) : Prop := R = (.ok x2, σ)
set_option maxRecDepth 20000 in
theorem t_X1_leastBeside_22 {G : sj_G} {R : sj_R} {x2 : Int32} {σ : sj_S} (h : wp_X1_leastBeside_22 G R x2 σ) : sj_J G 2 me_X1_leastBeside R 22 [.null, .null, .int x2] σ [] := by
  unfold wp_X1_leastBeside_22 at h
  refine sj_iload_n dX1_leastBeside_22 (i := 2) rfl rfl ?_
  subst h
  exact sj_ret dX1_leastBeside_23 rfl rfl
def wp_X1_leastBeside_2 (G : sj_G) (R : sj_R) (x1 : Int32) (x2 : Int32) (σ : sj_S) : Prop := ((nI 9) ≤ x2 → (wp_X1_leastBeside_22 G R x2 σ)) ∧ (¬ ((nI 9) ≤ x2) → (((x1 >>> (x2 &&& 31)) &&& (nI 1)) = 0 → (wp_X1_leastBeside_22 G R x2 σ)) ∧ (¬ (((x1 >>> (x2 &&& 31)) &&& (nI 1)) = 0) → sj_J G 2 me_X1_leastBeside R 2 [.null, .int x1, .int (x2 + (nI 1))] σ []))
set_option maxRecDepth 20000 in
theorem t_X1_leastBeside_2 {G : sj_G} {R : sj_R} {x1 : Int32} {x2 : Int32} {σ : sj_S} (h : wp_X1_leastBeside_2 G R x1 x2 σ) : sj_J G 2 me_X1_leastBeside R 2 [.null, .int x1, .int x2] σ [] := by
  unfold wp_X1_leastBeside_2 at h
  refine sj_iload_n dX1_leastBeside_2 (i := 2) rfl rfl ?_
  refine sj_bipush (v := (nI 9)) dX1_leastBeside_3 (by decide +kernel) ?_
  refine sj_icmp_ge (tgt := 22) dX1_leastBeside_5 (by decide) (fun c3 => ?_) (fun c3 => ?_)
  · replace h := h.1 c3
    refine sj_fg [1] ?_
    exact t_X1_leastBeside_22 h
  · replace h := h.2 c3
    refine sj_iload_n dX1_leastBeside_8 (i := 1) rfl rfl ?_
    refine sj_iload_n dX1_leastBeside_9 (i := 2) rfl rfl ?_
    refine sj_ishr dX1_leastBeside_10 ?_
    refine sj_iconst (v := (nI 1)) dX1_leastBeside_11 (by decide +kernel) ?_
    refine sj_iand dX1_leastBeside_12 ?_
    refine sj_if_eq (tgt := 22) dX1_leastBeside_13 (by decide) (fun c5 => ?_) (fun c5 => ?_)
    · replace h := h.1 c5
      refine sj_fg [1] ?_
      exact t_X1_leastBeside_22 h
    · replace h := h.2 c5
      refine sj_iinc (v := (x2 + (nI 1))) dX1_leastBeside_16 (by decide) rfl rfl ?_
      refine sj_goto (tgt := 2) dX1_leastBeside_19 (by decide) ?_
      exact h
def wp_X1_leastBeside_0 (G : sj_G) (R : sj_R) (x1 : Int32) (σ : sj_S) : Prop := sj_J G 2 me_X1_leastBeside R 2 [.null, .int x1, .int (nI 0)] σ []
set_option maxRecDepth 20000 in
theorem t_X1_leastBeside_0 {G : sj_G} {R : sj_R} {x1 : Int32} {σ : sj_S} (h : wp_X1_leastBeside_0 G R x1 σ) : sj_J G 2 me_X1_leastBeside R 0 [.ref (sj_ad G 39), .int x1, .null] σ [] := by
  unfold wp_X1_leastBeside_0 at h
  refine sj_iconst (v := (nI 0)) dX1_leastBeside_0 (by decide +kernel) ?_
  refine sj_istore_n dX1_leastBeside_1 (i := 2) rfl (by decide) ?_
  refine sj_fg [0] ?_
  exact h
theorem c_X1_leastBeside {G : sj_G} (ok : sj_ok G) {R : sj_R} {x1 : Int32} {σ : sj_S} (h : wp_X1_leastBeside_0 G R x1 σ) : sj_C G 2 me_X1_leastBeside [.ref (sj_ad G 39), .int x1] σ R :=
  sj_enter ok (by decide +kernel) rfl rfl (Nat.le_of_ble_eq_true rfl) (by simp [Value.category]) (t_X1_leastBeside_0 h)
def wp_X1_turn_93 (G : sj_G) (R : sj_R) (x2 : Int32) (x3 : Int32) (x4 : Int32) (x5 : Int32) (x7 : Int32) (s0 : Int32) (s1 : Int32) (s2 : Int32) (σ : sj_S) : Prop := ∃ v1 σ1, sj_C G 3 me_X1_withColour [.ref (sj_ad G 39), .ref (sj_ad G 1), .int s2, .int s1, .int s0, .int x2] σ (.ok v1, σ1) ∧ sj_J G 4 me_X1_turn R 22 [.ref (sj_ad G 39), .ref (sj_ad G 1), .int x2, .int x3, .int x4, .int x5, .int v1, .int (x7 + (nI 1)), .null, .null] σ1 []
set_option maxRecDepth 20000 in
theorem t_X1_turn_93 {G : sj_G} {R : sj_R} {x2 : Int32} {x3 : Int32} {x4 : Int32} {x5 : Int32} {x7 : Int32} {s0 : Int32} {s1 : Int32} {s2 : Int32} {σ : sj_S} (h : wp_X1_turn_93 G R x2 x3 x4 x5 x7 s0 s1 s2 σ) : sj_J G 4 me_X1_turn R 93 [.ref (sj_ad G 39), .ref (sj_ad G 1), .int x2, .int x3, .int x4, .int x5, .null, .int x7, .null, .null] σ [.int s0, .int s1, .int s2, .ref (sj_ad G 1), .ref (sj_ad G 39)] := by
  unfold wp_X1_turn_93 at h
  refine sj_iload_n dX1_turn_93 (i := 2) rfl rfl ?_
  obtain ⟨v1, σ1, hc1, h⟩ := h
  refine sj_callVi (M' := me_X1_withColour) (b := 39) (As := [.ref (sj_ad G 1), .int s2, .int s1, .int s0, .int x2]) (rest := []) dX1_turn_94 gX1_turn_X1_withColour rfl hd_X1_withColour (by decide +kernel) (by decide +kernel) rfl (Nat.le_of_ble_eq_true rfl) (by omega) rfl hc1 ?_
  refine sj_istore dX1_turn_97 (by decide) ?_
  refine sj_iinc (v := (x7 + (nI 1))) dX1_turn_99 (by decide) rfl rfl ?_
  refine sj_goto (tgt := 22) dX1_turn_102 (by decide) ?_
  exact h
def wp_X1_turn_62 (G : sj_G) (R : sj_R) (x2 : Int32) (x3 : Int32) (x4 : Int32) (x5 : Int32) (x6 : Int32) (x7 : Int32) (x8 : Int32) (s0 : Int32) (s1 : Int32) (σ : sj_S) : Prop := ∃ v1 σ1, sj_C G 2 me_X8_ofLesson [.ref (sj_ad G 1), .int s1, .int s0] σ (.ok v1, σ1) ∧ (wp_X1_turn_93 G R x2 x3 x4 (x5 ||| ((nI 1) <<< (x6 &&& 31))) x7 (if x8 = 0 then x4 else x3) v1 x8 σ1)
set_option maxRecDepth 20000 in
theorem t_X1_turn_62 {G : sj_G} {R : sj_R} {x2 : Int32} {x3 : Int32} {x4 : Int32} {x5 : Int32} {x6 : Int32} {x7 : Int32} {x8 : Int32} {s0 : Int32} {s1 : Int32} {σ : sj_S} (h : wp_X1_turn_62 G R x2 x3 x4 x5 x6 x7 x8 s0 s1 σ) : sj_J G 4 me_X1_turn R 62 [.ref (sj_ad G 39), .ref (sj_ad G 1), .int x2, .int x3, .int x4, .int x5, .int x6, .int x7, .int x8, .null] σ [.int s0, .int s1, .ref (sj_ad G 1)] := by
  unfold wp_X1_turn_62 at h
  obtain ⟨v1, σ1, hc1, h⟩ := h
  refine sj_callVi (M' := me_X8_ofLesson) (b := 1) (As := [.int s1, .int s0]) (rest := []) dX1_turn_62 gX1_turn_X8_ofLesson rfl hd_X8_ofLesson (by decide +kernel) (by decide +kernel) rfl (Nat.le_of_ble_eq_true rfl) (by omega) rfl hc1 ?_
  refine sj_istore dX1_turn_65 (by decide) ?_
  refine sj_iload dX1_turn_67 rfl ?_
  refine sj_iconst (v := (nI 1)) dX1_turn_69 (by decide +kernel) ?_
  refine sj_iload dX1_turn_70 rfl ?_
  refine sj_ishl dX1_turn_72 ?_
  refine sj_ior dX1_turn_73 ?_
  refine sj_istore dX1_turn_74 (by decide) ?_
  refine sj_aload_n dX1_turn_76 (i := 0) rfl rfl ?_
  refine sj_aload_n dX1_turn_77 (i := 1) rfl rfl ?_
  refine sj_iload dX1_turn_78 rfl ?_
  refine sj_iload dX1_turn_80 rfl ?_
  refine sj_iload dX1_turn_82 rfl ?_
  refine sj_if_eq (tgt := 91) dX1_turn_84 (by decide) (fun c2 => ?_) (fun c2 => ?_)
  · refine sj_iload dX1_turn_91 rfl ?_
    try simp only [if_pos c2] at h
    refine sj_fg [6, 8, 9] ?_
    exact t_X1_turn_93 h
  · refine sj_iload_n dX1_turn_87 (i := 3) rfl rfl ?_
    refine sj_goto (tgt := 93) dX1_turn_88 (by decide) ?_
    try simp only [if_neg c2] at h
    refine sj_fg [6, 8, 9] ?_
    exact t_X1_turn_93 h
def wp_X1_turn_47 (G : sj_G) (R : sj_R) (x2 : Int32) (x3 : Int32) (x4 : Int32) (x5 : Int32) (x6 : Int32) (x7 : Int32) (s0 : Int32) (σ : sj_S) : Prop := (wp_X1_turn_62 G R x2 x3 x4 x5 x6 x7 s0 (if s0 = 0 then (nI 0) else (nI 1)) x6 σ)
set_option maxRecDepth 20000 in
theorem t_X1_turn_47 {G : sj_G} {R : sj_R} {x2 : Int32} {x3 : Int32} {x4 : Int32} {x5 : Int32} {x6 : Int32} {x7 : Int32} {s0 : Int32} {σ : sj_S} (h : wp_X1_turn_47 G R x2 x3 x4 x5 x6 x7 s0 σ) : sj_J G 4 me_X1_turn R 47 [.ref (sj_ad G 39), .ref (sj_ad G 1), .int x2, .int x3, .int x4, .int x5, .int x6, .int x7, .null, .null] σ [.int s0] := by
  unfold wp_X1_turn_47 at h
  refine sj_istore dX1_turn_47 (by decide) ?_
  refine sj_aload_n dX1_turn_49 (i := 1) rfl rfl ?_
  refine sj_iload dX1_turn_50 rfl ?_
  refine sj_iload dX1_turn_52 rfl ?_
  refine sj_if_eq (tgt := 61) dX1_turn_54 (by decide) (fun c1 => ?_) (fun c1 => ?_)
  · refine sj_iconst (v := (nI 0)) dX1_turn_61 (by decide +kernel) ?_
    try simp only [if_pos c1] at h
    exact t_X1_turn_62 h
  · refine sj_iconst (v := (nI 1)) dX1_turn_57 (by decide +kernel) ?_
    refine sj_goto (tgt := 62) dX1_turn_58 (by decide) ?_
    try simp only [if_neg c1] at h
    exact t_X1_turn_62 h
def wp_X1_turn_105 (G : sj_G) (R : sj_R) (x2 : Int32) (x3 : Int32) (x4 : Int32) (x5 : Int32) (σ : sj_S) : Prop := sj_J G 4 me_X1_turn R 108 [.ref (sj_ad G 39), .null, .int x2, .int x3, .int x4, .int x5, .null, .int (nI 0), .null, .null] σ []
set_option maxRecDepth 20000 in
theorem t_X1_turn_105 {G : sj_G} {R : sj_R} {x2 : Int32} {x3 : Int32} {x4 : Int32} {x5 : Int32} {σ : sj_S} (h : wp_X1_turn_105 G R x2 x3 x4 x5 σ) : sj_J G 4 me_X1_turn R 105 [.ref (sj_ad G 39), .null, .int x2, .int x3, .int x4, .int x5, .null, .null, .null, .null] σ [] := by
  unfold wp_X1_turn_105 at h
  refine sj_iconst (v := (nI 0)) dX1_turn_105 (by decide +kernel) ?_
  refine sj_istore dX1_turn_106 (by decide) ?_
  exact h
def wp_X1_turn_22 (G : sj_G) (R : sj_R) (x2 : Int32) (x3 : Int32) (x4 : Int32) (x5 : Int32) (x6 : Int32) (x7 : Int32) (σ : sj_S) : Prop := ((nI 9) < x7 → (wp_X1_turn_105 G R x2 x3 x4 x5 σ)) ∧ (¬ ((nI 9) < x7) → (x6 = (-1) → (wp_X1_turn_105 G R x2 x3 x4 x5 σ)) ∧ (¬ (x6 = (-1)) → (wp_X1_turn_47 G R x2 x3 x4 x5 x6 x7 (if (x7 - x7 / (nI 2) * (nI 2)) = 0 then (nI 1) else (nI 0)) σ)))
set_option maxRecDepth 20000 in
theorem t_X1_turn_22 {G : sj_G} {R : sj_R} {x2 : Int32} {x3 : Int32} {x4 : Int32} {x5 : Int32} {x6 : Int32} {x7 : Int32} {σ : sj_S} (h : wp_X1_turn_22 G R x2 x3 x4 x5 x6 x7 σ) : sj_J G 4 me_X1_turn R 22 [.ref (sj_ad G 39), .ref (sj_ad G 1), .int x2, .int x3, .int x4, .int x5, .int x6, .int x7, .null, .null] σ [] := by
  unfold wp_X1_turn_22 at h
  refine sj_iload dX1_turn_22 rfl ?_
  refine sj_bipush (v := (nI 9)) dX1_turn_24 (by decide +kernel) ?_
  refine sj_icmp_gt (tgt := 105) dX1_turn_26 (by decide) (fun c5 => ?_) (fun c5 => ?_)
  · replace h := h.1 c5
    refine sj_fg [1, 6, 7] ?_
    exact t_X1_turn_105 h
  · replace h := h.2 c5
    refine sj_iload dX1_turn_29 rfl ?_
    refine sj_iconst (v := (-1)) dX1_turn_31 (by decide +kernel) ?_
    refine sj_icmp_eq (tgt := 105) dX1_turn_32 (by decide) (fun c9 => ?_) (fun c9 => ?_)
    · replace h := h.1 c9
      refine sj_fg [1, 6, 7] ?_
      exact t_X1_turn_105 h
    · replace h := h.2 c9
      refine sj_iload dX1_turn_35 rfl ?_
      refine sj_iconst (v := (nI 2)) dX1_turn_37 (by decide +kernel) ?_
      refine sj_irem dX1_turn_38 (by decide +kernel) ?_
      refine sj_if_ne (tgt := 46) dX1_turn_39 (by decide) (fun c10 => ?_) (fun c10 => ?_)
      · refine sj_iconst (v := (nI 0)) dX1_turn_46 (by decide +kernel) ?_
        try simp only [if_neg c10] at h
        exact t_X1_turn_47 h
      · refine sj_iconst (v := (nI 1)) dX1_turn_42 (by decide +kernel) ?_
        refine sj_goto (tgt := 47) dX1_turn_43 (by decide) ?_
        try simp only [if_pos c10] at h
        exact t_X1_turn_47 h
def wp_X1_turn_143 (G : sj_G) (R : sj_R) (x2 : Int32) (x3 : Int32) (x4 : Int32) (x5 : Int32) (x7 : Int32) (σ : sj_S) : Prop := sj_J G 4 me_X1_turn R 108 [.ref (sj_ad G 39), .null, .int x2, .int x3, .int x4, .int x5, .null, .int (x7 + (nI 1)), .null, .null] σ []
set_option maxRecDepth 20000 in
theorem t_X1_turn_143 {G : sj_G} {R : sj_R} {x2 : Int32} {x3 : Int32} {x4 : Int32} {x5 : Int32} {x7 : Int32} {σ : sj_S} (h : wp_X1_turn_143 G R x2 x3 x4 x5 x7 σ) : sj_J G 4 me_X1_turn R 143 [.ref (sj_ad G 39), .null, .int x2, .int x3, .int x4, .int x5, .null, .int x7, .null, .null] σ [] := by
  unfold wp_X1_turn_143 at h
  refine sj_iinc (v := (x7 + (nI 1))) dX1_turn_143 (by decide) rfl rfl ?_
  refine sj_goto (tgt := 108) dX1_turn_146 (by decide) ?_
  exact h
def wp_X1_turn_108 (G : sj_G) (R : sj_R) (x2 : Int32) (x3 : Int32) (x4 : Int32) (x5 : Int32) (x7 : Int32) (σ : sj_S) : Prop := (x2 ≤ x7 → R = (.ok 0, σ)) ∧ (¬ (x2 ≤ x7) → ((¬ (((x5 >>> (x7 &&& 31)) &&& (nI 1)) = 0)) → vp_in x7 9 ∧ vp_in x7 9) ∧ (wp_X1_turn_143 G R x2 x3 x4 x5 x7 (if ((x5 >>> (x7 &&& 31)) &&& (nI 1)) = 0 then σ else (sj_st σ 40 x7.toNatClampNeg ((x3 + x4) - (σ 40 x7.toNatClampNeg))))))
set_option maxRecDepth 20000 in
theorem t_X1_turn_108 {G : sj_G} {R : sj_R} {x2 : Int32} {x3 : Int32} {x4 : Int32} {x5 : Int32} {x7 : Int32} {σ : sj_S} (h : wp_X1_turn_108 G R x2 x3 x4 x5 x7 σ) : sj_J G 4 me_X1_turn R 108 [.ref (sj_ad G 39), .null, .int x2, .int x3, .int x4, .int x5, .null, .int x7, .null, .null] σ [] := by
  unfold wp_X1_turn_108 at h
  refine sj_iload dX1_turn_108 rfl ?_
  refine sj_iload_n dX1_turn_110 (i := 2) rfl rfl ?_
  refine sj_icmp_ge (tgt := 149) dX1_turn_111 (by decide) (fun c1 => ?_) (fun c1 => ?_)
  · replace h := h.1 c1
    subst h
    exact sj_vret dX1_turn_149 rfl
  · replace h := h.2 c1
    refine sj_iload dX1_turn_114 rfl ?_
    refine sj_iload dX1_turn_116 rfl ?_
    refine sj_ishr dX1_turn_118 ?_
    refine sj_iconst (v := (nI 1)) dX1_turn_119 (by decide +kernel) ?_
    refine sj_iand dX1_turn_120 ?_
    obtain ⟨f5, h⟩ := h
    refine sj_if_eq (tgt := 143) dX1_turn_121 (by decide) (fun c2 => ?_) (fun c2 => ?_)
    · try simp only [if_pos c2] at h
      exact t_X1_turn_143 h
    · obtain ⟨b3, b4⟩ := f5 c2
      refine sj_aload_n dX1_turn_124 (i := 0) rfl rfl ?_
      refine sj_get (a := 39) (k9 := 0) (v := .ref (sj_ad G 40)) dX1_turn_125 (by decide +kernel) rfl ?_
      refine sj_iload dX1_turn_128 rfl ?_
      refine sj_iload_n dX1_turn_130 (i := 3) rfl rfl ?_
      refine sj_iload dX1_turn_131 rfl ?_
      refine sj_iadd dX1_turn_133 ?_
      refine sj_aload_n dX1_turn_134 (i := 0) rfl rfl ?_
      refine sj_get (a := 39) (k9 := 0) (v := .ref (sj_ad G 40)) dX1_turn_135 (by decide +kernel) rfl ?_
      refine sj_iload dX1_turn_138 rfl ?_
      refine sj_iald (a := 40) (j := x7.toNatClampNeg) (x := (σ 40 x7.toNatClampNeg)) dX1_turn_140 rfl (by decide +kernel) b3 rfl rfl ?_
      refine sj_isub dX1_turn_141 ?_
      refine sj_iast (a := 40) (j := x7.toNatClampNeg) dX1_turn_142 rfl (by decide +kernel) b4 rfl ?_
      try simp only [if_neg c2] at h
      exact t_X1_turn_143 h
def wp_X1_turn_0 (G : sj_G) (R : sj_R) (x2 : Int32) (x3 : Int32) (x4 : Int32) (σ : sj_S) : Prop := ∃ v1 σ1, sj_C G 2 me_X8_ofLesson [.ref (sj_ad G 1), .int x2, .int (nI 1)] σ (.ok v1, σ1) ∧ ∃ v2 σ2, sj_C G 3 me_X1_withColour [.ref (sj_ad G 39), .ref (sj_ad G 1), .int (nI 1), .int v1, .int x3, .int x2] σ1 (.ok v2, σ2) ∧ sj_J G 4 me_X1_turn R 22 [.ref (sj_ad G 39), .ref (sj_ad G 1), .int x2, .int x3, .int x4, .int (nI 0), .int v2, .int (nI 1), .null, .null] σ2 []
set_option maxRecDepth 20000 in
theorem t_X1_turn_0 {G : sj_G} {R : sj_R} {x2 : Int32} {x3 : Int32} {x4 : Int32} {σ : sj_S} (h : wp_X1_turn_0 G R x2 x3 x4 σ) : sj_J G 4 me_X1_turn R 0 [.ref (sj_ad G 39), .ref (sj_ad G 1), .int x2, .int x3, .int x4, .null, .null, .null, .null, .null] σ [] := by
  unfold wp_X1_turn_0 at h
  refine sj_iconst (v := (nI 0)) dX1_turn_0 (by decide +kernel) ?_
  refine sj_istore dX1_turn_1 (by decide) ?_
  refine sj_aload_n dX1_turn_3 (i := 0) rfl rfl ?_
  refine sj_aload_n dX1_turn_4 (i := 1) rfl rfl ?_
  refine sj_iconst (v := (nI 1)) dX1_turn_5 (by decide +kernel) ?_
  refine sj_aload_n dX1_turn_6 (i := 1) rfl rfl ?_
  refine sj_iload_n dX1_turn_7 (i := 2) rfl rfl ?_
  refine sj_iconst (v := (nI 1)) dX1_turn_8 (by decide +kernel) ?_
  obtain ⟨v1, σ1, hc1, h⟩ := h
  refine sj_callVi (M' := me_X8_ofLesson) (b := 1) (As := [.int x2, .int (nI 1)]) (rest := [.int (nI 1), .ref (sj_ad G 1), .ref (sj_ad G 39)]) dX1_turn_9 gX1_turn_X8_ofLesson rfl hd_X8_ofLesson (by decide +kernel) (by decide +kernel) rfl (Nat.le_of_ble_eq_true rfl) (by omega) rfl hc1 ?_
  refine sj_iload_n dX1_turn_12 (i := 3) rfl rfl ?_
  refine sj_iload_n dX1_turn_13 (i := 2) rfl rfl ?_
  obtain ⟨v2, σ2, hc2, h⟩ := h
  refine sj_callVi (M' := me_X1_withColour) (b := 39) (As := [.ref (sj_ad G 1), .int (nI 1), .int v1, .int x3, .int x2]) (rest := []) dX1_turn_14 gX1_turn_X1_withColour rfl hd_X1_withColour (by decide +kernel) (by decide +kernel) rfl (Nat.le_of_ble_eq_true rfl) (by omega) rfl hc2 ?_
  refine sj_istore dX1_turn_17 (by decide) ?_
  refine sj_iconst (v := (nI 1)) dX1_turn_19 (by decide +kernel) ?_
  refine sj_istore dX1_turn_20 (by decide) ?_
  exact h
theorem c_X1_turn {G : sj_G} (ok : sj_ok G) {R : sj_R} {x2 : Int32} {x3 : Int32} {x4 : Int32} {σ : sj_S} (h : wp_X1_turn_0 G R x2 x3 x4 σ) : sj_C G 4 me_X1_turn [.ref (sj_ad G 39), .ref (sj_ad G 1), .int x2, .int x3, .int x4] σ R :=
  sj_enter ok (by decide +kernel) rfl rfl (Nat.le_of_ble_eq_true rfl) (by simp [Value.category]) (t_X1_turn_0 h)
def wp_X1_withColour_36 (G : sj_G) (R : sj_R) (x2 : Int32) (x3 : Int32) (x4 : Int32) (x5 : Int32) (x6 : Int32) (σ : sj_S) : Prop := sj_J G 3 me_X1_withColour R 3 [.ref (sj_ad G 39), .ref (sj_ad G 1), .int x2, .int x3, .int x4, .int x5, .int (x6 + (nI 1))] σ []
set_option maxRecDepth 20000 in
theorem t_X1_withColour_36 {G : sj_G} {R : sj_R} {x2 : Int32} {x3 : Int32} {x4 : Int32} {x5 : Int32} {x6 : Int32} {σ : sj_S} (h : wp_X1_withColour_36 G R x2 x3 x4 x5 x6 σ) : sj_J G 3 me_X1_withColour R 36 [.ref (sj_ad G 39), .ref (sj_ad G 1), .int x2, .int x3, .int x4, .int x5, .int x6] σ [] := by
  unfold wp_X1_withColour_36 at h
  refine sj_iinc (v := (x6 + (nI 1))) dX1_withColour_36 (by decide) rfl rfl ?_
  refine sj_goto (tgt := 3) dX1_withColour_39 (by decide) ?_
  exact h
def wp_X1_withColour_3 (G : sj_G) (R : sj_R) (x2 : Int32) (x3 : Int32) (x4 : Int32) (x5 : Int32) (x6 : Int32) (σ : sj_S) : Prop := (x5 ≤ x6 → R = (.ok (-1), σ)) ∧ (¬ (x5 ≤ x6) → vp_in x6 9 ∧ (¬ (σ 40 x6.toNatClampNeg) = x4 → (wp_X1_withColour_36 G R x2 x3 x4 x5 x6 σ)) ∧ ((σ 40 x6.toNatClampNeg) = x4 → ∃ v4 σ4, sj_C G 2 me_X8_isOf [.ref (sj_ad G 1), .int x6, .int x2, .int x3] σ (.ok v4, σ4) ∧ (v4 = 0 → (wp_X1_withColour_36 G R x2 x3 x4 x5 x6 σ4)) ∧ (¬ (v4 = 0) → R = (.ok x6, σ4))))
set_option maxRecDepth 20000 in
theorem t_X1_withColour_3 {G : sj_G} {R : sj_R} {x2 : Int32} {x3 : Int32} {x4 : Int32} {x5 : Int32} {x6 : Int32} {σ : sj_S} (h : wp_X1_withColour_3 G R x2 x3 x4 x5 x6 σ) : sj_J G 3 me_X1_withColour R 3 [.ref (sj_ad G 39), .ref (sj_ad G 1), .int x2, .int x3, .int x4, .int x5, .int x6] σ [] := by
  unfold wp_X1_withColour_3 at h
  refine sj_iload dX1_withColour_3 rfl ?_
  refine sj_iload dX1_withColour_5 rfl ?_
  refine sj_icmp_ge (tgt := 42) dX1_withColour_7 (by decide) (fun c1 => ?_) (fun c1 => ?_)
  · replace h := h.1 c1
    refine sj_iconst (v := (-1)) dX1_withColour_42 (by decide +kernel) ?_
    subst h
    exact sj_ret dX1_withColour_43 rfl rfl
  · replace h := h.2 c1
    refine sj_aload_n dX1_withColour_10 (i := 0) rfl rfl ?_
    refine sj_get (a := 39) (k9 := 0) (v := .ref (sj_ad G 40)) dX1_withColour_11 (by decide +kernel) rfl ?_
    refine sj_iload dX1_withColour_14 rfl ?_
    obtain ⟨b2, h⟩ := h
    refine sj_iald (a := 40) (j := x6.toNatClampNeg) (x := (σ 40 x6.toNatClampNeg)) dX1_withColour_16 rfl (by decide +kernel) b2 rfl rfl ?_
    refine sj_iload dX1_withColour_17 rfl ?_
    refine sj_icmp_ne (tgt := 36) dX1_withColour_19 (by decide) (fun c3 => ?_) (fun c3 => ?_)
    · replace h := h.1 c3
      exact t_X1_withColour_36 h
    · replace h := h.2 c3
      refine sj_aload_n dX1_withColour_22 (i := 1) rfl rfl ?_
      refine sj_iload dX1_withColour_23 rfl ?_
      refine sj_iload_n dX1_withColour_25 (i := 2) rfl rfl ?_
      refine sj_iload_n dX1_withColour_26 (i := 3) rfl rfl ?_
      obtain ⟨v4, σ4, hc4, h⟩ := h
      refine sj_callVi (M' := me_X8_isOf) (b := 1) (As := [.int x6, .int x2, .int x3]) (rest := []) dX1_withColour_27 gX1_withColour_X8_isOf rfl hd_X8_isOf (by decide +kernel) (by decide +kernel) rfl (Nat.le_of_ble_eq_true rfl) (by omega) rfl hc4 ?_
      refine sj_if_eq (tgt := 36) dX1_withColour_30 (by decide) (fun c5 => ?_) (fun c5 => ?_)
      · replace h := h.1 c5
        exact t_X1_withColour_36 h
      · replace h := h.2 c5
        refine sj_iload dX1_withColour_33 rfl ?_
        subst h
        exact sj_ret dX1_withColour_35 rfl rfl
def wp_X1_withColour_0 (G : sj_G) (R : sj_R) (x2 : Int32) (x3 : Int32) (x4 : Int32) (x5 : Int32) (σ : sj_S) : Prop := sj_J G 3 me_X1_withColour R 3 [.ref (sj_ad G 39), .ref (sj_ad G 1), .int x2, .int x3, .int x4, .int x5, .int (nI 0)] σ []
set_option maxRecDepth 20000 in
theorem t_X1_withColour_0 {G : sj_G} {R : sj_R} {x2 : Int32} {x3 : Int32} {x4 : Int32} {x5 : Int32} {σ : sj_S} (h : wp_X1_withColour_0 G R x2 x3 x4 x5 σ) : sj_J G 3 me_X1_withColour R 0 [.ref (sj_ad G 39), .ref (sj_ad G 1), .int x2, .int x3, .int x4, .int x5, .null] σ [] := by
  unfold wp_X1_withColour_0 at h
  refine sj_iconst (v := (nI 0)) dX1_withColour_0 (by decide +kernel) ?_
  refine sj_istore dX1_withColour_1 (by decide) ?_
  exact h
theorem c_X1_withColour {G : sj_G} (ok : sj_ok G) {R : sj_R} {x2 : Int32} {x3 : Int32} {x4 : Int32} {x5 : Int32} {σ : sj_S} (h : wp_X1_withColour_0 G R x2 x3 x4 x5 σ) : sj_C G 3 me_X1_withColour [.ref (sj_ad G 39), .ref (sj_ad G 1), .int x2, .int x3, .int x4, .int x5] σ R :=
  sj_enter ok (by decide +kernel) rfl rfl (Nat.le_of_ble_eq_true rfl) (by simp [Value.category]) (t_X1_withColour_0 h)
def wp_X1_sharedPairs_9 (G : sj_G) (R : sj_R) (x2 : Int32) (x3 : Int32) (σ : sj_S) : Prop := ∃ v1 σ1, sj_C G 2 me_X8_lessonTotal [.ref (sj_ad G 1)] σ (.ok v1, σ1) ∧ (v1 ≤ x3 → R = (.ok x2, σ1)) ∧ (¬ (v1 ≤ x3) → sj_J G 6 me_X1_sharedPairs R 20 [.ref (sj_ad G 39), .ref (sj_ad G 1), .int x2, .int x3, .int (nI 0), .null] σ1 [])
set_option maxRecDepth 20000 in
theorem t_X1_sharedPairs_9 {G : sj_G} {R : sj_R} {x2 : Int32} {x3 : Int32} {σ : sj_S} (h : wp_X1_sharedPairs_9 G R x2 x3 σ) : sj_J G 6 me_X1_sharedPairs R 9 [.ref (sj_ad G 39), .ref (sj_ad G 1), .int x2, .int x3, .null, .null] σ [] := by
  unfold wp_X1_sharedPairs_9 at h
  refine sj_iload_n dX1_sharedPairs_9 (i := 3) rfl rfl ?_
  refine sj_aload_n dX1_sharedPairs_10 (i := 1) rfl rfl ?_
  obtain ⟨v1, σ1, hc1, h⟩ := h
  refine sj_callVi (M' := me_X8_lessonTotal) (b := 1) (As := []) (rest := [.int x3]) dX1_sharedPairs_11 gX1_sharedPairs_X8_lessonTotal rfl hd_X8_lessonTotal (by decide +kernel) (by decide +kernel) rfl (Nat.le_of_ble_eq_true rfl) (by omega) rfl hc1 ?_
  refine sj_icmp_ge (tgt := 106) dX1_sharedPairs_14 (by decide) (fun c2 => ?_) (fun c2 => ?_)
  · replace h := h.1 c2
    refine sj_iload_n dX1_sharedPairs_106 (i := 2) rfl rfl ?_
    subst h
    exact sj_ret dX1_sharedPairs_107 rfl rfl
  · replace h := h.2 c2
    refine sj_iconst (v := (nI 0)) dX1_sharedPairs_17 (by decide +kernel) ?_
    refine sj_istore dX1_sharedPairs_18 (by decide) ?_
    exact h
def wp_X1_sharedPairs_92 (G : sj_G) (R : sj_R) (x3 : Int32) (x4 : Int32) (s0 : Int32) (s1 : Int32) (σ : sj_S) : Prop := sj_J G 6 me_X1_sharedPairs R 20 [.ref (sj_ad G 39), .ref (sj_ad G 1), .int (s1 + s0), .int x3, .int (x4 + (nI 1)), .null] σ []
set_option maxRecDepth 20000 in
theorem t_X1_sharedPairs_92 {G : sj_G} {R : sj_R} {x3 : Int32} {x4 : Int32} {s0 : Int32} {s1 : Int32} {σ : sj_S} (h : wp_X1_sharedPairs_92 G R x3 x4 s0 s1 σ) : sj_J G 6 me_X1_sharedPairs R 92 [.ref (sj_ad G 39), .ref (sj_ad G 1), .null, .int x3, .int x4, .null] σ [.int s0, .int s1] := by
  unfold wp_X1_sharedPairs_92 at h
  refine sj_iadd dX1_sharedPairs_92 ?_
  refine sj_istore_n dX1_sharedPairs_93 (i := 2) rfl (by decide) ?_
  refine sj_iinc (v := (x4 + (nI 1))) dX1_sharedPairs_94 (by decide) rfl rfl ?_
  refine sj_goto (tgt := 20) dX1_sharedPairs_97 (by decide) ?_
  exact h
def wp_X1_sharedPairs_63 (G : sj_G) (R : sj_R) (x2 : Int32) (x3 : Int32) (x4 : Int32) (s0 : Int32) (σ : sj_S) : Prop := ((¬ (s0 = 0)) → vp_in x4 9 ∧ vp_in x3 9) ∧ (wp_X1_sharedPairs_92 G R x3 x4 (if s0 = 0 then (nI 0) else (if (σ 40 x4.toNatClampNeg) = (σ 40 x3.toNatClampNeg) then (nI 1) else (nI 0))) x2 σ)
set_option maxRecDepth 20000 in
theorem t_X1_sharedPairs_63 {G : sj_G} {R : sj_R} {x2 : Int32} {x3 : Int32} {x4 : Int32} {s0 : Int32} {σ : sj_S} (h : wp_X1_sharedPairs_63 G R x2 x3 x4 s0 σ) : sj_J G 6 me_X1_sharedPairs R 63 [.ref (sj_ad G 39), .ref (sj_ad G 1), .int x2, .int x3, .int x4, .null] σ [.int s0] := by
  unfold wp_X1_sharedPairs_63 at h
  refine sj_istore dX1_sharedPairs_63 (by decide) ?_
  refine sj_iload_n dX1_sharedPairs_65 (i := 2) rfl rfl ?_
  refine sj_iload dX1_sharedPairs_66 rfl ?_
  obtain ⟨f5, h⟩ := h
  refine sj_if_eq (tgt := 91) dX1_sharedPairs_68 (by decide) (fun c1 => ?_) (fun c1 => ?_)
  · refine sj_iconst (v := (nI 0)) dX1_sharedPairs_91 (by decide +kernel) ?_
    try simp only [if_pos c1] at h
    refine sj_fg [2, 5] ?_
    exact t_X1_sharedPairs_92 h
  · obtain ⟨b2, b3⟩ := f5 c1
    refine sj_aload_n dX1_sharedPairs_71 (i := 0) rfl rfl ?_
    refine sj_get (a := 39) (k9 := 0) (v := .ref (sj_ad G 40)) dX1_sharedPairs_72 (by decide +kernel) rfl ?_
    refine sj_iload dX1_sharedPairs_75 rfl ?_
    refine sj_iald (a := 40) (j := x4.toNatClampNeg) (x := (σ 40 x4.toNatClampNeg)) dX1_sharedPairs_77 rfl (by decide +kernel) b2 rfl rfl ?_
    refine sj_aload_n dX1_sharedPairs_78 (i := 0) rfl rfl ?_
    refine sj_get (a := 39) (k9 := 0) (v := .ref (sj_ad G 40)) dX1_sharedPairs_79 (by decide +kernel) rfl ?_
    refine sj_iload_n dX1_sharedPairs_82 (i := 3) rfl rfl ?_
    refine sj_iald (a := 40) (j := x3.toNatClampNeg) (x := (σ 40 x3.toNatClampNeg)) dX1_sharedPairs_83 rfl (by decide +kernel) b3 rfl rfl ?_
    refine sj_icmp_ne (tgt := 91) dX1_sharedPairs_84 (by decide) (fun c4 => ?_) (fun c4 => ?_)
    · refine sj_iconst (v := (nI 0)) dX1_sharedPairs_91 (by decide +kernel) ?_
      try simp only [if_neg c1, if_neg c4] at h
      refine sj_fg [2, 5] ?_
      exact t_X1_sharedPairs_92 h
    · refine sj_iconst (v := (nI 1)) dX1_sharedPairs_87 (by decide +kernel) ?_
      refine sj_goto (tgt := 92) dX1_sharedPairs_88 (by decide) ?_
      try simp only [if_neg c1, if_pos c4] at h
      refine sj_fg [2, 5] ?_
      exact t_X1_sharedPairs_92 h
def wp_X1_sharedPairs_58 (G : sj_G) (R : sj_R) (x2 : Int32) (x3 : Int32) (x4 : Int32) (σ : sj_S) : Prop := (wp_X1_sharedPairs_63 G R x2 x3 x4 (nI 1) σ)
set_option maxRecDepth 20000 in
theorem t_X1_sharedPairs_58 {G : sj_G} {R : sj_R} {x2 : Int32} {x3 : Int32} {x4 : Int32} {σ : sj_S} (h : wp_X1_sharedPairs_58 G R x2 x3 x4 σ) : sj_J G 6 me_X1_sharedPairs R 58 [.ref (sj_ad G 39), .ref (sj_ad G 1), .int x2, .int x3, .int x4, .null] σ [] := by
  unfold wp_X1_sharedPairs_58 at h
  refine sj_iconst (v := (nI 1)) dX1_sharedPairs_58 (by decide +kernel) ?_
  refine sj_goto (tgt := 63) dX1_sharedPairs_59 (by decide) ?_
  exact t_X1_sharedPairs_63 h
def wp_X1_sharedPairs_20 (G : sj_G) (R : sj_R) (x2 : Int32) (x3 : Int32) (x4 : Int32) (σ : sj_S) : Prop := (x3 ≤ x4 → sj_J G 6 me_X1_sharedPairs R 9 [.ref (sj_ad G 39), .ref (sj_ad G 1), .int x2, .int (x3 + (nI 1)), .null, .null] σ []) ∧ (¬ (x3 ≤ x4) → ∃ v2 σ2, sj_C G 2 me_X8_ofLesson [.ref (sj_ad G 1), .int x3, .int (nI 0)] σ (.ok v2, σ2) ∧ ∃ v3 σ3, sj_C G 2 me_X8_isOf [.ref (sj_ad G 1), .int x4, .int (nI 0), .int v2] σ2 (.ok v3, σ3) ∧ (¬ v3 = 0 → (wp_X1_sharedPairs_58 G R x2 x3 x4 σ3)) ∧ (v3 = 0 → ∃ v6 σ6, sj_C G 2 me_X8_ofLesson [.ref (sj_ad G 1), .int x3, .int (nI 1)] σ3 (.ok v6, σ6) ∧ ∃ v7 σ7, sj_C G 2 me_X8_isOf [.ref (sj_ad G 1), .int x4, .int (nI 1), .int v6] σ6 (.ok v7, σ7) ∧ (wp_X1_sharedPairs_63 G R x2 x3 x4 (if v7 = 0 then (nI 0) else (nI 1)) σ7)))
set_option maxRecDepth 20000 in
theorem t_X1_sharedPairs_20 {G : sj_G} {R : sj_R} {x2 : Int32} {x3 : Int32} {x4 : Int32} {σ : sj_S} (h : wp_X1_sharedPairs_20 G R x2 x3 x4 σ) : sj_J G 6 me_X1_sharedPairs R 20 [.ref (sj_ad G 39), .ref (sj_ad G 1), .int x2, .int x3, .int x4, .null] σ [] := by
  unfold wp_X1_sharedPairs_20 at h
  refine sj_iload dX1_sharedPairs_20 rfl ?_
  refine sj_iload_n dX1_sharedPairs_22 (i := 3) rfl rfl ?_
  refine sj_icmp_ge (tgt := 100) dX1_sharedPairs_23 (by decide) (fun c1 => ?_) (fun c1 => ?_)
  · replace h := h.1 c1
    refine sj_iinc (v := (x3 + (nI 1))) dX1_sharedPairs_100 (by decide) rfl rfl ?_
    refine sj_goto (tgt := 9) dX1_sharedPairs_103 (by decide) ?_
    refine sj_fg [4] ?_
    exact h
  · replace h := h.2 c1
    refine sj_aload_n dX1_sharedPairs_26 (i := 1) rfl rfl ?_
    refine sj_iload dX1_sharedPairs_27 rfl ?_
    refine sj_iconst (v := (nI 0)) dX1_sharedPairs_29 (by decide +kernel) ?_
    refine sj_aload_n dX1_sharedPairs_30 (i := 1) rfl rfl ?_
    refine sj_iload_n dX1_sharedPairs_31 (i := 3) rfl rfl ?_
    refine sj_iconst (v := (nI 0)) dX1_sharedPairs_32 (by decide +kernel) ?_
    obtain ⟨v2, σ2, hc2, h⟩ := h
    refine sj_callVi (M' := me_X8_ofLesson) (b := 1) (As := [.int x3, .int (nI 0)]) (rest := [.int (nI 0), .int x4, .ref (sj_ad G 1)]) dX1_sharedPairs_33 gX1_sharedPairs_X8_ofLesson rfl hd_X8_ofLesson (by decide +kernel) (by decide +kernel) rfl (Nat.le_of_ble_eq_true rfl) (by omega) rfl hc2 ?_
    obtain ⟨v3, σ3, hc3, h⟩ := h
    refine sj_callVi (M' := me_X8_isOf) (b := 1) (As := [.int x4, .int (nI 0), .int v2]) (rest := []) dX1_sharedPairs_36 gX1_sharedPairs_X8_isOf rfl hd_X8_isOf (by decide +kernel) (by decide +kernel) rfl (Nat.le_of_ble_eq_true rfl) (by omega) rfl hc3 ?_
    refine sj_if_ne (tgt := 58) dX1_sharedPairs_39 (by decide) (fun c5 => ?_) (fun c5 => ?_)
    · replace h := h.1 c5
      exact t_X1_sharedPairs_58 h
    · replace h := h.2 c5
      refine sj_aload_n dX1_sharedPairs_42 (i := 1) rfl rfl ?_
      refine sj_iload dX1_sharedPairs_43 rfl ?_
      refine sj_iconst (v := (nI 1)) dX1_sharedPairs_45 (by decide +kernel) ?_
      refine sj_aload_n dX1_sharedPairs_46 (i := 1) rfl rfl ?_
      refine sj_iload_n dX1_sharedPairs_47 (i := 3) rfl rfl ?_
      refine sj_iconst (v := (nI 1)) dX1_sharedPairs_48 (by decide +kernel) ?_
      obtain ⟨v6, σ6, hc6, h⟩ := h
      refine sj_callVi (M' := me_X8_ofLesson) (b := 1) (As := [.int x3, .int (nI 1)]) (rest := [.int (nI 1), .int x4, .ref (sj_ad G 1)]) dX1_sharedPairs_49 gX1_sharedPairs_X8_ofLesson rfl hd_X8_ofLesson (by decide +kernel) (by decide +kernel) rfl (Nat.le_of_ble_eq_true rfl) (by omega) rfl hc6 ?_
      obtain ⟨v7, σ7, hc7, h⟩ := h
      refine sj_callVi (M' := me_X8_isOf) (b := 1) (As := [.int x4, .int (nI 1), .int v6]) (rest := []) dX1_sharedPairs_52 gX1_sharedPairs_X8_isOf rfl hd_X8_isOf (by decide +kernel) (by decide +kernel) rfl (Nat.le_of_ble_eq_true rfl) (by omega) rfl hc7 ?_
      refine sj_if_eq (tgt := 62) dX1_sharedPairs_55 (by decide) (fun c8 => ?_) (fun c8 => ?_)
      · refine sj_iconst (v := (nI 0)) dX1_sharedPairs_62 (by decide +kernel) ?_
        try simp only [if_pos c8] at h
        exact t_X1_sharedPairs_63 h
      · refine sj_iconst (v := (nI 1)) dX1_sharedPairs_58 (by decide +kernel) ?_
        refine sj_goto (tgt := 63) dX1_sharedPairs_59 (by decide) ?_
        try simp only [if_neg c8] at h
        exact t_X1_sharedPairs_63 h
def wp_X1_sharedPairs_0 (G : sj_G) (R : sj_R) (σ : sj_S) : Prop := ∃ σ1, sj_C G 5 me_X1_paint [.ref (sj_ad G 39), .ref (sj_ad G 1)] σ (.ok 0, σ1) ∧ sj_J G 6 me_X1_sharedPairs R 9 [.ref (sj_ad G 39), .ref (sj_ad G 1), .int (nI 0), .int (nI 0), .null, .null] σ1 []
set_option maxRecDepth 20000 in
theorem t_X1_sharedPairs_0 {G : sj_G} {R : sj_R} {σ : sj_S} (h : wp_X1_sharedPairs_0 G R σ) : sj_J G 6 me_X1_sharedPairs R 0 [.ref (sj_ad G 39), .ref (sj_ad G 1), .null, .null, .null, .null] σ [] := by
  unfold wp_X1_sharedPairs_0 at h
  refine sj_aload_n dX1_sharedPairs_0 (i := 0) rfl rfl ?_
  refine sj_aload_n dX1_sharedPairs_1 (i := 1) rfl rfl ?_
  obtain ⟨σ1, hc1, h⟩ := h
  refine sj_callVv (M' := me_X1_paint) (b := 39) (As := [.ref (sj_ad G 1)]) (rest := []) dX1_sharedPairs_2 gX1_sharedPairs_X1_paint rfl hd_X1_paint (by decide +kernel) (by decide +kernel) rfl (Nat.le_of_ble_eq_true rfl) (by omega) rfl hc1 ?_
  refine sj_iconst (v := (nI 0)) dX1_sharedPairs_5 (by decide +kernel) ?_
  refine sj_istore_n dX1_sharedPairs_6 (i := 2) rfl (by decide) ?_
  refine sj_iconst (v := (nI 0)) dX1_sharedPairs_7 (by decide +kernel) ?_
  refine sj_istore_n dX1_sharedPairs_8 (i := 3) rfl (by decide) ?_
  exact h
theorem c_X1_sharedPairs {G : sj_G} (ok : sj_ok G) {R : sj_R} {σ : sj_S} (h : wp_X1_sharedPairs_0 G R σ) : sj_C G 6 me_X1_sharedPairs [.ref (sj_ad G 39), .ref (sj_ad G 1)] σ R :=
  sj_enter ok (by decide +kernel) rfl rfl (Nat.le_of_ble_eq_true rfl) (by simp [Value.category]) (t_X1_sharedPairs_0 h)
def wp_X2_plan_128 (G : sj_G) (R : sj_R) (x3 : Int32) (x4 : Int32) (σ : sj_S) : Prop := sj_J G 42 me_X2_plan R 37 [.ref (sj_ad G 41), .null, .null, .int x3, .int (x4 + (nI 1))] σ []
set_option maxRecDepth 20000 in
theorem t_X2_plan_128 {G : sj_G} {R : sj_R} {x3 : Int32} {x4 : Int32} {σ : sj_S} (h : wp_X2_plan_128 G R x3 x4 σ) : sj_J G 42 me_X2_plan R 128 [.ref (sj_ad G 41), .null, .null, .int x3, .int x4] σ [] := by
  unfold wp_X2_plan_128 at h
  refine sj_iinc (v := (x4 + (nI 1))) dX2_plan_128 (by decide) rfl rfl ?_
  refine sj_goto (tgt := 37) dX2_plan_131 (by decide) ?_
  exact h
def wp_X2_plan_37 (G : sj_G) (R : sj_R) (x3 : Int32) (x4 : Int32) (σ : sj_S) : Prop := ((nI 9) ≤ x4 → R = (.ok 0, σ)) ∧ (¬ ((nI 9) ≤ x4) → vp_in x4 9 ∧ ((((σ 41 1) >>> (x4 &&& 31)) &&& (nI 1)) = 0 → (wp_X2_plan_128 G R x3 x4 (sj_st σ 42 x4.toNatClampNeg (-1)))) ∧ (¬ ((((σ 41 1) >>> (x4 &&& 31)) &&& (nI 1)) = 0) → ∃ v5 σ5, sj_C G 41 me_X2_leastTaker [.ref (sj_ad G 41), .int x4, .int x3] (sj_st σ 42 x4.toNatClampNeg (-1)) (.ok v5, σ5) ∧ vp_in x4 9 ∧ vp_in x4 9 ∧ ((¬ (((sj_st σ5 42 x4.toNatClampNeg v5) 42 x4.toNatClampNeg) = (-1))) → vp_in x4 9) ∧ (wp_X2_plan_128 G R (if ((sj_st σ5 42 x4.toNatClampNeg v5) 42 x4.toNatClampNeg) = (-1) then x3 else (x3 + (-1))) x4 (if ((sj_st σ5 42 x4.toNatClampNeg v5) 42 x4.toNatClampNeg) = (-1) then (sj_st (sj_st σ5 42 x4.toNatClampNeg v5) 41 2 ((σ5 41 2) ||| ((nI 1) <<< (x4 &&& 31)))) else (sj_st (sj_st σ5 42 x4.toNatClampNeg v5) 41 3 ((σ5 41 3) &&& (((nI 1) <<< (((sj_st σ5 42 x4.toNatClampNeg v5) 42 x4.toNatClampNeg) &&& 31)) ^^^ (-1))))))))
set_option maxRecDepth 20000 in
theorem t_X2_plan_37 {G : sj_G} {R : sj_R} {x3 : Int32} {x4 : Int32} {σ : sj_S} (h : wp_X2_plan_37 G R x3 x4 σ) : sj_J G 42 me_X2_plan R 37 [.ref (sj_ad G 41), .null, .null, .int x3, .int x4] σ [] := by
  unfold wp_X2_plan_37 at h
  refine sj_iload dX2_plan_37 rfl ?_
  refine sj_bipush (v := (nI 9)) dX2_plan_39 (by decide +kernel) ?_
  refine sj_icmp_ge (tgt := 134) dX2_plan_41 (by decide) (fun c1 => ?_) (fun c1 => ?_)
  · replace h := h.1 c1
    subst h
    exact sj_vret dX2_plan_134 rfl
  · replace h := h.2 c1
    refine sj_aload_n dX2_plan_44 (i := 0) rfl rfl ?_
    refine sj_get (a := 41) (k9 := 0) (v := .ref (sj_ad G 42)) dX2_plan_45 (by decide +kernel) rfl ?_
    refine sj_iload dX2_plan_48 rfl ?_
    refine sj_iconst (v := (-1)) dX2_plan_50 (by decide +kernel) ?_
    obtain ⟨b2, h⟩ := h
    refine sj_iast (a := 42) (j := x4.toNatClampNeg) dX2_plan_51 rfl (by decide +kernel) b2 rfl ?_
    refine sj_aload_n dX2_plan_52 (i := 0) rfl rfl ?_
    refine sj_get (a := 41) (k9 := 1) (v := .int (σ 41 1)) dX2_plan_53 (by decide +kernel) rfl ?_
    refine sj_iload dX2_plan_56 rfl ?_
    refine sj_ishr dX2_plan_58 ?_
    refine sj_iconst (v := (nI 1)) dX2_plan_59 (by decide +kernel) ?_
    refine sj_iand dX2_plan_60 ?_
    refine sj_if_eq (tgt := 128) dX2_plan_61 (by decide) (fun c4 => ?_) (fun c4 => ?_)
    · replace h := h.1 c4
      exact t_X2_plan_128 h
    · replace h := h.2 c4
      refine sj_aload_n dX2_plan_64 (i := 0) rfl rfl ?_
      refine sj_get (a := 41) (k9 := 0) (v := .ref (sj_ad G 42)) dX2_plan_65 (by decide +kernel) rfl ?_
      refine sj_iload dX2_plan_68 rfl ?_
      refine sj_aload_n dX2_plan_70 (i := 0) rfl rfl ?_
      refine sj_iload dX2_plan_71 rfl ?_
      refine sj_iload_n dX2_plan_73 (i := 3) rfl rfl ?_
      obtain ⟨v5, σ5, hc5, h⟩ := h
      refine sj_callVi (M' := me_X2_leastTaker) (b := 41) (As := [.int x4, .int x3]) (rest := [.int x4, .ref (sj_ad G 42)]) dX2_plan_74 gX2_plan_X2_leastTaker rfl hd_X2_leastTaker (by decide +kernel) (by decide +kernel) rfl (Nat.le_of_ble_eq_true rfl) (by omega) rfl hc5 ?_
      obtain ⟨b6, h⟩ := h
      refine sj_iast (a := 42) (j := x4.toNatClampNeg) dX2_plan_77 rfl (by decide +kernel) b6 rfl ?_
      refine sj_aload_n dX2_plan_78 (i := 0) rfl rfl ?_
      refine sj_get (a := 41) (k9 := 0) (v := .ref (sj_ad G 42)) dX2_plan_79 (by decide +kernel) rfl ?_
      refine sj_iload dX2_plan_82 rfl ?_
      obtain ⟨b7, h⟩ := h
      refine sj_iald (a := 42) (j := x4.toNatClampNeg) (x := ((sj_st σ5 42 x4.toNatClampNeg v5) 42 x4.toNatClampNeg)) dX2_plan_84 rfl (by decide +kernel) b7 rfl rfl ?_
      refine sj_iconst (v := (-1)) dX2_plan_85 (by decide +kernel) ?_
      obtain ⟨f10, h⟩ := h
      refine sj_icmp_ne (tgt := 105) dX2_plan_86 (by decide) (fun c8 => ?_) (fun c8 => ?_)
      · have b9 := f10 c8
        refine sj_aload_n dX2_plan_105 (i := 0) rfl rfl ?_
        refine sj_dup dX2_plan_106 rfl ?_
        refine sj_get (a := 41) (k9 := 3) (v := .int (σ5 41 3)) dX2_plan_107 (by decide +kernel) rfl ?_
        refine sj_iconst (v := (nI 1)) dX2_plan_110 (by decide +kernel) ?_
        refine sj_aload_n dX2_plan_111 (i := 0) rfl rfl ?_
        refine sj_get (a := 41) (k9 := 0) (v := .ref (sj_ad G 42)) dX2_plan_112 (by decide +kernel) rfl ?_
        refine sj_iload dX2_plan_115 rfl ?_
        refine sj_iald (a := 42) (j := x4.toNatClampNeg) (x := ((sj_st σ5 42 x4.toNatClampNeg v5) 42 x4.toNatClampNeg)) dX2_plan_117 rfl (by decide +kernel) b9 rfl rfl ?_
        refine sj_ishl dX2_plan_118 ?_
        refine sj_iconst (v := (-1)) dX2_plan_119 (by decide +kernel) ?_
        refine sj_ixor dX2_plan_120 ?_
        refine sj_iand dX2_plan_121 ?_
        refine sj_put (a := 41) (k9 := 3) dX2_plan_122 (by decide +kernel) (by decide +kernel) rfl ?_
        refine sj_iinc (v := (x3 + (-1))) dX2_plan_125 (by decide) rfl rfl ?_
        try simp only [if_neg c8] at h
        exact t_X2_plan_128 h
      · refine sj_aload_n dX2_plan_89 (i := 0) rfl rfl ?_
        refine sj_dup dX2_plan_90 rfl ?_
        refine sj_get (a := 41) (k9 := 2) (v := .int (σ5 41 2)) dX2_plan_91 (by decide +kernel) rfl ?_
        refine sj_iconst (v := (nI 1)) dX2_plan_94 (by decide +kernel) ?_
        refine sj_iload dX2_plan_95 rfl ?_
        refine sj_ishl dX2_plan_97 ?_
        refine sj_ior dX2_plan_98 ?_
        refine sj_put (a := 41) (k9 := 2) dX2_plan_99 (by decide +kernel) (by decide +kernel) rfl ?_
        refine sj_goto (tgt := 128) dX2_plan_102 (by decide) ?_
        try simp only [if_pos c8] at h
        exact t_X2_plan_128 h
def wp_X2_plan_0 (G : sj_G) (R : sj_R) (x2 : Int32) (σ : sj_S) : Prop := ∃ σ1, sj_C G 4 me_X2_collect [.ref (sj_ad G 41), .ref (sj_ad G 1), .int x2] σ (.ok 0, σ1) ∧ ∃ v2 σ2, sj_C G 40 me_X2_mostTaken [.ref (sj_ad G 43), .int (σ1 41 1), .int (nI 63), .int (nI 0)] (sj_st (sj_st σ1 41 2 (nI 0)) 41 3 (nI 63)) (.ok v2, σ2) ∧ sj_J G 42 me_X2_plan R 37 [.ref (sj_ad G 41), .null, .null, .int v2, .int (nI 0)] σ2 []
set_option maxRecDepth 20000 in
theorem t_X2_plan_0 {G : sj_G} {R : sj_R} {x2 : Int32} {σ : sj_S} (h : wp_X2_plan_0 G R x2 σ) : sj_J G 42 me_X2_plan R 0 [.ref (sj_ad G 41), .ref (sj_ad G 1), .int x2, .null, .null] σ [] := by
  unfold wp_X2_plan_0 at h
  refine sj_aload_n dX2_plan_0 (i := 0) rfl rfl ?_
  refine sj_aload_n dX2_plan_1 (i := 1) rfl rfl ?_
  refine sj_iload_n dX2_plan_2 (i := 2) rfl rfl ?_
  obtain ⟨σ1, hc1, h⟩ := h
  refine sj_callVv (M' := me_X2_collect) (b := 41) (As := [.ref (sj_ad G 1), .int x2]) (rest := []) dX2_plan_3 gX2_plan_X2_collect rfl hd_X2_collect (by decide +kernel) (by decide +kernel) rfl (Nat.le_of_ble_eq_true rfl) (by omega) rfl hc1 ?_
  refine sj_aload_n dX2_plan_6 (i := 0) rfl rfl ?_
  refine sj_iconst (v := (nI 0)) dX2_plan_7 (by decide +kernel) ?_
  refine sj_put (a := 41) (k9 := 2) dX2_plan_8 (by decide +kernel) (by decide +kernel) rfl ?_
  refine sj_aload_n dX2_plan_11 (i := 0) rfl rfl ?_
  refine sj_bipush (v := (nI 63)) dX2_plan_12 (by decide +kernel) ?_
  refine sj_put (a := 41) (k9 := 3) dX2_plan_14 (by decide +kernel) (by decide +kernel) rfl ?_
  refine sj_aload_n dX2_plan_17 (i := 0) rfl rfl ?_
  refine sj_get (a := 41) (k9 := 4) (v := .ref (sj_ad G 43)) dX2_plan_18 (by decide +kernel) rfl ?_
  refine sj_aload_n dX2_plan_21 (i := 0) rfl rfl ?_
  refine sj_get (a := 41) (k9 := 1) (v := .int (σ1 41 1)) dX2_plan_22 (by decide +kernel) rfl ?_
  refine sj_aload_n dX2_plan_25 (i := 0) rfl rfl ?_
  refine sj_get (a := 41) (k9 := 3) (v := .int (nI 63)) dX2_plan_26 (by decide +kernel) rfl ?_
  refine sj_iconst (v := (nI 0)) dX2_plan_29 (by decide +kernel) ?_
  obtain ⟨v2, σ2, hc2, h⟩ := h
  refine sj_callSi (M' := me_X2_mostTaken) (As := [.ref (sj_ad G 43), .int (σ1 41 1), .int (nI 63), .int (nI 0)]) (rest := []) dX2_plan_30 gX2_plan_X2_mostTaken rfl hd_X2_mostTaken (Nat.le_of_ble_eq_true rfl) (by omega) rfl hc2 ?_
  refine sj_istore_n dX2_plan_33 (i := 3) rfl (by decide) ?_
  refine sj_iconst (v := (nI 0)) dX2_plan_34 (by decide +kernel) ?_
  refine sj_istore dX2_plan_35 (by decide) ?_
  refine sj_fg [1, 2] ?_
  exact h
theorem c_X2_plan {G : sj_G} (ok : sj_ok G) {R : sj_R} {x2 : Int32} {σ : sj_S} (h : wp_X2_plan_0 G R x2 σ) : sj_C G 42 me_X2_plan [.ref (sj_ad G 41), .ref (sj_ad G 1), .int x2] σ R :=
  sj_enter ok (by decide +kernel) rfl rfl (Nat.le_of_ble_eq_true rfl) (by simp [Value.category]) (t_X2_plan_0 h)
def wp_X2_collect_66 (G : sj_G) (R : sj_R) (x2 : Int32) (x3 : Int32) (x4 : Int32) (σ : sj_S) : Prop := sj_J G 4 me_X2_collect R 10 [.ref (sj_ad G 41), .ref (sj_ad G 1), .int x2, .int x3, .int (x4 + (nI 1)), .null] σ []
set_option maxRecDepth 20000 in
theorem t_X2_collect_66 {G : sj_G} {R : sj_R} {x2 : Int32} {x3 : Int32} {x4 : Int32} {σ : sj_S} (h : wp_X2_collect_66 G R x2 x3 x4 σ) : sj_J G 4 me_X2_collect R 66 [.ref (sj_ad G 41), .ref (sj_ad G 1), .int x2, .int x3, .int x4, .null] σ [] := by
  unfold wp_X2_collect_66 at h
  refine sj_iinc (v := (x4 + (nI 1))) dX2_collect_66 (by decide) rfl rfl ?_
  refine sj_goto (tgt := 10) dX2_collect_69 (by decide) ?_
  exact h
def wp_X2_collect_40 (G : sj_G) (R : sj_R) (x2 : Int32) (x3 : Int32) (x4 : Int32) (s0 : Int32) (σ : sj_S) : Prop := (¬ s0 = 0 → (wp_X2_collect_66 G R x2 x3 x4 σ)) ∧ (s0 = 0 → ∃ v3 σ3, sj_C G 2 me_X8_isIll [.ref (sj_ad G 1), .int x4, .int (x2 / (nI 4))] σ (.ok v3, σ3) ∧ (wp_X2_collect_66 G R x2 (if v3 = 0 then (x3 ||| ((nI 1) <<< (x4 &&& 31))) else x3) x4 σ3))
set_option maxRecDepth 20000 in
theorem t_X2_collect_40 {G : sj_G} {R : sj_R} {x2 : Int32} {x3 : Int32} {x4 : Int32} {s0 : Int32} {σ : sj_S} (h : wp_X2_collect_40 G R x2 x3 x4 s0 σ) : sj_J G 4 me_X2_collect R 40 [.ref (sj_ad G 41), .ref (sj_ad G 1), .int x2, .int x3, .int x4, .null] σ [.int s0] := by
  unfold wp_X2_collect_40 at h
  refine sj_istore dX2_collect_40 (by decide) ?_
  refine sj_iload dX2_collect_42 rfl ?_
  refine sj_if_ne (tgt := 66) dX2_collect_44 (by decide) (fun c2 => ?_) (fun c2 => ?_)
  · replace h := h.1 c2
    refine sj_fg [5] ?_
    exact t_X2_collect_66 h
  · replace h := h.2 c2
    refine sj_aload_n dX2_collect_47 (i := 1) rfl rfl ?_
    refine sj_iload dX2_collect_48 rfl ?_
    refine sj_iload_n dX2_collect_50 (i := 2) rfl rfl ?_
    refine sj_iconst (v := (nI 4)) dX2_collect_51 (by decide +kernel) ?_
    refine sj_idiv dX2_collect_52 (by decide +kernel) ?_
    obtain ⟨v3, σ3, hc3, h⟩ := h
    refine sj_callVi (M' := me_X8_isIll) (b := 1) (As := [.int x4, .int (x2 / (nI 4))]) (rest := []) dX2_collect_53 gX2_collect_X8_isIll rfl hd_X8_isIll (by decide +kernel) (by decide +kernel) rfl (Nat.le_of_ble_eq_true rfl) (by omega) rfl hc3 ?_
    refine sj_if_ne (tgt := 66) dX2_collect_56 (by decide) (fun c4 => ?_) (fun c4 => ?_)
    · try simp only [if_neg c4] at h
      refine sj_fg [5] ?_
      exact t_X2_collect_66 h
    · refine sj_iload_n dX2_collect_59 (i := 3) rfl rfl ?_
      refine sj_iconst (v := (nI 1)) dX2_collect_60 (by decide +kernel) ?_
      refine sj_iload dX2_collect_61 rfl ?_
      refine sj_ishl dX2_collect_63 ?_
      refine sj_ior dX2_collect_64 ?_
      refine sj_istore_n dX2_collect_65 (i := 3) rfl (by decide) ?_
      try simp only [if_pos c4] at h
      refine sj_fg [5] ?_
      exact t_X2_collect_66 h
def wp_X2_collect_10 (G : sj_G) (R : sj_R) (x2 : Int32) (x3 : Int32) (x4 : Int32) (σ : sj_S) : Prop := ((nI 6) ≤ x4 → sj_J G 4 me_X2_collect R 75 [.ref (sj_ad G 41), .ref (sj_ad G 1), .int x2, .int x3, .int (nI 0), .null] σ []) ∧ (¬ ((nI 6) ≤ x4) → ∃ v2 σ2, sj_C G 3 me_X8_slotsOfPerson [.ref (sj_ad G 1), .int (nI 1), .int x4, .ref (sj_ad G 3)] σ (.ok v2, σ2) ∧ (wp_X2_collect_40 G R x2 x3 x4 (if ((v2 >>> (x2 &&& 31)) &&& (nI 1)) = 0 then (nI 0) else (nI 1)) σ2))
set_option maxRecDepth 20000 in
theorem t_X2_collect_10 {G : sj_G} {R : sj_R} {x2 : Int32} {x3 : Int32} {x4 : Int32} {σ : sj_S} (h : wp_X2_collect_10 G R x2 x3 x4 σ) : sj_J G 4 me_X2_collect R 10 [.ref (sj_ad G 41), .ref (sj_ad G 1), .int x2, .int x3, .int x4, .null] σ [] := by
  unfold wp_X2_collect_10 at h
  refine sj_iload dX2_collect_10 rfl ?_
  refine sj_bipush (v := (nI 6)) dX2_collect_12 (by decide +kernel) ?_
  refine sj_icmp_ge (tgt := 72) dX2_collect_14 (by decide) (fun c1 => ?_) (fun c1 => ?_)
  · replace h := h.1 c1
    refine sj_iconst (v := (nI 0)) dX2_collect_72 (by decide +kernel) ?_
    refine sj_istore dX2_collect_73 (by decide) ?_
    exact h
  · replace h := h.2 c1
    refine sj_aload_n dX2_collect_17 (i := 1) rfl rfl ?_
    refine sj_iconst (v := (nI 1)) dX2_collect_18 (by decide +kernel) ?_
    refine sj_iload dX2_collect_19 rfl ?_
    refine sj_aload_n dX2_collect_21 (i := 1) rfl rfl ?_
    refine sj_get (a := 1) (k9 := 1) (v := .ref (sj_ad G 3)) dX2_collect_22 (by decide +kernel) rfl ?_
    obtain ⟨v2, σ2, hc2, h⟩ := h
    refine sj_callVi (M' := me_X8_slotsOfPerson) (b := 1) (As := [.int (nI 1), .int x4, .ref (sj_ad G 3)]) (rest := []) dX2_collect_25 gX2_collect_X8_slotsOfPerson rfl hd_X8_slotsOfPerson (by decide +kernel) (by decide +kernel) rfl (Nat.le_of_ble_eq_true rfl) (by omega) rfl hc2 ?_
    refine sj_iload_n dX2_collect_28 (i := 2) rfl rfl ?_
    refine sj_ishr dX2_collect_29 ?_
    refine sj_iconst (v := (nI 1)) dX2_collect_30 (by decide +kernel) ?_
    refine sj_iand dX2_collect_31 ?_
    refine sj_if_eq (tgt := 39) dX2_collect_32 (by decide) (fun c3 => ?_) (fun c3 => ?_)
    · refine sj_iconst (v := (nI 0)) dX2_collect_39 (by decide +kernel) ?_
      try simp only [if_pos c3] at h
      exact t_X2_collect_40 h
    · refine sj_iconst (v := (nI 1)) dX2_collect_35 (by decide +kernel) ?_
      refine sj_goto (tgt := 40) dX2_collect_36 (by decide) ?_
      try simp only [if_neg c3] at h
      exact t_X2_collect_40 h
def wp_X2_collect_164 (G : sj_G) (R : sj_R) (x2 : Int32) (x3 : Int32) (x4 : Int32) (σ : sj_S) : Prop := sj_J G 4 me_X2_collect R 75 [.ref (sj_ad G 41), .ref (sj_ad G 1), .int x2, .int x3, .int (x4 + (nI 1)), .null] σ []
set_option maxRecDepth 20000 in
theorem t_X2_collect_164 {G : sj_G} {R : sj_R} {x2 : Int32} {x3 : Int32} {x4 : Int32} {σ : sj_S} (h : wp_X2_collect_164 G R x2 x3 x4 σ) : sj_J G 4 me_X2_collect R 164 [.ref (sj_ad G 41), .ref (sj_ad G 1), .int x2, .int x3, .int x4, .null] σ [] := by
  unfold wp_X2_collect_164 at h
  refine sj_iinc (v := (x4 + (nI 1))) dX2_collect_164 (by decide) rfl rfl ?_
  refine sj_goto (tgt := 75) dX2_collect_167 (by decide) ?_
  exact h
def wp_X2_collect_106 (G : sj_G) (R : sj_R) (x2 : Int32) (x3 : Int32) (x4 : Int32) (s0 : Int32) (σ : sj_S) : Prop := (s0 = 0 → (wp_X2_collect_164 G R x2 x3 x4 σ)) ∧ (¬ (s0 = 0) → ∃ v3 σ3, sj_C G 2 me_X8_ofLesson [.ref (sj_ad G 1), .int x4, .int (nI 1)] σ (.ok v3, σ3) ∧ ∃ v4 σ4, sj_C G 2 me_X8_isIll [.ref (sj_ad G 1), .int v3, .int (x2 / (nI 4))] σ3 (.ok v4, σ4) ∧ (v4 = 0 → (wp_X2_collect_164 G R x2 x3 x4 σ4)) ∧ (¬ (v4 = 0) → ∃ v7 σ7, sj_C G 2 me_X8_ofLesson [.ref (sj_ad G 1), .int x4, .int (nI 2)] (sj_st σ4 41 1 ((σ4 41 1) ||| ((nI 1) <<< (x4 &&& 31)))) (.ok v7, σ7) ∧ ∃ v8 σ8, sj_C G 3 me_X2_teachersOf [.ref (sj_ad G 41), .ref (sj_ad G 1), .int v7] σ7 (.ok v8, σ8) ∧ vp_in x4 9 ∧ (wp_X2_collect_164 G R x2 x3 x4 (sj_st σ8 43 x4.toNatClampNeg (x3 &&& v8)))))
set_option maxRecDepth 20000 in
theorem t_X2_collect_106 {G : sj_G} {R : sj_R} {x2 : Int32} {x3 : Int32} {x4 : Int32} {s0 : Int32} {σ : sj_S} (h : wp_X2_collect_106 G R x2 x3 x4 s0 σ) : sj_J G 4 me_X2_collect R 106 [.ref (sj_ad G 41), .ref (sj_ad G 1), .int x2, .int x3, .int x4, .null] σ [.int s0] := by
  unfold wp_X2_collect_106 at h
  refine sj_istore dX2_collect_106 (by decide) ?_
  refine sj_iload dX2_collect_108 rfl ?_
  refine sj_if_eq (tgt := 164) dX2_collect_110 (by decide) (fun c2 => ?_) (fun c2 => ?_)
  · replace h := h.1 c2
    refine sj_fg [5] ?_
    exact t_X2_collect_164 h
  · replace h := h.2 c2
    refine sj_aload_n dX2_collect_113 (i := 1) rfl rfl ?_
    refine sj_aload_n dX2_collect_114 (i := 1) rfl rfl ?_
    refine sj_iload dX2_collect_115 rfl ?_
    refine sj_iconst (v := (nI 1)) dX2_collect_117 (by decide +kernel) ?_
    obtain ⟨v3, σ3, hc3, h⟩ := h
    refine sj_callVi (M' := me_X8_ofLesson) (b := 1) (As := [.int x4, .int (nI 1)]) (rest := [.ref (sj_ad G 1)]) dX2_collect_118 gX2_collect_X8_ofLesson rfl hd_X8_ofLesson (by decide +kernel) (by decide +kernel) rfl (Nat.le_of_ble_eq_true rfl) (by omega) rfl hc3 ?_
    refine sj_iload_n dX2_collect_121 (i := 2) rfl rfl ?_
    refine sj_iconst (v := (nI 4)) dX2_collect_122 (by decide +kernel) ?_
    refine sj_idiv dX2_collect_123 (by decide +kernel) ?_
    obtain ⟨v4, σ4, hc4, h⟩ := h
    refine sj_callVi (M' := me_X8_isIll) (b := 1) (As := [.int v3, .int (x2 / (nI 4))]) (rest := []) dX2_collect_124 gX2_collect_X8_isIll rfl hd_X8_isIll (by decide +kernel) (by decide +kernel) rfl (Nat.le_of_ble_eq_true rfl) (by omega) rfl hc4 ?_
    refine sj_if_eq (tgt := 164) dX2_collect_127 (by decide) (fun c6 => ?_) (fun c6 => ?_)
    · replace h := h.1 c6
      refine sj_fg [5] ?_
      exact t_X2_collect_164 h
    · replace h := h.2 c6
      refine sj_aload_n dX2_collect_130 (i := 0) rfl rfl ?_
      refine sj_dup dX2_collect_131 rfl ?_
      refine sj_get (a := 41) (k9 := 1) (v := .int (σ4 41 1)) dX2_collect_132 (by decide +kernel) rfl ?_
      refine sj_iconst (v := (nI 1)) dX2_collect_135 (by decide +kernel) ?_
      refine sj_iload dX2_collect_136 rfl ?_
      refine sj_ishl dX2_collect_138 ?_
      refine sj_ior dX2_collect_139 ?_
      refine sj_put (a := 41) (k9 := 1) dX2_collect_140 (by decide +kernel) (by decide +kernel) rfl ?_
      refine sj_aload_n dX2_collect_143 (i := 0) rfl rfl ?_
      refine sj_get (a := 41) (k9 := 4) (v := .ref (sj_ad G 43)) dX2_collect_144 (by decide +kernel) rfl ?_
      refine sj_iload dX2_collect_147 rfl ?_
      refine sj_iload_n dX2_collect_149 (i := 3) rfl rfl ?_
      refine sj_aload_n dX2_collect_150 (i := 0) rfl rfl ?_
      refine sj_aload_n dX2_collect_151 (i := 1) rfl rfl ?_
      refine sj_aload_n dX2_collect_152 (i := 1) rfl rfl ?_
      refine sj_iload dX2_collect_153 rfl ?_
      refine sj_iconst (v := (nI 2)) dX2_collect_155 (by decide +kernel) ?_
      obtain ⟨v7, σ7, hc7, h⟩ := h
      refine sj_callVi (M' := me_X8_ofLesson) (b := 1) (As := [.int x4, .int (nI 2)]) (rest := [.ref (sj_ad G 1), .ref (sj_ad G 41), .int x3, .int x4, .ref (sj_ad G 43)]) dX2_collect_156 gX2_collect_X8_ofLesson rfl hd_X8_ofLesson (by decide +kernel) (by decide +kernel) rfl (Nat.le_of_ble_eq_true rfl) (by omega) rfl hc7 ?_
      obtain ⟨v8, σ8, hc8, h⟩ := h
      refine sj_callVi (M' := me_X2_teachersOf) (b := 41) (As := [.ref (sj_ad G 1), .int v7]) (rest := [.int x3, .int x4, .ref (sj_ad G 43)]) dX2_collect_159 gX2_collect_X2_teachersOf rfl hd_X2_teachersOf (by decide +kernel) (by decide +kernel) rfl (Nat.le_of_ble_eq_true rfl) (by omega) rfl hc8 ?_
      refine sj_iand dX2_collect_162 ?_
      obtain ⟨b9, h⟩ := h
      refine sj_iast (a := 43) (j := x4.toNatClampNeg) dX2_collect_163 rfl (by decide +kernel) b9 rfl ?_
      refine sj_fg [5] ?_
      exact t_X2_collect_164 h
def wp_X2_collect_75 (G : sj_G) (R : sj_R) (x2 : Int32) (x3 : Int32) (x4 : Int32) (σ : sj_S) : Prop := ∃ v1 σ1, sj_C G 2 me_X8_lessonTotal [.ref (sj_ad G 1)] σ (.ok v1, σ1) ∧ (v1 ≤ x4 → R = (.ok 0, σ1)) ∧ (¬ (v1 ≤ x4) → ∃ v3 σ3, sj_C G 2 me_X8_slotsTaken [.ref (sj_ad G 1), .int x4, .ref (sj_ad G 3)] σ1 (.ok v3, σ3) ∧ (wp_X2_collect_106 G R x2 x3 x4 (if ((v3 >>> (x2 &&& 31)) &&& (nI 1)) = 0 then (nI 0) else (nI 1)) σ3))
set_option maxRecDepth 20000 in
theorem t_X2_collect_75 {G : sj_G} {R : sj_R} {x2 : Int32} {x3 : Int32} {x4 : Int32} {σ : sj_S} (h : wp_X2_collect_75 G R x2 x3 x4 σ) : sj_J G 4 me_X2_collect R 75 [.ref (sj_ad G 41), .ref (sj_ad G 1), .int x2, .int x3, .int x4, .null] σ [] := by
  unfold wp_X2_collect_75 at h
  refine sj_iload dX2_collect_75 rfl ?_
  refine sj_aload_n dX2_collect_77 (i := 1) rfl rfl ?_
  obtain ⟨v1, σ1, hc1, h⟩ := h
  refine sj_callVi (M' := me_X8_lessonTotal) (b := 1) (As := []) (rest := [.int x4]) dX2_collect_78 gX2_collect_X8_lessonTotal rfl hd_X8_lessonTotal (by decide +kernel) (by decide +kernel) rfl (Nat.le_of_ble_eq_true rfl) (by omega) rfl hc1 ?_
  refine sj_icmp_ge (tgt := 170) dX2_collect_81 (by decide) (fun c2 => ?_) (fun c2 => ?_)
  · replace h := h.1 c2
    subst h
    exact sj_vret dX2_collect_170 rfl
  · replace h := h.2 c2
    refine sj_aload_n dX2_collect_84 (i := 1) rfl rfl ?_
    refine sj_iload dX2_collect_85 rfl ?_
    refine sj_aload_n dX2_collect_87 (i := 1) rfl rfl ?_
    refine sj_get (a := 1) (k9 := 1) (v := .ref (sj_ad G 3)) dX2_collect_88 (by decide +kernel) rfl ?_
    obtain ⟨v3, σ3, hc3, h⟩ := h
    refine sj_callVi (M' := me_X8_slotsTaken) (b := 1) (As := [.int x4, .ref (sj_ad G 3)]) (rest := []) dX2_collect_91 gX2_collect_X8_slotsTaken rfl hd_X8_slotsTaken (by decide +kernel) (by decide +kernel) rfl (Nat.le_of_ble_eq_true rfl) (by omega) rfl hc3 ?_
    refine sj_iload_n dX2_collect_94 (i := 2) rfl rfl ?_
    refine sj_ishr dX2_collect_95 ?_
    refine sj_iconst (v := (nI 1)) dX2_collect_96 (by decide +kernel) ?_
    refine sj_iand dX2_collect_97 ?_
    refine sj_if_eq (tgt := 105) dX2_collect_98 (by decide) (fun c4 => ?_) (fun c4 => ?_)
    · refine sj_iconst (v := (nI 0)) dX2_collect_105 (by decide +kernel) ?_
      try simp only [if_pos c4] at h
      exact t_X2_collect_106 h
    · refine sj_iconst (v := (nI 1)) dX2_collect_101 (by decide +kernel) ?_
      refine sj_goto (tgt := 106) dX2_collect_102 (by decide) ?_
      try simp only [if_neg c4] at h
      exact t_X2_collect_106 h
def wp_X2_collect_0 (G : sj_G) (R : sj_R) (x2 : Int32) (σ : sj_S) : Prop := sj_J G 4 me_X2_collect R 10 [.ref (sj_ad G 41), .ref (sj_ad G 1), .int x2, .int (nI 0), .int (nI 0), .null] (sj_st σ 41 1 (nI 0)) []
set_option maxRecDepth 20000 in
theorem t_X2_collect_0 {G : sj_G} {R : sj_R} {x2 : Int32} {σ : sj_S} (h : wp_X2_collect_0 G R x2 σ) : sj_J G 4 me_X2_collect R 0 [.ref (sj_ad G 41), .ref (sj_ad G 1), .int x2, .null, .null, .null] σ [] := by
  unfold wp_X2_collect_0 at h
  refine sj_aload_n dX2_collect_0 (i := 0) rfl rfl ?_
  refine sj_iconst (v := (nI 0)) dX2_collect_1 (by decide +kernel) ?_
  refine sj_put (a := 41) (k9 := 1) dX2_collect_2 (by decide +kernel) (by decide +kernel) rfl ?_
  refine sj_iconst (v := (nI 0)) dX2_collect_5 (by decide +kernel) ?_
  refine sj_istore_n dX2_collect_6 (i := 3) rfl (by decide) ?_
  refine sj_iconst (v := (nI 0)) dX2_collect_7 (by decide +kernel) ?_
  refine sj_istore dX2_collect_8 (by decide) ?_
  exact h
theorem c_X2_collect {G : sj_G} (ok : sj_ok G) {R : sj_R} {x2 : Int32} {σ : sj_S} (h : wp_X2_collect_0 G R x2 σ) : sj_C G 4 me_X2_collect [.ref (sj_ad G 41), .ref (sj_ad G 1), .int x2] σ R :=
  sj_enter ok (by decide +kernel) rfl rfl (Nat.le_of_ble_eq_true rfl) (by simp [Value.category]) (t_X2_collect_0 h)
def wp_X2_teachersOf_5 (G : sj_G) (R : sj_R) (x2 : Int32) (x3 : Int32) (x4 : Int32) (σ : sj_S) : Prop := ((nI 6) ≤ x4 → R = (.ok x3, σ)) ∧ (¬ ((nI 6) ≤ x4) → ∃ v2 σ2, sj_C G 2 me_X8_subjectsOf [.ref (sj_ad G 1), .int x4] σ (.ok v2, σ2) ∧ sj_J G 3 me_X2_teachersOf R 5 [.null, .ref (sj_ad G 1), .int x2, .int (x3 ||| (((v2 >>> (x2 &&& 31)) &&& (nI 1)) <<< (x4 &&& 31))), .int (x4 + (nI 1))] σ2 [])
set_option maxRecDepth 20000 in
theorem t_X2_teachersOf_5 {G : sj_G} {R : sj_R} {x2 : Int32} {x3 : Int32} {x4 : Int32} {σ : sj_S} (h : wp_X2_teachersOf_5 G R x2 x3 x4 σ) : sj_J G 3 me_X2_teachersOf R 5 [.null, .ref (sj_ad G 1), .int x2, .int x3, .int x4] σ [] := by
  unfold wp_X2_teachersOf_5 at h
  refine sj_iload dX2_teachersOf_5 rfl ?_
  refine sj_bipush (v := (nI 6)) dX2_teachersOf_7 (by decide +kernel) ?_
  refine sj_icmp_ge (tgt := 34) dX2_teachersOf_9 (by decide) (fun c1 => ?_) (fun c1 => ?_)
  · replace h := h.1 c1
    refine sj_iload_n dX2_teachersOf_34 (i := 3) rfl rfl ?_
    subst h
    exact sj_ret dX2_teachersOf_35 rfl rfl
  · replace h := h.2 c1
    refine sj_iload_n dX2_teachersOf_12 (i := 3) rfl rfl ?_
    refine sj_aload_n dX2_teachersOf_13 (i := 1) rfl rfl ?_
    refine sj_iload dX2_teachersOf_14 rfl ?_
    obtain ⟨v2, σ2, hc2, h⟩ := h
    refine sj_callVi (M' := me_X8_subjectsOf) (b := 1) (As := [.int x4]) (rest := [.int x3]) dX2_teachersOf_16 gX2_teachersOf_X8_subjectsOf rfl hd_X8_subjectsOf (by decide +kernel) (by decide +kernel) rfl (Nat.le_of_ble_eq_true rfl) (by omega) rfl hc2 ?_
    refine sj_iload_n dX2_teachersOf_19 (i := 2) rfl rfl ?_
    refine sj_ishr dX2_teachersOf_20 ?_
    refine sj_iconst (v := (nI 1)) dX2_teachersOf_21 (by decide +kernel) ?_
    refine sj_iand dX2_teachersOf_22 ?_
    refine sj_iload dX2_teachersOf_23 rfl ?_
    refine sj_ishl dX2_teachersOf_25 ?_
    refine sj_ior dX2_teachersOf_26 ?_
    refine sj_istore_n dX2_teachersOf_27 (i := 3) rfl (by decide) ?_
    refine sj_iinc (v := (x4 + (nI 1))) dX2_teachersOf_28 (by decide) rfl rfl ?_
    refine sj_goto (tgt := 5) dX2_teachersOf_31 (by decide) ?_
    exact h
def wp_X2_teachersOf_0 (G : sj_G) (R : sj_R) (x2 : Int32) (σ : sj_S) : Prop := sj_J G 3 me_X2_teachersOf R 5 [.null, .ref (sj_ad G 1), .int x2, .int (nI 0), .int (nI 0)] σ []
set_option maxRecDepth 20000 in
theorem t_X2_teachersOf_0 {G : sj_G} {R : sj_R} {x2 : Int32} {σ : sj_S} (h : wp_X2_teachersOf_0 G R x2 σ) : sj_J G 3 me_X2_teachersOf R 0 [.ref (sj_ad G 41), .ref (sj_ad G 1), .int x2, .null, .null] σ [] := by
  unfold wp_X2_teachersOf_0 at h
  refine sj_iconst (v := (nI 0)) dX2_teachersOf_0 (by decide +kernel) ?_
  refine sj_istore_n dX2_teachersOf_1 (i := 3) rfl (by decide) ?_
  refine sj_iconst (v := (nI 0)) dX2_teachersOf_2 (by decide +kernel) ?_
  refine sj_istore dX2_teachersOf_3 (by decide) ?_
  refine sj_fg [0] ?_
  exact h
theorem c_X2_teachersOf {G : sj_G} (ok : sj_ok G) {R : sj_R} {x2 : Int32} {σ : sj_S} (h : wp_X2_teachersOf_0 G R x2 σ) : sj_C G 3 me_X2_teachersOf [.ref (sj_ad G 41), .ref (sj_ad G 1), .int x2] σ R :=
  sj_enter ok (by decide +kernel) rfl rfl (Nat.le_of_ble_eq_true rfl) (by simp [Value.category]) (t_X2_teachersOf_0 h)
def wp_X2_leastTaker_75 (G : sj_G) (R : sj_R) (x1 : Int32) (x2 : Int32) (x3 : Int32) (σ : sj_S) : Prop := sj_J G 41 me_X2_leastTaker R 2 [.ref (sj_ad G 41), .int x1, .int x2, .int (x3 + (nI 1)), .null, .null] σ []
set_option maxRecDepth 20000 in
theorem t_X2_leastTaker_75 {G : sj_G} {R : sj_R} {x1 : Int32} {x2 : Int32} {x3 : Int32} {σ : sj_S} (h : wp_X2_leastTaker_75 G R x1 x2 x3 σ) : sj_J G 41 me_X2_leastTaker R 75 [.ref (sj_ad G 41), .int x1, .int x2, .int x3, .null, .null] σ [] := by
  unfold wp_X2_leastTaker_75 at h
  refine sj_iinc (v := (x3 + (nI 1))) dX2_leastTaker_75 (by decide) rfl rfl ?_
  refine sj_goto (tgt := 2) dX2_leastTaker_78 (by decide) ?_
  exact h
def wp_X2_leastTaker_44 (G : sj_G) (R : sj_R) (x1 : Int32) (x2 : Int32) (x3 : Int32) (x4 : Int32) (s0 : Int32) (σ : sj_S) : Prop := (s0 = 0 → (wp_X2_leastTaker_75 G R x1 x2 x3 σ)) ∧ (¬ (s0 = 0) → ∃ v2 σ2, sj_C G 40 me_X2_mostTaken [.ref (sj_ad G 43), .int (σ 41 1), .int x4, .int (x1 + (nI 1))] σ (.ok v2, σ2) ∧ (((nI 1) + v2) < x2 → (wp_X2_leastTaker_75 G R x1 x2 x3 σ2)) ∧ (¬ (((nI 1) + v2) < x2) → R = (.ok x3, σ2)))
set_option maxRecDepth 20000 in
theorem t_X2_leastTaker_44 {G : sj_G} {R : sj_R} {x1 : Int32} {x2 : Int32} {x3 : Int32} {x4 : Int32} {s0 : Int32} {σ : sj_S} (h : wp_X2_leastTaker_44 G R x1 x2 x3 x4 s0 σ) : sj_J G 41 me_X2_leastTaker R 44 [.ref (sj_ad G 41), .int x1, .int x2, .int x3, .int x4, .null] σ [.int s0] := by
  unfold wp_X2_leastTaker_44 at h
  refine sj_istore dX2_leastTaker_44 (by decide) ?_
  refine sj_iload dX2_leastTaker_46 rfl ?_
  refine sj_if_eq (tgt := 75) dX2_leastTaker_48 (by decide) (fun c1 => ?_) (fun c1 => ?_)
  · replace h := h.1 c1
    refine sj_fg [4, 5] ?_
    exact t_X2_leastTaker_75 h
  · replace h := h.2 c1
    refine sj_iconst (v := (nI 1)) dX2_leastTaker_51 (by decide +kernel) ?_
    refine sj_aload_n dX2_leastTaker_52 (i := 0) rfl rfl ?_
    refine sj_get (a := 41) (k9 := 4) (v := .ref (sj_ad G 43)) dX2_leastTaker_53 (by decide +kernel) rfl ?_
    refine sj_aload_n dX2_leastTaker_56 (i := 0) rfl rfl ?_
    refine sj_get (a := 41) (k9 := 1) (v := .int (σ 41 1)) dX2_leastTaker_57 (by decide +kernel) rfl ?_
    refine sj_iload dX2_leastTaker_60 rfl ?_
    refine sj_iload_n dX2_leastTaker_62 (i := 1) rfl rfl ?_
    refine sj_iconst (v := (nI 1)) dX2_leastTaker_63 (by decide +kernel) ?_
    refine sj_iadd dX2_leastTaker_64 ?_
    obtain ⟨v2, σ2, hc2, h⟩ := h
    refine sj_callSi (M' := me_X2_mostTaken) (As := [.ref (sj_ad G 43), .int (σ 41 1), .int x4, .int (x1 + (nI 1))]) (rest := [.int (nI 1)]) dX2_leastTaker_65 gX2_leastTaker_X2_mostTaken rfl hd_X2_mostTaken (Nat.le_of_ble_eq_true rfl) (by omega) rfl hc2 ?_
    refine sj_iadd dX2_leastTaker_68 ?_
    refine sj_iload_n dX2_leastTaker_69 (i := 2) rfl rfl ?_
    refine sj_icmp_lt (tgt := 75) dX2_leastTaker_70 (by decide) (fun c3 => ?_) (fun c3 => ?_)
    · replace h := h.1 c3
      refine sj_fg [4, 5] ?_
      exact t_X2_leastTaker_75 h
    · replace h := h.2 c3
      refine sj_iload_n dX2_leastTaker_73 (i := 3) rfl rfl ?_
      subst h
      exact sj_ret dX2_leastTaker_74 rfl rfl
def wp_X2_leastTaker_2 (G : sj_G) (R : sj_R) (x1 : Int32) (x2 : Int32) (x3 : Int32) (σ : sj_S) : Prop := ((nI 6) ≤ x3 → R = (.ok (-1), σ)) ∧ (¬ ((nI 6) ≤ x3) → vp_in x1 9 ∧ (wp_X2_leastTaker_44 G R x1 x2 x3 ((σ 41 3) &&& (((nI 1) <<< (x3 &&& 31)) ^^^ (-1))) (if (((σ 43 x1.toNatClampNeg) &&& (σ 41 3)) &&& (((σ 41 3) &&& (((nI 1) <<< (x3 &&& 31)) ^^^ (-1))) ^^^ (-1))) = 0 then (nI 0) else (nI 1)) σ))
set_option maxRecDepth 20000 in
theorem t_X2_leastTaker_2 {G : sj_G} {R : sj_R} {x1 : Int32} {x2 : Int32} {x3 : Int32} {σ : sj_S} (h : wp_X2_leastTaker_2 G R x1 x2 x3 σ) : sj_J G 41 me_X2_leastTaker R 2 [.ref (sj_ad G 41), .int x1, .int x2, .int x3, .null, .null] σ [] := by
  unfold wp_X2_leastTaker_2 at h
  refine sj_iload_n dX2_leastTaker_2 (i := 3) rfl rfl ?_
  refine sj_bipush (v := (nI 6)) dX2_leastTaker_3 (by decide +kernel) ?_
  refine sj_icmp_ge (tgt := 81) dX2_leastTaker_5 (by decide) (fun c1 => ?_) (fun c1 => ?_)
  · replace h := h.1 c1
    refine sj_iconst (v := (-1)) dX2_leastTaker_81 (by decide +kernel) ?_
    subst h
    exact sj_ret dX2_leastTaker_82 rfl rfl
  · replace h := h.2 c1
    refine sj_aload_n dX2_leastTaker_8 (i := 0) rfl rfl ?_
    refine sj_get (a := 41) (k9 := 3) (v := .int (σ 41 3)) dX2_leastTaker_9 (by decide +kernel) rfl ?_
    refine sj_iconst (v := (nI 1)) dX2_leastTaker_12 (by decide +kernel) ?_
    refine sj_iload_n dX2_leastTaker_13 (i := 3) rfl rfl ?_
    refine sj_ishl dX2_leastTaker_14 ?_
    refine sj_iconst (v := (-1)) dX2_leastTaker_15 (by decide +kernel) ?_
    refine sj_ixor dX2_leastTaker_16 ?_
    refine sj_iand dX2_leastTaker_17 ?_
    refine sj_istore dX2_leastTaker_18 (by decide) ?_
    refine sj_aload_n dX2_leastTaker_20 (i := 0) rfl rfl ?_
    refine sj_get (a := 41) (k9 := 4) (v := .ref (sj_ad G 43)) dX2_leastTaker_21 (by decide +kernel) rfl ?_
    refine sj_iload_n dX2_leastTaker_24 (i := 1) rfl rfl ?_
    obtain ⟨b2, h⟩ := h
    refine sj_iald (a := 43) (j := x1.toNatClampNeg) (x := (σ 43 x1.toNatClampNeg)) dX2_leastTaker_25 rfl (by decide +kernel) b2 rfl rfl ?_
    refine sj_aload_n dX2_leastTaker_26 (i := 0) rfl rfl ?_
    refine sj_get (a := 41) (k9 := 3) (v := .int (σ 41 3)) dX2_leastTaker_27 (by decide +kernel) rfl ?_
    refine sj_iand dX2_leastTaker_30 ?_
    refine sj_iload dX2_leastTaker_31 rfl ?_
    refine sj_iconst (v := (-1)) dX2_leastTaker_33 (by decide +kernel) ?_
    refine sj_ixor dX2_leastTaker_34 ?_
    refine sj_iand dX2_leastTaker_35 ?_
    refine sj_if_eq (tgt := 43) dX2_leastTaker_36 (by decide) (fun c3 => ?_) (fun c3 => ?_)
    · refine sj_iconst (v := (nI 0)) dX2_leastTaker_43 (by decide +kernel) ?_
      try simp only [if_pos c3] at h
      exact t_X2_leastTaker_44 h
    · refine sj_iconst (v := (nI 1)) dX2_leastTaker_39 (by decide +kernel) ?_
      refine sj_goto (tgt := 44) dX2_leastTaker_40 (by decide) ?_
      try simp only [if_neg c3] at h
      exact t_X2_leastTaker_44 h
def wp_X2_leastTaker_0 (G : sj_G) (R : sj_R) (x1 : Int32) (x2 : Int32) (σ : sj_S) : Prop := sj_J G 41 me_X2_leastTaker R 2 [.ref (sj_ad G 41), .int x1, .int x2, .int (nI 0), .null, .null] σ []
set_option maxRecDepth 20000 in
theorem t_X2_leastTaker_0 {G : sj_G} {R : sj_R} {x1 : Int32} {x2 : Int32} {σ : sj_S} (h : wp_X2_leastTaker_0 G R x1 x2 σ) : sj_J G 41 me_X2_leastTaker R 0 [.ref (sj_ad G 41), .int x1, .int x2, .null, .null, .null] σ [] := by
  unfold wp_X2_leastTaker_0 at h
  refine sj_iconst (v := (nI 0)) dX2_leastTaker_0 (by decide +kernel) ?_
  refine sj_istore_n dX2_leastTaker_1 (i := 3) rfl (by decide) ?_
  exact h
theorem c_X2_leastTaker {G : sj_G} (ok : sj_ok G) {R : sj_R} {x1 : Int32} {x2 : Int32} {σ : sj_S} (h : wp_X2_leastTaker_0 G R x1 x2 σ) : sj_C G 41 me_X2_leastTaker [.ref (sj_ad G 41), .int x1, .int x2] σ R :=
  sj_enter ok (by decide +kernel) rfl rfl (Nat.le_of_ble_eq_true rfl) (by simp [Value.category]) (t_X2_leastTaker_0 h)
def wp_X2_mostTaken_25 (G : sj_G) (R : sj_R) (d dd : Nat) (x1 : Int32) (x2 : Int32) (x4 : Int32) (σ : sj_S) : Prop := (x4 < (nI 9) → ∃ v2 σ2, sj_C G dd me_X2_mostTaken [.ref (sj_ad G 43), .int x1, .int x2, .int (x4 + (nI 1))] σ (.ok v2, σ2) ∧ sj_J G d me_X2_mostTaken R 49 [.ref (sj_ad G 43), .int x1, .int x2, .null, .int x4, .int v2, .int (nI 0), .null] σ2 []) ∧ (¬ (x4 < (nI 9)) → R = (.ok (nI 0), σ))
set_option maxRecDepth 20000 in
theorem t_X2_mostTaken_25 {G : sj_G} {R : sj_R} {d dd : Nat} {x1 : Int32} {x2 : Int32} {x4 : Int32} {σ : sj_S} (hdd : dd + 1 ≤ d) (h10 : 10 ≤ d) (h : wp_X2_mostTaken_25 G R d dd x1 x2 x4 σ) : sj_J G d me_X2_mostTaken R 25 [.ref (sj_ad G 43), .int x1, .int x2, .null, .int x4, .null, .null, .null] σ [] := by
  unfold wp_X2_mostTaken_25 at h
  refine sj_iload dX2_mostTaken_25 rfl ?_
  refine sj_bipush (v := (nI 9)) dX2_mostTaken_27 (by decide +kernel) ?_
  refine sj_icmp_lt (tgt := 34) dX2_mostTaken_29 (by decide) (fun c1 => ?_) (fun c1 => ?_)
  · replace h := h.1 c1
    refine sj_aload_n dX2_mostTaken_34 (i := 0) rfl rfl ?_
    refine sj_iload_n dX2_mostTaken_35 (i := 1) rfl rfl ?_
    refine sj_iload_n dX2_mostTaken_36 (i := 2) rfl rfl ?_
    refine sj_iload dX2_mostTaken_37 rfl ?_
    refine sj_iconst (v := (nI 1)) dX2_mostTaken_39 (by decide +kernel) ?_
    refine sj_iadd dX2_mostTaken_40 ?_
    obtain ⟨v2, σ2, hc2, h⟩ := h
    refine sj_callSi (M' := me_X2_mostTaken) (As := [.ref (sj_ad G 43), .int x1, .int x2, .int (x4 + (nI 1))]) (rest := []) dX2_mostTaken_41 gX2_mostTaken_X2_mostTaken rfl hd_X2_mostTaken (Nat.le_of_ble_eq_true rfl) (by omega) rfl hc2 ?_
    refine sj_istore dX2_mostTaken_44 (by decide) ?_
    refine sj_iconst (v := (nI 0)) dX2_mostTaken_46 (by decide +kernel) ?_
    refine sj_istore dX2_mostTaken_47 (by decide) ?_
    exact h
  · replace h := h.2 c1
    refine sj_iconst (v := (nI 0)) dX2_mostTaken_32 (by decide +kernel) ?_
    subst h
    exact sj_ret dX2_mostTaken_33 rfl rfl
def wp_X2_mostTaken_3 (G : sj_G) (R : sj_R) (d dd : Nat) (x1 : Int32) (x2 : Int32) (x4 : Int32) (σ : sj_S) : Prop := ((nI 9) ≤ x4 → (wp_X2_mostTaken_25 G R d dd x1 x2 x4 σ)) ∧ (¬ ((nI 9) ≤ x4) → (¬ ((x1 >>> (x4 &&& 31)) &&& (nI 1)) = 0 → (wp_X2_mostTaken_25 G R d dd x1 x2 x4 σ)) ∧ (((x1 >>> (x4 &&& 31)) &&& (nI 1)) = 0 → sj_J G d me_X2_mostTaken R 3 [.ref (sj_ad G 43), .int x1, .int x2, .null, .int (x4 + (nI 1)), .null, .null, .null] σ []))
set_option maxRecDepth 20000 in
theorem t_X2_mostTaken_3 {G : sj_G} {R : sj_R} {d dd : Nat} {x1 : Int32} {x2 : Int32} {x4 : Int32} {σ : sj_S} (hdd : dd + 1 ≤ d) (h10 : 10 ≤ d) (h : wp_X2_mostTaken_3 G R d dd x1 x2 x4 σ) : sj_J G d me_X2_mostTaken R 3 [.ref (sj_ad G 43), .int x1, .int x2, .null, .int x4, .null, .null, .null] σ [] := by
  unfold wp_X2_mostTaken_3 at h
  refine sj_iload dX2_mostTaken_3 rfl ?_
  refine sj_bipush (v := (nI 9)) dX2_mostTaken_5 (by decide +kernel) ?_
  refine sj_icmp_ge (tgt := 25) dX2_mostTaken_7 (by decide) (fun c3 => ?_) (fun c3 => ?_)
  · replace h := h.1 c3
    exact t_X2_mostTaken_25 hdd h10 h
  · replace h := h.2 c3
    refine sj_iload_n dX2_mostTaken_10 (i := 1) rfl rfl ?_
    refine sj_iload dX2_mostTaken_11 rfl ?_
    refine sj_ishr dX2_mostTaken_13 ?_
    refine sj_iconst (v := (nI 1)) dX2_mostTaken_14 (by decide +kernel) ?_
    refine sj_iand dX2_mostTaken_15 ?_
    refine sj_if_ne (tgt := 25) dX2_mostTaken_16 (by decide) (fun c5 => ?_) (fun c5 => ?_)
    · replace h := h.1 c5
      exact t_X2_mostTaken_25 hdd h10 h
    · replace h := h.2 c5
      refine sj_iinc (v := (x4 + (nI 1))) dX2_mostTaken_19 (by decide) rfl rfl ?_
      refine sj_goto (tgt := 3) dX2_mostTaken_22 (by decide) ?_
      exact h
def wp_X2_mostTaken_98 (G : sj_G) (R : sj_R) (d dd : Nat) (x1 : Int32) (x2 : Int32) (x4 : Int32) (x5 : Int32) (x6 : Int32) (σ : sj_S) : Prop := sj_J G d me_X2_mostTaken R 49 [.ref (sj_ad G 43), .int x1, .int x2, .null, .int x4, .int x5, .int (x6 + (nI 1)), .null] σ []
set_option maxRecDepth 20000 in
theorem t_X2_mostTaken_98 {G : sj_G} {R : sj_R} {d dd : Nat} {x1 : Int32} {x2 : Int32} {x4 : Int32} {x5 : Int32} {x6 : Int32} {σ : sj_S} (hdd : dd + 1 ≤ d) (h10 : 10 ≤ d) (h : wp_X2_mostTaken_98 G R d dd x1 x2 x4 x5 x6 σ) : sj_J G d me_X2_mostTaken R 98 [.ref (sj_ad G 43), .int x1, .int x2, .null, .int x4, .int x5, .int x6, .null] σ [] := by
  unfold wp_X2_mostTaken_98 at h
  refine sj_iinc (v := (x6 + (nI 1))) dX2_mostTaken_98 (by decide) rfl rfl ?_
  refine sj_goto (tgt := 49) dX2_mostTaken_101 (by decide) ?_
  exact h
def wp_X2_mostTaken_49 (G : sj_G) (R : sj_R) (d dd : Nat) (x1 : Int32) (x2 : Int32) (x4 : Int32) (x5 : Int32) (x6 : Int32) (σ : sj_S) : Prop := ((nI 6) ≤ x6 → R = (.ok x5, σ)) ∧ (¬ ((nI 6) ≤ x6) → vp_in x4 9 ∧ ((((σ 43 x4.toNatClampNeg) &&& x2) &&& ((nI 1) <<< (x6 &&& 31))) = 0 → (wp_X2_mostTaken_98 G R d dd x1 x2 x4 x5 x6 σ)) ∧ (¬ ((((σ 43 x4.toNatClampNeg) &&& x2) &&& ((nI 1) <<< (x6 &&& 31))) = 0) → ∃ v5 σ5, sj_C G dd me_X2_mostTaken [.ref (sj_ad G 43), .int x1, .int (x2 &&& (((nI 1) <<< (x6 &&& 31)) ^^^ (-1))), .int (x4 + (nI 1))] σ (.ok v5, σ5) ∧ (wp_X2_mostTaken_98 G R d dd x1 x2 x4 (if x5 < ((nI 1) + v5) then ((nI 1) + v5) else x5) x6 σ5)))
set_option maxRecDepth 20000 in
theorem t_X2_mostTaken_49 {G : sj_G} {R : sj_R} {d dd : Nat} {x1 : Int32} {x2 : Int32} {x4 : Int32} {x5 : Int32} {x6 : Int32} {σ : sj_S} (hdd : dd + 1 ≤ d) (h10 : 10 ≤ d) (h : wp_X2_mostTaken_49 G R d dd x1 x2 x4 x5 x6 σ) : sj_J G d me_X2_mostTaken R 49 [.ref (sj_ad G 43), .int x1, .int x2, .null, .int x4, .int x5, .int x6, .null] σ [] := by
  unfold wp_X2_mostTaken_49 at h
  refine sj_iload dX2_mostTaken_49 rfl ?_
  refine sj_bipush (v := (nI 6)) dX2_mostTaken_51 (by decide +kernel) ?_
  refine sj_icmp_ge (tgt := 104) dX2_mostTaken_53 (by decide) (fun c1 => ?_) (fun c1 => ?_)
  · replace h := h.1 c1
    refine sj_iload dX2_mostTaken_104 rfl ?_
    subst h
    exact sj_ret dX2_mostTaken_106 rfl rfl
  · replace h := h.2 c1
    refine sj_iconst (v := (nI 1)) dX2_mostTaken_56 (by decide +kernel) ?_
    refine sj_iload dX2_mostTaken_57 rfl ?_
    refine sj_ishl dX2_mostTaken_59 ?_
    refine sj_istore dX2_mostTaken_60 (by decide) ?_
    refine sj_aload_n dX2_mostTaken_62 (i := 0) rfl rfl ?_
    refine sj_iload dX2_mostTaken_63 rfl ?_
    obtain ⟨b2, h⟩ := h
    refine sj_iald (a := 43) (j := x4.toNatClampNeg) (x := (σ 43 x4.toNatClampNeg)) dX2_mostTaken_65 rfl (by decide +kernel) b2 rfl rfl ?_
    refine sj_iload_n dX2_mostTaken_66 (i := 2) rfl rfl ?_
    refine sj_iand dX2_mostTaken_67 ?_
    refine sj_iload dX2_mostTaken_68 rfl ?_
    refine sj_iand dX2_mostTaken_70 ?_
    refine sj_if_eq (tgt := 98) dX2_mostTaken_71 (by decide) (fun c4 => ?_) (fun c4 => ?_)
    · replace h := h.1 c4
      refine sj_fg [7] ?_
      exact t_X2_mostTaken_98 hdd h10 h
    · replace h := h.2 c4
      refine sj_iload dX2_mostTaken_74 rfl ?_
      refine sj_iconst (v := (nI 1)) dX2_mostTaken_76 (by decide +kernel) ?_
      refine sj_aload_n dX2_mostTaken_77 (i := 0) rfl rfl ?_
      refine sj_iload_n dX2_mostTaken_78 (i := 1) rfl rfl ?_
      refine sj_iload_n dX2_mostTaken_79 (i := 2) rfl rfl ?_
      refine sj_iload dX2_mostTaken_80 rfl ?_
      refine sj_iconst (v := (-1)) dX2_mostTaken_82 (by decide +kernel) ?_
      refine sj_ixor dX2_mostTaken_83 ?_
      refine sj_iand dX2_mostTaken_84 ?_
      refine sj_iload dX2_mostTaken_85 rfl ?_
      refine sj_iconst (v := (nI 1)) dX2_mostTaken_87 (by decide +kernel) ?_
      refine sj_iadd dX2_mostTaken_88 ?_
      obtain ⟨v5, σ5, hc5, h⟩ := h
      refine sj_callSi (M' := me_X2_mostTaken) (As := [.ref (sj_ad G 43), .int x1, .int (x2 &&& (((nI 1) <<< (x6 &&& 31)) ^^^ (-1))), .int (x4 + (nI 1))]) (rest := [.int (nI 1), .int x5]) dX2_mostTaken_89 gX2_mostTaken_X2_mostTaken rfl hd_X2_mostTaken (Nat.le_of_ble_eq_true rfl) (by omega) rfl hc5 ?_
      refine sj_iadd dX2_mostTaken_92 ?_
      refine sj_mmax dX2_mostTaken_93 (by decide +kernel) (by omega) (Nat.le_of_ble_eq_true rfl) ?_
      refine sj_istore dX2_mostTaken_96 (by decide) ?_
      refine sj_fg [7] ?_
      exact t_X2_mostTaken_98 hdd h10 h
def wp_X2_mostTaken_0 (G : sj_G) (R : sj_R) (d dd : Nat) (x1 : Int32) (x2 : Int32) (x3 : Int32) (σ : sj_S) : Prop := sj_J G d me_X2_mostTaken R 3 [.ref (sj_ad G 43), .int x1, .int x2, .null, .int x3, .null, .null, .null] σ []
set_option maxRecDepth 20000 in
theorem t_X2_mostTaken_0 {G : sj_G} {R : sj_R} {d dd : Nat} {x1 : Int32} {x2 : Int32} {x3 : Int32} {σ : sj_S} (hdd : dd + 1 ≤ d) (h10 : 10 ≤ d) (h : wp_X2_mostTaken_0 G R d dd x1 x2 x3 σ) : sj_J G d me_X2_mostTaken R 0 [.ref (sj_ad G 43), .int x1, .int x2, .int x3, .null, .null, .null, .null] σ [] := by
  unfold wp_X2_mostTaken_0 at h
  refine sj_iload_n dX2_mostTaken_0 (i := 3) rfl rfl ?_
  refine sj_istore dX2_mostTaken_1 (by decide) ?_
  refine sj_fg [3] ?_
  exact h
theorem c_X2_mostTaken {G : sj_G} (ok : sj_ok G) {R : sj_R} {d dd : Nat} {x1 : Int32} {x2 : Int32} {x3 : Int32} {σ : sj_S} (hdd : dd + 1 ≤ d) (h10 : 10 ≤ d) (h : wp_X2_mostTaken_0 G R d dd x1 x2 x3 σ) : sj_C G d me_X2_mostTaken [.ref (sj_ad G 43), .int x1, .int x2, .int x3] σ R :=
  sj_enter ok (by decide +kernel) rfl rfl (Nat.le_of_ble_eq_true rfl) (by simp [Value.category]) (t_X2_mostTaken_0 hdd h10 h)
def wp_X2_faults_2 (G : sj_G) (R : sj_R) (x2 : Int32) (σ : sj_S) : Prop := ((nI 20) ≤ x2 → R = (.ok (nI 0), σ)) ∧ (¬ ((nI 20) ≤ x2) → ∃ σ2, sj_C G 42 me_X2_plan [.ref (sj_ad G 41), .ref (sj_ad G 1), .int x2] σ (.ok 0, σ2) ∧ sj_J G 43 me_X2_faults R 16 [.ref (sj_ad G 41), .ref (sj_ad G 1), .int x2, .int (nI 0)] σ2 [])
set_option maxRecDepth 20000 in
theorem t_X2_faults_2 {G : sj_G} {R : sj_R} {x2 : Int32} {σ : sj_S} (h : wp_X2_faults_2 G R x2 σ) : sj_J G 43 me_X2_faults R 2 [.ref (sj_ad G 41), .ref (sj_ad G 1), .int x2, .null] σ [] := by
  unfold wp_X2_faults_2 at h
  refine sj_iload_n dX2_faults_2 (i := 2) rfl rfl ?_
  refine sj_bipush (v := (nI 20)) dX2_faults_3 (by decide +kernel) ?_
  refine sj_icmp_ge (tgt := 63) dX2_faults_5 (by decide) (fun c1 => ?_) (fun c1 => ?_)
  · replace h := h.1 c1
    refine sj_iconst (v := (nI 0)) dX2_faults_63 (by decide +kernel) ?_
    subst h
    exact sj_ret dX2_faults_64 rfl rfl
  · replace h := h.2 c1
    refine sj_aload_n dX2_faults_8 (i := 0) rfl rfl ?_
    refine sj_aload_n dX2_faults_9 (i := 1) rfl rfl ?_
    refine sj_iload_n dX2_faults_10 (i := 2) rfl rfl ?_
    obtain ⟨σ2, hc2, h⟩ := h
    refine sj_callVv (M' := me_X2_plan) (b := 41) (As := [.ref (sj_ad G 1), .int x2]) (rest := []) dX2_faults_11 gX2_faults_X2_plan rfl hd_X2_plan (by decide +kernel) (by decide +kernel) rfl (Nat.le_of_ble_eq_true rfl) (by omega) rfl hc2 ?_
    refine sj_iconst (v := (nI 0)) dX2_faults_14 (by decide +kernel) ?_
    refine sj_istore_n dX2_faults_15 (i := 3) rfl (by decide) ?_
    exact h
def wp_X2_faults_51 (G : sj_G) (R : sj_R) (x2 : Int32) (x3 : Int32) (σ : sj_S) : Prop := sj_J G 43 me_X2_faults R 16 [.ref (sj_ad G 41), .ref (sj_ad G 1), .int x2, .int (x3 + (nI 1))] σ []
set_option maxRecDepth 20000 in
theorem t_X2_faults_51 {G : sj_G} {R : sj_R} {x2 : Int32} {x3 : Int32} {σ : sj_S} (h : wp_X2_faults_51 G R x2 x3 σ) : sj_J G 43 me_X2_faults R 51 [.ref (sj_ad G 41), .ref (sj_ad G 1), .int x2, .int x3] σ [] := by
  unfold wp_X2_faults_51 at h
  refine sj_iinc (v := (x3 + (nI 1))) dX2_faults_51 (by decide) rfl rfl ?_
  refine sj_goto (tgt := 16) dX2_faults_54 (by decide) ?_
  exact h
def wp_X2_faults_16 (G : sj_G) (R : sj_R) (x2 : Int32) (x3 : Int32) (σ : sj_S) : Prop := ∃ v1 σ1, sj_C G 2 me_X8_lessonTotal [.ref (sj_ad G 1)] σ (.ok v1, σ1) ∧ (v1 ≤ x3 → sj_J G 43 me_X2_faults R 2 [.ref (sj_ad G 41), .ref (sj_ad G 1), .int (x2 + (nI 1)), .null] σ1 []) ∧ (¬ (v1 ≤ x3) → ((((σ1 41 2) >>> (x3 &&& 31)) &&& (nI 1)) = 0 → (wp_X2_faults_51 G R x2 x3 σ1)) ∧ (¬ ((((σ1 41 2) >>> (x3 &&& 31)) &&& (nI 1)) = 0) → vp_in x3 9 ∧ (((σ1 43 x3.toNatClampNeg) &&& (σ1 41 3)) = 0 → (wp_X2_faults_51 G R x2 x3 σ1)) ∧ (¬ (((σ1 43 x3.toNatClampNeg) &&& (σ1 41 3)) = 0) → R = (.ok (nI 1), σ1))))
set_option maxRecDepth 20000 in
theorem t_X2_faults_16 {G : sj_G} {R : sj_R} {x2 : Int32} {x3 : Int32} {σ : sj_S} (h : wp_X2_faults_16 G R x2 x3 σ) : sj_J G 43 me_X2_faults R 16 [.ref (sj_ad G 41), .ref (sj_ad G 1), .int x2, .int x3] σ [] := by
  unfold wp_X2_faults_16 at h
  refine sj_iload_n dX2_faults_16 (i := 3) rfl rfl ?_
  refine sj_aload_n dX2_faults_17 (i := 1) rfl rfl ?_
  obtain ⟨v1, σ1, hc1, h⟩ := h
  refine sj_callVi (M' := me_X8_lessonTotal) (b := 1) (As := []) (rest := [.int x3]) dX2_faults_18 gX2_faults_X8_lessonTotal rfl hd_X8_lessonTotal (by decide +kernel) (by decide +kernel) rfl (Nat.le_of_ble_eq_true rfl) (by omega) rfl hc1 ?_
  refine sj_icmp_ge (tgt := 57) dX2_faults_21 (by decide) (fun c2 => ?_) (fun c2 => ?_)
  · replace h := h.1 c2
    refine sj_iinc (v := (x2 + (nI 1))) dX2_faults_57 (by decide) rfl rfl ?_
    refine sj_goto (tgt := 2) dX2_faults_60 (by decide) ?_
    refine sj_fg [3] ?_
    exact h
  · replace h := h.2 c2
    refine sj_aload_n dX2_faults_24 (i := 0) rfl rfl ?_
    refine sj_get (a := 41) (k9 := 2) (v := .int (σ1 41 2)) dX2_faults_25 (by decide +kernel) rfl ?_
    refine sj_iload_n dX2_faults_28 (i := 3) rfl rfl ?_
    refine sj_ishr dX2_faults_29 ?_
    refine sj_iconst (v := (nI 1)) dX2_faults_30 (by decide +kernel) ?_
    refine sj_iand dX2_faults_31 ?_
    refine sj_if_eq (tgt := 51) dX2_faults_32 (by decide) (fun c3 => ?_) (fun c3 => ?_)
    · replace h := h.1 c3
      exact t_X2_faults_51 h
    · replace h := h.2 c3
      refine sj_aload_n dX2_faults_35 (i := 0) rfl rfl ?_
      refine sj_get (a := 41) (k9 := 4) (v := .ref (sj_ad G 43)) dX2_faults_36 (by decide +kernel) rfl ?_
      refine sj_iload_n dX2_faults_39 (i := 3) rfl rfl ?_
      obtain ⟨b4, h⟩ := h
      refine sj_iald (a := 43) (j := x3.toNatClampNeg) (x := (σ1 43 x3.toNatClampNeg)) dX2_faults_40 rfl (by decide +kernel) b4 rfl rfl ?_
      refine sj_aload_n dX2_faults_41 (i := 0) rfl rfl ?_
      refine sj_get (a := 41) (k9 := 3) (v := .int (σ1 41 3)) dX2_faults_42 (by decide +kernel) rfl ?_
      refine sj_iand dX2_faults_45 ?_
      refine sj_if_eq (tgt := 51) dX2_faults_46 (by decide) (fun c5 => ?_) (fun c5 => ?_)
      · replace h := h.1 c5
        exact t_X2_faults_51 h
      · replace h := h.2 c5
        refine sj_iconst (v := (nI 1)) dX2_faults_49 (by decide +kernel) ?_
        subst h
        exact sj_ret dX2_faults_50 rfl rfl
def wp_X2_faults_0 (G : sj_G) (R : sj_R) (σ : sj_S) : Prop := sj_J G 43 me_X2_faults R 2 [.ref (sj_ad G 41), .ref (sj_ad G 1), .int (nI 0), .null] σ []
set_option maxRecDepth 20000 in
theorem t_X2_faults_0 {G : sj_G} {R : sj_R} {σ : sj_S} (h : wp_X2_faults_0 G R σ) : sj_J G 43 me_X2_faults R 0 [.ref (sj_ad G 41), .ref (sj_ad G 1), .null, .null] σ [] := by
  unfold wp_X2_faults_0 at h
  refine sj_iconst (v := (nI 0)) dX2_faults_0 (by decide +kernel) ?_
  refine sj_istore_n dX2_faults_1 (i := 2) rfl (by decide) ?_
  exact h
theorem c_X2_faults {G : sj_G} (ok : sj_ok G) {R : sj_R} {σ : sj_S} (h : wp_X2_faults_0 G R σ) : sj_C G 43 me_X2_faults [.ref (sj_ad G 41), .ref (sj_ad G 1)] σ R :=
  sj_enter ok (by decide +kernel) rfl rfl (Nat.le_of_ble_eq_true rfl) (by simp [Value.category]) (t_X2_faults_0 h)
def wp_X3_plan_28 (G : sj_G) (R : sj_R) (x2 : Int32) (σ : sj_S) : Prop := R = (.ok x2, σ)
set_option maxRecDepth 20000 in
theorem t_X3_plan_28 {G : sj_G} {R : sj_R} {x2 : Int32} {σ : sj_S} (h : wp_X3_plan_28 G R x2 σ) : sj_J G 41 me_X3_plan R 28 [.null, .null, .int x2] σ [] := by
  unfold wp_X3_plan_28 at h
  refine sj_iload_n dX3_plan_28 (i := 2) rfl rfl ?_
  subst h
  exact sj_ret dX3_plan_29 rfl rfl
def wp_X3_plan_2 (G : sj_G) (R : sj_R) (x2 : Int32) (σ : sj_S) : Prop := ∃ v1 σ1, sj_C G 40 me_X3_canHold [.ref (sj_ad G 1), .ref (sj_ad G 45), .int (nI 0), .int (nI 0), .int x2] σ (.ok v1, σ1) ∧ (¬ v1 = 0 → (wp_X3_plan_28 G R x2 σ1)) ∧ (v1 = 0 → ((nI 8) ≤ x2 → (wp_X3_plan_28 G R x2 σ1)) ∧ (¬ ((nI 8) ≤ x2) → sj_J G 41 me_X3_plan R 2 [.ref (sj_ad G 44), .ref (sj_ad G 1), .int (x2 + (nI 1))] σ1 []))
set_option maxRecDepth 20000 in
theorem t_X3_plan_2 {G : sj_G} {R : sj_R} {x2 : Int32} {σ : sj_S} (h : wp_X3_plan_2 G R x2 σ) : sj_J G 41 me_X3_plan R 2 [.ref (sj_ad G 44), .ref (sj_ad G 1), .int x2] σ [] := by
  unfold wp_X3_plan_2 at h
  refine sj_aload_n dX3_plan_2 (i := 1) rfl rfl ?_
  refine sj_aload_n dX3_plan_3 (i := 0) rfl rfl ?_
  refine sj_get (a := 44) (k9 := 0) (v := .ref (sj_ad G 45)) dX3_plan_4 (by decide +kernel) rfl ?_
  refine sj_iconst (v := (nI 0)) dX3_plan_7 (by decide +kernel) ?_
  refine sj_iconst (v := (nI 0)) dX3_plan_8 (by decide +kernel) ?_
  refine sj_iload_n dX3_plan_9 (i := 2) rfl rfl ?_
  obtain ⟨v1, σ1, hc1, h⟩ := h
  refine sj_callSi (M' := me_X3_canHold) (As := [.ref (sj_ad G 1), .ref (sj_ad G 45), .int (nI 0), .int (nI 0), .int x2]) (rest := []) dX3_plan_10 gX3_plan_X3_canHold rfl hd_X3_canHold (Nat.le_of_ble_eq_true rfl) (by omega) rfl hc1 ?_
  refine sj_if_ne (tgt := 28) dX3_plan_13 (by decide) (fun c4 => ?_) (fun c4 => ?_)
  · replace h := h.1 c4
    refine sj_fg [0, 1] ?_
    exact t_X3_plan_28 h
  · replace h := h.2 c4
    refine sj_iload_n dX3_plan_16 (i := 2) rfl rfl ?_
    refine sj_bipush (v := (nI 8)) dX3_plan_17 (by decide +kernel) ?_
    refine sj_icmp_ge (tgt := 28) dX3_plan_19 (by decide) (fun c6 => ?_) (fun c6 => ?_)
    · replace h := h.1 c6
      refine sj_fg [0, 1] ?_
      exact t_X3_plan_28 h
    · replace h := h.2 c6
      refine sj_iinc (v := (x2 + (nI 1))) dX3_plan_22 (by decide) rfl rfl ?_
      refine sj_goto (tgt := 2) dX3_plan_25 (by decide) ?_
      exact h
def wp_X3_plan_0 (G : sj_G) (R : sj_R) (σ : sj_S) : Prop := sj_J G 41 me_X3_plan R 2 [.ref (sj_ad G 44), .ref (sj_ad G 1), .int (nI 1)] σ []
set_option maxRecDepth 20000 in
theorem t_X3_plan_0 {G : sj_G} {R : sj_R} {σ : sj_S} (h : wp_X3_plan_0 G R σ) : sj_J G 41 me_X3_plan R 0 [.ref (sj_ad G 44), .ref (sj_ad G 1), .null] σ [] := by
  unfold wp_X3_plan_0 at h
  refine sj_iconst (v := (nI 1)) dX3_plan_0 (by decide +kernel) ?_
  refine sj_istore_n dX3_plan_1 (i := 2) rfl (by decide) ?_
  exact h
theorem c_X3_plan {G : sj_G} (ok : sj_ok G) {R : sj_R} {σ : sj_S} (h : wp_X3_plan_0 G R σ) : sj_C G 41 me_X3_plan [.ref (sj_ad G 44), .ref (sj_ad G 1)] σ R :=
  sj_enter ok (by decide +kernel) rfl rfl (Nat.le_of_ble_eq_true rfl) (by simp [Value.category]) (t_X3_plan_0 h)
def wp_X3_canHold_63 (G : sj_G) (R : sj_R) (d dd : Nat) (x2 : Int32) (x3 : Int32) (x4 : Int32) (x5 : Int32) (σ : sj_S) : Prop := sj_J G d me_X3_canHold R 11 [.ref (sj_ad G 1), .ref (sj_ad G 45), .int x2, .int x3, .int x4, .int (x5 + (nI 1))] σ []
set_option maxRecDepth 20000 in
theorem t_X3_canHold_63 {G : sj_G} {R : sj_R} {d dd : Nat} {x2 : Int32} {x3 : Int32} {x4 : Int32} {x5 : Int32} {σ : sj_S} (hdd : dd + 1 ≤ d) (h10 : 10 ≤ d) (h : wp_X3_canHold_63 G R d dd x2 x3 x4 x5 σ) : sj_J G d me_X3_canHold R 63 [.ref (sj_ad G 1), .ref (sj_ad G 45), .int x2, .int x3, .int x4, .int x5] σ [] := by
  unfold wp_X3_canHold_63 at h
  refine sj_iinc (v := (x5 + (nI 1))) dX3_canHold_63 (by decide) rfl rfl ?_
  refine sj_goto (tgt := 11) dX3_canHold_66 (by decide) ?_
  exact h
def wp_X3_canHold_69 (G : sj_G) (R : sj_R) (d dd : Nat) (σ : sj_S) : Prop := R = (.ok (nI 0), σ)
set_option maxRecDepth 20000 in
theorem t_X3_canHold_69 {G : sj_G} {R : sj_R} {d dd : Nat} {σ : sj_S} (hdd : dd + 1 ≤ d) (h10 : 10 ≤ d) (h : wp_X3_canHold_69 G R d dd σ) : sj_J G d me_X3_canHold R 69 [.null, .null, .null, .null, .null, .null] σ [] := by
  unfold wp_X3_canHold_69 at h
  refine sj_iconst (v := (nI 0)) dX3_canHold_69 (by decide +kernel) ?_
  subst h
  exact sj_ret dX3_canHold_70 rfl rfl
def wp_X3_canHold_11 (G : sj_G) (R : sj_R) (d dd : Nat) (x2 : Int32) (x3 : Int32) (x4 : Int32) (x5 : Int32) (σ : sj_S) : Prop := (x4 ≤ x5 → (wp_X3_canHold_69 G R d dd σ)) ∧ (¬ (x4 ≤ x5) → (x3 < x5 → (wp_X3_canHold_69 G R d dd σ)) ∧ (¬ (x3 < x5) → ∃ v3 σ3, sj_C G 3 me_X3_isFree [.ref (sj_ad G 1), .ref (sj_ad G 45), .int x2, .int x5] σ (.ok v3, σ3) ∧ (v3 = 0 → (wp_X3_canHold_63 G R d dd x2 x3 x4 x5 σ3)) ∧ (¬ (v3 = 0) → vp_in x2 8 ∧ ∃ v6 σ6, sj_C G dd me_X3_canHold [.ref (sj_ad G 1), .ref (sj_ad G 45), .int (x2 + (nI 1)), .int (if x3 < (x5 + (nI 1)) then (x5 + (nI 1)) else x3), .int x4] (sj_st σ3 45 x2.toNatClampNeg x5) (.ok v6, σ6) ∧ (v6 = 0 → (wp_X3_canHold_63 G R d dd x2 x3 x4 x5 σ6)) ∧ (¬ (v6 = 0) → R = (.ok (nI 1), σ6)))))
set_option maxRecDepth 20000 in
theorem t_X3_canHold_11 {G : sj_G} {R : sj_R} {d dd : Nat} {x2 : Int32} {x3 : Int32} {x4 : Int32} {x5 : Int32} {σ : sj_S} (hdd : dd + 1 ≤ d) (h10 : 10 ≤ d) (h : wp_X3_canHold_11 G R d dd x2 x3 x4 x5 σ) : sj_J G d me_X3_canHold R 11 [.ref (sj_ad G 1), .ref (sj_ad G 45), .int x2, .int x3, .int x4, .int x5] σ [] := by
  unfold wp_X3_canHold_11 at h
  refine sj_iload dX3_canHold_11 rfl ?_
  refine sj_iload dX3_canHold_13 rfl ?_
  refine sj_icmp_ge (tgt := 69) dX3_canHold_15 (by decide) (fun c1 => ?_) (fun c1 => ?_)
  · replace h := h.1 c1
    refine sj_fg [0, 1, 2, 3, 4, 5] ?_
    exact t_X3_canHold_69 hdd h10 h
  · replace h := h.2 c1
    refine sj_iload dX3_canHold_18 rfl ?_
    refine sj_iload_n dX3_canHold_20 (i := 3) rfl rfl ?_
    refine sj_icmp_gt (tgt := 69) dX3_canHold_21 (by decide) (fun c2 => ?_) (fun c2 => ?_)
    · replace h := h.1 c2
      refine sj_fg [0, 1, 2, 3, 4, 5] ?_
      exact t_X3_canHold_69 hdd h10 h
    · replace h := h.2 c2
      refine sj_aload_n dX3_canHold_24 (i := 0) rfl rfl ?_
      refine sj_aload_n dX3_canHold_25 (i := 1) rfl rfl ?_
      refine sj_iload_n dX3_canHold_26 (i := 2) rfl rfl ?_
      refine sj_iload dX3_canHold_27 rfl ?_
      obtain ⟨v3, σ3, hc3, h⟩ := h
      refine sj_callSi (M' := me_X3_isFree) (As := [.ref (sj_ad G 1), .ref (sj_ad G 45), .int x2, .int x5]) (rest := []) dX3_canHold_29 gX3_canHold_X3_isFree rfl hd_X3_isFree (Nat.le_of_ble_eq_true rfl) (by omega) rfl hc3 ?_
      refine sj_if_eq (tgt := 63) dX3_canHold_32 (by decide) (fun c4 => ?_) (fun c4 => ?_)
      · replace h := h.1 c4
        exact t_X3_canHold_63 hdd h10 h
      · replace h := h.2 c4
        refine sj_aload_n dX3_canHold_35 (i := 1) rfl rfl ?_
        refine sj_iload_n dX3_canHold_36 (i := 2) rfl rfl ?_
        refine sj_iload dX3_canHold_37 rfl ?_
        obtain ⟨b5, h⟩ := h
        refine sj_iast (a := 45) (j := x2.toNatClampNeg) dX3_canHold_39 rfl (by decide +kernel) b5 rfl ?_
        refine sj_aload_n dX3_canHold_40 (i := 0) rfl rfl ?_
        refine sj_aload_n dX3_canHold_41 (i := 1) rfl rfl ?_
        refine sj_iload_n dX3_canHold_42 (i := 2) rfl rfl ?_
        refine sj_iconst (v := (nI 1)) dX3_canHold_43 (by decide +kernel) ?_
        refine sj_iadd dX3_canHold_44 ?_
        refine sj_iload_n dX3_canHold_45 (i := 3) rfl rfl ?_
        refine sj_iload dX3_canHold_46 rfl ?_
        refine sj_iconst (v := (nI 1)) dX3_canHold_48 (by decide +kernel) ?_
        refine sj_iadd dX3_canHold_49 ?_
        refine sj_mmax dX3_canHold_50 (by decide +kernel) (by omega) (Nat.le_of_ble_eq_true rfl) ?_
        refine sj_iload dX3_canHold_53 rfl ?_
        obtain ⟨v6, σ6, hc6, h⟩ := h
        refine sj_callSi (M' := me_X3_canHold) (As := [.ref (sj_ad G 1), .ref (sj_ad G 45), .int (x2 + (nI 1)), .int (if x3 < (x5 + (nI 1)) then (x5 + (nI 1)) else x3), .int x4]) (rest := []) dX3_canHold_55 gX3_canHold_X3_canHold rfl hd_X3_canHold (Nat.le_of_ble_eq_true rfl) (by omega) rfl hc6 ?_
        refine sj_if_eq (tgt := 63) dX3_canHold_58 (by decide) (fun c7 => ?_) (fun c7 => ?_)
        · replace h := h.1 c7
          exact t_X3_canHold_63 hdd h10 h
        · replace h := h.2 c7
          refine sj_iconst (v := (nI 1)) dX3_canHold_61 (by decide +kernel) ?_
          subst h
          exact sj_ret dX3_canHold_62 rfl rfl
def wp_X3_canHold_0 (G : sj_G) (R : sj_R) (d dd : Nat) (x2 : Int32) (x3 : Int32) (x4 : Int32) (σ : sj_S) : Prop := (x2 < (nI 8) → sj_J G d me_X3_canHold R 11 [.ref (sj_ad G 1), .ref (sj_ad G 45), .int x2, .int x3, .int x4, .int (nI 0)] σ []) ∧ (¬ (x2 < (nI 8)) → R = (.ok (nI 1), σ))
set_option maxRecDepth 20000 in
theorem t_X3_canHold_0 {G : sj_G} {R : sj_R} {d dd : Nat} {x2 : Int32} {x3 : Int32} {x4 : Int32} {σ : sj_S} (hdd : dd + 1 ≤ d) (h10 : 10 ≤ d) (h : wp_X3_canHold_0 G R d dd x2 x3 x4 σ) : sj_J G d me_X3_canHold R 0 [.ref (sj_ad G 1), .ref (sj_ad G 45), .int x2, .int x3, .int x4, .null] σ [] := by
  unfold wp_X3_canHold_0 at h
  refine sj_iload_n dX3_canHold_0 (i := 2) rfl rfl ?_
  refine sj_bipush (v := (nI 8)) dX3_canHold_1 (by decide +kernel) ?_
  refine sj_icmp_lt (tgt := 8) dX3_canHold_3 (by decide) (fun c1 => ?_) (fun c1 => ?_)
  · replace h := h.1 c1
    refine sj_iconst (v := (nI 0)) dX3_canHold_8 (by decide +kernel) ?_
    refine sj_istore dX3_canHold_9 (by decide) ?_
    exact h
  · replace h := h.2 c1
    refine sj_iconst (v := (nI 1)) dX3_canHold_6 (by decide +kernel) ?_
    subst h
    exact sj_ret dX3_canHold_7 rfl rfl
theorem c_X3_canHold {G : sj_G} (ok : sj_ok G) {R : sj_R} {d dd : Nat} {x2 : Int32} {x3 : Int32} {x4 : Int32} {σ : sj_S} (hdd : dd + 1 ≤ d) (h10 : 10 ≤ d) (h : wp_X3_canHold_0 G R d dd x2 x3 x4 σ) : sj_C G d me_X3_canHold [.ref (sj_ad G 1), .ref (sj_ad G 45), .int x2, .int x3, .int x4] σ R :=
  sj_enter ok (by decide +kernel) rfl rfl (Nat.le_of_ble_eq_true rfl) (by simp [Value.category]) (t_X3_canHold_0 hdd h10 h)
def wp_X3_isFree_32 (G : sj_G) (R : sj_R) (x2 : Int32) (x3 : Int32) (x4 : Int32) (σ : sj_S) : Prop := sj_J G 3 me_X3_isFree R 3 [.ref (sj_ad G 1), .ref (sj_ad G 45), .int x2, .int x3, .int (x4 + (nI 1))] σ []
set_option maxRecDepth 20000 in
theorem t_X3_isFree_32 {G : sj_G} {R : sj_R} {x2 : Int32} {x3 : Int32} {x4 : Int32} {σ : sj_S} (h : wp_X3_isFree_32 G R x2 x3 x4 σ) : sj_J G 3 me_X3_isFree R 32 [.ref (sj_ad G 1), .ref (sj_ad G 45), .int x2, .int x3, .int x4] σ [] := by
  unfold wp_X3_isFree_32 at h
  refine sj_iinc (v := (x4 + (nI 1))) dX3_isFree_32 (by decide) rfl rfl ?_
  refine sj_goto (tgt := 3) dX3_isFree_35 (by decide) ?_
  exact h
def wp_X3_isFree_3 (G : sj_G) (R : sj_R) (x2 : Int32) (x3 : Int32) (x4 : Int32) (σ : sj_S) : Prop := (x2 ≤ x4 → R = (.ok (nI 1), σ)) ∧ (¬ (x2 ≤ x4) → vp_in x4 8 ∧ (¬ (σ 45 x4.toNatClampNeg) = x3 → (wp_X3_isFree_32 G R x2 x3 x4 σ)) ∧ ((σ 45 x4.toNatClampNeg) = x3 → ∃ v4 σ4, sj_C G 2 me_X8_apartFrom [.ref (sj_ad G 1), .int x2] σ (.ok v4, σ4) ∧ (((v4 >>> (x4 &&& 31)) &&& (nI 1)) = 0 → (wp_X3_isFree_32 G R x2 x3 x4 σ4)) ∧ (¬ (((v4 >>> (x4 &&& 31)) &&& (nI 1)) = 0) → R = (.ok (nI 0), σ4))))
set_option maxRecDepth 20000 in
theorem t_X3_isFree_3 {G : sj_G} {R : sj_R} {x2 : Int32} {x3 : Int32} {x4 : Int32} {σ : sj_S} (h : wp_X3_isFree_3 G R x2 x3 x4 σ) : sj_J G 3 me_X3_isFree R 3 [.ref (sj_ad G 1), .ref (sj_ad G 45), .int x2, .int x3, .int x4] σ [] := by
  unfold wp_X3_isFree_3 at h
  refine sj_iload dX3_isFree_3 rfl ?_
  refine sj_iload_n dX3_isFree_5 (i := 2) rfl rfl ?_
  refine sj_icmp_ge (tgt := 38) dX3_isFree_6 (by decide) (fun c1 => ?_) (fun c1 => ?_)
  · replace h := h.1 c1
    refine sj_iconst (v := (nI 1)) dX3_isFree_38 (by decide +kernel) ?_
    subst h
    exact sj_ret dX3_isFree_39 rfl rfl
  · replace h := h.2 c1
    refine sj_aload_n dX3_isFree_9 (i := 1) rfl rfl ?_
    refine sj_iload dX3_isFree_10 rfl ?_
    obtain ⟨b2, h⟩ := h
    refine sj_iald (a := 45) (j := x4.toNatClampNeg) (x := (σ 45 x4.toNatClampNeg)) dX3_isFree_12 rfl (by decide +kernel) b2 rfl rfl ?_
    refine sj_iload_n dX3_isFree_13 (i := 3) rfl rfl ?_
    refine sj_icmp_ne (tgt := 32) dX3_isFree_14 (by decide) (fun c3 => ?_) (fun c3 => ?_)
    · replace h := h.1 c3
      exact t_X3_isFree_32 h
    · replace h := h.2 c3
      refine sj_aload_n dX3_isFree_17 (i := 0) rfl rfl ?_
      refine sj_iload_n dX3_isFree_18 (i := 2) rfl rfl ?_
      obtain ⟨v4, σ4, hc4, h⟩ := h
      refine sj_callVi (M' := me_X8_apartFrom) (b := 1) (As := [.int x2]) (rest := []) dX3_isFree_19 gX3_isFree_X8_apartFrom rfl hd_X8_apartFrom (by decide +kernel) (by decide +kernel) rfl (Nat.le_of_ble_eq_true rfl) (by omega) rfl hc4 ?_
      refine sj_iload dX3_isFree_22 rfl ?_
      refine sj_ishr dX3_isFree_24 ?_
      refine sj_iconst (v := (nI 1)) dX3_isFree_25 (by decide +kernel) ?_
      refine sj_iand dX3_isFree_26 ?_
      refine sj_if_eq (tgt := 32) dX3_isFree_27 (by decide) (fun c5 => ?_) (fun c5 => ?_)
      · replace h := h.1 c5
        exact t_X3_isFree_32 h
      · replace h := h.2 c5
        refine sj_iconst (v := (nI 0)) dX3_isFree_30 (by decide +kernel) ?_
        subst h
        exact sj_ret dX3_isFree_31 rfl rfl
def wp_X3_isFree_0 (G : sj_G) (R : sj_R) (x2 : Int32) (x3 : Int32) (σ : sj_S) : Prop := sj_J G 3 me_X3_isFree R 3 [.ref (sj_ad G 1), .ref (sj_ad G 45), .int x2, .int x3, .int (nI 0)] σ []
set_option maxRecDepth 20000 in
theorem t_X3_isFree_0 {G : sj_G} {R : sj_R} {x2 : Int32} {x3 : Int32} {σ : sj_S} (h : wp_X3_isFree_0 G R x2 x3 σ) : sj_J G 3 me_X3_isFree R 0 [.ref (sj_ad G 1), .ref (sj_ad G 45), .int x2, .int x3, .null] σ [] := by
  unfold wp_X3_isFree_0 at h
  refine sj_iconst (v := (nI 0)) dX3_isFree_0 (by decide +kernel) ?_
  refine sj_istore dX3_isFree_1 (by decide) ?_
  exact h
theorem c_X3_isFree {G : sj_G} (ok : sj_ok G) {R : sj_R} {x2 : Int32} {x3 : Int32} {σ : sj_S} (h : wp_X3_isFree_0 G R x2 x3 σ) : sj_C G 3 me_X3_isFree [.ref (sj_ad G 1), .ref (sj_ad G 45), .int x2, .int x3] σ R :=
  sj_enter ok (by decide +kernel) rfl rfl (Nat.le_of_ble_eq_true rfl) (by simp [Value.category]) (t_X3_isFree_0 h)
def wp_X3_greatestGroup_33 (G : sj_G) (R : sj_R) (x2 : Int32) (x3 : Int32) (σ : sj_S) : Prop := sj_J G 4 me_X3_greatestGroup R 4 [.ref (sj_ad G 44), .ref (sj_ad G 1), .int x2, .int (x3 + (nI 1))] σ []
set_option maxRecDepth 20000 in
theorem t_X3_greatestGroup_33 {G : sj_G} {R : sj_R} {x2 : Int32} {x3 : Int32} {σ : sj_S} (h : wp_X3_greatestGroup_33 G R x2 x3 σ) : sj_J G 4 me_X3_greatestGroup R 33 [.ref (sj_ad G 44), .ref (sj_ad G 1), .int x2, .int x3] σ [] := by
  unfold wp_X3_greatestGroup_33 at h
  refine sj_iinc (v := (x3 + (nI 1))) dX3_greatestGroup_33 (by decide) rfl rfl ?_
  refine sj_goto (tgt := 4) dX3_greatestGroup_36 (by decide) ?_
  exact h
def wp_X3_greatestGroup_4 (G : sj_G) (R : sj_R) (x2 : Int32) (x3 : Int32) (σ : sj_S) : Prop := ((nI 256) ≤ x3 → R = (.ok x2, σ)) ∧ (¬ ((nI 256) ≤ x3) → ∃ v2 σ2, sj_C G 2 me_J6_bitCount_0f7a4 [.int x3] σ (.ok v2, σ2) ∧ ∃ v3 σ3, sj_C G 2 me_J6_bitCount_0f7a4 [.int x2] σ2 (.ok v3, σ3) ∧ (v2 ≤ v3 → (wp_X3_greatestGroup_33 G R x2 x3 σ3)) ∧ (¬ (v2 ≤ v3) → ∃ v6 σ6, sj_C G 3 me_X3_isGroup [.ref (sj_ad G 44), .ref (sj_ad G 1), .int x3] σ3 (.ok v6, σ6) ∧ (wp_X3_greatestGroup_33 G R (if v6 = 0 then x2 else x3) x3 σ6)))
set_option maxRecDepth 20000 in
theorem t_X3_greatestGroup_4 {G : sj_G} {R : sj_R} {x2 : Int32} {x3 : Int32} {σ : sj_S} (h : wp_X3_greatestGroup_4 G R x2 x3 σ) : sj_J G 4 me_X3_greatestGroup R 4 [.ref (sj_ad G 44), .ref (sj_ad G 1), .int x2, .int x3] σ [] := by
  unfold wp_X3_greatestGroup_4 at h
  refine sj_iload_n dX3_greatestGroup_4 (i := 3) rfl rfl ?_
  refine sj_sipush (v := (nI 256)) dX3_greatestGroup_5 (by decide +kernel) ?_
  refine sj_icmp_ge (tgt := 39) dX3_greatestGroup_8 (by decide) (fun c1 => ?_) (fun c1 => ?_)
  · replace h := h.1 c1
    refine sj_iload_n dX3_greatestGroup_39 (i := 2) rfl rfl ?_
    subst h
    exact sj_ret dX3_greatestGroup_40 rfl rfl
  · replace h := h.2 c1
    refine sj_iload_n dX3_greatestGroup_11 (i := 3) rfl rfl ?_
    obtain ⟨v2, σ2, hc2, h⟩ := h
    refine sj_callSi (M' := me_J6_bitCount_0f7a4) (As := [.int x3]) (rest := []) dX3_greatestGroup_12 gX3_greatestGroup_J6_bitCount_0f7a4 rfl hd_J6_bitCount_0f7a4 (Nat.le_of_ble_eq_true rfl) (by omega) rfl hc2 ?_
    refine sj_iload_n dX3_greatestGroup_15 (i := 2) rfl rfl ?_
    obtain ⟨v3, σ3, hc3, h⟩ := h
    refine sj_callSi (M' := me_J6_bitCount_0f7a4) (As := [.int x2]) (rest := [.int v2]) dX3_greatestGroup_16 gX3_greatestGroup_J6_bitCount_0f7a4 rfl hd_J6_bitCount_0f7a4 (Nat.le_of_ble_eq_true rfl) (by omega) rfl hc3 ?_
    refine sj_icmp_le (tgt := 33) dX3_greatestGroup_19 (by decide) (fun c5 => ?_) (fun c5 => ?_)
    · replace h := h.1 c5
      exact t_X3_greatestGroup_33 h
    · replace h := h.2 c5
      refine sj_aload_n dX3_greatestGroup_22 (i := 0) rfl rfl ?_
      refine sj_aload_n dX3_greatestGroup_23 (i := 1) rfl rfl ?_
      refine sj_iload_n dX3_greatestGroup_24 (i := 3) rfl rfl ?_
      obtain ⟨v6, σ6, hc6, h⟩ := h
      refine sj_callVi (M' := me_X3_isGroup) (b := 44) (As := [.ref (sj_ad G 1), .int x3]) (rest := []) dX3_greatestGroup_25 gX3_greatestGroup_X3_isGroup rfl hd_X3_isGroup (by decide +kernel) (by decide +kernel) rfl (Nat.le_of_ble_eq_true rfl) (by omega) rfl hc6 ?_
      refine sj_if_eq (tgt := 33) dX3_greatestGroup_28 (by decide) (fun c7 => ?_) (fun c7 => ?_)
      · try simp only [if_pos c7] at h
        exact t_X3_greatestGroup_33 h
      · refine sj_iload_n dX3_greatestGroup_31 (i := 3) rfl rfl ?_
        refine sj_istore_n dX3_greatestGroup_32 (i := 2) rfl (by decide) ?_
        try simp only [if_neg c7] at h
        exact t_X3_greatestGroup_33 h
def wp_X3_greatestGroup_0 (G : sj_G) (R : sj_R) (σ : sj_S) : Prop := sj_J G 4 me_X3_greatestGroup R 4 [.ref (sj_ad G 44), .ref (sj_ad G 1), .int (nI 0), .int (nI 1)] σ []
set_option maxRecDepth 20000 in
theorem t_X3_greatestGroup_0 {G : sj_G} {R : sj_R} {σ : sj_S} (h : wp_X3_greatestGroup_0 G R σ) : sj_J G 4 me_X3_greatestGroup R 0 [.ref (sj_ad G 44), .ref (sj_ad G 1), .null, .null] σ [] := by
  unfold wp_X3_greatestGroup_0 at h
  refine sj_iconst (v := (nI 0)) dX3_greatestGroup_0 (by decide +kernel) ?_
  refine sj_istore_n dX3_greatestGroup_1 (i := 2) rfl (by decide) ?_
  refine sj_iconst (v := (nI 1)) dX3_greatestGroup_2 (by decide +kernel) ?_
  refine sj_istore_n dX3_greatestGroup_3 (i := 3) rfl (by decide) ?_
  exact h
theorem c_X3_greatestGroup {G : sj_G} (ok : sj_ok G) {R : sj_R} {σ : sj_S} (h : wp_X3_greatestGroup_0 G R σ) : sj_C G 4 me_X3_greatestGroup [.ref (sj_ad G 44), .ref (sj_ad G 1)] σ R :=
  sj_enter ok (by decide +kernel) rfl rfl (Nat.le_of_ble_eq_true rfl) (by simp [Value.category]) (t_X3_greatestGroup_0 h)
def wp_X3_isGroup_38 (G : sj_G) (R : sj_R) (x2 : Int32) (x3 : Int32) (σ : sj_S) : Prop := sj_J G 3 me_X3_isGroup R 2 [.null, .ref (sj_ad G 1), .int x2, .int (x3 + (nI 1)), .null] σ []
set_option maxRecDepth 20000 in
theorem t_X3_isGroup_38 {G : sj_G} {R : sj_R} {x2 : Int32} {x3 : Int32} {σ : sj_S} (h : wp_X3_isGroup_38 G R x2 x3 σ) : sj_J G 3 me_X3_isGroup R 38 [.null, .ref (sj_ad G 1), .int x2, .int x3, .null] σ [] := by
  unfold wp_X3_isGroup_38 at h
  refine sj_iinc (v := (x3 + (nI 1))) dX3_isGroup_38 (by decide) rfl rfl ?_
  refine sj_goto (tgt := 2) dX3_isGroup_41 (by decide) ?_
  exact h
def wp_X3_isGroup_2 (G : sj_G) (R : sj_R) (x2 : Int32) (x3 : Int32) (σ : sj_S) : Prop := ((nI 8) ≤ x3 → R = (.ok (nI 1), σ)) ∧ (¬ ((nI 8) ≤ x3) → ((x2 &&& (((nI 1) <<< (x3 &&& 31)) ^^^ (-1))) = x2 → (wp_X3_isGroup_38 G R x2 x3 σ)) ∧ (¬ ((x2 &&& (((nI 1) <<< (x3 &&& 31)) ^^^ (-1))) = x2) → ∃ v3 σ3, sj_C G 2 me_X8_apartFrom [.ref (sj_ad G 1), .int x3] σ (.ok v3, σ3) ∧ (((x2 &&& (((nI 1) <<< (x3 &&& 31)) ^^^ (-1))) &&& (v3 ^^^ (-1))) = 0 → (wp_X3_isGroup_38 G R x2 x3 σ3)) ∧ (¬ (((x2 &&& (((nI 1) <<< (x3 &&& 31)) ^^^ (-1))) &&& (v3 ^^^ (-1))) = 0) → R = (.ok (nI 0), σ3))))
set_option maxRecDepth 20000 in
theorem t_X3_isGroup_2 {G : sj_G} {R : sj_R} {x2 : Int32} {x3 : Int32} {σ : sj_S} (h : wp_X3_isGroup_2 G R x2 x3 σ) : sj_J G 3 me_X3_isGroup R 2 [.null, .ref (sj_ad G 1), .int x2, .int x3, .null] σ [] := by
  unfold wp_X3_isGroup_2 at h
  refine sj_iload_n dX3_isGroup_2 (i := 3) rfl rfl ?_
  refine sj_bipush (v := (nI 8)) dX3_isGroup_3 (by decide +kernel) ?_
  refine sj_icmp_ge (tgt := 44) dX3_isGroup_5 (by decide) (fun c1 => ?_) (fun c1 => ?_)
  · replace h := h.1 c1
    refine sj_iconst (v := (nI 1)) dX3_isGroup_44 (by decide +kernel) ?_
    subst h
    exact sj_ret dX3_isGroup_45 rfl rfl
  · replace h := h.2 c1
    refine sj_iload_n dX3_isGroup_8 (i := 2) rfl rfl ?_
    refine sj_iconst (v := (nI 1)) dX3_isGroup_9 (by decide +kernel) ?_
    refine sj_iload_n dX3_isGroup_10 (i := 3) rfl rfl ?_
    refine sj_ishl dX3_isGroup_11 ?_
    refine sj_iconst (v := (-1)) dX3_isGroup_12 (by decide +kernel) ?_
    refine sj_ixor dX3_isGroup_13 ?_
    refine sj_iand dX3_isGroup_14 ?_
    refine sj_istore dX3_isGroup_15 (by decide) ?_
    refine sj_iload dX3_isGroup_17 rfl ?_
    refine sj_iload_n dX3_isGroup_19 (i := 2) rfl rfl ?_
    refine sj_icmp_eq (tgt := 38) dX3_isGroup_20 (by decide) (fun c2 => ?_) (fun c2 => ?_)
    · replace h := h.1 c2
      refine sj_fg [4] ?_
      exact t_X3_isGroup_38 h
    · replace h := h.2 c2
      refine sj_iload dX3_isGroup_23 rfl ?_
      refine sj_aload_n dX3_isGroup_25 (i := 1) rfl rfl ?_
      refine sj_iload_n dX3_isGroup_26 (i := 3) rfl rfl ?_
      obtain ⟨v3, σ3, hc3, h⟩ := h
      refine sj_callVi (M' := me_X8_apartFrom) (b := 1) (As := [.int x3]) (rest := [.int (x2 &&& (((nI 1) <<< (x3 &&& 31)) ^^^ (-1)))]) dX3_isGroup_27 gX3_isGroup_X8_apartFrom rfl hd_X8_apartFrom (by decide +kernel) (by decide +kernel) rfl (Nat.le_of_ble_eq_true rfl) (by omega) rfl hc3 ?_
      refine sj_iconst (v := (-1)) dX3_isGroup_30 (by decide +kernel) ?_
      refine sj_ixor dX3_isGroup_31 ?_
      refine sj_iand dX3_isGroup_32 ?_
      refine sj_if_eq (tgt := 38) dX3_isGroup_33 (by decide) (fun c4 => ?_) (fun c4 => ?_)
      · replace h := h.1 c4
        refine sj_fg [4] ?_
        exact t_X3_isGroup_38 h
      · replace h := h.2 c4
        refine sj_iconst (v := (nI 0)) dX3_isGroup_36 (by decide +kernel) ?_
        subst h
        exact sj_ret dX3_isGroup_37 rfl rfl
def wp_X3_isGroup_0 (G : sj_G) (R : sj_R) (x2 : Int32) (σ : sj_S) : Prop := sj_J G 3 me_X3_isGroup R 2 [.null, .ref (sj_ad G 1), .int x2, .int (nI 0), .null] σ []
set_option maxRecDepth 20000 in
theorem t_X3_isGroup_0 {G : sj_G} {R : sj_R} {x2 : Int32} {σ : sj_S} (h : wp_X3_isGroup_0 G R x2 σ) : sj_J G 3 me_X3_isGroup R 0 [.ref (sj_ad G 44), .ref (sj_ad G 1), .int x2, .null, .null] σ [] := by
  unfold wp_X3_isGroup_0 at h
  refine sj_iconst (v := (nI 0)) dX3_isGroup_0 (by decide +kernel) ?_
  refine sj_istore_n dX3_isGroup_1 (i := 3) rfl (by decide) ?_
  refine sj_fg [0] ?_
  exact h
theorem c_X3_isGroup {G : sj_G} (ok : sj_ok G) {R : sj_R} {x2 : Int32} {σ : sj_S} (h : wp_X3_isGroup_0 G R x2 σ) : sj_C G 3 me_X3_isGroup [.ref (sj_ad G 44), .ref (sj_ad G 1), .int x2] σ R :=
  sj_enter ok (by decide +kernel) rfl rfl (Nat.le_of_ble_eq_true rfl) (by simp [Value.category]) (t_X3_isGroup_0 h)
def wp_X3_faults_23 (G : sj_G) (R : sj_R) (s0 : Int32) (σ : sj_S) : Prop := sj_J G 42 me_X3_faults R 27 [.ref (sj_ad G 44), .ref (sj_ad G 1), .null, .int s0, .int (nI 0)] σ []
set_option maxRecDepth 20000 in
theorem t_X3_faults_23 {G : sj_G} {R : sj_R} {s0 : Int32} {σ : sj_S} (h : wp_X3_faults_23 G R s0 σ) : sj_J G 42 me_X3_faults R 23 [.ref (sj_ad G 44), .ref (sj_ad G 1), .null, .null, .null] σ [.int s0] := by
  unfold wp_X3_faults_23 at h
  refine sj_istore_n dX3_faults_23 (i := 3) rfl (by decide) ?_
  refine sj_iconst (v := (nI 0)) dX3_faults_24 (by decide +kernel) ?_
  refine sj_istore dX3_faults_25 (by decide) ?_
  exact h
def wp_X3_faults_60 (G : sj_G) (R : sj_R) (x4 : Int32) (s0 : Int32) (s1 : Int32) (σ : sj_S) : Prop := sj_J G 42 me_X3_faults R 27 [.ref (sj_ad G 44), .ref (sj_ad G 1), .null, .int (s1 ||| s0), .int (x4 + (nI 1))] σ []
set_option maxRecDepth 20000 in
theorem t_X3_faults_60 {G : sj_G} {R : sj_R} {x4 : Int32} {s0 : Int32} {s1 : Int32} {σ : sj_S} (h : wp_X3_faults_60 G R x4 s0 s1 σ) : sj_J G 42 me_X3_faults R 60 [.ref (sj_ad G 44), .ref (sj_ad G 1), .null, .null, .int x4] σ [.int s0, .int s1] := by
  unfold wp_X3_faults_60 at h
  refine sj_ior dX3_faults_60 ?_
  refine sj_istore_n dX3_faults_61 (i := 3) rfl (by decide) ?_
  refine sj_iinc (v := (x4 + (nI 1))) dX3_faults_62 (by decide) rfl rfl ?_
  refine sj_goto (tgt := 27) dX3_faults_65 (by decide) ?_
  exact h
def wp_X3_faults_77 (G : sj_G) (R : sj_R) (s0 : Int32) (σ : sj_S) : Prop := R = (.ok s0, σ)
set_option maxRecDepth 20000 in
theorem t_X3_faults_77 {G : sj_G} {R : sj_R} {s0 : Int32} {σ : sj_S} (h : wp_X3_faults_77 G R s0 σ) : sj_J G 42 me_X3_faults R 77 [.null, .null, .null, .null, .null] σ [.int s0] := by
  unfold wp_X3_faults_77 at h
  subst h
  exact sj_ret dX3_faults_77 rfl rfl
def wp_X3_faults_27 (G : sj_G) (R : sj_R) (x3 : Int32) (x4 : Int32) (σ : sj_S) : Prop := ((nI 8) ≤ x4 → (wp_X3_faults_77 G R (if x3 = 0 then (nI 0) else (nI 1)) σ)) ∧ (¬ ((nI 8) ≤ x4) → vp_in x4 8 ∧ ∃ v4 σ4, sj_C G 3 me_X3_isFree [.ref (sj_ad G 1), .ref (sj_ad G 45), .int x4, .int (σ 45 x4.toNatClampNeg)] σ (.ok v4, σ4) ∧ (wp_X3_faults_60 G R x4 (if v4 = 0 then (nI 1) else (nI 0)) x3 σ4))
set_option maxRecDepth 20000 in
theorem t_X3_faults_27 {G : sj_G} {R : sj_R} {x3 : Int32} {x4 : Int32} {σ : sj_S} (h : wp_X3_faults_27 G R x3 x4 σ) : sj_J G 42 me_X3_faults R 27 [.ref (sj_ad G 44), .ref (sj_ad G 1), .null, .int x3, .int x4] σ [] := by
  unfold wp_X3_faults_27 at h
  refine sj_iload dX3_faults_27 rfl ?_
  refine sj_bipush (v := (nI 8)) dX3_faults_29 (by decide +kernel) ?_
  refine sj_icmp_ge (tgt := 68) dX3_faults_31 (by decide) (fun c1 => ?_) (fun c1 => ?_)
  · replace h := h.1 c1
    refine sj_iload_n dX3_faults_68 (i := 3) rfl rfl ?_
    refine sj_if_eq (tgt := 76) dX3_faults_69 (by decide) (fun c2 => ?_) (fun c2 => ?_)
    · refine sj_iconst (v := (nI 0)) dX3_faults_76 (by decide +kernel) ?_
      try simp only [if_pos c2] at h
      refine sj_fg [0, 1, 3, 4] ?_
      exact t_X3_faults_77 h
    · refine sj_iconst (v := (nI 1)) dX3_faults_72 (by decide +kernel) ?_
      refine sj_goto (tgt := 77) dX3_faults_73 (by decide) ?_
      try simp only [if_neg c2] at h
      refine sj_fg [0, 1, 3, 4] ?_
      exact t_X3_faults_77 h
  · replace h := h.2 c1
    refine sj_iload_n dX3_faults_34 (i := 3) rfl rfl ?_
    refine sj_aload_n dX3_faults_35 (i := 1) rfl rfl ?_
    refine sj_aload_n dX3_faults_36 (i := 0) rfl rfl ?_
    refine sj_get (a := 44) (k9 := 0) (v := .ref (sj_ad G 45)) dX3_faults_37 (by decide +kernel) rfl ?_
    refine sj_iload dX3_faults_40 rfl ?_
    refine sj_aload_n dX3_faults_42 (i := 0) rfl rfl ?_
    refine sj_get (a := 44) (k9 := 0) (v := .ref (sj_ad G 45)) dX3_faults_43 (by decide +kernel) rfl ?_
    refine sj_iload dX3_faults_46 rfl ?_
    obtain ⟨b3, h⟩ := h
    refine sj_iald (a := 45) (j := x4.toNatClampNeg) (x := (σ 45 x4.toNatClampNeg)) dX3_faults_48 rfl (by decide +kernel) b3 rfl rfl ?_
    obtain ⟨v4, σ4, hc4, h⟩ := h
    refine sj_callSi (M' := me_X3_isFree) (As := [.ref (sj_ad G 1), .ref (sj_ad G 45), .int x4, .int (σ 45 x4.toNatClampNeg)]) (rest := [.int x3]) dX3_faults_49 gX3_faults_X3_isFree rfl hd_X3_isFree (Nat.le_of_ble_eq_true rfl) (by omega) rfl hc4 ?_
    refine sj_if_ne (tgt := 59) dX3_faults_52 (by decide) (fun c5 => ?_) (fun c5 => ?_)
    · refine sj_iconst (v := (nI 0)) dX3_faults_59 (by decide +kernel) ?_
      try simp only [if_neg c5] at h
      refine sj_fg [3] ?_
      exact t_X3_faults_60 h
    · refine sj_iconst (v := (nI 1)) dX3_faults_55 (by decide +kernel) ?_
      refine sj_goto (tgt := 60) dX3_faults_56 (by decide) ?_
      try simp only [if_pos c5] at h
      refine sj_fg [3] ?_
      exact t_X3_faults_60 h
def wp_X3_faults_0 (G : sj_G) (R : sj_R) (σ : sj_S) : Prop := ∃ v1 σ1, sj_C G 41 me_X3_plan [.ref (sj_ad G 44), .ref (sj_ad G 1)] σ (.ok v1, σ1) ∧ ∃ v2 σ2, sj_C G 4 me_X3_greatestGroup [.ref (sj_ad G 44), .ref (sj_ad G 1)] σ1 (.ok v2, σ2) ∧ ∃ v3 σ3, sj_C G 2 me_J6_bitCount_0f7a4 [.int v2] σ2 (.ok v3, σ3) ∧ (wp_X3_faults_23 G R (if v3 ≤ v1 then (nI 0) else (nI 1)) σ3)
set_option maxRecDepth 20000 in
theorem t_X3_faults_0 {G : sj_G} {R : sj_R} {σ : sj_S} (h : wp_X3_faults_0 G R σ) : sj_J G 42 me_X3_faults R 0 [.ref (sj_ad G 44), .ref (sj_ad G 1), .null, .null, .null] σ [] := by
  unfold wp_X3_faults_0 at h
  refine sj_aload_n dX3_faults_0 (i := 0) rfl rfl ?_
  refine sj_aload_n dX3_faults_1 (i := 1) rfl rfl ?_
  obtain ⟨v1, σ1, hc1, h⟩ := h
  refine sj_callVi (M' := me_X3_plan) (b := 44) (As := [.ref (sj_ad G 1)]) (rest := []) dX3_faults_2 gX3_faults_X3_plan rfl hd_X3_plan (by decide +kernel) (by decide +kernel) rfl (Nat.le_of_ble_eq_true rfl) (by omega) rfl hc1 ?_
  refine sj_istore_n dX3_faults_5 (i := 2) rfl (by decide) ?_
  refine sj_aload_n dX3_faults_6 (i := 0) rfl rfl ?_
  refine sj_aload_n dX3_faults_7 (i := 1) rfl rfl ?_
  obtain ⟨v2, σ2, hc2, h⟩ := h
  refine sj_callVi (M' := me_X3_greatestGroup) (b := 44) (As := [.ref (sj_ad G 1)]) (rest := []) dX3_faults_8 gX3_faults_X3_greatestGroup rfl hd_X3_greatestGroup (by decide +kernel) (by decide +kernel) rfl (Nat.le_of_ble_eq_true rfl) (by omega) rfl hc2 ?_
  obtain ⟨v3, σ3, hc3, h⟩ := h
  refine sj_callSi (M' := me_J6_bitCount_0f7a4) (As := [.int v2]) (rest := []) dX3_faults_11 gX3_faults_J6_bitCount_0f7a4 rfl hd_J6_bitCount_0f7a4 (Nat.le_of_ble_eq_true rfl) (by omega) rfl hc3 ?_
  refine sj_iload_n dX3_faults_14 (i := 2) rfl rfl ?_
  refine sj_icmp_le (tgt := 22) dX3_faults_15 (by decide) (fun c4 => ?_) (fun c4 => ?_)
  · refine sj_iconst (v := (nI 0)) dX3_faults_22 (by decide +kernel) ?_
    try simp only [if_pos c4] at h
    refine sj_fg [2] ?_
    exact t_X3_faults_23 h
  · refine sj_iconst (v := (nI 1)) dX3_faults_18 (by decide +kernel) ?_
    refine sj_goto (tgt := 23) dX3_faults_19 (by decide) ?_
    try simp only [if_neg c4] at h
    refine sj_fg [2] ?_
    exact t_X3_faults_23 h
theorem c_X3_faults {G : sj_G} (ok : sj_ok G) {R : sj_R} {σ : sj_S} (h : wp_X3_faults_0 G R σ) : sj_C G 42 me_X3_faults [.ref (sj_ad G 44), .ref (sj_ad G 1)] σ R :=
  sj_enter ok (by decide +kernel) rfl rfl (Nat.le_of_ble_eq_true rfl) (by simp [Value.category]) (t_X3_faults_0 h)
