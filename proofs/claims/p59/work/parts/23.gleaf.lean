def wp_X0_put_0 (G : sj_G) (R : sj_R) (x1 : Int32) (x2 : Int32) (x3 : Int32) (x4 : Int32) (σ : sj_S) : Prop := vp_in x1 5 ∧ vp_in x1 5 ∧ vp_in x1 5 ∧ R = (.ok 0, (sj_st (sj_st (sj_st σ 47 x1.toNatClampNeg x2) 48 x1.toNatClampNeg x3) 49 x1.toNatClampNeg x4))
set_option maxRecDepth 20000 in
theorem t_X0_put_0 {G : sj_G} {R : sj_R} {x1 : Int32} {x2 : Int32} {x3 : Int32} {x4 : Int32} {σ : sj_S} (h : wp_X0_put_0 G R x1 x2 x3 x4 σ) : sj_J G 2 me_X0_put R 0 [.ref (sj_ad G 46), .int x1, .int x2, .int x3, .int x4] σ [] := by
  unfold wp_X0_put_0 at h
  refine sj_aload_n dX0_put_0 (i := 0) rfl rfl ?_
  refine sj_get (a := 46) (k9 := 0) (v := .ref (sj_ad G 47)) dX0_put_1 (by decide +kernel) rfl ?_
  refine sj_iload_n dX0_put_4 (i := 1) rfl rfl ?_
  refine sj_iload_n dX0_put_5 (i := 2) rfl rfl ?_
  obtain ⟨b1, h⟩ := h
  refine sj_iast (a := 47) (j := x1.toNatClampNeg) dX0_put_6 rfl (by decide +kernel) b1 rfl ?_
  refine sj_aload_n dX0_put_7 (i := 0) rfl rfl ?_
  refine sj_get (a := 46) (k9 := 1) (v := .ref (sj_ad G 48)) dX0_put_8 (by decide +kernel) rfl ?_
  refine sj_iload_n dX0_put_11 (i := 1) rfl rfl ?_
  refine sj_iload_n dX0_put_12 (i := 3) rfl rfl ?_
  obtain ⟨b2, h⟩ := h
  refine sj_iast (a := 48) (j := x1.toNatClampNeg) dX0_put_13 rfl (by decide +kernel) b2 rfl ?_
  refine sj_aload_n dX0_put_14 (i := 0) rfl rfl ?_
  refine sj_get (a := 46) (k9 := 2) (v := .ref (sj_ad G 49)) dX0_put_15 (by decide +kernel) rfl ?_
  refine sj_iload_n dX0_put_18 (i := 1) rfl rfl ?_
  refine sj_iload dX0_put_19 rfl ?_
  obtain ⟨b3, h⟩ := h
  refine sj_iast (a := 49) (j := x1.toNatClampNeg) dX0_put_21 rfl (by decide +kernel) b3 rfl ?_
  subst h
  exact sj_vret dX0_put_22 rfl
theorem c_X0_put {G : sj_G} (ok : sj_ok G) {R : sj_R} {x1 : Int32} {x2 : Int32} {x3 : Int32} {x4 : Int32} {σ : sj_S} (h : wp_X0_put_0 G R x1 x2 x3 x4 σ) : sj_C G 2 me_X0_put [.ref (sj_ad G 46), .int x1, .int x2, .int x3, .int x4] σ R :=
  sj_enter ok (by decide +kernel) rfl rfl (Nat.le_of_ble_eq_true rfl) (by simp [Value.category]) (t_X0_put_0 h)
def wp_X0_minute_48 (G : sj_G) (R : sj_R) (s0 : Int32) (σ : sj_S) : Prop := R = (.ok s0, σ)
set_option maxRecDepth 20000 in
theorem t_X0_minute_48 {G : sj_G} {R : sj_R} {s0 : Int32} {σ : sj_S} (h : wp_X0_minute_48 G R s0 σ) : sj_J G 2 me_X0_minute R 48 [.null, .null, .null, .null, .null] σ [.int s0] := by
  unfold wp_X0_minute_48 at h
  subst h
  exact sj_ret dX0_minute_48 rfl rfl
def wp_X0_minute_0 (G : sj_G) (R : sj_R) (x1 : Int32) (x2 : Int32) (σ : sj_S) : Prop := vp_in (x1 / (nI 4)) 5 ∧ vp_in (x1 / (nI 4)) 5 ∧ vp_in (x1 / (nI 4)) 5 ∧ ∀ y4 : Int32, y4 = ((σ 47 (x1 / (nI 4)).toNatClampNeg) + ((x1 - x1 / (nI 4) * (nI 4)) * ((σ 48 (x1 / (nI 4)).toNatClampNeg) + (σ 49 (x1 / (nI 4)).toNatClampNeg)))) → ((¬ (x2 = 0)) → vp_in (x1 / (nI 4)) 5) ∧ (wp_X0_minute_48 G R (if x2 = 0 then y4 else (y4 + (σ 48 (x1 / (nI 4)).toNatClampNeg))) σ)
set_option maxRecDepth 20000 in
theorem t_X0_minute_0 {G : sj_G} {R : sj_R} {x1 : Int32} {x2 : Int32} {σ : sj_S} (h : wp_X0_minute_0 G R x1 x2 σ) : sj_J G 2 me_X0_minute R 0 [.ref (sj_ad G 46), .int x1, .int x2, .null, .null] σ [] := by
  unfold wp_X0_minute_0 at h
  refine sj_iload_n dX0_minute_0 (i := 1) rfl rfl ?_
  refine sj_iconst (v := (nI 4)) dX0_minute_1 (by decide +kernel) ?_
  refine sj_idiv dX0_minute_2 (by decide +kernel) ?_
  refine sj_istore_n dX0_minute_3 (i := 3) rfl (by decide) ?_
  refine sj_aload_n dX0_minute_4 (i := 0) rfl rfl ?_
  refine sj_get (a := 46) (k9 := 0) (v := .ref (sj_ad G 47)) dX0_minute_5 (by decide +kernel) rfl ?_
  refine sj_iload_n dX0_minute_8 (i := 3) rfl rfl ?_
  obtain ⟨b1, h⟩ := h
  refine sj_iald (a := 47) (j := (x1 / (nI 4)).toNatClampNeg) (x := (σ 47 (x1 / (nI 4)).toNatClampNeg)) dX0_minute_9 rfl (by decide +kernel) b1 rfl rfl ?_
  refine sj_iload_n dX0_minute_10 (i := 1) rfl rfl ?_
  refine sj_iconst (v := (nI 4)) dX0_minute_11 (by decide +kernel) ?_
  refine sj_irem dX0_minute_12 (by decide +kernel) ?_
  refine sj_aload_n dX0_minute_13 (i := 0) rfl rfl ?_
  refine sj_get (a := 46) (k9 := 1) (v := .ref (sj_ad G 48)) dX0_minute_14 (by decide +kernel) rfl ?_
  refine sj_iload_n dX0_minute_17 (i := 3) rfl rfl ?_
  obtain ⟨b2, h⟩ := h
  refine sj_iald (a := 48) (j := (x1 / (nI 4)).toNatClampNeg) (x := (σ 48 (x1 / (nI 4)).toNatClampNeg)) dX0_minute_18 rfl (by decide +kernel) b2 rfl rfl ?_
  refine sj_aload_n dX0_minute_19 (i := 0) rfl rfl ?_
  refine sj_get (a := 46) (k9 := 2) (v := .ref (sj_ad G 49)) dX0_minute_20 (by decide +kernel) rfl ?_
  refine sj_iload_n dX0_minute_23 (i := 3) rfl rfl ?_
  obtain ⟨b3, h⟩ := h
  refine sj_iald (a := 49) (j := (x1 / (nI 4)).toNatClampNeg) (x := (σ 49 (x1 / (nI 4)).toNatClampNeg)) dX0_minute_24 rfl (by decide +kernel) b3 rfl rfl ?_
  refine sj_iadd dX0_minute_25 ?_
  refine sj_imul dX0_minute_26 ?_
  refine sj_iadd dX0_minute_27 ?_
  refine sj_topi (fun y4 hy4 => ?_)
  replace h := h y4 hy4
  refine sj_istore dX0_minute_28 (by decide) ?_
  refine sj_iload_n dX0_minute_30 (i := 2) rfl rfl ?_
  obtain ⟨f7, h⟩ := h
  refine sj_if_eq (tgt := 46) dX0_minute_31 (by decide) (fun c5 => ?_) (fun c5 => ?_)
  · refine sj_iload dX0_minute_46 rfl ?_
    try simp only [if_pos c5] at h
    refine sj_fg [0, 1, 2, 3, 4] ?_
    exact t_X0_minute_48 h
  · have b6 := f7 c5
    refine sj_iload dX0_minute_34 rfl ?_
    refine sj_aload_n dX0_minute_36 (i := 0) rfl rfl ?_
    refine sj_get (a := 46) (k9 := 1) (v := .ref (sj_ad G 48)) dX0_minute_37 (by decide +kernel) rfl ?_
    refine sj_iload_n dX0_minute_40 (i := 3) rfl rfl ?_
    refine sj_iald (a := 48) (j := (x1 / (nI 4)).toNatClampNeg) (x := (σ 48 (x1 / (nI 4)).toNatClampNeg)) dX0_minute_41 rfl (by decide +kernel) b6 rfl rfl ?_
    refine sj_iadd dX0_minute_42 ?_
    refine sj_goto (tgt := 48) dX0_minute_43 (by decide) ?_
    try simp only [if_neg c5] at h
    refine sj_fg [0, 1, 2, 3, 4] ?_
    exact t_X0_minute_48 h
theorem c_X0_minute {G : sj_G} (ok : sj_ok G) {R : sj_R} {x1 : Int32} {x2 : Int32} {σ : sj_S} (h : wp_X0_minute_0 G R x1 x2 σ) : sj_C G 2 me_X0_minute [.ref (sj_ad G 46), .int x1, .int x2] σ R :=
  sj_enter ok (by decide +kernel) rfl rfl (Nat.le_of_ble_eq_true rfl) (by simp [Value.category]) (t_X0_minute_0 h)
def wp_X5_keep_0 (G : sj_G) (R : sj_R) (σ : sj_S) : Prop := ¬ ((σ 4 1) * (nI 128)) < 0 ∧ ((σ 4 1) * (nI 128)).toNatClampNeg + 119 ≤ 2560 ∧ ¬ (((σ 4 1) * (nI 128)) + (nI 119)) < 0 ∧ (((σ 4 1) * (nI 128)) + (nI 119)).toNatClampNeg + 9 ≤ 2560 ∧ R = (.ok 0, (sj_st (sj_st (sj_up (sj_up σ 5 (va_cpy (σ 2) (σ 5) 0 ((σ 4 1) * (nI 128)).toNatClampNeg 119)) 5 (va_cpy (σ 3) ((sj_up σ 5 (va_cpy (σ 2) (σ 5) 0 ((σ 4 1) * (nI 128)).toNatClampNeg 119)) 5) 0 (((σ 4 1) * (nI 128)) + (nI 119)).toNatClampNeg 9)) 4 1 (((σ 4 1) + (nI 1)) - ((σ 4 1) + (nI 1)) / (nI 20) * (nI 20))) 4 2 (if (nI 20) < ((σ 4 2) + (nI 1)) then (nI 20) else ((σ 4 2) + (nI 1)))))
set_option maxRecDepth 20000 in
theorem t_X5_keep_0 {G : sj_G} {R : sj_R} {σ : sj_S} (h : wp_X5_keep_0 G R σ) : sj_J G 2 me_X5_keep R 0 [.ref (sj_ad G 4), .ref (sj_ad G 1)] σ [] := by
  unfold wp_X5_keep_0 at h
  refine sj_aload_n dX5_keep_0 (i := 1) rfl rfl ?_
  refine sj_get (a := 1) (k9 := 0) (v := .ref (sj_ad G 2)) dX5_keep_1 (by decide +kernel) rfl ?_
  refine sj_iconst (v := (nI 0)) dX5_keep_4 (by decide +kernel) ?_
  refine sj_aload_n dX5_keep_5 (i := 0) rfl rfl ?_
  refine sj_get (a := 4) (k9 := 0) (v := .ref (sj_ad G 5)) dX5_keep_6 (by decide +kernel) rfl ?_
  refine sj_aload_n dX5_keep_9 (i := 0) rfl rfl ?_
  refine sj_get (a := 4) (k9 := 1) (v := .int (σ 4 1)) dX5_keep_10 (by decide +kernel) rfl ?_
  refine sj_sipush (v := (nI 128)) dX5_keep_13 (by decide +kernel) ?_
  refine sj_imul dX5_keep_16 ?_
  refine sj_bipush (v := (nI 119)) dX5_keep_17 (by decide +kernel) ?_
  obtain ⟨b1, b2, h⟩ := h
  refine sj_copy (a0 := 2) (a := 5) dX5_keep_19 (by decide +kernel) (by omega) (Nat.le_of_ble_eq_true rfl) rfl (by decide +kernel) rfl (by decide +kernel) (nI_pos (by decide)) b1 (nI_pos (by decide)) (by decide) b2 (nI_clamp (by decide)) rfl (nI_clamp (by decide)) ?_
  refine sj_aload_n dX5_keep_22 (i := 1) rfl rfl ?_
  refine sj_get (a := 1) (k9 := 1) (v := .ref (sj_ad G 3)) dX5_keep_23 (by decide +kernel) rfl ?_
  refine sj_iconst (v := (nI 0)) dX5_keep_26 (by decide +kernel) ?_
  refine sj_aload_n dX5_keep_27 (i := 0) rfl rfl ?_
  refine sj_get (a := 4) (k9 := 0) (v := .ref (sj_ad G 5)) dX5_keep_28 (by decide +kernel) rfl ?_
  refine sj_aload_n dX5_keep_31 (i := 0) rfl rfl ?_
  refine sj_get (a := 4) (k9 := 1) (v := .int (σ 4 1)) dX5_keep_32 (by decide +kernel) rfl ?_
  refine sj_sipush (v := (nI 128)) dX5_keep_35 (by decide +kernel) ?_
  refine sj_imul dX5_keep_38 ?_
  refine sj_bipush (v := (nI 119)) dX5_keep_39 (by decide +kernel) ?_
  refine sj_iadd dX5_keep_41 ?_
  refine sj_bipush (v := (nI 9)) dX5_keep_42 (by decide +kernel) ?_
  obtain ⟨b3, b4, h⟩ := h
  refine sj_copy (a0 := 3) (a := 5) dX5_keep_44 (by decide +kernel) (by omega) (Nat.le_of_ble_eq_true rfl) rfl (by decide +kernel) rfl (by decide +kernel) (nI_pos (by decide)) b3 (nI_pos (by decide)) (by decide) b4 (nI_clamp (by decide)) rfl (nI_clamp (by decide)) ?_
  refine sj_aload_n dX5_keep_47 (i := 0) rfl rfl ?_
  refine sj_aload_n dX5_keep_48 (i := 0) rfl rfl ?_
  refine sj_get (a := 4) (k9 := 1) (v := .int (σ 4 1)) dX5_keep_49 (by decide +kernel) rfl ?_
  refine sj_iconst (v := (nI 1)) dX5_keep_52 (by decide +kernel) ?_
  refine sj_iadd dX5_keep_53 ?_
  refine sj_bipush (v := (nI 20)) dX5_keep_54 (by decide +kernel) ?_
  refine sj_irem dX5_keep_56 (by decide +kernel) ?_
  refine sj_put (a := 4) (k9 := 1) dX5_keep_57 (by decide +kernel) (by decide +kernel) rfl ?_
  refine sj_aload_n dX5_keep_60 (i := 0) rfl rfl ?_
  refine sj_aload_n dX5_keep_61 (i := 0) rfl rfl ?_
  refine sj_get (a := 4) (k9 := 2) (v := .int (σ 4 2)) dX5_keep_62 (by decide +kernel) rfl ?_
  refine sj_iconst (v := (nI 1)) dX5_keep_65 (by decide +kernel) ?_
  refine sj_iadd dX5_keep_66 ?_
  refine sj_bipush (v := (nI 20)) dX5_keep_67 (by decide +kernel) ?_
  refine sj_mmin dX5_keep_69 (by decide +kernel) (by omega) (Nat.le_of_ble_eq_true rfl) ?_
  refine sj_put (a := 4) (k9 := 2) dX5_keep_72 (by decide +kernel) (by decide +kernel) rfl ?_
  subst h
  exact sj_vret dX5_keep_75 rfl
theorem c_X5_keep {G : sj_G} (ok : sj_ok G) {R : sj_R} {σ : sj_S} (h : wp_X5_keep_0 G R σ) : sj_C G 2 me_X5_keep [.ref (sj_ad G 4), .ref (sj_ad G 1)] σ R :=
  sj_enter ok (by decide +kernel) rfl rfl (Nat.le_of_ble_eq_true rfl) (by simp [Value.category]) (t_X5_keep_0 h)
def wp_X5_back_0 (G : sj_G) (R : sj_R) (σ : sj_S) : Prop := ¬ (((((σ 4 1) + (nI 20)) - (nI 1)) - (((σ 4 1) + (nI 20)) - (nI 1)) / (nI 20) * (nI 20)) * (nI 128)) < 0 ∧ (((((σ 4 1) + (nI 20)) - (nI 1)) - (((σ 4 1) + (nI 20)) - (nI 1)) / (nI 20) * (nI 20)) * (nI 128)).toNatClampNeg + 119 ≤ 2560 ∧ ¬ ((((((σ 4 1) + (nI 20)) - (nI 1)) - (((σ 4 1) + (nI 20)) - (nI 1)) / (nI 20) * (nI 20)) * (nI 128)) + (nI 119)) < 0 ∧ ((((((σ 4 1) + (nI 20)) - (nI 1)) - (((σ 4 1) + (nI 20)) - (nI 1)) / (nI 20) * (nI 20)) * (nI 128)) + (nI 119)).toNatClampNeg + 9 ≤ 2560 ∧ R = (.ok ((σ 4 2) - (nI 1)), (sj_up (sj_up (sj_st (sj_st σ 4 1 ((((σ 4 1) + (nI 20)) - (nI 1)) - (((σ 4 1) + (nI 20)) - (nI 1)) / (nI 20) * (nI 20))) 4 2 ((σ 4 2) - (nI 1))) 2 (va_cpy (σ 5) (σ 2) (((((σ 4 1) + (nI 20)) - (nI 1)) - (((σ 4 1) + (nI 20)) - (nI 1)) / (nI 20) * (nI 20)) * (nI 128)).toNatClampNeg 0 119)) 3 (va_cpy (σ 5) (σ 3) ((((((σ 4 1) + (nI 20)) - (nI 1)) - (((σ 4 1) + (nI 20)) - (nI 1)) / (nI 20) * (nI 20)) * (nI 128)) + (nI 119)).toNatClampNeg 0 9)))
set_option maxRecDepth 20000 in
theorem t_X5_back_0 {G : sj_G} {R : sj_R} {σ : sj_S} (h : wp_X5_back_0 G R σ) : sj_J G 2 me_X5_back R 0 [.ref (sj_ad G 4), .ref (sj_ad G 1)] σ [] := by
  unfold wp_X5_back_0 at h
  refine sj_aload_n dX5_back_0 (i := 0) rfl rfl ?_
  refine sj_aload_n dX5_back_1 (i := 0) rfl rfl ?_
  refine sj_get (a := 4) (k9 := 1) (v := .int (σ 4 1)) dX5_back_2 (by decide +kernel) rfl ?_
  refine sj_bipush (v := (nI 20)) dX5_back_5 (by decide +kernel) ?_
  refine sj_iadd dX5_back_7 ?_
  refine sj_iconst (v := (nI 1)) dX5_back_8 (by decide +kernel) ?_
  refine sj_isub dX5_back_9 ?_
  refine sj_bipush (v := (nI 20)) dX5_back_10 (by decide +kernel) ?_
  refine sj_irem dX5_back_12 (by decide +kernel) ?_
  refine sj_put (a := 4) (k9 := 1) dX5_back_13 (by decide +kernel) (by decide +kernel) rfl ?_
  refine sj_aload_n dX5_back_16 (i := 0) rfl rfl ?_
  refine sj_dup dX5_back_17 rfl ?_
  refine sj_get (a := 4) (k9 := 2) (v := .int (σ 4 2)) dX5_back_18 (by decide +kernel) rfl ?_
  refine sj_iconst (v := (nI 1)) dX5_back_21 (by decide +kernel) ?_
  refine sj_isub dX5_back_22 ?_
  refine sj_put (a := 4) (k9 := 2) dX5_back_23 (by decide +kernel) (by decide +kernel) rfl ?_
  refine sj_aload_n dX5_back_26 (i := 0) rfl rfl ?_
  refine sj_get (a := 4) (k9 := 0) (v := .ref (sj_ad G 5)) dX5_back_27 (by decide +kernel) rfl ?_
  refine sj_aload_n dX5_back_30 (i := 0) rfl rfl ?_
  refine sj_get (a := 4) (k9 := 1) (v := .int ((((σ 4 1) + (nI 20)) - (nI 1)) - (((σ 4 1) + (nI 20)) - (nI 1)) / (nI 20) * (nI 20))) dX5_back_31 (by decide +kernel) rfl ?_
  refine sj_sipush (v := (nI 128)) dX5_back_34 (by decide +kernel) ?_
  refine sj_imul dX5_back_37 ?_
  refine sj_aload_n dX5_back_38 (i := 1) rfl rfl ?_
  refine sj_get (a := 1) (k9 := 0) (v := .ref (sj_ad G 2)) dX5_back_39 (by decide +kernel) rfl ?_
  refine sj_iconst (v := (nI 0)) dX5_back_42 (by decide +kernel) ?_
  refine sj_bipush (v := (nI 119)) dX5_back_43 (by decide +kernel) ?_
  obtain ⟨b1, b2, h⟩ := h
  refine sj_copy (a0 := 5) (a := 2) dX5_back_45 (by decide +kernel) (by omega) (Nat.le_of_ble_eq_true rfl) rfl (by decide +kernel) rfl (by decide +kernel) b1 (nI_pos (by decide)) (nI_pos (by decide)) b2 (by decide) rfl (nI_clamp (by decide)) (nI_clamp (by decide)) ?_
  refine sj_aload_n dX5_back_48 (i := 0) rfl rfl ?_
  refine sj_get (a := 4) (k9 := 0) (v := .ref (sj_ad G 5)) dX5_back_49 (by decide +kernel) rfl ?_
  refine sj_aload_n dX5_back_52 (i := 0) rfl rfl ?_
  refine sj_get (a := 4) (k9 := 1) (v := .int ((((σ 4 1) + (nI 20)) - (nI 1)) - (((σ 4 1) + (nI 20)) - (nI 1)) / (nI 20) * (nI 20))) dX5_back_53 (by decide +kernel) rfl ?_
  refine sj_sipush (v := (nI 128)) dX5_back_56 (by decide +kernel) ?_
  refine sj_imul dX5_back_59 ?_
  refine sj_bipush (v := (nI 119)) dX5_back_60 (by decide +kernel) ?_
  refine sj_iadd dX5_back_62 ?_
  refine sj_aload_n dX5_back_63 (i := 1) rfl rfl ?_
  refine sj_get (a := 1) (k9 := 1) (v := .ref (sj_ad G 3)) dX5_back_64 (by decide +kernel) rfl ?_
  refine sj_iconst (v := (nI 0)) dX5_back_67 (by decide +kernel) ?_
  refine sj_bipush (v := (nI 9)) dX5_back_68 (by decide +kernel) ?_
  obtain ⟨b3, b4, h⟩ := h
  refine sj_copy (a0 := 5) (a := 3) dX5_back_70 (by decide +kernel) (by omega) (Nat.le_of_ble_eq_true rfl) rfl (by decide +kernel) rfl (by decide +kernel) b3 (nI_pos (by decide)) (nI_pos (by decide)) b4 (by decide) rfl (nI_clamp (by decide)) (nI_clamp (by decide)) ?_
  refine sj_aload_n dX5_back_73 (i := 0) rfl rfl ?_
  refine sj_get (a := 4) (k9 := 2) (v := .int ((σ 4 2) - (nI 1))) dX5_back_74 (by decide +kernel) rfl ?_
  subst h
  exact sj_ret dX5_back_77 rfl rfl
theorem c_X5_back {G : sj_G} (ok : sj_ok G) {R : sj_R} {σ : sj_S} (h : wp_X5_back_0 G R σ) : sj_C G 2 me_X5_back [.ref (sj_ad G 4), .ref (sj_ad G 1)] σ R :=
  sj_enter ok (by decide +kernel) rfl rfl (Nat.le_of_ble_eq_true rfl) (by simp [Value.category]) (t_X5_back_0 h)
def wp_X9_signsIn_25 (G : sj_G) (R : sj_R) (x1 : Int32) (x3 : Int32) (s0 : Int32) (s1 : Int32) (σ : sj_S) : Prop := sj_J G 2 me_X9_signsIn R 5 [.null, .int x1, .int (s1 + s0), .int (x3 + (-8))] σ []
set_option maxRecDepth 20000 in
theorem t_X9_signsIn_25 {G : sj_G} {R : sj_R} {x1 : Int32} {x3 : Int32} {s0 : Int32} {s1 : Int32} {σ : sj_S} (h : wp_X9_signsIn_25 G R x1 x3 s0 s1 σ) : sj_J G 2 me_X9_signsIn R 25 [.null, .int x1, .null, .int x3] σ [.int s0, .int s1] := by
  unfold wp_X9_signsIn_25 at h
  refine sj_iadd dX9_signsIn_25 ?_
  refine sj_istore_n dX9_signsIn_26 (i := 2) rfl (by decide) ?_
  refine sj_iinc (v := (x3 + (-8))) dX9_signsIn_27 (by decide) rfl rfl ?_
  refine sj_goto (tgt := 5) dX9_signsIn_30 (by decide) ?_
  exact h
def wp_X9_signsIn_5 (G : sj_G) (R : sj_R) (x1 : Int32) (x2 : Int32) (x3 : Int32) (σ : sj_S) : Prop := (x3 < 0 → R = (.ok x2, σ)) ∧ (¬ (x3 < 0) → (wp_X9_signsIn_25 G R x1 x3 (if ((x1 >>> (x3 &&& 31)) &&& (nI 255)) = 0 then (nI 0) else (nI 1)) x2 σ))
set_option maxRecDepth 20000 in
theorem t_X9_signsIn_5 {G : sj_G} {R : sj_R} {x1 : Int32} {x2 : Int32} {x3 : Int32} {σ : sj_S} (h : wp_X9_signsIn_5 G R x1 x2 x3 σ) : sj_J G 2 me_X9_signsIn R 5 [.null, .int x1, .int x2, .int x3] σ [] := by
  unfold wp_X9_signsIn_5 at h
  refine sj_iload_n dX9_signsIn_5 (i := 3) rfl rfl ?_
  refine sj_if_lt (tgt := 33) dX9_signsIn_6 (by decide) (fun c1 => ?_) (fun c1 => ?_)
  · replace h := h.1 c1
    refine sj_iload_n dX9_signsIn_33 (i := 2) rfl rfl ?_
    subst h
    exact sj_ret dX9_signsIn_34 rfl rfl
  · replace h := h.2 c1
    refine sj_iload_n dX9_signsIn_9 (i := 2) rfl rfl ?_
    refine sj_iload_n dX9_signsIn_10 (i := 1) rfl rfl ?_
    refine sj_iload_n dX9_signsIn_11 (i := 3) rfl rfl ?_
    refine sj_ishr dX9_signsIn_12 ?_
    refine sj_sipush (v := (nI 255)) dX9_signsIn_13 (by decide +kernel) ?_
    refine sj_iand dX9_signsIn_16 ?_
    refine sj_if_eq (tgt := 24) dX9_signsIn_17 (by decide) (fun c2 => ?_) (fun c2 => ?_)
    · refine sj_iconst (v := (nI 0)) dX9_signsIn_24 (by decide +kernel) ?_
      try simp only [if_pos c2] at h
      refine sj_fg [2] ?_
      exact t_X9_signsIn_25 h
    · refine sj_iconst (v := (nI 1)) dX9_signsIn_20 (by decide +kernel) ?_
      refine sj_goto (tgt := 25) dX9_signsIn_21 (by decide) ?_
      try simp only [if_neg c2] at h
      refine sj_fg [2] ?_
      exact t_X9_signsIn_25 h
def wp_X9_signsIn_0 (G : sj_G) (R : sj_R) (x1 : Int32) (σ : sj_S) : Prop := sj_J G 2 me_X9_signsIn R 5 [.null, .int x1, .int (nI 0), .int (nI 24)] σ []
set_option maxRecDepth 20000 in
theorem t_X9_signsIn_0 {G : sj_G} {R : sj_R} {x1 : Int32} {σ : sj_S} (h : wp_X9_signsIn_0 G R x1 σ) : sj_J G 2 me_X9_signsIn R 0 [.ref (sj_ad G 52), .int x1, .null, .null] σ [] := by
  unfold wp_X9_signsIn_0 at h
  refine sj_iconst (v := (nI 0)) dX9_signsIn_0 (by decide +kernel) ?_
  refine sj_istore_n dX9_signsIn_1 (i := 2) rfl (by decide) ?_
  refine sj_bipush (v := (nI 24)) dX9_signsIn_2 (by decide +kernel) ?_
  refine sj_istore_n dX9_signsIn_4 (i := 3) rfl (by decide) ?_
  refine sj_fg [0] ?_
  exact h
theorem c_X9_signsIn {G : sj_G} (ok : sj_ok G) {R : sj_R} {x1 : Int32} {σ : sj_S} (h : wp_X9_signsIn_0 G R x1 σ) : sj_C G 2 me_X9_signsIn [.ref (sj_ad G 52), .int x1] σ R :=
  sj_enter ok (by decide +kernel) rfl rfl (Nat.le_of_ble_eq_true rfl) (by simp [Value.category]) (t_X9_signsIn_0 h)
def wp_X9_add_48 (G : sj_G) (R : sj_R) (x1 : Int32) (x2 : Int32) (σ : sj_S) : Prop := sj_J G 2 me_X9_add R 3 [.ref (sj_ad G 52), .int x1, .int (x2 + (-8)), .null] σ []
set_option maxRecDepth 20000 in
theorem t_X9_add_48 {G : sj_G} {R : sj_R} {x1 : Int32} {x2 : Int32} {σ : sj_S} (h : wp_X9_add_48 G R x1 x2 σ) : sj_J G 2 me_X9_add R 48 [.ref (sj_ad G 52), .int x1, .int x2, .null] σ [] := by
  unfold wp_X9_add_48 at h
  refine sj_iinc (v := (x2 + (-8))) dX9_add_48 (by decide) rfl rfl ?_
  refine sj_goto (tgt := 3) dX9_add_51 (by decide) ?_
  exact h
def wp_X9_add_3 (G : sj_G) (R : sj_R) (x1 : Int32) (x2 : Int32) (σ : sj_S) : Prop := (x2 < 0 → R = (.ok 0, σ)) ∧ (¬ (x2 < 0) → ((¬ (((x1 >>> (x2 &&& 31)) &&& (nI 255)) = 0)) → (¬ ((nI 100) ≤ (σ 52 2))) → vp_in (σ 52 2) 100) ∧ (wp_X9_add_48 G R x1 x2 (if ((x1 >>> (x2 &&& 31)) &&& (nI 255)) = 0 then σ else (if (nI 100) ≤ (σ 52 2) then σ else (sj_st (sj_st σ 55 (σ 52 2).toNatClampNeg ((x1 >>> (x2 &&& 31)) &&& (nI 255))) 52 2 ((σ 52 2) + (nI 1)))))))
set_option maxRecDepth 20000 in
theorem t_X9_add_3 {G : sj_G} {R : sj_R} {x1 : Int32} {x2 : Int32} {σ : sj_S} (h : wp_X9_add_3 G R x1 x2 σ) : sj_J G 2 me_X9_add R 3 [.ref (sj_ad G 52), .int x1, .int x2, .null] σ [] := by
  unfold wp_X9_add_3 at h
  refine sj_iload_n dX9_add_3 (i := 2) rfl rfl ?_
  refine sj_if_lt (tgt := 54) dX9_add_4 (by decide) (fun c1 => ?_) (fun c1 => ?_)
  · replace h := h.1 c1
    subst h
    exact sj_vret dX9_add_54 rfl
  · replace h := h.2 c1
    refine sj_iload_n dX9_add_7 (i := 1) rfl rfl ?_
    refine sj_iload_n dX9_add_8 (i := 2) rfl rfl ?_
    refine sj_ishr dX9_add_9 ?_
    refine sj_sipush (v := (nI 255)) dX9_add_10 (by decide +kernel) ?_
    refine sj_iand dX9_add_13 ?_
    refine sj_istore_n dX9_add_14 (i := 3) rfl (by decide) ?_
    refine sj_iload_n dX9_add_15 (i := 3) rfl rfl ?_
    obtain ⟨f5, h⟩ := h
    refine sj_if_eq (tgt := 48) dX9_add_16 (by decide) (fun c2 => ?_) (fun c2 => ?_)
    · try simp only [if_pos c2] at h
      refine sj_fg [3] ?_
      exact t_X9_add_48 h
    · refine sj_aload_n dX9_add_19 (i := 0) rfl rfl ?_
      refine sj_get (a := 52) (k9 := 2) (v := .int (σ 52 2)) dX9_add_20 (by decide +kernel) rfl ?_
      refine sj_bipush (v := (nI 100)) dX9_add_23 (by decide +kernel) ?_
      refine sj_icmp_ge (tgt := 48) dX9_add_25 (by decide) (fun c3 => ?_) (fun c3 => ?_)
      · try simp only [if_neg c2, if_pos c3] at h
        refine sj_fg [3] ?_
        exact t_X9_add_48 h
      · have b4 := f5 c2 c3
        refine sj_aload_n dX9_add_28 (i := 0) rfl rfl ?_
        refine sj_get (a := 52) (k9 := 5) (v := .ref (sj_ad G 55)) dX9_add_29 (by decide +kernel) rfl ?_
        refine sj_aload_n dX9_add_32 (i := 0) rfl rfl ?_
        refine sj_get (a := 52) (k9 := 2) (v := .int (σ 52 2)) dX9_add_33 (by decide +kernel) rfl ?_
        refine sj_iload_n dX9_add_36 (i := 3) rfl rfl ?_
        refine sj_iast (a := 55) (j := (σ 52 2).toNatClampNeg) dX9_add_37 rfl (by decide +kernel) b4 rfl ?_
        refine sj_aload_n dX9_add_38 (i := 0) rfl rfl ?_
        refine sj_dup dX9_add_39 rfl ?_
        refine sj_get (a := 52) (k9 := 2) (v := .int (σ 52 2)) dX9_add_40 (by decide +kernel) rfl ?_
        refine sj_iconst (v := (nI 1)) dX9_add_43 (by decide +kernel) ?_
        refine sj_iadd dX9_add_44 ?_
        refine sj_put (a := 52) (k9 := 2) dX9_add_45 (by decide +kernel) (by decide +kernel) rfl ?_
        try simp only [if_neg c2, if_neg c3] at h
        refine sj_fg [3] ?_
        exact t_X9_add_48 h
def wp_X9_add_0 (G : sj_G) (R : sj_R) (x1 : Int32) (σ : sj_S) : Prop := sj_J G 2 me_X9_add R 3 [.ref (sj_ad G 52), .int x1, .int (nI 24), .null] σ []
set_option maxRecDepth 20000 in
theorem t_X9_add_0 {G : sj_G} {R : sj_R} {x1 : Int32} {σ : sj_S} (h : wp_X9_add_0 G R x1 σ) : sj_J G 2 me_X9_add R 0 [.ref (sj_ad G 52), .int x1, .null, .null] σ [] := by
  unfold wp_X9_add_0 at h
  refine sj_bipush (v := (nI 24)) dX9_add_0 (by decide +kernel) ?_
  refine sj_istore_n dX9_add_2 (i := 2) rfl (by decide) ?_
  exact h
theorem c_X9_add {G : sj_G} (ok : sj_ok G) {R : sj_R} {x1 : Int32} {σ : sj_S} (h : wp_X9_add_0 G R x1 σ) : sj_C G 2 me_X9_add [.ref (sj_ad G 52), .int x1] σ R :=
  sj_enter ok (by decide +kernel) rfl rfl (Nat.le_of_ble_eq_true rfl) (by simp [Value.category]) (t_X9_add_0 h)
def wp_X9_empty_0 (G : sj_G) (R : sj_R) (σ : sj_S) : Prop := R = (.ok (σ 52 2), (sj_st σ 52 2 (nI 0)))
set_option maxRecDepth 20000 in
theorem t_X9_empty_0 {G : sj_G} {R : sj_R} {σ : sj_S} (h : wp_X9_empty_0 G R σ) : sj_J G 2 me_X9_empty R 0 [.ref (sj_ad G 52), .null] σ [] := by
  unfold wp_X9_empty_0 at h
  refine sj_aload_n dX9_empty_0 (i := 0) rfl rfl ?_
  refine sj_get (a := 52) (k9 := 2) (v := .int (σ 52 2)) dX9_empty_1 (by decide +kernel) rfl ?_
  refine sj_istore_n dX9_empty_4 (i := 1) rfl (by decide) ?_
  refine sj_aload_n dX9_empty_5 (i := 0) rfl rfl ?_
  refine sj_iconst (v := (nI 0)) dX9_empty_6 (by decide +kernel) ?_
  refine sj_put (a := 52) (k9 := 2) dX9_empty_7 (by decide +kernel) (by decide +kernel) rfl ?_
  refine sj_iload_n dX9_empty_10 (i := 1) rfl rfl ?_
  subst h
  exact sj_ret dX9_empty_11 rfl rfl
theorem c_X9_empty {G : sj_G} (ok : sj_ok G) {R : sj_R} {σ : sj_S} (h : wp_X9_empty_0 G R σ) : sj_C G 2 me_X9_empty [.ref (sj_ad G 52)] σ R :=
  sj_enter ok (by decide +kernel) rfl rfl (Nat.le_of_ble_eq_true rfl) (by simp [Value.category]) (t_X9_empty_0 h)
def wp_X9_parse_68 (G : sj_G) (R : sj_R) (x2 : Int32) (x3 : Int32) (σ : sj_S) : Prop := sj_J G 10 me_X9_parse R 14 [.ref (sj_ad G 52), .ref (sj_ad G 1), .int x2, .int (x3 + (nI 1)), .null] σ []
set_option maxRecDepth 20000 in
theorem t_X9_parse_68 {G : sj_G} {R : sj_R} {x2 : Int32} {x3 : Int32} {σ : sj_S} (h : wp_X9_parse_68 G R x2 x3 σ) : sj_J G 10 me_X9_parse R 68 [.ref (sj_ad G 52), .ref (sj_ad G 1), .int x2, .int x3, .null] σ [] := by
  unfold wp_X9_parse_68 at h
  refine sj_iinc (v := (x3 + (nI 1))) dX9_parse_68 (by decide) rfl rfl ?_
  refine sj_goto (tgt := 14) dX9_parse_71 (by decide) ?_
  exact h
def wp_X9_parse_114 (G : sj_G) (R : sj_R) (s0 : Int32) (σ : sj_S) : Prop := R = (.ok s0, σ) ∧ (s0 = nI 0 ∨ s0 = nI 1)
set_option maxRecDepth 20000 in
theorem t_X9_parse_114 {G : sj_G} {R : sj_R} {s0 : Int32} {σ : sj_S} (h : wp_X9_parse_114 G R s0 σ) : sj_J G 10 me_X9_parse R 114 [.null, .null, .null, .null, .null] σ [.int s0] := by
  unfold wp_X9_parse_114 at h
  obtain ⟨h, hz⟩ := h
  subst h
  exact sj_ret dX9_parse_114 rfl (sj_nb hz)
def wp_X9_parse_101 (G : sj_G) (R : sj_R) (σ : sj_S) : Prop := (wp_X9_parse_114 G R (if (σ 52 3) = (-1) then (nI 1) else (nI 0)) σ)
set_option maxRecDepth 20000 in
theorem t_X9_parse_101 {G : sj_G} {R : sj_R} {σ : sj_S} (h : wp_X9_parse_101 G R σ) : sj_J G 10 me_X9_parse R 101 [.ref (sj_ad G 52), .null, .null, .null, .null] σ [] := by
  unfold wp_X9_parse_101 at h
  refine sj_aload_n dX9_parse_101 (i := 0) rfl rfl ?_
  refine sj_get (a := 52) (k9 := 3) (v := .int (σ 52 3)) dX9_parse_102 (by decide +kernel) rfl ?_
  refine sj_iconst (v := (-1)) dX9_parse_105 (by decide +kernel) ?_
  refine sj_icmp_ne (tgt := 113) dX9_parse_106 (by decide) (fun c1 => ?_) (fun c1 => ?_)
  · refine sj_iconst (v := (nI 0)) dX9_parse_113 (by decide +kernel) ?_
    try simp only [if_neg c1] at h
    refine sj_fg [0] ?_
    exact t_X9_parse_114 h
  · refine sj_iconst (v := (nI 1)) dX9_parse_109 (by decide +kernel) ?_
    refine sj_goto (tgt := 114) dX9_parse_110 (by decide) ?_
    try simp only [if_pos c1] at h
    refine sj_fg [0] ?_
    exact t_X9_parse_114 h
def wp_X9_parse_93 (G : sj_G) (R : sj_R) (σ : sj_S) : Prop := (wp_X9_parse_101 G R (sj_st σ 52 3 (σ 52 2)))
set_option maxRecDepth 20000 in
theorem t_X9_parse_93 {G : sj_G} {R : sj_R} {σ : sj_S} (h : wp_X9_parse_93 G R σ) : sj_J G 10 me_X9_parse R 93 [.ref (sj_ad G 52), .null, .null, .null, .null] σ [] := by
  unfold wp_X9_parse_93 at h
  refine sj_aload_n dX9_parse_93 (i := 0) rfl rfl ?_
  refine sj_aload_n dX9_parse_94 (i := 0) rfl rfl ?_
  refine sj_get (a := 52) (k9 := 2) (v := .int (σ 52 2)) dX9_parse_95 (by decide +kernel) rfl ?_
  refine sj_put (a := 52) (k9 := 3) dX9_parse_98 (by decide +kernel) (by decide +kernel) rfl ?_
  exact t_X9_parse_101 h
def wp_X9_parse_14 (G : sj_G) (R : sj_R) (x2 : Int32) (x3 : Int32) (σ : sj_S) : Prop := ((σ 52 2) ≤ x3 → (¬ x2 = 0 → (wp_X9_parse_93 G R σ)) ∧ (x2 = 0 → ∃ v4 σ4, sj_C G 2 me_X8_lessonTotal [.ref (sj_ad G 1)] σ (.ok v4, σ4) ∧ (wp_X9_parse_101 G R (if (σ 52 6) = (((nI 1) <<< (v4 &&& 31)) - (nI 1)) then σ4 else (sj_st σ4 52 3 (σ4 52 2)))))) ∧ (¬ ((σ 52 2) ≤ x3) → vp_in x3 100 ∧ ((σ 55 x3.toNatClampNeg) = (nI 32) → (wp_X9_parse_68 G R x2 x3 σ)) ∧ (¬ ((σ 55 x3.toNatClampNeg) = (nI 32)) → ((σ 55 x3.toNatClampNeg) = (nI 10) → (wp_X9_parse_68 G R x2 x3 σ)) ∧ (¬ ((σ 55 x3.toNatClampNeg) = (nI 10)) → ∃ v9 σ9, sj_C G 9 me_X9_accepts [.ref (sj_ad G 52), .ref (sj_ad G 1), .int x2, .int (σ 55 x3.toNatClampNeg)] σ (.ok v9, σ9) ∧ (¬ v9 = 0 → (wp_X9_parse_68 G R ((x2 + (nI 1)) - (x2 + (nI 1)) / (nI 4) * (nI 4)) x3 σ9)) ∧ (v9 = 0 → R = (.ok (nI 0), (sj_st σ9 52 3 x3))))))
set_option maxRecDepth 20000 in
theorem t_X9_parse_14 {G : sj_G} {R : sj_R} {x2 : Int32} {x3 : Int32} {σ : sj_S} (h : wp_X9_parse_14 G R x2 x3 σ) : sj_J G 10 me_X9_parse R 14 [.ref (sj_ad G 52), .ref (sj_ad G 1), .int x2, .int x3, .null] σ [] := by
  unfold wp_X9_parse_14 at h
  refine sj_iload_n dX9_parse_14 (i := 3) rfl rfl ?_
  refine sj_aload_n dX9_parse_15 (i := 0) rfl rfl ?_
  refine sj_get (a := 52) (k9 := 2) (v := .int (σ 52 2)) dX9_parse_16 (by decide +kernel) rfl ?_
  refine sj_icmp_ge (tgt := 74) dX9_parse_19 (by decide) (fun c1 => ?_) (fun c1 => ?_)
  · replace h := h.1 c1
    refine sj_iload_n dX9_parse_74 (i := 2) rfl rfl ?_
    refine sj_if_ne (tgt := 93) dX9_parse_75 (by decide) (fun c3 => ?_) (fun c3 => ?_)
    · replace h := h.1 c3
      refine sj_fg [1, 2, 3] ?_
      exact t_X9_parse_93 h
    · replace h := h.2 c3
      refine sj_aload_n dX9_parse_78 (i := 0) rfl rfl ?_
      refine sj_get (a := 52) (k9 := 6) (v := .int (σ 52 6)) dX9_parse_79 (by decide +kernel) rfl ?_
      refine sj_iconst (v := (nI 1)) dX9_parse_82 (by decide +kernel) ?_
      refine sj_aload_n dX9_parse_83 (i := 1) rfl rfl ?_
      obtain ⟨v4, σ4, hc4, h⟩ := h
      refine sj_callVi (M' := me_X8_lessonTotal) (b := 1) (As := []) (rest := [.int (nI 1), .int (σ 52 6)]) dX9_parse_84 gX9_parse_X8_lessonTotal rfl hd_X8_lessonTotal (by decide +kernel) (by decide +kernel) rfl (Nat.le_of_ble_eq_true rfl) (by omega) rfl hc4 ?_
      refine sj_ishl dX9_parse_87 ?_
      refine sj_iconst (v := (nI 1)) dX9_parse_88 (by decide +kernel) ?_
      refine sj_isub dX9_parse_89 ?_
      refine sj_icmp_eq (tgt := 101) dX9_parse_90 (by decide) (fun c5 => ?_) (fun c5 => ?_)
      · try simp only [if_pos c5] at h
        refine sj_fg [1, 2, 3] ?_
        exact t_X9_parse_101 h
      · refine sj_aload_n dX9_parse_93 (i := 0) rfl rfl ?_
        refine sj_aload_n dX9_parse_94 (i := 0) rfl rfl ?_
        refine sj_get (a := 52) (k9 := 2) (v := .int (σ4 52 2)) dX9_parse_95 (by decide +kernel) rfl ?_
        refine sj_put (a := 52) (k9 := 3) dX9_parse_98 (by decide +kernel) (by decide +kernel) rfl ?_
        try simp only [if_neg c5] at h
        refine sj_fg [1, 2, 3] ?_
        exact t_X9_parse_101 h
  · replace h := h.2 c1
    refine sj_aload_n dX9_parse_22 (i := 0) rfl rfl ?_
    refine sj_get (a := 52) (k9 := 5) (v := .ref (sj_ad G 55)) dX9_parse_23 (by decide +kernel) rfl ?_
    refine sj_iload_n dX9_parse_26 (i := 3) rfl rfl ?_
    obtain ⟨b6, h⟩ := h
    refine sj_iald (a := 55) (j := x3.toNatClampNeg) (x := (σ 55 x3.toNatClampNeg)) dX9_parse_27 rfl (by decide +kernel) b6 rfl rfl ?_
    refine sj_istore dX9_parse_28 (by decide) ?_
    refine sj_iload dX9_parse_30 rfl ?_
    refine sj_bipush (v := (nI 32)) dX9_parse_32 (by decide +kernel) ?_
    refine sj_icmp_eq (tgt := 68) dX9_parse_34 (by decide) (fun c7 => ?_) (fun c7 => ?_)
    · replace h := h.1 c7
      refine sj_fg [4] ?_
      exact t_X9_parse_68 h
    · replace h := h.2 c7
      refine sj_iload dX9_parse_37 rfl ?_
      refine sj_bipush (v := (nI 10)) dX9_parse_39 (by decide +kernel) ?_
      refine sj_icmp_eq (tgt := 68) dX9_parse_41 (by decide) (fun c8 => ?_) (fun c8 => ?_)
      · replace h := h.1 c8
        refine sj_fg [4] ?_
        exact t_X9_parse_68 h
      · replace h := h.2 c8
        refine sj_aload_n dX9_parse_44 (i := 0) rfl rfl ?_
        refine sj_aload_n dX9_parse_45 (i := 1) rfl rfl ?_
        refine sj_iload_n dX9_parse_46 (i := 2) rfl rfl ?_
        refine sj_iload dX9_parse_47 rfl ?_
        obtain ⟨v9, σ9, hc9, h⟩ := h
        refine sj_callVi (M' := me_X9_accepts) (b := 52) (As := [.ref (sj_ad G 1), .int x2, .int (σ 55 x3.toNatClampNeg)]) (rest := []) dX9_parse_49 gX9_parse_X9_accepts rfl hd_X9_accepts (by decide +kernel) (by decide +kernel) rfl (Nat.le_of_ble_eq_true rfl) (by omega) rfl hc9 ?_
        refine sj_if_ne (tgt := 62) dX9_parse_52 (by decide) (fun c10 => ?_) (fun c10 => ?_)
        · replace h := h.1 c10
          refine sj_iload_n dX9_parse_62 (i := 2) rfl rfl ?_
          refine sj_iconst (v := (nI 1)) dX9_parse_63 (by decide +kernel) ?_
          refine sj_iadd dX9_parse_64 ?_
          refine sj_iconst (v := (nI 4)) dX9_parse_65 (by decide +kernel) ?_
          refine sj_irem dX9_parse_66 (by decide +kernel) ?_
          refine sj_istore_n dX9_parse_67 (i := 2) rfl (by decide) ?_
          refine sj_fg [4] ?_
          exact t_X9_parse_68 h
        · replace h := h.2 c10
          refine sj_aload_n dX9_parse_55 (i := 0) rfl rfl ?_
          refine sj_iload_n dX9_parse_56 (i := 3) rfl rfl ?_
          refine sj_put (a := 52) (k9 := 3) dX9_parse_57 (by decide +kernel) (by decide +kernel) rfl ?_
          refine sj_iconst (v := (nI 0)) dX9_parse_60 (by decide +kernel) ?_
          subst h
          exact sj_ret dX9_parse_61 rfl rfl
def wp_X9_parse_0 (G : sj_G) (R : sj_R) (σ : sj_S) : Prop := sj_J G 10 me_X9_parse R 14 [.ref (sj_ad G 52), .ref (sj_ad G 1), .int (nI 0), .int (nI 0), .null] (sj_st (sj_st σ 52 6 (nI 0)) 52 3 (-1)) []
set_option maxRecDepth 20000 in
theorem t_X9_parse_0 {G : sj_G} {R : sj_R} {σ : sj_S} (h : wp_X9_parse_0 G R σ) : sj_J G 10 me_X9_parse R 0 [.ref (sj_ad G 52), .ref (sj_ad G 1), .null, .null, .null] σ [] := by
  unfold wp_X9_parse_0 at h
  refine sj_aload_n dX9_parse_0 (i := 0) rfl rfl ?_
  refine sj_iconst (v := (nI 0)) dX9_parse_1 (by decide +kernel) ?_
  refine sj_put (a := 52) (k9 := 6) dX9_parse_2 (by decide +kernel) (by decide +kernel) rfl ?_
  refine sj_aload_n dX9_parse_5 (i := 0) rfl rfl ?_
  refine sj_iconst (v := (-1)) dX9_parse_6 (by decide +kernel) ?_
  refine sj_put (a := 52) (k9 := 3) dX9_parse_7 (by decide +kernel) (by decide +kernel) rfl ?_
  refine sj_iconst (v := (nI 0)) dX9_parse_10 (by decide +kernel) ?_
  refine sj_istore_n dX9_parse_11 (i := 2) rfl (by decide) ?_
  refine sj_iconst (v := (nI 0)) dX9_parse_12 (by decide +kernel) ?_
  refine sj_istore_n dX9_parse_13 (i := 3) rfl (by decide) ?_
  exact h
theorem c_X9_parse {G : sj_G} (ok : sj_ok G) {R : sj_R} {σ : sj_S} (h : wp_X9_parse_0 G R σ) : sj_C G 10 me_X9_parse [.ref (sj_ad G 52), .ref (sj_ad G 1)] σ R :=
  sj_enter ok (by decide +kernel) rfl rfl (Nat.le_of_ble_eq_true rfl) (by simp [Value.category]) (t_X9_parse_0 h)
def wp_X9_accepts_65 (G : sj_G) (R : sj_R) (s0 : Int32) (σ : sj_S) : Prop := R = (.ok s0, σ) ∧ (s0 = nI 0 ∨ s0 = nI 1)
set_option maxRecDepth 20000 in
theorem t_X9_accepts_65 {G : sj_G} {R : sj_R} {s0 : Int32} {σ : sj_S} (h : wp_X9_accepts_65 G R s0 σ) : sj_J G 9 me_X9_accepts R 65 [.null, .null, .null, .null] σ [.int s0] := by
  unfold wp_X9_accepts_65 at h
  obtain ⟨h, hz⟩ := h
  subst h
  exact sj_ret dX9_accepts_65 rfl (sj_nb hz)
def wp_X9_accepts_0 (G : sj_G) (R : sj_R) (x2 : Int32) (x3 : Int32) (σ : sj_S) : Prop := (x2 = nI 0 → ∃ v1 σ1, sj_C G 3 me_X9_acceptsLesson [.ref (sj_ad G 52), .ref (sj_ad G 1), .int (x3 - (nI 48))] σ (.ok v1, σ1) ∧ R = (.ok v1, σ1) ∧ (v1 = nI 0 ∨ v1 = nI 1)) ∧ (x2 = nI 1 → ∃ v2 σ2, sj_C G 8 me_X9_acceptsDay [.ref (sj_ad G 52), .int x3] σ (.ok v2, σ2) ∧ R = (.ok v2, σ2) ∧ (v2 = nI 0 ∨ v2 = nI 1)) ∧ (x2 = nI 2 → ∃ v3 σ3, sj_C G 3 me_X9_acceptsHour [.ref (sj_ad G 52), .ref (sj_ad G 1), .int (x3 - (nI 48))] σ (.ok v3, σ3) ∧ R = (.ok v3, σ3) ∧ (v3 = nI 0 ∨ v3 = nI 1)) ∧ (¬ x2 = nI 0 → ¬ x2 = nI 1 → ¬ x2 = nI 2 → (wp_X9_accepts_65 G R (if x3 = (nI 59) then (nI 1) else (nI 0)) σ))
set_option maxRecDepth 20000 in
theorem t_X9_accepts_0 {G : sj_G} {R : sj_R} {x2 : Int32} {x3 : Int32} {σ : sj_S} (h : wp_X9_accepts_0 G R x2 x3 σ) : sj_J G 9 me_X9_accepts R 0 [.ref (sj_ad G 52), .ref (sj_ad G 1), .int x2, .int x3] σ [] := by
  unfold wp_X9_accepts_0 at h
  refine sj_iload_n dX9_accepts_0 (i := 2) rfl rfl ?_
  by_cases e1_0 : x2 = nI 0
  · replace h := h.1 e1_0
    refine sj_tableIn (tgt := 28) dX9_accepts_1 (by rw [e1_0]; decide +kernel) (by rw [e1_0]; decide +kernel) (by rw [e1_0]; rfl) (by decide) ?_
    refine sj_aload_n dX9_accepts_28 (i := 0) rfl rfl ?_
    refine sj_aload_n dX9_accepts_29 (i := 1) rfl rfl ?_
    refine sj_iload_n dX9_accepts_30 (i := 3) rfl rfl ?_
    refine sj_bipush (v := (nI 48)) dX9_accepts_31 (by decide +kernel) ?_
    refine sj_isub dX9_accepts_33 ?_
    obtain ⟨v1, σ1, hc1, h⟩ := h
    refine sj_callVi (M' := me_X9_acceptsLesson) (b := 52) (As := [.ref (sj_ad G 1), .int (x3 - (nI 48))]) (rest := []) dX9_accepts_34 gX9_accepts_X9_acceptsLesson rfl hd_X9_acceptsLesson (by decide +kernel) (by decide +kernel) rfl (Nat.le_of_ble_eq_true rfl) (by omega) rfl hc1 ?_
    obtain ⟨h, hz⟩ := h
    subst h
    exact sj_ret dX9_accepts_37 rfl (sj_nb hz)
  by_cases e1_1 : x2 = nI 1
  · replace h := h.2.1 e1_1
    refine sj_tableIn (tgt := 38) dX9_accepts_1 (by rw [e1_1]; decide +kernel) (by rw [e1_1]; decide +kernel) (by rw [e1_1]; rfl) (by decide) ?_
    refine sj_aload_n dX9_accepts_38 (i := 0) rfl rfl ?_
    refine sj_iload_n dX9_accepts_39 (i := 3) rfl rfl ?_
    obtain ⟨v2, σ2, hc2, h⟩ := h
    refine sj_callVi (M' := me_X9_acceptsDay) (b := 52) (As := [.int x3]) (rest := []) dX9_accepts_40 gX9_accepts_X9_acceptsDay rfl hd_X9_acceptsDay (by decide +kernel) (by decide +kernel) rfl (Nat.le_of_ble_eq_true rfl) (by omega) rfl hc2 ?_
    obtain ⟨h, hz⟩ := h
    subst h
    exact sj_ret dX9_accepts_43 rfl (sj_nb hz)
  by_cases e1_2 : x2 = nI 2
  · replace h := h.2.2.1 e1_2
    refine sj_tableIn (tgt := 44) dX9_accepts_1 (by rw [e1_2]; decide +kernel) (by rw [e1_2]; decide +kernel) (by rw [e1_2]; rfl) (by decide) ?_
    refine sj_aload_n dX9_accepts_44 (i := 0) rfl rfl ?_
    refine sj_aload_n dX9_accepts_45 (i := 1) rfl rfl ?_
    refine sj_iload_n dX9_accepts_46 (i := 3) rfl rfl ?_
    refine sj_bipush (v := (nI 48)) dX9_accepts_47 (by decide +kernel) ?_
    refine sj_isub dX9_accepts_49 ?_
    obtain ⟨v3, σ3, hc3, h⟩ := h
    refine sj_callVi (M' := me_X9_acceptsHour) (b := 52) (As := [.ref (sj_ad G 1), .int (x3 - (nI 48))]) (rest := []) dX9_accepts_50 gX9_accepts_X9_acceptsHour rfl hd_X9_acceptsHour (by decide +kernel) (by decide +kernel) rfl (Nat.le_of_ble_eq_true rfl) (by omega) rfl hc3 ?_
    obtain ⟨h, hz⟩ := h
    subst h
    exact sj_ret dX9_accepts_53 rfl (sj_nb hz)
  replace h := h.2.2.2 e1_0 e1_1 e1_2
  refine sj_tableOut (tgt := 54) dX9_accepts_1 (sj_sw 3 (by decide) (fun k hk => by rcases (by omega : k = 0 ∨ k = 1 ∨ k = 2) with e9 | e9 | e9 <;> subst e9 <;> assumption)) (by decide) ?_
  refine sj_iload_n dX9_accepts_54 (i := 3) rfl rfl ?_
  refine sj_bipush (v := (nI 59)) dX9_accepts_55 (by decide +kernel) ?_
  refine sj_icmp_ne (tgt := 64) dX9_accepts_57 (by decide) (fun c4 => ?_) (fun c4 => ?_)
  · refine sj_iconst (v := (nI 0)) dX9_accepts_64 (by decide +kernel) ?_
    try simp only [if_neg c4] at h
    refine sj_fg [0, 1, 2, 3] ?_
    exact t_X9_accepts_65 h
  · refine sj_iconst (v := (nI 1)) dX9_accepts_60 (by decide +kernel) ?_
    refine sj_goto (tgt := 65) dX9_accepts_61 (by decide) ?_
    try simp only [if_pos c4] at h
    refine sj_fg [0, 1, 2, 3] ?_
    exact t_X9_accepts_65 h
theorem c_X9_accepts {G : sj_G} (ok : sj_ok G) {R : sj_R} {x2 : Int32} {x3 : Int32} {σ : sj_S} (h : wp_X9_accepts_0 G R x2 x3 σ) : sj_C G 9 me_X9_accepts [.ref (sj_ad G 52), .ref (sj_ad G 1), .int x2, .int x3] σ R :=
  sj_enter ok (by decide +kernel) rfl rfl (Nat.le_of_ble_eq_true rfl) (by simp [Value.category]) (t_X9_accepts_0 h)
def wp_X9_acceptsLesson_23 (G : sj_G) (R : sj_R) (σ : sj_S) : Prop := R = (.ok (nI 0), σ)
set_option maxRecDepth 20000 in
theorem t_X9_acceptsLesson_23 {G : sj_G} {R : sj_R} {σ : sj_S} (h : wp_X9_acceptsLesson_23 G R σ) : sj_J G 3 me_X9_acceptsLesson R 23 [.null, .null, .null] σ [] := by
  unfold wp_X9_acceptsLesson_23 at h
  refine sj_iconst (v := (nI 0)) dX9_acceptsLesson_23 (by decide +kernel) ?_
  subst h
  exact sj_ret dX9_acceptsLesson_24 rfl rfl
def wp_X9_acceptsLesson_0 (G : sj_G) (R : sj_R) (x2 : Int32) (σ : sj_S) : Prop := (x2 < 0 → (wp_X9_acceptsLesson_23 G R σ)) ∧ (¬ (x2 < 0) → ∃ v2 σ2, sj_C G 2 me_X8_lessonTotal [.ref (sj_ad G 1)] σ (.ok v2, σ2) ∧ (v2 ≤ x2 → (wp_X9_acceptsLesson_23 G R σ2)) ∧ (¬ (v2 ≤ x2) → ((((σ2 52 6) >>> (x2 &&& 31)) &&& (nI 1)) = 0 → R = (.ok (nI 1), (sj_st (sj_st σ2 52 6 ((σ2 52 6) ||| ((nI 1) <<< (x2 &&& 31)))) 52 7 x2))) ∧ (¬ ((((σ2 52 6) >>> (x2 &&& 31)) &&& (nI 1)) = 0) → (wp_X9_acceptsLesson_23 G R σ2))))
set_option maxRecDepth 20000 in
theorem t_X9_acceptsLesson_0 {G : sj_G} {R : sj_R} {x2 : Int32} {σ : sj_S} (h : wp_X9_acceptsLesson_0 G R x2 σ) : sj_J G 3 me_X9_acceptsLesson R 0 [.ref (sj_ad G 52), .ref (sj_ad G 1), .int x2] σ [] := by
  unfold wp_X9_acceptsLesson_0 at h
  refine sj_iload_n dX9_acceptsLesson_0 (i := 2) rfl rfl ?_
  refine sj_if_lt (tgt := 23) dX9_acceptsLesson_1 (by decide) (fun c1 => ?_) (fun c1 => ?_)
  · replace h := h.1 c1
    refine sj_fg [0, 1, 2] ?_
    exact t_X9_acceptsLesson_23 h
  · replace h := h.2 c1
    refine sj_iload_n dX9_acceptsLesson_4 (i := 2) rfl rfl ?_
    refine sj_aload_n dX9_acceptsLesson_5 (i := 1) rfl rfl ?_
    obtain ⟨v2, σ2, hc2, h⟩ := h
    refine sj_callVi (M' := me_X8_lessonTotal) (b := 1) (As := []) (rest := [.int x2]) dX9_acceptsLesson_6 gX9_acceptsLesson_X8_lessonTotal rfl hd_X8_lessonTotal (by decide +kernel) (by decide +kernel) rfl (Nat.le_of_ble_eq_true rfl) (by omega) rfl hc2 ?_
    refine sj_icmp_ge (tgt := 23) dX9_acceptsLesson_9 (by decide) (fun c3 => ?_) (fun c3 => ?_)
    · replace h := h.1 c3
      refine sj_fg [0, 1, 2] ?_
      exact t_X9_acceptsLesson_23 h
    · replace h := h.2 c3
      refine sj_aload_n dX9_acceptsLesson_12 (i := 0) rfl rfl ?_
      refine sj_get (a := 52) (k9 := 6) (v := .int (σ2 52 6)) dX9_acceptsLesson_13 (by decide +kernel) rfl ?_
      refine sj_iload_n dX9_acceptsLesson_16 (i := 2) rfl rfl ?_
      refine sj_ishr dX9_acceptsLesson_17 ?_
      refine sj_iconst (v := (nI 1)) dX9_acceptsLesson_18 (by decide +kernel) ?_
      refine sj_iand dX9_acceptsLesson_19 ?_
      refine sj_if_eq (tgt := 25) dX9_acceptsLesson_20 (by decide) (fun c4 => ?_) (fun c4 => ?_)
      · replace h := h.1 c4
        refine sj_aload_n dX9_acceptsLesson_25 (i := 0) rfl rfl ?_
        refine sj_dup dX9_acceptsLesson_26 rfl ?_
        refine sj_get (a := 52) (k9 := 6) (v := .int (σ2 52 6)) dX9_acceptsLesson_27 (by decide +kernel) rfl ?_
        refine sj_iconst (v := (nI 1)) dX9_acceptsLesson_30 (by decide +kernel) ?_
        refine sj_iload_n dX9_acceptsLesson_31 (i := 2) rfl rfl ?_
        refine sj_ishl dX9_acceptsLesson_32 ?_
        refine sj_ior dX9_acceptsLesson_33 ?_
        refine sj_put (a := 52) (k9 := 6) dX9_acceptsLesson_34 (by decide +kernel) (by decide +kernel) rfl ?_
        refine sj_aload_n dX9_acceptsLesson_37 (i := 0) rfl rfl ?_
        refine sj_iload_n dX9_acceptsLesson_38 (i := 2) rfl rfl ?_
        refine sj_put (a := 52) (k9 := 7) dX9_acceptsLesson_39 (by decide +kernel) (by decide +kernel) rfl ?_
        refine sj_iconst (v := (nI 1)) dX9_acceptsLesson_42 (by decide +kernel) ?_
        subst h
        exact sj_ret dX9_acceptsLesson_43 rfl rfl
      · replace h := h.2 c4
        refine sj_fg [0, 1, 2] ?_
        exact t_X9_acceptsLesson_23 h
theorem c_X9_acceptsLesson {G : sj_G} (ok : sj_ok G) {R : sj_R} {x2 : Int32} {σ : sj_S} (h : wp_X9_acceptsLesson_0 G R x2 σ) : sj_C G 3 me_X9_acceptsLesson [.ref (sj_ad G 52), .ref (sj_ad G 1), .int x2] σ R :=
  sj_enter ok (by decide +kernel) rfl rfl (Nat.le_of_ble_eq_true rfl) (by simp [Value.category]) (t_X9_acceptsLesson_0 h)
def wp_X9_acceptsDay_2 (G : sj_G) (R : sj_R) (x1 : Int32) (x2 : Int32) (σ : sj_S) : Prop := ((nI 5) ≤ x2 → R = (.ok (nI 0), σ)) ∧ (¬ ((nI 5) ≤ x2) → ∃ v2 σ2, sj_C G 7 me_X9_letterOfDay [.ref (sj_ad G 52), .int x2] σ (.ok v2, σ2) ∧ (¬ v2 = x1 → sj_J G 8 me_X9_acceptsDay R 2 [.ref (sj_ad G 52), .int x1, .int (x2 + (nI 1))] σ2 []) ∧ (v2 = x1 → vp_in (σ2 52 7) 9 ∧ R = (.ok (nI 1), (sj_st σ2 53 (σ2 52 7).toNatClampNeg (x2 * (nI 4))))))
set_option maxRecDepth 20000 in
theorem t_X9_acceptsDay_2 {G : sj_G} {R : sj_R} {x1 : Int32} {x2 : Int32} {σ : sj_S} (h : wp_X9_acceptsDay_2 G R x1 x2 σ) : sj_J G 8 me_X9_acceptsDay R 2 [.ref (sj_ad G 52), .int x1, .int x2] σ [] := by
  unfold wp_X9_acceptsDay_2 at h
  refine sj_iload_n dX9_acceptsDay_2 (i := 2) rfl rfl ?_
  refine sj_iconst (v := (nI 5)) dX9_acceptsDay_3 (by decide +kernel) ?_
  refine sj_icmp_ge (tgt := 36) dX9_acceptsDay_4 (by decide) (fun c1 => ?_) (fun c1 => ?_)
  · replace h := h.1 c1
    refine sj_iconst (v := (nI 0)) dX9_acceptsDay_36 (by decide +kernel) ?_
    subst h
    exact sj_ret dX9_acceptsDay_37 rfl rfl
  · replace h := h.2 c1
    refine sj_aload_n dX9_acceptsDay_7 (i := 0) rfl rfl ?_
    refine sj_iload_n dX9_acceptsDay_8 (i := 2) rfl rfl ?_
    obtain ⟨v2, σ2, hc2, h⟩ := h
    refine sj_callVi (M' := me_X9_letterOfDay) (b := 52) (As := [.int x2]) (rest := []) dX9_acceptsDay_9 gX9_acceptsDay_X9_letterOfDay rfl hd_X9_letterOfDay (by decide +kernel) (by decide +kernel) rfl (Nat.le_of_ble_eq_true rfl) (by omega) rfl hc2 ?_
    refine sj_iload_n dX9_acceptsDay_12 (i := 1) rfl rfl ?_
    refine sj_icmp_ne (tgt := 30) dX9_acceptsDay_13 (by decide) (fun c3 => ?_) (fun c3 => ?_)
    · replace h := h.1 c3
      refine sj_iinc (v := (x2 + (nI 1))) dX9_acceptsDay_30 (by decide) rfl rfl ?_
      refine sj_goto (tgt := 2) dX9_acceptsDay_33 (by decide) ?_
      exact h
    · replace h := h.2 c3
      refine sj_aload_n dX9_acceptsDay_16 (i := 0) rfl rfl ?_
      refine sj_get (a := 52) (k9 := 0) (v := .ref (sj_ad G 53)) dX9_acceptsDay_17 (by decide +kernel) rfl ?_
      refine sj_aload_n dX9_acceptsDay_20 (i := 0) rfl rfl ?_
      refine sj_get (a := 52) (k9 := 7) (v := .int (σ2 52 7)) dX9_acceptsDay_21 (by decide +kernel) rfl ?_
      refine sj_iload_n dX9_acceptsDay_24 (i := 2) rfl rfl ?_
      refine sj_iconst (v := (nI 4)) dX9_acceptsDay_25 (by decide +kernel) ?_
      refine sj_imul dX9_acceptsDay_26 ?_
      obtain ⟨b4, h⟩ := h
      refine sj_iast (a := 53) (j := (σ2 52 7).toNatClampNeg) dX9_acceptsDay_27 rfl (by decide +kernel) b4 rfl ?_
      refine sj_iconst (v := (nI 1)) dX9_acceptsDay_28 (by decide +kernel) ?_
      subst h
      exact sj_ret dX9_acceptsDay_29 rfl rfl
def wp_X9_acceptsDay_0 (G : sj_G) (R : sj_R) (x1 : Int32) (σ : sj_S) : Prop := sj_J G 8 me_X9_acceptsDay R 2 [.ref (sj_ad G 52), .int x1, .int (nI 0)] σ []
set_option maxRecDepth 20000 in
theorem t_X9_acceptsDay_0 {G : sj_G} {R : sj_R} {x1 : Int32} {σ : sj_S} (h : wp_X9_acceptsDay_0 G R x1 σ) : sj_J G 8 me_X9_acceptsDay R 0 [.ref (sj_ad G 52), .int x1, .null] σ [] := by
  unfold wp_X9_acceptsDay_0 at h
  refine sj_iconst (v := (nI 0)) dX9_acceptsDay_0 (by decide +kernel) ?_
  refine sj_istore_n dX9_acceptsDay_1 (i := 2) rfl (by decide) ?_
  exact h
theorem c_X9_acceptsDay {G : sj_G} (ok : sj_ok G) {R : sj_R} {x1 : Int32} {σ : sj_S} (h : wp_X9_acceptsDay_0 G R x1 σ) : sj_C G 8 me_X9_acceptsDay [.ref (sj_ad G 52), .int x1] σ R :=
  sj_enter ok (by decide +kernel) rfl rfl (Nat.le_of_ble_eq_true rfl) (by simp [Value.category]) (t_X9_acceptsDay_0 h)
def wp_X9_acceptsHour_19 (G : sj_G) (R : sj_R) (σ : sj_S) : Prop := R = (.ok (nI 0), σ)
set_option maxRecDepth 20000 in
theorem t_X9_acceptsHour_19 {G : sj_G} {R : sj_R} {σ : sj_S} (h : wp_X9_acceptsHour_19 G R σ) : sj_J G 3 me_X9_acceptsHour R 19 [.null, .null, .null] σ [] := by
  unfold wp_X9_acceptsHour_19 at h
  refine sj_iconst (v := (nI 0)) dX9_acceptsHour_19 (by decide +kernel) ?_
  subst h
  exact sj_ret dX9_acceptsHour_20 rfl rfl
def wp_X9_acceptsHour_0 (G : sj_G) (R : sj_R) (x2 : Int32) (σ : sj_S) : Prop := (x2 < 0 → (wp_X9_acceptsHour_19 G R σ)) ∧ (¬ (x2 < 0) → ∃ v2 σ2, sj_C G 2 me_X8_ofLesson [.ref (sj_ad G 1), .int (σ 52 7), .int (nI 4)] σ (.ok v2, σ2) ∧ (x2 < ((nI 4) - v2) → vp_in (σ2 52 7) 9 ∧ vp_in (σ2 52 7) 9 ∧ R = (.ok (nI 1), (sj_st σ2 53 (σ2 52 7).toNatClampNeg ((σ2 53 (σ2 52 7).toNatClampNeg) + x2)))) ∧ (¬ (x2 < ((nI 4) - v2)) → (wp_X9_acceptsHour_19 G R σ2)))
set_option maxRecDepth 20000 in
theorem t_X9_acceptsHour_0 {G : sj_G} {R : sj_R} {x2 : Int32} {σ : sj_S} (h : wp_X9_acceptsHour_0 G R x2 σ) : sj_J G 3 me_X9_acceptsHour R 0 [.ref (sj_ad G 52), .ref (sj_ad G 1), .int x2] σ [] := by
  unfold wp_X9_acceptsHour_0 at h
  refine sj_iload_n dX9_acceptsHour_0 (i := 2) rfl rfl ?_
  refine sj_if_lt (tgt := 19) dX9_acceptsHour_1 (by decide) (fun c1 => ?_) (fun c1 => ?_)
  · replace h := h.1 c1
    refine sj_fg [0, 1, 2] ?_
    exact t_X9_acceptsHour_19 h
  · replace h := h.2 c1
    refine sj_iload_n dX9_acceptsHour_4 (i := 2) rfl rfl ?_
    refine sj_iconst (v := (nI 4)) dX9_acceptsHour_5 (by decide +kernel) ?_
    refine sj_aload_n dX9_acceptsHour_6 (i := 1) rfl rfl ?_
    refine sj_aload_n dX9_acceptsHour_7 (i := 0) rfl rfl ?_
    refine sj_get (a := 52) (k9 := 7) (v := .int (σ 52 7)) dX9_acceptsHour_8 (by decide +kernel) rfl ?_
    refine sj_iconst (v := (nI 4)) dX9_acceptsHour_11 (by decide +kernel) ?_
    obtain ⟨v2, σ2, hc2, h⟩ := h
    refine sj_callVi (M' := me_X8_ofLesson) (b := 1) (As := [.int (σ 52 7), .int (nI 4)]) (rest := [.int (nI 4), .int x2]) dX9_acceptsHour_12 gX9_acceptsHour_X8_ofLesson rfl hd_X8_ofLesson (by decide +kernel) (by decide +kernel) rfl (Nat.le_of_ble_eq_true rfl) (by omega) rfl hc2 ?_
    refine sj_isub dX9_acceptsHour_15 ?_
    refine sj_icmp_lt (tgt := 21) dX9_acceptsHour_16 (by decide) (fun c3 => ?_) (fun c3 => ?_)
    · replace h := h.1 c3
      refine sj_aload_n dX9_acceptsHour_21 (i := 0) rfl rfl ?_
      refine sj_get (a := 52) (k9 := 0) (v := .ref (sj_ad G 53)) dX9_acceptsHour_22 (by decide +kernel) rfl ?_
      refine sj_aload_n dX9_acceptsHour_25 (i := 0) rfl rfl ?_
      refine sj_get (a := 52) (k9 := 7) (v := .int (σ2 52 7)) dX9_acceptsHour_26 (by decide +kernel) rfl ?_
      refine sj_dup2 dX9_acceptsHour_29 rfl rfl ?_
      obtain ⟨b4, h⟩ := h
      refine sj_iald (a := 53) (j := (σ2 52 7).toNatClampNeg) (x := (σ2 53 (σ2 52 7).toNatClampNeg)) dX9_acceptsHour_30 rfl (by decide +kernel) b4 rfl rfl ?_
      refine sj_iload_n dX9_acceptsHour_31 (i := 2) rfl rfl ?_
      refine sj_iadd dX9_acceptsHour_32 ?_
      obtain ⟨b5, h⟩ := h
      refine sj_iast (a := 53) (j := (σ2 52 7).toNatClampNeg) dX9_acceptsHour_33 rfl (by decide +kernel) b5 rfl ?_
      refine sj_iconst (v := (nI 1)) dX9_acceptsHour_34 (by decide +kernel) ?_
      subst h
      exact sj_ret dX9_acceptsHour_35 rfl rfl
    · replace h := h.2 c3
      refine sj_fg [0, 1, 2] ?_
      exact t_X9_acceptsHour_19 h
theorem c_X9_acceptsHour {G : sj_G} (ok : sj_ok G) {R : sj_R} {x2 : Int32} {σ : sj_S} (h : wp_X9_acceptsHour_0 G R x2 σ) : sj_C G 3 me_X9_acceptsHour [.ref (sj_ad G 52), .ref (sj_ad G 1), .int x2] σ R :=
  sj_enter ok (by decide +kernel) rfl rfl (Nat.le_of_ble_eq_true rfl) (by simp [Value.category]) (t_X9_acceptsHour_0 h)
def wp_X9_print_7 (G : sj_G) (R : sj_R) (x2 : Int32) (σ : sj_S) : Prop := ∃ v1 σ1, sj_C G 2 me_X8_lessonTotal [.ref (sj_ad G 1)] σ (.ok v1, σ1) ∧ (v1 ≤ x2 → R = (.ok (σ1 52 4), σ1)) ∧ (¬ (v1 ≤ x2) → vp_in x2 9 ∧ vp_in (σ1 52 4) 36 ∧ vp_nar .char (((nI 48) + x2).toUInt32 % 65536).toInt32 = (((nI 48) + x2).toUInt32 % 65536).toInt32 ∧ ∃ v6 σ6, sj_C G 7 me_X9_letterOfDay [.ref (sj_ad G 52), .int ((σ1 3 x2.toNatClampNeg) / (nI 4))] (sj_st σ1 54 (σ1 52 4).toNatClampNeg (((nI 48) + x2).toUInt32 % 65536).toInt32) (.ok v6, σ6) ∧ vp_in ((σ1 52 4) + (nI 1)) 36 ∧ vp_nar .char v6 = v6 ∧ vp_in ((σ6 52 4) + (nI 2)) 36 ∧ vp_nar .char (((nI 48) + ((σ1 3 x2.toNatClampNeg) - (σ1 3 x2.toNatClampNeg) / (nI 4) * (nI 4))).toUInt32 % 65536).toInt32 = (((nI 48) + ((σ1 3 x2.toNatClampNeg) - (σ1 3 x2.toNatClampNeg) / (nI 4) * (nI 4))).toUInt32 % 65536).toInt32 ∧ vp_in ((σ6 52 4) + (nI 3)) 36 ∧ vp_nar .char (nI 59) = (nI 59) ∧ sj_J G 8 me_X9_print R 7 [.ref (sj_ad G 52), .ref (sj_ad G 1), .int (x2 + (nI 1)), .null] (sj_st (sj_st (sj_st (sj_st σ6 54 ((σ1 52 4) + (nI 1)).toNatClampNeg v6) 54 ((σ6 52 4) + (nI 2)).toNatClampNeg (((nI 48) + ((σ1 3 x2.toNatClampNeg) - (σ1 3 x2.toNatClampNeg) / (nI 4) * (nI 4))).toUInt32 % 65536).toInt32) 54 ((σ6 52 4) + (nI 3)).toNatClampNeg (nI 59)) 52 4 ((σ6 52 4) + (nI 4))) [])
set_option maxRecDepth 20000 in
theorem t_X9_print_7 {G : sj_G} {R : sj_R} {x2 : Int32} {σ : sj_S} (h : wp_X9_print_7 G R x2 σ) : sj_J G 8 me_X9_print R 7 [.ref (sj_ad G 52), .ref (sj_ad G 1), .int x2, .null] σ [] := by
  unfold wp_X9_print_7 at h
  refine sj_iload_n dX9_print_7 (i := 2) rfl rfl ?_
  refine sj_aload_n dX9_print_8 (i := 1) rfl rfl ?_
  obtain ⟨v1, σ1, hc1, h⟩ := h
  refine sj_callVi (M' := me_X8_lessonTotal) (b := 1) (As := []) (rest := [.int x2]) dX9_print_9 gX9_print_X8_lessonTotal rfl hd_X8_lessonTotal (by decide +kernel) (by decide +kernel) rfl (Nat.le_of_ble_eq_true rfl) (by omega) rfl hc1 ?_
  refine sj_icmp_ge (tgt := 101) dX9_print_12 (by decide) (fun c2 => ?_) (fun c2 => ?_)
  · replace h := h.1 c2
    refine sj_aload_n dX9_print_101 (i := 0) rfl rfl ?_
    refine sj_get (a := 52) (k9 := 4) (v := .int (σ1 52 4)) dX9_print_102 (by decide +kernel) rfl ?_
    subst h
    exact sj_ret dX9_print_105 rfl rfl
  · replace h := h.2 c2
    refine sj_aload_n dX9_print_15 (i := 1) rfl rfl ?_
    refine sj_get (a := 1) (k9 := 1) (v := .ref (sj_ad G 3)) dX9_print_16 (by decide +kernel) rfl ?_
    refine sj_iload_n dX9_print_19 (i := 2) rfl rfl ?_
    obtain ⟨b3, h⟩ := h
    refine sj_iald (a := 3) (j := x2.toNatClampNeg) (x := (σ1 3 x2.toNatClampNeg)) dX9_print_20 rfl (by decide +kernel) b3 rfl rfl ?_
    refine sj_istore_n dX9_print_21 (i := 3) rfl (by decide) ?_
    refine sj_aload_n dX9_print_22 (i := 0) rfl rfl ?_
    refine sj_get (a := 52) (k9 := 1) (v := .ref (sj_ad G 54)) dX9_print_23 (by decide +kernel) rfl ?_
    refine sj_aload_n dX9_print_26 (i := 0) rfl rfl ?_
    refine sj_get (a := 52) (k9 := 4) (v := .int (σ1 52 4)) dX9_print_27 (by decide +kernel) rfl ?_
    refine sj_bipush (v := (nI 48)) dX9_print_30 (by decide +kernel) ?_
    refine sj_iload_n dX9_print_32 (i := 2) rfl rfl ?_
    refine sj_iadd dX9_print_33 ?_
    refine sj_i2c dX9_print_34 ?_
    obtain ⟨b4, b5, h⟩ := h
    refine sj_cast (a := 54) (j := (σ1 52 4).toNatClampNeg) dX9_print_35 rfl (by decide +kernel) b4 rfl b5 ?_
    refine sj_aload_n dX9_print_36 (i := 0) rfl rfl ?_
    refine sj_get (a := 52) (k9 := 1) (v := .ref (sj_ad G 54)) dX9_print_37 (by decide +kernel) rfl ?_
    refine sj_aload_n dX9_print_40 (i := 0) rfl rfl ?_
    refine sj_get (a := 52) (k9 := 4) (v := .int (σ1 52 4)) dX9_print_41 (by decide +kernel) rfl ?_
    refine sj_iconst (v := (nI 1)) dX9_print_44 (by decide +kernel) ?_
    refine sj_iadd dX9_print_45 ?_
    refine sj_aload_n dX9_print_46 (i := 0) rfl rfl ?_
    refine sj_iload_n dX9_print_47 (i := 3) rfl rfl ?_
    refine sj_iconst (v := (nI 4)) dX9_print_48 (by decide +kernel) ?_
    refine sj_idiv dX9_print_49 (by decide +kernel) ?_
    obtain ⟨v6, σ6, hc6, h⟩ := h
    refine sj_callVi (M' := me_X9_letterOfDay) (b := 52) (As := [.int ((σ1 3 x2.toNatClampNeg) / (nI 4))]) (rest := [.int ((σ1 52 4) + (nI 1)), .ref (sj_ad G 54)]) dX9_print_50 gX9_print_X9_letterOfDay rfl hd_X9_letterOfDay (by decide +kernel) (by decide +kernel) rfl (Nat.le_of_ble_eq_true rfl) (by omega) rfl hc6 ?_
    obtain ⟨b7, b8, h⟩ := h
    refine sj_cast (a := 54) (j := ((σ1 52 4) + (nI 1)).toNatClampNeg) dX9_print_53 rfl (by decide +kernel) b7 rfl b8 ?_
    refine sj_aload_n dX9_print_54 (i := 0) rfl rfl ?_
    refine sj_get (a := 52) (k9 := 1) (v := .ref (sj_ad G 54)) dX9_print_55 (by decide +kernel) rfl ?_
    refine sj_aload_n dX9_print_58 (i := 0) rfl rfl ?_
    refine sj_get (a := 52) (k9 := 4) (v := .int (σ6 52 4)) dX9_print_59 (by decide +kernel) rfl ?_
    refine sj_iconst (v := (nI 2)) dX9_print_62 (by decide +kernel) ?_
    refine sj_iadd dX9_print_63 ?_
    refine sj_bipush (v := (nI 48)) dX9_print_64 (by decide +kernel) ?_
    refine sj_iload_n dX9_print_66 (i := 3) rfl rfl ?_
    refine sj_iconst (v := (nI 4)) dX9_print_67 (by decide +kernel) ?_
    refine sj_irem dX9_print_68 (by decide +kernel) ?_
    refine sj_iadd dX9_print_69 ?_
    refine sj_i2c dX9_print_70 ?_
    obtain ⟨b9, b10, h⟩ := h
    refine sj_cast (a := 54) (j := ((σ6 52 4) + (nI 2)).toNatClampNeg) dX9_print_71 rfl (by decide +kernel) b9 rfl b10 ?_
    refine sj_aload_n dX9_print_72 (i := 0) rfl rfl ?_
    refine sj_get (a := 52) (k9 := 1) (v := .ref (sj_ad G 54)) dX9_print_73 (by decide +kernel) rfl ?_
    refine sj_aload_n dX9_print_76 (i := 0) rfl rfl ?_
    refine sj_get (a := 52) (k9 := 4) (v := .int (σ6 52 4)) dX9_print_77 (by decide +kernel) rfl ?_
    refine sj_iconst (v := (nI 3)) dX9_print_80 (by decide +kernel) ?_
    refine sj_iadd dX9_print_81 ?_
    refine sj_bipush (v := (nI 59)) dX9_print_82 (by decide +kernel) ?_
    obtain ⟨b11, b12, h⟩ := h
    refine sj_cast (a := 54) (j := ((σ6 52 4) + (nI 3)).toNatClampNeg) dX9_print_84 rfl (by decide +kernel) b11 rfl b12 ?_
    refine sj_aload_n dX9_print_85 (i := 0) rfl rfl ?_
    refine sj_dup dX9_print_86 rfl ?_
    refine sj_get (a := 52) (k9 := 4) (v := .int (σ6 52 4)) dX9_print_87 (by decide +kernel) rfl ?_
    refine sj_iconst (v := (nI 4)) dX9_print_90 (by decide +kernel) ?_
    refine sj_iadd dX9_print_91 ?_
    refine sj_put (a := 52) (k9 := 4) dX9_print_92 (by decide +kernel) (by decide +kernel) rfl ?_
    refine sj_iinc (v := (x2 + (nI 1))) dX9_print_95 (by decide) rfl rfl ?_
    refine sj_goto (tgt := 7) dX9_print_98 (by decide) ?_
    refine sj_fg [3] ?_
    exact h
def wp_X9_print_0 (G : sj_G) (R : sj_R) (σ : sj_S) : Prop := sj_J G 8 me_X9_print R 7 [.ref (sj_ad G 52), .ref (sj_ad G 1), .int (nI 0), .null] (sj_st σ 52 4 (nI 0)) []
set_option maxRecDepth 20000 in
theorem t_X9_print_0 {G : sj_G} {R : sj_R} {σ : sj_S} (h : wp_X9_print_0 G R σ) : sj_J G 8 me_X9_print R 0 [.ref (sj_ad G 52), .ref (sj_ad G 1), .null, .null] σ [] := by
  unfold wp_X9_print_0 at h
  refine sj_aload_n dX9_print_0 (i := 0) rfl rfl ?_
  refine sj_iconst (v := (nI 0)) dX9_print_1 (by decide +kernel) ?_
  refine sj_put (a := 52) (k9 := 4) dX9_print_2 (by decide +kernel) (by decide +kernel) rfl ?_
  refine sj_iconst (v := (nI 0)) dX9_print_5 (by decide +kernel) ?_
  refine sj_istore_n dX9_print_6 (i := 2) rfl (by decide) ?_
  exact h
theorem c_X9_print {G : sj_G} (ok : sj_ok G) {R : sj_R} {σ : sj_S} (h : wp_X9_print_0 G R σ) : sj_C G 8 me_X9_print [.ref (sj_ad G 52), .ref (sj_ad G 1)] σ R :=
  sj_enter ok (by decide +kernel) rfl rfl (Nat.le_of_ble_eq_true rfl) (by simp [Value.category]) (t_X9_print_0 h)
def wp_X10_isDate_67 (G : sj_G) (R : sj_R) (s0 : Int32) (σ : sj_S) : Prop := R = (.ok s0, σ) ∧ (s0 = nI 0 ∨ s0 = nI 1)
set_option maxRecDepth 20000 in
theorem t_X10_isDate_67 {G : sj_G} {R : sj_R} {s0 : Int32} {σ : sj_S} (h : wp_X10_isDate_67 G R s0 σ) : sj_J G 3 me_X10_isDate R 67 [.null, .null, .null, .null, .null] σ [.int s0] := by
  unfold wp_X10_isDate_67 at h
  obtain ⟨h, hz⟩ := h
  subst h
  exact sj_ret dX10_isDate_67 rfl (sj_nb hz)
def wp_X10_isDate_66 (G : sj_G) (R : sj_R) (σ : sj_S) : Prop := (wp_X10_isDate_67 G R (nI 0) σ)
set_option maxRecDepth 20000 in
theorem t_X10_isDate_66 {G : sj_G} {R : sj_R} {σ : sj_S} (h : wp_X10_isDate_66 G R σ) : sj_J G 3 me_X10_isDate R 66 [.null, .null, .null, .null, .null] σ [] := by
  unfold wp_X10_isDate_66 at h
  refine sj_iconst (v := (nI 0)) dX10_isDate_66 (by decide +kernel) ?_
  exact t_X10_isDate_67 h
def wp_X10_isDate_0 (G : sj_G) (R : sj_R) (x1 : Int32) (σ : sj_S) : Prop := ((x1 / (nI 10000)) < (nI 2000) → (wp_X10_isDate_66 G R σ)) ∧ (¬ ((x1 / (nI 10000)) < (nI 2000)) → ((nI 2099) < (x1 / (nI 10000)) → (wp_X10_isDate_66 G R σ)) ∧ (¬ ((nI 2099) < (x1 / (nI 10000))) → (((x1 / (nI 100)) - (x1 / (nI 100)) / (nI 100) * (nI 100)) < (nI 1) → (wp_X10_isDate_66 G R σ)) ∧ (¬ (((x1 / (nI 100)) - (x1 / (nI 100)) / (nI 100) * (nI 100)) < (nI 1)) → ((nI 12) < ((x1 / (nI 100)) - (x1 / (nI 100)) / (nI 100) * (nI 100)) → (wp_X10_isDate_66 G R σ)) ∧ (¬ ((nI 12) < ((x1 / (nI 100)) - (x1 / (nI 100)) / (nI 100) * (nI 100))) → ((x1 - x1 / (nI 100) * (nI 100)) < (nI 1) → (wp_X10_isDate_66 G R σ)) ∧ (¬ ((x1 - x1 / (nI 100) * (nI 100)) < (nI 1)) → ∃ v21 σ21, sj_C G 2 me_X10_monthLength [.ref (sj_ad G 50), .int (x1 / (nI 10000)), .int ((x1 / (nI 100)) - (x1 / (nI 100)) / (nI 100) * (nI 100))] σ (.ok v21, σ21) ∧ (wp_X10_isDate_67 G R (if v21 < (x1 - x1 / (nI 100) * (nI 100)) then (nI 0) else (nI 1)) σ21))))))
set_option maxRecDepth 20000 in
theorem t_X10_isDate_0 {G : sj_G} {R : sj_R} {x1 : Int32} {σ : sj_S} (h : wp_X10_isDate_0 G R x1 σ) : sj_J G 3 me_X10_isDate R 0 [.ref (sj_ad G 50), .int x1, .null, .null, .null] σ [] := by
  unfold wp_X10_isDate_0 at h
  refine sj_iload_n dX10_isDate_0 (i := 1) rfl rfl ?_
  refine sj_sipush (v := (nI 10000)) dX10_isDate_1 (by decide +kernel) ?_
  refine sj_idiv dX10_isDate_4 (by decide +kernel) ?_
  refine sj_istore_n dX10_isDate_5 (i := 2) rfl (by decide) ?_
  refine sj_iload_n dX10_isDate_6 (i := 1) rfl rfl ?_
  refine sj_bipush (v := (nI 100)) dX10_isDate_7 (by decide +kernel) ?_
  refine sj_idiv dX10_isDate_9 (by decide +kernel) ?_
  refine sj_bipush (v := (nI 100)) dX10_isDate_10 (by decide +kernel) ?_
  refine sj_irem dX10_isDate_12 (by decide +kernel) ?_
  refine sj_istore_n dX10_isDate_13 (i := 3) rfl (by decide) ?_
  refine sj_iload_n dX10_isDate_14 (i := 1) rfl rfl ?_
  refine sj_bipush (v := (nI 100)) dX10_isDate_15 (by decide +kernel) ?_
  refine sj_irem dX10_isDate_17 (by decide +kernel) ?_
  refine sj_istore dX10_isDate_18 (by decide) ?_
  refine sj_iload_n dX10_isDate_20 (i := 2) rfl rfl ?_
  refine sj_sipush (v := (nI 2000)) dX10_isDate_21 (by decide +kernel) ?_
  refine sj_icmp_lt (tgt := 66) dX10_isDate_24 (by decide) (fun c6 => ?_) (fun c6 => ?_)
  · replace h := h.1 c6
    refine sj_fg [0, 1, 2, 3, 4] ?_
    exact t_X10_isDate_66 h
  · replace h := h.2 c6
    refine sj_iload_n dX10_isDate_27 (i := 2) rfl rfl ?_
    refine sj_sipush (v := (nI 2099)) dX10_isDate_28 (by decide +kernel) ?_
    refine sj_icmp_gt (tgt := 66) dX10_isDate_31 (by decide) (fun c11 => ?_) (fun c11 => ?_)
    · replace h := h.1 c11
      refine sj_fg [0, 1, 2, 3, 4] ?_
      exact t_X10_isDate_66 h
    · replace h := h.2 c11
      refine sj_iload_n dX10_isDate_34 (i := 3) rfl rfl ?_
      refine sj_iconst (v := (nI 1)) dX10_isDate_35 (by decide +kernel) ?_
      refine sj_icmp_lt (tgt := 66) dX10_isDate_36 (by decide) (fun c15 => ?_) (fun c15 => ?_)
      · replace h := h.1 c15
        refine sj_fg [0, 1, 2, 3, 4] ?_
        exact t_X10_isDate_66 h
      · replace h := h.2 c15
        refine sj_iload_n dX10_isDate_39 (i := 3) rfl rfl ?_
        refine sj_bipush (v := (nI 12)) dX10_isDate_40 (by decide +kernel) ?_
        refine sj_icmp_gt (tgt := 66) dX10_isDate_42 (by decide) (fun c18 => ?_) (fun c18 => ?_)
        · replace h := h.1 c18
          refine sj_fg [0, 1, 2, 3, 4] ?_
          exact t_X10_isDate_66 h
        · replace h := h.2 c18
          refine sj_iload dX10_isDate_45 rfl ?_
          refine sj_iconst (v := (nI 1)) dX10_isDate_47 (by decide +kernel) ?_
          refine sj_icmp_lt (tgt := 66) dX10_isDate_48 (by decide) (fun c20 => ?_) (fun c20 => ?_)
          · replace h := h.1 c20
            refine sj_fg [0, 1, 2, 3, 4] ?_
            exact t_X10_isDate_66 h
          · replace h := h.2 c20
            refine sj_iload dX10_isDate_51 rfl ?_
            refine sj_aload_n dX10_isDate_53 (i := 0) rfl rfl ?_
            refine sj_iload_n dX10_isDate_54 (i := 2) rfl rfl ?_
            refine sj_iload_n dX10_isDate_55 (i := 3) rfl rfl ?_
            obtain ⟨v21, σ21, hc21, h⟩ := h
            refine sj_callVi (M' := me_X10_monthLength) (b := 50) (As := [.int (x1 / (nI 10000)), .int ((x1 / (nI 100)) - (x1 / (nI 100)) / (nI 100) * (nI 100))]) (rest := [.int (x1 - x1 / (nI 100) * (nI 100))]) dX10_isDate_56 gX10_isDate_X10_monthLength rfl hd_X10_monthLength (by decide +kernel) (by decide +kernel) rfl (Nat.le_of_ble_eq_true rfl) (by omega) rfl hc21 ?_
            refine sj_icmp_gt (tgt := 66) dX10_isDate_59 (by decide) (fun c22 => ?_) (fun c22 => ?_)
            · refine sj_iconst (v := (nI 0)) dX10_isDate_66 (by decide +kernel) ?_
              try simp only [if_pos c22] at h
              refine sj_fg [0, 1, 2, 3, 4] ?_
              exact t_X10_isDate_67 h
            · refine sj_iconst (v := (nI 1)) dX10_isDate_62 (by decide +kernel) ?_
              refine sj_goto (tgt := 67) dX10_isDate_63 (by decide) ?_
              try simp only [if_neg c22] at h
              refine sj_fg [0, 1, 2, 3, 4] ?_
              exact t_X10_isDate_67 h
theorem c_X10_isDate {G : sj_G} (ok : sj_ok G) {R : sj_R} {x1 : Int32} {σ : sj_S} (h : wp_X10_isDate_0 G R x1 σ) : sj_C G 3 me_X10_isDate [.ref (sj_ad G 50), .int x1] σ R :=
  sj_enter ok (by decide +kernel) rfl rfl (Nat.le_of_ble_eq_true rfl) (by simp [Value.category]) (t_X10_isDate_0 h)
def wp_X10_monthLength_43 (G : sj_G) (R : sj_R) (s0 : Int32) (σ : sj_S) : Prop := R = (.ok s0, σ)
set_option maxRecDepth 20000 in
theorem t_X10_monthLength_43 {G : sj_G} {R : sj_R} {s0 : Int32} {σ : sj_S} (h : wp_X10_monthLength_43 G R s0 σ) : sj_J G 2 me_X10_monthLength R 43 [.null, .null, .null, .null] σ [.int s0] := by
  unfold wp_X10_monthLength_43 at h
  subst h
  exact sj_ret dX10_monthLength_43 rfl rfl
def wp_X10_monthLength_31 (G : sj_G) (R : sj_R) (s0 : Int32) (σ : sj_S) : Prop := (wp_X10_monthLength_43 G R (if s0 = 0 then (nI 28) else (nI 29)) σ)
set_option maxRecDepth 20000 in
theorem t_X10_monthLength_31 {G : sj_G} {R : sj_R} {s0 : Int32} {σ : sj_S} (h : wp_X10_monthLength_31 G R s0 σ) : sj_J G 2 me_X10_monthLength R 31 [.null, .null, .null, .null] σ [.int s0] := by
  unfold wp_X10_monthLength_31 at h
  refine sj_istore_n dX10_monthLength_31 (i := 3) rfl (by decide) ?_
  refine sj_iload_n dX10_monthLength_32 (i := 3) rfl rfl ?_
  refine sj_if_eq (tgt := 41) dX10_monthLength_33 (by decide) (fun c1 => ?_) (fun c1 => ?_)
  · refine sj_bipush (v := (nI 28)) dX10_monthLength_41 (by decide +kernel) ?_
    try simp only [if_pos c1] at h
    refine sj_fg [3] ?_
    exact t_X10_monthLength_43 h
  · refine sj_bipush (v := (nI 29)) dX10_monthLength_36 (by decide +kernel) ?_
    refine sj_goto (tgt := 43) dX10_monthLength_38 (by decide) ?_
    try simp only [if_neg c1] at h
    refine sj_fg [3] ?_
    exact t_X10_monthLength_43 h
def wp_X10_monthLength_74 (G : sj_G) (R : sj_R) (s0 : Int32) (σ : sj_S) : Prop := R = (.ok s0, σ)
set_option maxRecDepth 20000 in
theorem t_X10_monthLength_74 {G : sj_G} {R : sj_R} {s0 : Int32} {σ : sj_S} (h : wp_X10_monthLength_74 G R s0 σ) : sj_J G 2 me_X10_monthLength R 74 [.null, .null, .null, .null] σ [.int s0] := by
  unfold wp_X10_monthLength_74 at h
  subst h
  exact sj_ret dX10_monthLength_74 rfl rfl
def wp_X10_monthLength_0 (G : sj_G) (R : sj_R) (x1 : Int32) (x2 : Int32) (σ : sj_S) : Prop := (¬ x2 = (nI 2) → (wp_X10_monthLength_74 G R (if x2 = (nI 4) then (nI 30) else (if x2 = (nI 6) then (nI 30) else (if x2 = (nI 9) then (nI 30) else (if x2 = (nI 11) then (nI 30) else (nI 31))))) σ)) ∧ (x2 = (nI 2) → (wp_X10_monthLength_31 G R (if (x1 - x1 / (nI 4) * (nI 4)) = 0 then (if (x1 - x1 / (nI 100) * (nI 100)) = 0 then (if (x1 - x1 / (nI 400) * (nI 400)) = 0 then (nI 1) else (nI 0)) else (nI 1)) else (nI 0)) σ))
set_option maxRecDepth 20000 in
theorem t_X10_monthLength_0 {G : sj_G} {R : sj_R} {x1 : Int32} {x2 : Int32} {σ : sj_S} (h : wp_X10_monthLength_0 G R x1 x2 σ) : sj_J G 2 me_X10_monthLength R 0 [.ref (sj_ad G 50), .int x1, .int x2, .null] σ [] := by
  unfold wp_X10_monthLength_0 at h
  refine sj_iload_n dX10_monthLength_0 (i := 2) rfl rfl ?_
  refine sj_iconst (v := (nI 2)) dX10_monthLength_1 (by decide +kernel) ?_
  refine sj_icmp_ne (tgt := 44) dX10_monthLength_2 (by decide) (fun c1 => ?_) (fun c1 => ?_)
  · replace h := h.1 c1
    refine sj_iload_n dX10_monthLength_44 (i := 2) rfl rfl ?_
    refine sj_iconst (v := (nI 4)) dX10_monthLength_45 (by decide +kernel) ?_
    refine sj_icmp_eq (tgt := 67) dX10_monthLength_46 (by decide) (fun c2 => ?_) (fun c2 => ?_)
    · refine sj_bipush (v := (nI 30)) dX10_monthLength_67 (by decide +kernel) ?_
      refine sj_goto (tgt := 74) dX10_monthLength_69 (by decide) ?_
      try simp only [if_pos c2] at h
      refine sj_fg [0, 1, 2] ?_
      exact t_X10_monthLength_74 h
    · refine sj_iload_n dX10_monthLength_49 (i := 2) rfl rfl ?_
      refine sj_bipush (v := (nI 6)) dX10_monthLength_50 (by decide +kernel) ?_
      refine sj_icmp_eq (tgt := 67) dX10_monthLength_52 (by decide) (fun c3 => ?_) (fun c3 => ?_)
      · refine sj_bipush (v := (nI 30)) dX10_monthLength_67 (by decide +kernel) ?_
        refine sj_goto (tgt := 74) dX10_monthLength_69 (by decide) ?_
        try simp only [if_neg c2, if_pos c3] at h
        refine sj_fg [0, 1, 2] ?_
        exact t_X10_monthLength_74 h
      · refine sj_iload_n dX10_monthLength_55 (i := 2) rfl rfl ?_
        refine sj_bipush (v := (nI 9)) dX10_monthLength_56 (by decide +kernel) ?_
        refine sj_icmp_eq (tgt := 67) dX10_monthLength_58 (by decide) (fun c4 => ?_) (fun c4 => ?_)
        · refine sj_bipush (v := (nI 30)) dX10_monthLength_67 (by decide +kernel) ?_
          refine sj_goto (tgt := 74) dX10_monthLength_69 (by decide) ?_
          try simp only [if_neg c2, if_neg c3, if_pos c4] at h
          refine sj_fg [0, 1, 2] ?_
          exact t_X10_monthLength_74 h
        · refine sj_iload_n dX10_monthLength_61 (i := 2) rfl rfl ?_
          refine sj_bipush (v := (nI 11)) dX10_monthLength_62 (by decide +kernel) ?_
          refine sj_icmp_ne (tgt := 72) dX10_monthLength_64 (by decide) (fun c5 => ?_) (fun c5 => ?_)
          · refine sj_bipush (v := (nI 31)) dX10_monthLength_72 (by decide +kernel) ?_
            try simp only [if_neg c2, if_neg c3, if_neg c4, if_neg c5] at h
            refine sj_fg [0, 1, 2] ?_
            exact t_X10_monthLength_74 h
          · refine sj_bipush (v := (nI 30)) dX10_monthLength_67 (by decide +kernel) ?_
            refine sj_goto (tgt := 74) dX10_monthLength_69 (by decide) ?_
            try simp only [if_neg c2, if_neg c3, if_neg c4, if_pos c5] at h
            refine sj_fg [0, 1, 2] ?_
            exact t_X10_monthLength_74 h
  · replace h := h.2 c1
    refine sj_iload_n dX10_monthLength_5 (i := 1) rfl rfl ?_
    refine sj_iconst (v := (nI 4)) dX10_monthLength_6 (by decide +kernel) ?_
    refine sj_irem dX10_monthLength_7 (by decide +kernel) ?_
    refine sj_if_ne (tgt := 30) dX10_monthLength_8 (by decide) (fun c6 => ?_) (fun c6 => ?_)
    · refine sj_iconst (v := (nI 0)) dX10_monthLength_30 (by decide +kernel) ?_
      try simp only [if_neg c6] at h
      refine sj_fg [0, 1, 2] ?_
      exact t_X10_monthLength_31 h
    · refine sj_iload_n dX10_monthLength_11 (i := 1) rfl rfl ?_
      refine sj_bipush (v := (nI 100)) dX10_monthLength_12 (by decide +kernel) ?_
      refine sj_irem dX10_monthLength_14 (by decide +kernel) ?_
      refine sj_if_ne (tgt := 26) dX10_monthLength_15 (by decide) (fun c7 => ?_) (fun c7 => ?_)
      · refine sj_iconst (v := (nI 1)) dX10_monthLength_26 (by decide +kernel) ?_
        refine sj_goto (tgt := 31) dX10_monthLength_27 (by decide) ?_
        try simp only [if_pos c6, if_neg c7] at h
        refine sj_fg [0, 1, 2] ?_
        exact t_X10_monthLength_31 h
      · refine sj_iload_n dX10_monthLength_18 (i := 1) rfl rfl ?_
        refine sj_sipush (v := (nI 400)) dX10_monthLength_19 (by decide +kernel) ?_
        refine sj_irem dX10_monthLength_22 (by decide +kernel) ?_
        refine sj_if_ne (tgt := 30) dX10_monthLength_23 (by decide) (fun c8 => ?_) (fun c8 => ?_)
        · refine sj_iconst (v := (nI 0)) dX10_monthLength_30 (by decide +kernel) ?_
          try simp only [if_pos c6, if_pos c7, if_neg c8] at h
          refine sj_fg [0, 1, 2] ?_
          exact t_X10_monthLength_31 h
        · refine sj_iconst (v := (nI 1)) dX10_monthLength_26 (by decide +kernel) ?_
          refine sj_goto (tgt := 31) dX10_monthLength_27 (by decide) ?_
          try simp only [if_pos c6, if_pos c7, if_pos c8] at h
          refine sj_fg [0, 1, 2] ?_
          exact t_X10_monthLength_31 h
theorem c_X10_monthLength {G : sj_G} (ok : sj_ok G) {R : sj_R} {x1 : Int32} {x2 : Int32} {σ : sj_S} (h : wp_X10_monthLength_0 G R x1 x2 σ) : sj_C G 2 me_X10_monthLength [.ref (sj_ad G 50), .int x1, .int x2] σ R :=
  sj_enter ok (by decide +kernel) rfl rfl (Nat.le_of_ble_eq_true rfl) (by simp [Value.category]) (t_X10_monthLength_0 h)
def wp_X10_serialOf_23 (G : sj_G) (R : sj_R) (x1 : Int32) (x2 : Int32) (s0 : Int32) (s1 : Int32) (σ : sj_S) : Prop := ∀ y1 : Int32, y1 = ((((((nI 153) * ((x2 + (nI 9)) - (x2 + (nI 9)) / (nI 12) * (nI 12))) + (nI 2)) / (nI 5)) + (x1 - x1 / (nI 100) * (nI 100))) - (nI 1)) → R = (.ok ((((((((s1 - s0) / (nI 400)) * (nI 146097)) + (((s1 - s0) - (s1 - s0) / (nI 400) * (nI 400)) * (nI 365))) + (((s1 - s0) - (s1 - s0) / (nI 400) * (nI 400)) / (nI 4))) - (((s1 - s0) - (s1 - s0) / (nI 400) * (nI 400)) / (nI 100))) + y1) - (nI 719468)), σ)
set_option maxRecDepth 20000 in
theorem t_X10_serialOf_23 {G : sj_G} {R : sj_R} {x1 : Int32} {x2 : Int32} {s0 : Int32} {s1 : Int32} {σ : sj_S} (h : wp_X10_serialOf_23 G R x1 x2 s0 s1 σ) : sj_J G 2 me_X10_serialOf R 23 [.null, .int x1, .int x2, .null, .null, .null, .null] σ [.int s0, .int s1] := by
  unfold wp_X10_serialOf_23 at h
  refine sj_isub dX10_serialOf_23 ?_
  refine sj_istore_n dX10_serialOf_24 (i := 3) rfl (by decide) ?_
  refine sj_iload_n dX10_serialOf_25 (i := 3) rfl rfl ?_
  refine sj_sipush (v := (nI 400)) dX10_serialOf_26 (by decide +kernel) ?_
  refine sj_irem dX10_serialOf_29 (by decide +kernel) ?_
  refine sj_istore dX10_serialOf_30 (by decide) ?_
  refine sj_iload_n dX10_serialOf_32 (i := 2) rfl rfl ?_
  refine sj_bipush (v := (nI 9)) dX10_serialOf_33 (by decide +kernel) ?_
  refine sj_iadd dX10_serialOf_35 ?_
  refine sj_bipush (v := (nI 12)) dX10_serialOf_36 (by decide +kernel) ?_
  refine sj_irem dX10_serialOf_38 (by decide +kernel) ?_
  refine sj_istore dX10_serialOf_39 (by decide) ?_
  refine sj_sipush (v := (nI 153)) dX10_serialOf_41 (by decide +kernel) ?_
  refine sj_iload dX10_serialOf_44 rfl ?_
  refine sj_imul dX10_serialOf_46 ?_
  refine sj_iconst (v := (nI 2)) dX10_serialOf_47 (by decide +kernel) ?_
  refine sj_iadd dX10_serialOf_48 ?_
  refine sj_iconst (v := (nI 5)) dX10_serialOf_49 (by decide +kernel) ?_
  refine sj_idiv dX10_serialOf_50 (by decide +kernel) ?_
  refine sj_iload_n dX10_serialOf_51 (i := 1) rfl rfl ?_
  refine sj_bipush (v := (nI 100)) dX10_serialOf_52 (by decide +kernel) ?_
  refine sj_irem dX10_serialOf_54 (by decide +kernel) ?_
  refine sj_iadd dX10_serialOf_55 ?_
  refine sj_iconst (v := (nI 1)) dX10_serialOf_56 (by decide +kernel) ?_
  refine sj_isub dX10_serialOf_57 ?_
  refine sj_topi (fun y1 hy1 => ?_)
  replace h := h y1 hy1
  refine sj_istore dX10_serialOf_58 (by decide) ?_
  refine sj_iload_n dX10_serialOf_60 (i := 3) rfl rfl ?_
  refine sj_sipush (v := (nI 400)) dX10_serialOf_61 (by decide +kernel) ?_
  refine sj_idiv dX10_serialOf_64 (by decide +kernel) ?_
  refine sj_ldc (v := (nI 146097)) dX10_serialOf_65 (by decide +kernel) ?_
  refine sj_imul dX10_serialOf_67 ?_
  refine sj_iload dX10_serialOf_68 rfl ?_
  refine sj_sipush (v := (nI 365)) dX10_serialOf_70 (by decide +kernel) ?_
  refine sj_imul dX10_serialOf_73 ?_
  refine sj_iadd dX10_serialOf_74 ?_
  refine sj_iload dX10_serialOf_75 rfl ?_
  refine sj_iconst (v := (nI 4)) dX10_serialOf_77 (by decide +kernel) ?_
  refine sj_idiv dX10_serialOf_78 (by decide +kernel) ?_
  refine sj_iadd dX10_serialOf_79 ?_
  refine sj_iload dX10_serialOf_80 rfl ?_
  refine sj_bipush (v := (nI 100)) dX10_serialOf_82 (by decide +kernel) ?_
  refine sj_idiv dX10_serialOf_84 (by decide +kernel) ?_
  refine sj_isub dX10_serialOf_85 ?_
  refine sj_iload dX10_serialOf_86 rfl ?_
  refine sj_iadd dX10_serialOf_88 ?_
  refine sj_ldc (v := (nI 719468)) dX10_serialOf_89 (by decide +kernel) ?_
  refine sj_isub dX10_serialOf_91 ?_
  subst h
  exact sj_ret dX10_serialOf_92 rfl rfl
def wp_X10_serialOf_0 (G : sj_G) (R : sj_R) (x1 : Int32) (σ : sj_S) : Prop := (wp_X10_serialOf_23 G R x1 ((x1 / (nI 100)) - (x1 / (nI 100)) / (nI 100) * (nI 100)) (if (nI 2) < ((x1 / (nI 100)) - (x1 / (nI 100)) / (nI 100) * (nI 100)) then (nI 0) else (nI 1)) (x1 / (nI 10000)) σ)
set_option maxRecDepth 20000 in
theorem t_X10_serialOf_0 {G : sj_G} {R : sj_R} {x1 : Int32} {σ : sj_S} (h : wp_X10_serialOf_0 G R x1 σ) : sj_J G 2 me_X10_serialOf R 0 [.ref (sj_ad G 50), .int x1, .null, .null, .null, .null, .null] σ [] := by
  unfold wp_X10_serialOf_0 at h
  refine sj_iload_n dX10_serialOf_0 (i := 1) rfl rfl ?_
  refine sj_bipush (v := (nI 100)) dX10_serialOf_1 (by decide +kernel) ?_
  refine sj_idiv dX10_serialOf_3 (by decide +kernel) ?_
  refine sj_bipush (v := (nI 100)) dX10_serialOf_4 (by decide +kernel) ?_
  refine sj_irem dX10_serialOf_6 (by decide +kernel) ?_
  refine sj_istore_n dX10_serialOf_7 (i := 2) rfl (by decide) ?_
  refine sj_iload_n dX10_serialOf_8 (i := 1) rfl rfl ?_
  refine sj_sipush (v := (nI 10000)) dX10_serialOf_9 (by decide +kernel) ?_
  refine sj_idiv dX10_serialOf_12 (by decide +kernel) ?_
  refine sj_iload_n dX10_serialOf_13 (i := 2) rfl rfl ?_
  refine sj_iconst (v := (nI 2)) dX10_serialOf_14 (by decide +kernel) ?_
  refine sj_icmp_gt (tgt := 22) dX10_serialOf_15 (by decide) (fun c1 => ?_) (fun c1 => ?_)
  · refine sj_iconst (v := (nI 0)) dX10_serialOf_22 (by decide +kernel) ?_
    try simp only [if_pos c1] at h
    refine sj_fg [0] ?_
    exact t_X10_serialOf_23 h
  · refine sj_iconst (v := (nI 1)) dX10_serialOf_18 (by decide +kernel) ?_
    refine sj_goto (tgt := 23) dX10_serialOf_19 (by decide) ?_
    try simp only [if_neg c1] at h
    refine sj_fg [0] ?_
    exact t_X10_serialOf_23 h
theorem c_X10_serialOf {G : sj_G} (ok : sj_ok G) {R : sj_R} {x1 : Int32} {σ : sj_S} (h : wp_X10_serialOf_0 G R x1 σ) : sj_C G 2 me_X10_serialOf [.ref (sj_ad G 50), .int x1] σ R :=
  sj_enter ok (by decide +kernel) rfl rfl (Nat.le_of_ble_eq_true rfl) (by simp [Value.category]) (t_X10_serialOf_0 h)
def wp_X10_dateAt_126 (G : sj_G) (R : sj_R) (x7 : Int32) (x8 : Int32) (s0 : Int32) (s1 : Int32) (σ : sj_S) : Prop := R = (.ok ((((s1 + s0) * (nI 10000)) + (x8 * (nI 100))) + x7), σ)
set_option maxRecDepth 20000 in
theorem t_X10_dateAt_126 {G : sj_G} {R : sj_R} {x7 : Int32} {x8 : Int32} {s0 : Int32} {s1 : Int32} {σ : sj_S} (h : wp_X10_dateAt_126 G R x7 x8 s0 s1 σ) : sj_J G 2 me_X10_dateAt R 126 [.null, .null, .null, .null, .null, .null, .null, .int x7, .int x8, .null] σ [.int s0, .int s1] := by
  unfold wp_X10_dateAt_126 at h
  refine sj_iadd dX10_dateAt_126 ?_
  refine sj_istore dX10_dateAt_127 (by decide) ?_
  refine sj_iload dX10_dateAt_129 rfl ?_
  refine sj_sipush (v := (nI 10000)) dX10_dateAt_131 (by decide +kernel) ?_
  refine sj_imul dX10_dateAt_134 ?_
  refine sj_iload dX10_dateAt_135 rfl ?_
  refine sj_bipush (v := (nI 100)) dX10_dateAt_137 (by decide +kernel) ?_
  refine sj_imul dX10_dateAt_139 ?_
  refine sj_iadd dX10_dateAt_140 ?_
  refine sj_iload dX10_dateAt_141 rfl ?_
  refine sj_iadd dX10_dateAt_143 ?_
  subst h
  exact sj_ret dX10_dateAt_144 rfl rfl
def wp_X10_dateAt_102 (G : sj_G) (R : sj_R) (x2 : Int32) (x4 : Int32) (x7 : Int32) (s0 : Int32) (σ : sj_S) : Prop := (wp_X10_dateAt_126 G R x7 s0 (if (nI 2) < s0 then (nI 0) else (nI 1)) (((x2 / (nI 146097)) * (nI 400)) + x4) σ)
set_option maxRecDepth 20000 in
theorem t_X10_dateAt_102 {G : sj_G} {R : sj_R} {x2 : Int32} {x4 : Int32} {x7 : Int32} {s0 : Int32} {σ : sj_S} (h : wp_X10_dateAt_102 G R x2 x4 x7 s0 σ) : sj_J G 2 me_X10_dateAt R 102 [.null, .null, .int x2, .null, .int x4, .null, .null, .int x7, .null, .null] σ [.int s0] := by
  unfold wp_X10_dateAt_102 at h
  refine sj_istore dX10_dateAt_102 (by decide) ?_
  refine sj_iload_n dX10_dateAt_104 (i := 2) rfl rfl ?_
  refine sj_ldc (v := (nI 146097)) dX10_dateAt_105 (by decide +kernel) ?_
  refine sj_idiv dX10_dateAt_107 (by decide +kernel) ?_
  refine sj_sipush (v := (nI 400)) dX10_dateAt_108 (by decide +kernel) ?_
  refine sj_imul dX10_dateAt_111 ?_
  refine sj_iload dX10_dateAt_112 rfl ?_
  refine sj_iadd dX10_dateAt_114 ?_
  refine sj_iload dX10_dateAt_115 rfl ?_
  refine sj_iconst (v := (nI 2)) dX10_dateAt_117 (by decide +kernel) ?_
  refine sj_icmp_gt (tgt := 125) dX10_dateAt_118 (by decide) (fun c1 => ?_) (fun c1 => ?_)
  · refine sj_iconst (v := (nI 0)) dX10_dateAt_125 (by decide +kernel) ?_
    try simp only [if_pos c1] at h
    refine sj_fg [2, 4] ?_
    exact t_X10_dateAt_126 h
  · refine sj_iconst (v := (nI 1)) dX10_dateAt_121 (by decide +kernel) ?_
    refine sj_goto (tgt := 126) dX10_dateAt_122 (by decide) ?_
    try simp only [if_neg c1] at h
    refine sj_fg [2, 4] ?_
    exact t_X10_dateAt_126 h
def wp_X10_dateAt_0 (G : sj_G) (R : sj_R) (x1 : Int32) (σ : sj_S) : Prop := ∀ y1 : Int32, y1 = ((((((x1 + (nI 719468)) - (x1 + (nI 719468)) / (nI 146097) * (nI 146097)) - (((x1 + (nI 719468)) - (x1 + (nI 719468)) / (nI 146097) * (nI 146097)) / (nI 1460))) + (((x1 + (nI 719468)) - (x1 + (nI 719468)) / (nI 146097) * (nI 146097)) / (nI 36524))) - (((x1 + (nI 719468)) - (x1 + (nI 719468)) / (nI 146097) * (nI 146097)) / (nI 146096))) / (nI 365)) → ∀ y2 : Int32, y2 = (((x1 + (nI 719468)) - (x1 + (nI 719468)) / (nI 146097) * (nI 146097)) - ((((nI 365) * y1) + (y1 / (nI 4))) - (y1 / (nI 100)))) → (wp_X10_dateAt_102 G R (x1 + (nI 719468)) y1 ((y2 - ((((nI 153) * ((((nI 5) * y2) + (nI 2)) / (nI 153))) + (nI 2)) / (nI 5))) + (nI 1)) (if (nI 10) ≤ ((((nI 5) * y2) + (nI 2)) / (nI 153)) then (((((nI 5) * y2) + (nI 2)) / (nI 153)) - (nI 9)) else (((((nI 5) * y2) + (nI 2)) / (nI 153)) + (nI 3))) σ)
set_option maxRecDepth 20000 in
theorem t_X10_dateAt_0 {G : sj_G} {R : sj_R} {x1 : Int32} {σ : sj_S} (h : wp_X10_dateAt_0 G R x1 σ) : sj_J G 2 me_X10_dateAt R 0 [.ref (sj_ad G 50), .int x1, .null, .null, .null, .null, .null, .null, .null, .null] σ [] := by
  unfold wp_X10_dateAt_0 at h
  refine sj_iload_n dX10_dateAt_0 (i := 1) rfl rfl ?_
  refine sj_ldc (v := (nI 719468)) dX10_dateAt_1 (by decide +kernel) ?_
  refine sj_iadd dX10_dateAt_3 ?_
  refine sj_istore_n dX10_dateAt_4 (i := 2) rfl (by decide) ?_
  refine sj_iload_n dX10_dateAt_5 (i := 2) rfl rfl ?_
  refine sj_ldc (v := (nI 146097)) dX10_dateAt_6 (by decide +kernel) ?_
  refine sj_irem dX10_dateAt_8 (by decide +kernel) ?_
  refine sj_istore_n dX10_dateAt_9 (i := 3) rfl (by decide) ?_
  refine sj_iload_n dX10_dateAt_10 (i := 3) rfl rfl ?_
  refine sj_iload_n dX10_dateAt_11 (i := 3) rfl rfl ?_
  refine sj_sipush (v := (nI 1460)) dX10_dateAt_12 (by decide +kernel) ?_
  refine sj_idiv dX10_dateAt_15 (by decide +kernel) ?_
  refine sj_isub dX10_dateAt_16 ?_
  refine sj_iload_n dX10_dateAt_17 (i := 3) rfl rfl ?_
  refine sj_ldc (v := (nI 36524)) dX10_dateAt_18 (by decide +kernel) ?_
  refine sj_idiv dX10_dateAt_20 (by decide +kernel) ?_
  refine sj_iadd dX10_dateAt_21 ?_
  refine sj_iload_n dX10_dateAt_22 (i := 3) rfl rfl ?_
  refine sj_ldc (v := (nI 146096)) dX10_dateAt_23 (by decide +kernel) ?_
  refine sj_idiv dX10_dateAt_25 (by decide +kernel) ?_
  refine sj_isub dX10_dateAt_26 ?_
  refine sj_sipush (v := (nI 365)) dX10_dateAt_27 (by decide +kernel) ?_
  refine sj_idiv dX10_dateAt_30 (by decide +kernel) ?_
  refine sj_topi (fun y1 hy1 => ?_)
  replace h := h y1 hy1
  refine sj_istore dX10_dateAt_31 (by decide) ?_
  refine sj_iload_n dX10_dateAt_33 (i := 3) rfl rfl ?_
  refine sj_sipush (v := (nI 365)) dX10_dateAt_34 (by decide +kernel) ?_
  refine sj_iload dX10_dateAt_37 rfl ?_
  refine sj_imul dX10_dateAt_39 ?_
  refine sj_iload dX10_dateAt_40 rfl ?_
  refine sj_iconst (v := (nI 4)) dX10_dateAt_42 (by decide +kernel) ?_
  refine sj_idiv dX10_dateAt_43 (by decide +kernel) ?_
  refine sj_iadd dX10_dateAt_44 ?_
  refine sj_iload dX10_dateAt_45 rfl ?_
  refine sj_bipush (v := (nI 100)) dX10_dateAt_47 (by decide +kernel) ?_
  refine sj_idiv dX10_dateAt_49 (by decide +kernel) ?_
  refine sj_isub dX10_dateAt_50 ?_
  refine sj_isub dX10_dateAt_51 ?_
  refine sj_topi (fun y2 hy2 => ?_)
  replace h := h y2 hy2
  refine sj_istore dX10_dateAt_52 (by decide) ?_
  refine sj_iconst (v := (nI 5)) dX10_dateAt_54 (by decide +kernel) ?_
  refine sj_iload dX10_dateAt_55 rfl ?_
  refine sj_imul dX10_dateAt_57 ?_
  refine sj_iconst (v := (nI 2)) dX10_dateAt_58 (by decide +kernel) ?_
  refine sj_iadd dX10_dateAt_59 ?_
  refine sj_sipush (v := (nI 153)) dX10_dateAt_60 (by decide +kernel) ?_
  refine sj_idiv dX10_dateAt_63 (by decide +kernel) ?_
  refine sj_istore dX10_dateAt_64 (by decide) ?_
  refine sj_iload dX10_dateAt_66 rfl ?_
  refine sj_sipush (v := (nI 153)) dX10_dateAt_68 (by decide +kernel) ?_
  refine sj_iload dX10_dateAt_71 rfl ?_
  refine sj_imul dX10_dateAt_73 ?_
  refine sj_iconst (v := (nI 2)) dX10_dateAt_74 (by decide +kernel) ?_
  refine sj_iadd dX10_dateAt_75 ?_
  refine sj_iconst (v := (nI 5)) dX10_dateAt_76 (by decide +kernel) ?_
  refine sj_idiv dX10_dateAt_77 (by decide +kernel) ?_
  refine sj_isub dX10_dateAt_78 ?_
  refine sj_iconst (v := (nI 1)) dX10_dateAt_79 (by decide +kernel) ?_
  refine sj_iadd dX10_dateAt_80 ?_
  refine sj_istore dX10_dateAt_81 (by decide) ?_
  refine sj_iload dX10_dateAt_83 rfl ?_
  refine sj_bipush (v := (nI 10)) dX10_dateAt_85 (by decide +kernel) ?_
  refine sj_icmp_ge (tgt := 97) dX10_dateAt_87 (by decide) (fun c3 => ?_) (fun c3 => ?_)
  · refine sj_iload dX10_dateAt_97 rfl ?_
    refine sj_bipush (v := (nI 9)) dX10_dateAt_99 (by decide +kernel) ?_
    refine sj_isub dX10_dateAt_101 ?_
    try simp only [if_pos c3] at h
    refine sj_fg [0, 1, 3, 5, 6] ?_
    exact t_X10_dateAt_102 h
  · refine sj_iload dX10_dateAt_90 rfl ?_
    refine sj_iconst (v := (nI 3)) dX10_dateAt_92 (by decide +kernel) ?_
    refine sj_iadd dX10_dateAt_93 ?_
    refine sj_goto (tgt := 102) dX10_dateAt_94 (by decide) ?_
    try simp only [if_neg c3] at h
    refine sj_fg [0, 1, 3, 5, 6] ?_
    exact t_X10_dateAt_102 h
theorem c_X10_dateAt {G : sj_G} (ok : sj_ok G) {R : sj_R} {x1 : Int32} {σ : sj_S} (h : wp_X10_dateAt_0 G R x1 σ) : sj_C G 2 me_X10_dateAt [.ref (sj_ad G 50), .int x1] σ R :=
  sj_enter ok (by decide +kernel) rfl rfl (Nat.le_of_ble_eq_true rfl) (by simp [Value.category]) (t_X10_dateAt_0 h)
def wp_X10_weekday_0 (G : sj_G) (R : sj_R) (x1 : Int32) (σ : sj_S) : Prop := ∃ v1 σ1, sj_C G 2 me_J9_floorMod_7cf53 [.int (x1 - (nI 4)), .int (nI 7)] σ (.ok v1, σ1) ∧ R = (.ok v1, σ1)
set_option maxRecDepth 20000 in
theorem t_X10_weekday_0 {G : sj_G} {R : sj_R} {x1 : Int32} {σ : sj_S} (h : wp_X10_weekday_0 G R x1 σ) : sj_J G 3 me_X10_weekday R 0 [.ref (sj_ad G 50), .int x1] σ [] := by
  unfold wp_X10_weekday_0 at h
  refine sj_iload_n dX10_weekday_0 (i := 1) rfl rfl ?_
  refine sj_iconst (v := (nI 4)) dX10_weekday_1 (by decide +kernel) ?_
  refine sj_isub dX10_weekday_2 ?_
  refine sj_bipush (v := (nI 7)) dX10_weekday_3 (by decide +kernel) ?_
  obtain ⟨v1, σ1, hc1, h⟩ := h
  refine sj_callSi (M' := me_J9_floorMod_7cf53) (As := [.int (x1 - (nI 4)), .int (nI 7)]) (rest := []) dX10_weekday_5 gX10_weekday_J9_floorMod_7cf53 rfl hd_J9_floorMod_7cf53 (Nat.le_of_ble_eq_true rfl) (by omega) rfl hc1 ?_
  subst h
  exact sj_ret dX10_weekday_8 rfl rfl
theorem c_X10_weekday {G : sj_G} (ok : sj_ok G) {R : sj_R} {x1 : Int32} {σ : sj_S} (h : wp_X10_weekday_0 G R x1 σ) : sj_C G 3 me_X10_weekday [.ref (sj_ad G 50), .int x1] σ R :=
  sj_enter ok (by decide +kernel) rfl rfl (Nat.le_of_ble_eq_true rfl) (by simp [Value.category]) (t_X10_weekday_0 h)
def wp_X10_beginAt_21 (G : sj_G) (R : sj_R) (x2 : Int32) (x3 : Int32) (σ : sj_S) : Prop := ((nI 280) ≤ x3 → R = (.ok x2, σ)) ∧ (¬ ((nI 280) ≤ x3) → vp_in x3 280 ∧ sj_J G 3 me_X10_beginAt R 21 [.ref (sj_ad G 50), .null, .int x2, .int (x3 + (nI 1))] (sj_st σ 51 x3.toNatClampNeg (nI 0)) [])
set_option maxRecDepth 20000 in
theorem t_X10_beginAt_21 {G : sj_G} {R : sj_R} {x2 : Int32} {x3 : Int32} {σ : sj_S} (h : wp_X10_beginAt_21 G R x2 x3 σ) : sj_J G 3 me_X10_beginAt R 21 [.ref (sj_ad G 50), .null, .int x2, .int x3] σ [] := by
  unfold wp_X10_beginAt_21 at h
  refine sj_iload_n dX10_beginAt_21 (i := 3) rfl rfl ?_
  refine sj_sipush (v := (nI 280)) dX10_beginAt_22 (by decide +kernel) ?_
  refine sj_icmp_ge (tgt := 41) dX10_beginAt_25 (by decide) (fun c1 => ?_) (fun c1 => ?_)
  · replace h := h.1 c1
    refine sj_iload_n dX10_beginAt_41 (i := 2) rfl rfl ?_
    subst h
    exact sj_ret dX10_beginAt_42 rfl rfl
  · replace h := h.2 c1
    refine sj_aload_n dX10_beginAt_28 (i := 0) rfl rfl ?_
    refine sj_get (a := 50) (k9 := 0) (v := .ref (sj_ad G 51)) dX10_beginAt_29 (by decide +kernel) rfl ?_
    refine sj_iload_n dX10_beginAt_32 (i := 3) rfl rfl ?_
    refine sj_iconst (v := (nI 0)) dX10_beginAt_33 (by decide +kernel) ?_
    obtain ⟨b2, h⟩ := h
    refine sj_zast (a := 51) (j := x3.toNatClampNeg) dX10_beginAt_34 rfl (by decide +kernel) b2 rfl rfl ?_
    refine sj_iinc (v := (x3 + (nI 1))) dX10_beginAt_35 (by decide) rfl rfl ?_
    refine sj_goto (tgt := 21) dX10_beginAt_38 (by decide) ?_
    exact h
def wp_X10_beginAt_0 (G : sj_G) (R : sj_R) (x1 : Int32) (σ : sj_S) : Prop := ∃ v1 σ1, sj_C G 2 me_X10_dateAt [.ref (sj_ad G 50), .int (σ 50 1)] σ (.ok v1, σ1) ∧ sj_J G 3 me_X10_beginAt R 21 [.ref (sj_ad G 50), .null, .int v1, .int (nI 0)] (sj_st (sj_st σ1 50 1 x1) 50 2 (nI 0)) []
set_option maxRecDepth 20000 in
theorem t_X10_beginAt_0 {G : sj_G} {R : sj_R} {x1 : Int32} {σ : sj_S} (h : wp_X10_beginAt_0 G R x1 σ) : sj_J G 3 me_X10_beginAt R 0 [.ref (sj_ad G 50), .int x1, .null, .null] σ [] := by
  unfold wp_X10_beginAt_0 at h
  refine sj_aload_n dX10_beginAt_0 (i := 0) rfl rfl ?_
  refine sj_aload_n dX10_beginAt_1 (i := 0) rfl rfl ?_
  refine sj_get (a := 50) (k9 := 1) (v := .int (σ 50 1)) dX10_beginAt_2 (by decide +kernel) rfl ?_
  obtain ⟨v1, σ1, hc1, h⟩ := h
  refine sj_callVi (M' := me_X10_dateAt) (b := 50) (As := [.int (σ 50 1)]) (rest := []) dX10_beginAt_5 gX10_beginAt_X10_dateAt rfl hd_X10_dateAt (by decide +kernel) (by decide +kernel) rfl (Nat.le_of_ble_eq_true rfl) (by omega) rfl hc1 ?_
  refine sj_istore_n dX10_beginAt_8 (i := 2) rfl (by decide) ?_
  refine sj_aload_n dX10_beginAt_9 (i := 0) rfl rfl ?_
  refine sj_iload_n dX10_beginAt_10 (i := 1) rfl rfl ?_
  refine sj_put (a := 50) (k9 := 1) dX10_beginAt_11 (by decide +kernel) (by decide +kernel) rfl ?_
  refine sj_aload_n dX10_beginAt_14 (i := 0) rfl rfl ?_
  refine sj_iconst (v := (nI 0)) dX10_beginAt_15 (by decide +kernel) ?_
  refine sj_put (a := 50) (k9 := 2) dX10_beginAt_16 (by decide +kernel) (by decide +kernel) rfl ?_
  refine sj_iconst (v := (nI 0)) dX10_beginAt_19 (by decide +kernel) ?_
  refine sj_istore_n dX10_beginAt_20 (i := 3) rfl (by decide) ?_
  refine sj_fg [1] ?_
  exact h
theorem c_X10_beginAt {G : sj_G} (ok : sj_ok G) {R : sj_R} {x1 : Int32} {σ : sj_S} (h : wp_X10_beginAt_0 G R x1 σ) : sj_C G 3 me_X10_beginAt [.ref (sj_ad G 50), .int x1] σ R :=
  sj_enter ok (by decide +kernel) rfl rfl (Nat.le_of_ble_eq_true rfl) (by simp [Value.category]) (t_X10_beginAt_0 h)
def wp_X10_addHoliday_41 (G : sj_G) (R : sj_R) (σ : sj_S) : Prop := R = (.ok ((σ 50 2) + (nI 1)), (sj_st σ 50 2 ((σ 50 2) + (nI 1))))
set_option maxRecDepth 20000 in
theorem t_X10_addHoliday_41 {G : sj_G} {R : sj_R} {σ : sj_S} (h : wp_X10_addHoliday_41 G R σ) : sj_J G 2 me_X10_addHoliday R 41 [.ref (sj_ad G 50), .null, .null, .null] σ [] := by
  unfold wp_X10_addHoliday_41 at h
  refine sj_aload_n dX10_addHoliday_41 (i := 0) rfl rfl ?_
  refine sj_dup dX10_addHoliday_42 rfl ?_
  refine sj_get (a := 50) (k9 := 2) (v := .int (σ 50 2)) dX10_addHoliday_43 (by decide +kernel) rfl ?_
  refine sj_iconst (v := (nI 1)) dX10_addHoliday_46 (by decide +kernel) ?_
  refine sj_iadd dX10_addHoliday_47 ?_
  refine sj_put (a := 50) (k9 := 2) dX10_addHoliday_48 (by decide +kernel) (by decide +kernel) rfl ?_
  refine sj_aload_n dX10_addHoliday_51 (i := 0) rfl rfl ?_
  refine sj_get (a := 50) (k9 := 2) (v := .int ((σ 50 2) + (nI 1))) dX10_addHoliday_52 (by decide +kernel) rfl ?_
  subst h
  exact sj_ret dX10_addHoliday_55 rfl rfl
def wp_X10_addHoliday_11 (G : sj_G) (R : sj_R) (x2 : Int32) (x3 : Int32) (σ : sj_S) : Prop := ((nI 280) ≤ x3 → (wp_X10_addHoliday_41 G R σ)) ∧ (¬ ((nI 280) ≤ x3) → ((x2 - (σ 50 1)) < x3 → (wp_X10_addHoliday_41 G R σ)) ∧ (¬ ((x2 - (σ 50 1)) < x3) → vp_in x3 280 ∧ sj_J G 2 me_X10_addHoliday R 11 [.ref (sj_ad G 50), .null, .int x2, .int (x3 + (nI 1))] (sj_st σ 51 x3.toNatClampNeg (nI 1)) []))
set_option maxRecDepth 20000 in
theorem t_X10_addHoliday_11 {G : sj_G} {R : sj_R} {x2 : Int32} {x3 : Int32} {σ : sj_S} (h : wp_X10_addHoliday_11 G R x2 x3 σ) : sj_J G 2 me_X10_addHoliday R 11 [.ref (sj_ad G 50), .null, .int x2, .int x3] σ [] := by
  unfold wp_X10_addHoliday_11 at h
  refine sj_iload_n dX10_addHoliday_11 (i := 3) rfl rfl ?_
  refine sj_sipush (v := (nI 280)) dX10_addHoliday_12 (by decide +kernel) ?_
  refine sj_icmp_ge (tgt := 41) dX10_addHoliday_15 (by decide) (fun c4 => ?_) (fun c4 => ?_)
  · replace h := h.1 c4
    refine sj_fg [2, 3] ?_
    exact t_X10_addHoliday_41 h
  · replace h := h.2 c4
    refine sj_iload_n dX10_addHoliday_18 (i := 3) rfl rfl ?_
    refine sj_iload_n dX10_addHoliday_19 (i := 2) rfl rfl ?_
    refine sj_aload_n dX10_addHoliday_20 (i := 0) rfl rfl ?_
    refine sj_get (a := 50) (k9 := 1) (v := .int (σ 50 1)) dX10_addHoliday_21 (by decide +kernel) rfl ?_
    refine sj_isub dX10_addHoliday_24 ?_
    refine sj_icmp_gt (tgt := 41) dX10_addHoliday_25 (by decide) (fun c7 => ?_) (fun c7 => ?_)
    · replace h := h.1 c7
      refine sj_fg [2, 3] ?_
      exact t_X10_addHoliday_41 h
    · replace h := h.2 c7
      refine sj_aload_n dX10_addHoliday_28 (i := 0) rfl rfl ?_
      refine sj_get (a := 50) (k9 := 0) (v := .ref (sj_ad G 51)) dX10_addHoliday_29 (by decide +kernel) rfl ?_
      refine sj_iload_n dX10_addHoliday_32 (i := 3) rfl rfl ?_
      refine sj_iconst (v := (nI 1)) dX10_addHoliday_33 (by decide +kernel) ?_
      obtain ⟨b8, h⟩ := h
      refine sj_zast (a := 51) (j := x3.toNatClampNeg) dX10_addHoliday_34 rfl (by decide +kernel) b8 rfl rfl ?_
      refine sj_iinc (v := (x3 + (nI 1))) dX10_addHoliday_35 (by decide) rfl rfl ?_
      refine sj_goto (tgt := 11) dX10_addHoliday_38 (by decide) ?_
      exact h
def wp_X10_addHoliday_0 (G : sj_G) (R : sj_R) (x1 : Int32) (x2 : Int32) (σ : sj_S) : Prop := sj_J G 2 me_X10_addHoliday R 11 [.ref (sj_ad G 50), .null, .int x2, .int (if (x1 - (σ 50 1)) < (nI 0) then (nI 0) else (x1 - (σ 50 1)))] σ []
set_option maxRecDepth 20000 in
theorem t_X10_addHoliday_0 {G : sj_G} {R : sj_R} {x1 : Int32} {x2 : Int32} {σ : sj_S} (h : wp_X10_addHoliday_0 G R x1 x2 σ) : sj_J G 2 me_X10_addHoliday R 0 [.ref (sj_ad G 50), .int x1, .int x2, .null] σ [] := by
  unfold wp_X10_addHoliday_0 at h
  refine sj_iload_n dX10_addHoliday_0 (i := 1) rfl rfl ?_
  refine sj_aload_n dX10_addHoliday_1 (i := 0) rfl rfl ?_
  refine sj_get (a := 50) (k9 := 1) (v := .int (σ 50 1)) dX10_addHoliday_2 (by decide +kernel) rfl ?_
  refine sj_isub dX10_addHoliday_5 ?_
  refine sj_iconst (v := (nI 0)) dX10_addHoliday_6 (by decide +kernel) ?_
  refine sj_mmax dX10_addHoliday_7 (by decide +kernel) (by omega) (Nat.le_of_ble_eq_true rfl) ?_
  refine sj_istore_n dX10_addHoliday_10 (i := 3) rfl (by decide) ?_
  refine sj_fg [1] ?_
  exact h
theorem c_X10_addHoliday {G : sj_G} (ok : sj_ok G) {R : sj_R} {x1 : Int32} {x2 : Int32} {σ : sj_S} (h : wp_X10_addHoliday_0 G R x1 x2 σ) : sj_C G 2 me_X10_addHoliday [.ref (sj_ad G 50), .int x1, .int x2] σ R :=
  sj_enter ok (by decide +kernel) rfl rfl (Nat.le_of_ble_eq_true rfl) (by simp [Value.category]) (t_X10_addHoliday_0 h)
def wp_X10_isSchoolDay_33 (G : sj_G) (R : sj_R) (s0 : Int32) (σ : sj_S) : Prop := R = (.ok s0, σ) ∧ (s0 = nI 0 ∨ s0 = nI 1)
set_option maxRecDepth 20000 in
theorem t_X10_isSchoolDay_33 {G : sj_G} {R : sj_R} {s0 : Int32} {σ : sj_S} (h : wp_X10_isSchoolDay_33 G R s0 σ) : sj_J G 2 me_X10_isSchoolDay R 33 [.null, .null] σ [.int s0] := by
  unfold wp_X10_isSchoolDay_33 at h
  obtain ⟨h, hz⟩ := h
  subst h
  exact sj_ret dX10_isSchoolDay_33 rfl (sj_nb hz)
def wp_X10_isSchoolDay_0 (G : sj_G) (R : sj_R) (x1 : Int32) (σ : sj_S) : Prop := ((¬ (x1 < 0)) → (¬ ((nI 280) ≤ x1)) → (¬ ((nI 5) ≤ (x1 - x1 / (nI 7) * (nI 7)))) → vp_in x1 280) ∧ (wp_X10_isSchoolDay_33 G R (if x1 < 0 then (nI 0) else (if (nI 280) ≤ x1 then (nI 0) else (if (nI 5) ≤ (x1 - x1 / (nI 7) * (nI 7)) then (nI 0) else (if (σ 51 x1.toNatClampNeg) = 0 then (nI 1) else (nI 0))))) σ)
set_option maxRecDepth 20000 in
theorem t_X10_isSchoolDay_0 {G : sj_G} {R : sj_R} {x1 : Int32} {σ : sj_S} (h : wp_X10_isSchoolDay_0 G R x1 σ) : sj_J G 2 me_X10_isSchoolDay R 0 [.ref (sj_ad G 50), .int x1] σ [] := by
  unfold wp_X10_isSchoolDay_0 at h
  refine sj_iload_n dX10_isSchoolDay_0 (i := 1) rfl rfl ?_
  obtain ⟨f6, h⟩ := h
  refine sj_if_lt (tgt := 32) dX10_isSchoolDay_1 (by decide) (fun c1 => ?_) (fun c1 => ?_)
  · refine sj_iconst (v := (nI 0)) dX10_isSchoolDay_32 (by decide +kernel) ?_
    try simp only [if_pos c1] at h
    refine sj_fg [0, 1] ?_
    exact t_X10_isSchoolDay_33 h
  · refine sj_iload_n dX10_isSchoolDay_4 (i := 1) rfl rfl ?_
    refine sj_sipush (v := (nI 280)) dX10_isSchoolDay_5 (by decide +kernel) ?_
    refine sj_icmp_ge (tgt := 32) dX10_isSchoolDay_8 (by decide) (fun c2 => ?_) (fun c2 => ?_)
    · refine sj_iconst (v := (nI 0)) dX10_isSchoolDay_32 (by decide +kernel) ?_
      try simp only [if_neg c1, if_pos c2] at h
      refine sj_fg [0, 1] ?_
      exact t_X10_isSchoolDay_33 h
    · refine sj_iload_n dX10_isSchoolDay_11 (i := 1) rfl rfl ?_
      refine sj_bipush (v := (nI 7)) dX10_isSchoolDay_12 (by decide +kernel) ?_
      refine sj_irem dX10_isSchoolDay_14 (by decide +kernel) ?_
      refine sj_iconst (v := (nI 5)) dX10_isSchoolDay_15 (by decide +kernel) ?_
      refine sj_icmp_ge (tgt := 32) dX10_isSchoolDay_16 (by decide) (fun c3 => ?_) (fun c3 => ?_)
      · refine sj_iconst (v := (nI 0)) dX10_isSchoolDay_32 (by decide +kernel) ?_
        try simp only [if_neg c1, if_neg c2, if_pos c3] at h
        refine sj_fg [0, 1] ?_
        exact t_X10_isSchoolDay_33 h
      · have b4 := f6 c1 c2 c3
        refine sj_aload_n dX10_isSchoolDay_19 (i := 0) rfl rfl ?_
        refine sj_get (a := 50) (k9 := 0) (v := .ref (sj_ad G 51)) dX10_isSchoolDay_20 (by decide +kernel) rfl ?_
        refine sj_iload_n dX10_isSchoolDay_23 (i := 1) rfl rfl ?_
        refine sj_zald (a := 51) (j := x1.toNatClampNeg) (x := (σ 51 x1.toNatClampNeg)) dX10_isSchoolDay_24 rfl (by decide +kernel) b4 rfl rfl ?_
        refine sj_if_ne (tgt := 32) dX10_isSchoolDay_25 (by decide) (fun c5 => ?_) (fun c5 => ?_)
        · refine sj_iconst (v := (nI 0)) dX10_isSchoolDay_32 (by decide +kernel) ?_
          try simp only [if_neg c1, if_neg c2, if_neg c3, if_neg c5] at h
          refine sj_fg [0, 1] ?_
          exact t_X10_isSchoolDay_33 h
        · refine sj_iconst (v := (nI 1)) dX10_isSchoolDay_28 (by decide +kernel) ?_
          refine sj_goto (tgt := 33) dX10_isSchoolDay_29 (by decide) ?_
          try simp only [if_neg c1, if_neg c2, if_neg c3, if_pos c5] at h
          refine sj_fg [0, 1] ?_
          exact t_X10_isSchoolDay_33 h
theorem c_X10_isSchoolDay {G : sj_G} (ok : sj_ok G) {R : sj_R} {x1 : Int32} {σ : sj_S} (h : wp_X10_isSchoolDay_0 G R x1 σ) : sj_C G 2 me_X10_isSchoolDay [.ref (sj_ad G 50), .int x1] σ R :=
  sj_enter ok (by decide +kernel) rfl rfl (Nat.le_of_ble_eq_true rfl) (by simp [Value.category]) (t_X10_isSchoolDay_0 h)
def wp_X10_daysBetween_26 (G : sj_G) (R : sj_R) (x2 : Int32) (x4 : Int32) (s0 : Int32) (s1 : Int32) (σ : sj_S) : Prop := sj_J G 3 me_X10_daysBetween R 5 [.ref (sj_ad G 50), .null, .int x2, .int (s1 + s0), .int (x4 + (nI 1))] σ []
set_option maxRecDepth 20000 in
theorem t_X10_daysBetween_26 {G : sj_G} {R : sj_R} {x2 : Int32} {x4 : Int32} {s0 : Int32} {s1 : Int32} {σ : sj_S} (h : wp_X10_daysBetween_26 G R x2 x4 s0 s1 σ) : sj_J G 3 me_X10_daysBetween R 26 [.ref (sj_ad G 50), .null, .int x2, .null, .int x4] σ [.int s0, .int s1] := by
  unfold wp_X10_daysBetween_26 at h
  refine sj_iadd dX10_daysBetween_26 ?_
  refine sj_istore_n dX10_daysBetween_27 (i := 3) rfl (by decide) ?_
  refine sj_iinc (v := (x4 + (nI 1))) dX10_daysBetween_28 (by decide) rfl rfl ?_
  refine sj_goto (tgt := 5) dX10_daysBetween_31 (by decide) ?_
  exact h
def wp_X10_daysBetween_5 (G : sj_G) (R : sj_R) (x2 : Int32) (x3 : Int32) (x4 : Int32) (σ : sj_S) : Prop := (x2 ≤ x4 → R = (.ok x3, σ)) ∧ (¬ (x2 ≤ x4) → ∃ v2 σ2, sj_C G 2 me_X10_isSchoolDay [.ref (sj_ad G 50), .int x4] σ (.ok v2, σ2) ∧ (wp_X10_daysBetween_26 G R x2 x4 (if v2 = 0 then (nI 0) else (nI 1)) x3 σ2))
set_option maxRecDepth 20000 in
theorem t_X10_daysBetween_5 {G : sj_G} {R : sj_R} {x2 : Int32} {x3 : Int32} {x4 : Int32} {σ : sj_S} (h : wp_X10_daysBetween_5 G R x2 x3 x4 σ) : sj_J G 3 me_X10_daysBetween R 5 [.ref (sj_ad G 50), .null, .int x2, .int x3, .int x4] σ [] := by
  unfold wp_X10_daysBetween_5 at h
  refine sj_iload dX10_daysBetween_5 rfl ?_
  refine sj_iload_n dX10_daysBetween_7 (i := 2) rfl rfl ?_
  refine sj_icmp_ge (tgt := 34) dX10_daysBetween_8 (by decide) (fun c1 => ?_) (fun c1 => ?_)
  · replace h := h.1 c1
    refine sj_iload_n dX10_daysBetween_34 (i := 3) rfl rfl ?_
    subst h
    exact sj_ret dX10_daysBetween_35 rfl rfl
  · replace h := h.2 c1
    refine sj_iload_n dX10_daysBetween_11 (i := 3) rfl rfl ?_
    refine sj_aload_n dX10_daysBetween_12 (i := 0) rfl rfl ?_
    refine sj_iload dX10_daysBetween_13 rfl ?_
    obtain ⟨v2, σ2, hc2, h⟩ := h
    refine sj_callVi (M' := me_X10_isSchoolDay) (b := 50) (As := [.int x4]) (rest := [.int x3]) dX10_daysBetween_15 gX10_daysBetween_X10_isSchoolDay rfl hd_X10_isSchoolDay (by decide +kernel) (by decide +kernel) rfl (Nat.le_of_ble_eq_true rfl) (by omega) rfl hc2 ?_
    refine sj_if_eq (tgt := 25) dX10_daysBetween_18 (by decide) (fun c3 => ?_) (fun c3 => ?_)
    · refine sj_iconst (v := (nI 0)) dX10_daysBetween_25 (by decide +kernel) ?_
      try simp only [if_pos c3] at h
      refine sj_fg [3] ?_
      exact t_X10_daysBetween_26 h
    · refine sj_iconst (v := (nI 1)) dX10_daysBetween_21 (by decide +kernel) ?_
      refine sj_goto (tgt := 26) dX10_daysBetween_22 (by decide) ?_
      try simp only [if_neg c3] at h
      refine sj_fg [3] ?_
      exact t_X10_daysBetween_26 h
def wp_X10_daysBetween_0 (G : sj_G) (R : sj_R) (x1 : Int32) (x2 : Int32) (σ : sj_S) : Prop := sj_J G 3 me_X10_daysBetween R 5 [.ref (sj_ad G 50), .null, .int x2, .int (nI 0), .int x1] σ []
set_option maxRecDepth 20000 in
theorem t_X10_daysBetween_0 {G : sj_G} {R : sj_R} {x1 : Int32} {x2 : Int32} {σ : sj_S} (h : wp_X10_daysBetween_0 G R x1 x2 σ) : sj_J G 3 me_X10_daysBetween R 0 [.ref (sj_ad G 50), .int x1, .int x2, .null, .null] σ [] := by
  unfold wp_X10_daysBetween_0 at h
  refine sj_iconst (v := (nI 0)) dX10_daysBetween_0 (by decide +kernel) ?_
  refine sj_istore_n dX10_daysBetween_1 (i := 3) rfl (by decide) ?_
  refine sj_iload_n dX10_daysBetween_2 (i := 1) rfl rfl ?_
  refine sj_istore dX10_daysBetween_3 (by decide) ?_
  refine sj_fg [1] ?_
  exact h
theorem c_X10_daysBetween {G : sj_G} (ok : sj_ok G) {R : sj_R} {x1 : Int32} {x2 : Int32} {σ : sj_S} (h : wp_X10_daysBetween_0 G R x1 x2 σ) : sj_C G 3 me_X10_daysBetween [.ref (sj_ad G 50), .int x1, .int x2] σ R :=
  sj_enter ok (by decide +kernel) rfl rfl (Nat.le_of_ble_eq_true rfl) (by simp [Value.category]) (t_X10_daysBetween_0 h)
def wp_X10_letterOf_23 (G : sj_G) (R : sj_R) (x1 : Int32) (x3 : Int32) (s0 : Int32) (s1 : Int32) (σ : sj_S) : Prop := sj_J G 5 me_X10_letterOf R 4 [.ref (sj_ad G 50), .int x1, .int (s1 + s0), .int (x3 + (nI 1))] σ []
set_option maxRecDepth 20000 in
theorem t_X10_letterOf_23 {G : sj_G} {R : sj_R} {x1 : Int32} {x3 : Int32} {s0 : Int32} {s1 : Int32} {σ : sj_S} (h : wp_X10_letterOf_23 G R x1 x3 s0 s1 σ) : sj_J G 5 me_X10_letterOf R 23 [.ref (sj_ad G 50), .int x1, .null, .int x3] σ [.int s0, .int s1] := by
  unfold wp_X10_letterOf_23 at h
  refine sj_iadd dX10_letterOf_23 ?_
  refine sj_istore_n dX10_letterOf_24 (i := 2) rfl (by decide) ?_
  refine sj_iinc (v := (x3 + (nI 1))) dX10_letterOf_25 (by decide) rfl rfl ?_
  refine sj_goto (tgt := 4) dX10_letterOf_28 (by decide) ?_
  exact h
def wp_X10_letterOf_46 (G : sj_G) (R : sj_R) (s0 : Int32) (σ : sj_S) : Prop := R = (.ok s0, σ)
set_option maxRecDepth 20000 in
theorem t_X10_letterOf_46 {G : sj_G} {R : sj_R} {s0 : Int32} {σ : sj_S} (h : wp_X10_letterOf_46 G R s0 σ) : sj_J G 5 me_X10_letterOf R 46 [.null, .null, .null, .null] σ [.int s0] := by
  unfold wp_X10_letterOf_46 at h
  subst h
  exact sj_ret dX10_letterOf_46 rfl rfl
def wp_X10_letterOf_4 (G : sj_G) (R : sj_R) (x1 : Int32) (x2 : Int32) (x3 : Int32) (σ : sj_S) : Prop := (x1 ≤ x3 → ∃ v2 σ2, sj_C G 4 me_X10_isSchoolWeek [.ref (sj_ad G 50), .int x1] σ (.ok v2, σ2) ∧ (wp_X10_letterOf_46 G R (if v2 = 0 then (-1) else (x2 - x2 / (nI 2) * (nI 2))) σ2)) ∧ (¬ (x1 ≤ x3) → ∃ v4 σ4, sj_C G 4 me_X10_isSchoolWeek [.ref (sj_ad G 50), .int x3] σ (.ok v4, σ4) ∧ (wp_X10_letterOf_23 G R x1 x3 (if v4 = 0 then (nI 0) else (nI 1)) x2 σ4))
set_option maxRecDepth 20000 in
theorem t_X10_letterOf_4 {G : sj_G} {R : sj_R} {x1 : Int32} {x2 : Int32} {x3 : Int32} {σ : sj_S} (h : wp_X10_letterOf_4 G R x1 x2 x3 σ) : sj_J G 5 me_X10_letterOf R 4 [.ref (sj_ad G 50), .int x1, .int x2, .int x3] σ [] := by
  unfold wp_X10_letterOf_4 at h
  refine sj_iload_n dX10_letterOf_4 (i := 3) rfl rfl ?_
  refine sj_iload_n dX10_letterOf_5 (i := 1) rfl rfl ?_
  refine sj_icmp_ge (tgt := 31) dX10_letterOf_6 (by decide) (fun c1 => ?_) (fun c1 => ?_)
  · replace h := h.1 c1
    refine sj_aload_n dX10_letterOf_31 (i := 0) rfl rfl ?_
    refine sj_iload_n dX10_letterOf_32 (i := 1) rfl rfl ?_
    obtain ⟨v2, σ2, hc2, h⟩ := h
    refine sj_callVi (M' := me_X10_isSchoolWeek) (b := 50) (As := [.int x1]) (rest := []) dX10_letterOf_33 gX10_letterOf_X10_isSchoolWeek rfl hd_X10_isSchoolWeek (by decide +kernel) (by decide +kernel) rfl (Nat.le_of_ble_eq_true rfl) (by omega) rfl hc2 ?_
    refine sj_if_eq (tgt := 45) dX10_letterOf_36 (by decide) (fun c3 => ?_) (fun c3 => ?_)
    · refine sj_iconst (v := (-1)) dX10_letterOf_45 (by decide +kernel) ?_
      try simp only [if_pos c3] at h
      refine sj_fg [0, 1, 2, 3] ?_
      exact t_X10_letterOf_46 h
    · refine sj_iload_n dX10_letterOf_39 (i := 2) rfl rfl ?_
      refine sj_iconst (v := (nI 2)) dX10_letterOf_40 (by decide +kernel) ?_
      refine sj_irem dX10_letterOf_41 (by decide +kernel) ?_
      refine sj_goto (tgt := 46) dX10_letterOf_42 (by decide) ?_
      try simp only [if_neg c3] at h
      refine sj_fg [0, 1, 2, 3] ?_
      exact t_X10_letterOf_46 h
  · replace h := h.2 c1
    refine sj_iload_n dX10_letterOf_9 (i := 2) rfl rfl ?_
    refine sj_aload_n dX10_letterOf_10 (i := 0) rfl rfl ?_
    refine sj_iload_n dX10_letterOf_11 (i := 3) rfl rfl ?_
    obtain ⟨v4, σ4, hc4, h⟩ := h
    refine sj_callVi (M' := me_X10_isSchoolWeek) (b := 50) (As := [.int x3]) (rest := [.int x2]) dX10_letterOf_12 gX10_letterOf_X10_isSchoolWeek rfl hd_X10_isSchoolWeek (by decide +kernel) (by decide +kernel) rfl (Nat.le_of_ble_eq_true rfl) (by omega) rfl hc4 ?_
    refine sj_if_eq (tgt := 22) dX10_letterOf_15 (by decide) (fun c5 => ?_) (fun c5 => ?_)
    · refine sj_iconst (v := (nI 0)) dX10_letterOf_22 (by decide +kernel) ?_
      try simp only [if_pos c5] at h
      refine sj_fg [2] ?_
      exact t_X10_letterOf_23 h
    · refine sj_iconst (v := (nI 1)) dX10_letterOf_18 (by decide +kernel) ?_
      refine sj_goto (tgt := 23) dX10_letterOf_19 (by decide) ?_
      try simp only [if_neg c5] at h
      refine sj_fg [2] ?_
      exact t_X10_letterOf_23 h
def wp_X10_letterOf_0 (G : sj_G) (R : sj_R) (x1 : Int32) (σ : sj_S) : Prop := sj_J G 5 me_X10_letterOf R 4 [.ref (sj_ad G 50), .int x1, .int (nI 0), .int (nI 0)] σ []
set_option maxRecDepth 20000 in
theorem t_X10_letterOf_0 {G : sj_G} {R : sj_R} {x1 : Int32} {σ : sj_S} (h : wp_X10_letterOf_0 G R x1 σ) : sj_J G 5 me_X10_letterOf R 0 [.ref (sj_ad G 50), .int x1, .null, .null] σ [] := by
  unfold wp_X10_letterOf_0 at h
  refine sj_iconst (v := (nI 0)) dX10_letterOf_0 (by decide +kernel) ?_
  refine sj_istore_n dX10_letterOf_1 (i := 2) rfl (by decide) ?_
  refine sj_iconst (v := (nI 0)) dX10_letterOf_2 (by decide +kernel) ?_
  refine sj_istore_n dX10_letterOf_3 (i := 3) rfl (by decide) ?_
  exact h
theorem c_X10_letterOf {G : sj_G} (ok : sj_ok G) {R : sj_R} {x1 : Int32} {σ : sj_S} (h : wp_X10_letterOf_0 G R x1 σ) : sj_C G 5 me_X10_letterOf [.ref (sj_ad G 50), .int x1] σ R :=
  sj_enter ok (by decide +kernel) rfl rfl (Nat.le_of_ble_eq_true rfl) (by simp [Value.category]) (t_X10_letterOf_0 h)
def wp_X10_isSchoolWeek_23 (G : sj_G) (R : sj_R) (s0 : Int32) (σ : sj_S) : Prop := R = (.ok s0, σ) ∧ (s0 = nI 0 ∨ s0 = nI 1)
set_option maxRecDepth 20000 in
theorem t_X10_isSchoolWeek_23 {G : sj_G} {R : sj_R} {s0 : Int32} {σ : sj_S} (h : wp_X10_isSchoolWeek_23 G R s0 σ) : sj_J G 4 me_X10_isSchoolWeek R 23 [.null, .null] σ [.int s0] := by
  unfold wp_X10_isSchoolWeek_23 at h
  obtain ⟨h, hz⟩ := h
  subst h
  exact sj_ret dX10_isSchoolWeek_23 rfl (sj_nb hz)
def wp_X10_isSchoolWeek_0 (G : sj_G) (R : sj_R) (x1 : Int32) (σ : sj_S) : Prop := ∃ v1 σ1, sj_C G 3 me_X10_daysBetween [.ref (sj_ad G 50), .int (x1 * (nI 7)), .int ((x1 * (nI 7)) + (nI 7))] σ (.ok v1, σ1) ∧ (wp_X10_isSchoolWeek_23 G R (if v1 ≤ 0 then (nI 0) else (nI 1)) σ1)
set_option maxRecDepth 20000 in
theorem t_X10_isSchoolWeek_0 {G : sj_G} {R : sj_R} {x1 : Int32} {σ : sj_S} (h : wp_X10_isSchoolWeek_0 G R x1 σ) : sj_J G 4 me_X10_isSchoolWeek R 0 [.ref (sj_ad G 50), .int x1] σ [] := by
  unfold wp_X10_isSchoolWeek_0 at h
  refine sj_aload_n dX10_isSchoolWeek_0 (i := 0) rfl rfl ?_
  refine sj_iload_n dX10_isSchoolWeek_1 (i := 1) rfl rfl ?_
  refine sj_bipush (v := (nI 7)) dX10_isSchoolWeek_2 (by decide +kernel) ?_
  refine sj_imul dX10_isSchoolWeek_4 ?_
  refine sj_iload_n dX10_isSchoolWeek_5 (i := 1) rfl rfl ?_
  refine sj_bipush (v := (nI 7)) dX10_isSchoolWeek_6 (by decide +kernel) ?_
  refine sj_imul dX10_isSchoolWeek_8 ?_
  refine sj_bipush (v := (nI 7)) dX10_isSchoolWeek_9 (by decide +kernel) ?_
  refine sj_iadd dX10_isSchoolWeek_11 ?_
  obtain ⟨v1, σ1, hc1, h⟩ := h
  refine sj_callVi (M' := me_X10_daysBetween) (b := 50) (As := [.int (x1 * (nI 7)), .int ((x1 * (nI 7)) + (nI 7))]) (rest := []) dX10_isSchoolWeek_12 gX10_isSchoolWeek_X10_daysBetween rfl hd_X10_daysBetween (by decide +kernel) (by decide +kernel) rfl (Nat.le_of_ble_eq_true rfl) (by omega) rfl hc1 ?_
  refine sj_if_le (tgt := 22) dX10_isSchoolWeek_15 (by decide) (fun c2 => ?_) (fun c2 => ?_)
  · refine sj_iconst (v := (nI 0)) dX10_isSchoolWeek_22 (by decide +kernel) ?_
    try simp only [if_pos c2] at h
    refine sj_fg [0, 1] ?_
    exact t_X10_isSchoolWeek_23 h
  · refine sj_iconst (v := (nI 1)) dX10_isSchoolWeek_18 (by decide +kernel) ?_
    refine sj_goto (tgt := 23) dX10_isSchoolWeek_19 (by decide) ?_
    try simp only [if_neg c2] at h
    refine sj_fg [0, 1] ?_
    exact t_X10_isSchoolWeek_23 h
theorem c_X10_isSchoolWeek {G : sj_G} (ok : sj_ok G) {R : sj_R} {x1 : Int32} {σ : sj_S} (h : wp_X10_isSchoolWeek_0 G R x1 σ) : sj_C G 4 me_X10_isSchoolWeek [.ref (sj_ad G 50), .int x1] σ R :=
  sj_enter ok (by decide +kernel) rfl rfl (Nat.le_of_ble_eq_true rfl) (by simp [Value.category]) (t_X10_isSchoolWeek_0 h)
def wp_J6_bitCount_0f7a4_0 (G : sj_G) (R : sj_R) (x0 : Int32) (σ : sj_S) : Prop := ∀ y1 : Int32, y1 = (x0 - ((x0.toUInt32 >>> ((nI 1).toUInt32 &&& Int32.toUInt32 31)).toInt32 &&& (nI 1431655765))) → ∀ y2 : Int32, y2 = ((y1 &&& (nI 858993459)) + ((y1.toUInt32 >>> ((nI 2).toUInt32 &&& Int32.toUInt32 31)).toInt32 &&& (nI 858993459))) → ∀ y3 : Int32, y3 = ((y2 + (y2.toUInt32 >>> ((nI 4).toUInt32 &&& Int32.toUInt32 31)).toInt32) &&& (nI 252645135)) → ∀ y4 : Int32, y4 = ((y3 + (y3.toUInt32 >>> ((nI 8).toUInt32 &&& Int32.toUInt32 31)).toInt32) + ((y3 + (y3.toUInt32 >>> ((nI 8).toUInt32 &&& Int32.toUInt32 31)).toInt32).toUInt32 >>> ((nI 16).toUInt32 &&& Int32.toUInt32 31)).toInt32) → R = (.ok (y4 &&& (nI 63)), σ)
set_option maxRecDepth 20000 in
theorem t_J6_bitCount_0f7a4_0 {G : sj_G} {R : sj_R} {x0 : Int32} {σ : sj_S} (h : wp_J6_bitCount_0f7a4_0 G R x0 σ) : sj_J G 2 me_J6_bitCount_0f7a4 R 0 [.int x0] σ [] := by
  unfold wp_J6_bitCount_0f7a4_0 at h
  refine sj_iload_n dJ6_bitCount_0f7a4_0 (i := 0) rfl rfl ?_
  refine sj_iload_n dJ6_bitCount_0f7a4_1 (i := 0) rfl rfl ?_
  refine sj_iconst (v := (nI 1)) dJ6_bitCount_0f7a4_2 (by decide +kernel) ?_
  refine sj_iushr dJ6_bitCount_0f7a4_3 ?_
  refine sj_ldcw (v := (nI 1431655765)) dJ6_bitCount_0f7a4_4 (by decide +kernel) ?_
  refine sj_iand dJ6_bitCount_0f7a4_7 ?_
  refine sj_isub dJ6_bitCount_0f7a4_8 ?_
  refine sj_topi (fun y1 hy1 => ?_)
  replace h := h y1 hy1
  refine sj_istore_n dJ6_bitCount_0f7a4_9 (i := 0) rfl (by decide) ?_
  refine sj_iload_n dJ6_bitCount_0f7a4_10 (i := 0) rfl rfl ?_
  refine sj_ldcw (v := (nI 858993459)) dJ6_bitCount_0f7a4_11 (by decide +kernel) ?_
  refine sj_iand dJ6_bitCount_0f7a4_14 ?_
  refine sj_iload_n dJ6_bitCount_0f7a4_15 (i := 0) rfl rfl ?_
  refine sj_iconst (v := (nI 2)) dJ6_bitCount_0f7a4_16 (by decide +kernel) ?_
  refine sj_iushr dJ6_bitCount_0f7a4_17 ?_
  refine sj_ldcw (v := (nI 858993459)) dJ6_bitCount_0f7a4_18 (by decide +kernel) ?_
  refine sj_iand dJ6_bitCount_0f7a4_21 ?_
  refine sj_iadd dJ6_bitCount_0f7a4_22 ?_
  refine sj_topi (fun y2 hy2 => ?_)
  replace h := h y2 hy2
  refine sj_istore_n dJ6_bitCount_0f7a4_23 (i := 0) rfl (by decide) ?_
  refine sj_iload_n dJ6_bitCount_0f7a4_24 (i := 0) rfl rfl ?_
  refine sj_iload_n dJ6_bitCount_0f7a4_25 (i := 0) rfl rfl ?_
  refine sj_iconst (v := (nI 4)) dJ6_bitCount_0f7a4_26 (by decide +kernel) ?_
  refine sj_iushr dJ6_bitCount_0f7a4_27 ?_
  refine sj_iadd dJ6_bitCount_0f7a4_28 ?_
  refine sj_ldcw (v := (nI 252645135)) dJ6_bitCount_0f7a4_29 (by decide +kernel) ?_
  refine sj_iand dJ6_bitCount_0f7a4_32 ?_
  refine sj_topi (fun y3 hy3 => ?_)
  replace h := h y3 hy3
  refine sj_istore_n dJ6_bitCount_0f7a4_33 (i := 0) rfl (by decide) ?_
  refine sj_iload_n dJ6_bitCount_0f7a4_34 (i := 0) rfl rfl ?_
  refine sj_iload_n dJ6_bitCount_0f7a4_35 (i := 0) rfl rfl ?_
  refine sj_bipush (v := (nI 8)) dJ6_bitCount_0f7a4_36 (by decide +kernel) ?_
  refine sj_iushr dJ6_bitCount_0f7a4_38 ?_
  refine sj_iadd dJ6_bitCount_0f7a4_39 ?_
  refine sj_istore_n dJ6_bitCount_0f7a4_40 (i := 0) rfl (by decide) ?_
  refine sj_iload_n dJ6_bitCount_0f7a4_41 (i := 0) rfl rfl ?_
  refine sj_iload_n dJ6_bitCount_0f7a4_42 (i := 0) rfl rfl ?_
  refine sj_bipush (v := (nI 16)) dJ6_bitCount_0f7a4_43 (by decide +kernel) ?_
  refine sj_iushr dJ6_bitCount_0f7a4_45 ?_
  refine sj_iadd dJ6_bitCount_0f7a4_46 ?_
  refine sj_topi (fun y4 hy4 => ?_)
  replace h := h y4 hy4
  refine sj_istore_n dJ6_bitCount_0f7a4_47 (i := 0) rfl (by decide) ?_
  refine sj_iload_n dJ6_bitCount_0f7a4_48 (i := 0) rfl rfl ?_
  refine sj_bipush (v := (nI 63)) dJ6_bitCount_0f7a4_49 (by decide +kernel) ?_
  refine sj_iand dJ6_bitCount_0f7a4_51 ?_
  subst h
  exact sj_ret dJ6_bitCount_0f7a4_52 rfl rfl
theorem c_J6_bitCount_0f7a4 {G : sj_G} (ok : sj_ok G) {R : sj_R} {x0 : Int32} {σ : sj_S} (h : wp_J6_bitCount_0f7a4_0 G R x0 σ) : sj_C G 2 me_J6_bitCount_0f7a4 [.int x0] σ R :=
  sj_enter ok (by decide +kernel) rfl rfl (Nat.le_of_ble_eq_true rfl) (by simp [Value.category]) (t_J6_bitCount_0f7a4_0 h)
def wp_J9_floorMod_7cf53_18 (G : sj_G) (R : sj_R) (x2 : Int32) (σ : sj_S) : Prop := R = (.ok x2, σ)
set_option maxRecDepth 20000 in
theorem t_J9_floorMod_7cf53_18 {G : sj_G} {R : sj_R} {x2 : Int32} {σ : sj_S} (h : wp_J9_floorMod_7cf53_18 G R x2 σ) : sj_J G 2 me_J9_floorMod_7cf53 R 18 [.null, .null, .int x2] σ [] := by
  unfold wp_J9_floorMod_7cf53_18 at h
  refine sj_iload_n dJ9_floorMod_7cf53_18 (i := 2) rfl rfl ?_
  subst h
  exact sj_ret dJ9_floorMod_7cf53_19 rfl rfl
def wp_J9_floorMod_7cf53_0 (G : sj_G) (R : sj_R) (x0 : Int32) (x1 : Int32) (σ : sj_S) : Prop := ¬ x1 = 0 ∧ (0 ≤ (x0 ^^^ x1) → (wp_J9_floorMod_7cf53_18 G R (x0 - x0 / x1 * x1) σ)) ∧ (¬ (0 ≤ (x0 ^^^ x1)) → ((x0 - x0 / x1 * x1) = 0 → (wp_J9_floorMod_7cf53_18 G R (x0 - x0 / x1 * x1) σ)) ∧ (¬ ((x0 - x0 / x1 * x1) = 0) → R = (.ok ((x0 - x0 / x1 * x1) + x1), σ)))
set_option maxRecDepth 20000 in
theorem t_J9_floorMod_7cf53_0 {G : sj_G} {R : sj_R} {x0 : Int32} {x1 : Int32} {σ : sj_S} (h : wp_J9_floorMod_7cf53_0 G R x0 x1 σ) : sj_J G 2 me_J9_floorMod_7cf53 R 0 [.int x0, .int x1, .null] σ [] := by
  unfold wp_J9_floorMod_7cf53_0 at h
  refine sj_iload_n dJ9_floorMod_7cf53_0 (i := 0) rfl rfl ?_
  refine sj_iload_n dJ9_floorMod_7cf53_1 (i := 1) rfl rfl ?_
  obtain ⟨b1, h⟩ := h
  refine sj_irem dJ9_floorMod_7cf53_2 b1 ?_
  refine sj_istore_n dJ9_floorMod_7cf53_3 (i := 2) rfl (by decide) ?_
  refine sj_iload_n dJ9_floorMod_7cf53_4 (i := 0) rfl rfl ?_
  refine sj_iload_n dJ9_floorMod_7cf53_5 (i := 1) rfl rfl ?_
  refine sj_ixor dJ9_floorMod_7cf53_6 ?_
  refine sj_if_ge (tgt := 18) dJ9_floorMod_7cf53_7 (by decide) (fun c2 => ?_) (fun c2 => ?_)
  · replace h := h.1 c2
    refine sj_fg [0, 1] ?_
    exact t_J9_floorMod_7cf53_18 h
  · replace h := h.2 c2
    refine sj_iload_n dJ9_floorMod_7cf53_10 (i := 2) rfl rfl ?_
    refine sj_if_eq (tgt := 18) dJ9_floorMod_7cf53_11 (by decide) (fun c3 => ?_) (fun c3 => ?_)
    · replace h := h.1 c3
      refine sj_fg [0, 1] ?_
      exact t_J9_floorMod_7cf53_18 h
    · replace h := h.2 c3
      refine sj_iload_n dJ9_floorMod_7cf53_14 (i := 2) rfl rfl ?_
      refine sj_iload_n dJ9_floorMod_7cf53_15 (i := 1) rfl rfl ?_
      refine sj_iadd dJ9_floorMod_7cf53_16 ?_
      subst h
      exact sj_ret dJ9_floorMod_7cf53_17 rfl rfl
theorem c_J9_floorMod_7cf53 {G : sj_G} (ok : sj_ok G) {R : sj_R} {x0 : Int32} {x1 : Int32} {σ : sj_S} (h : wp_J9_floorMod_7cf53_0 G R x0 x1 σ) : sj_C G 2 me_J9_floorMod_7cf53 [.int x0, .int x1] σ R :=
  sj_enterF ok (by decide +kernel) rfl rfl (Nat.le_of_ble_eq_true rfl) (by simp [Value.category]) (t_J9_floorMod_7cf53_0 h)
