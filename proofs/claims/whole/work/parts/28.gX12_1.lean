def wp_X12_looks_0 (G : sj_G) (R : sj_R) (σ : sj_S) : Prop := ∃ v1 σ1, sj_C G 4 me_X12_isTooMuch [.ref (sj_ad G 56)] σ (.ok v1, σ1) ∧ (v1 = 0 → ∃ v3 σ3, sj_C G 2 me_X12_many [.ref (sj_ad G 56)] σ1 (.ok v3, σ3) ∧ (v3 ≤ 0 → sj_J G 7 me_X12_looks R 23 [.ref (sj_ad G 56), .int (nI 0), .null] σ3 []) ∧ (¬ (v3 ≤ 0) → ∃ σ5, sj_C G 2 me_X12_begins [.ref (sj_ad G 56), .int (nI 0)] σ3 (.ok 0, σ5) ∧ sj_J G 7 me_X12_looks R 23 [.ref (sj_ad G 56), .int (nI 0), .null] σ5 [])) ∧ (¬ (v1 = 0) → R = (.ok (nI 0), σ1))
set_option maxRecDepth 20000 in
theorem t_X12_looks_0 {G : sj_G} {R : sj_R} {σ : sj_S} (h : wp_X12_looks_0 G R σ) : sj_J G 7 me_X12_looks R 0 [.ref (sj_ad G 56), .null, .null] σ [] := by
  unfold wp_X12_looks_0 at h
  refine sj_aload_n dX12_looks_0 (i := 0) rfl rfl ?_
  obtain ⟨v1, σ1, hc1, h⟩ := h
  refine sj_callVi (M' := me_X12_isTooMuch) (b := 56) (As := []) (rest := []) dX12_looks_1 gX12_looks_X12_isTooMuch rfl hd_X12_isTooMuch (by decide +kernel) (by decide +kernel) rfl (Nat.le_of_ble_eq_true rfl) (by omega) rfl hc1 ?_
  refine sj_if_eq (tgt := 9) dX12_looks_4 (by decide) (fun c2 => ?_) (fun c2 => ?_)
  · replace h := h.1 c2
    refine sj_iconst (v := (nI 0)) dX12_looks_9 (by decide +kernel) ?_
    refine sj_istore_n dX12_looks_10 (i := 1) rfl (by decide) ?_
    refine sj_aload_n dX12_looks_11 (i := 0) rfl rfl ?_
    obtain ⟨v3, σ3, hc3, h⟩ := h
    refine sj_callVi (M' := me_X12_many) (b := 56) (As := []) (rest := []) dX12_looks_12 gX12_looks_X12_many rfl hd_X12_many (by decide +kernel) (by decide +kernel) rfl (Nat.le_of_ble_eq_true rfl) (by omega) rfl hc3 ?_
    refine sj_if_le (tgt := 23) dX12_looks_15 (by decide) (fun c4 => ?_) (fun c4 => ?_)
    · replace h := h.1 c4
      exact h
    · replace h := h.2 c4
      refine sj_aload_n dX12_looks_18 (i := 0) rfl rfl ?_
      refine sj_iconst (v := (nI 0)) dX12_looks_19 (by decide +kernel) ?_
      obtain ⟨σ5, hc5, h⟩ := h
      refine sj_callVv (M' := me_X12_begins) (b := 56) (As := [.int (nI 0)]) (rest := []) dX12_looks_20 gX12_looks_X12_begins rfl hd_X12_begins (by decide +kernel) (by decide +kernel) rfl (Nat.le_of_ble_eq_true rfl) (by omega) rfl hc5 ?_
      exact h
  · replace h := h.2 c2
    refine sj_iconst (v := (nI 0)) dX12_looks_7 (by decide +kernel) ?_
    subst h
    exact sj_ret dX12_looks_8 rfl rfl
theorem c_X12_looks {G : sj_G} (ok : sj_ok G) {R : sj_R} {σ : sj_S} (h : wp_X12_looks_0 G R σ) : sj_C G 7 me_X12_looks [.ref (sj_ad G 56)] σ R :=
  sj_enter ok (by decide +kernel) rfl rfl (Nat.le_of_ble_eq_true rfl) (by simp [Value.category]) (t_X12_looks_0 h)
def wp_X12_begins_0 (G : sj_G) (R : sj_R) (x1 : Int32) (σ : sj_S) : Prop := vp_in x1 9 ∧ vp_in x1 9 ∧ R = (.ok 0, (sj_st (sj_st σ 59 x1.toNatClampNeg (-1)) 61 x1.toNatClampNeg (nI 0)))
set_option maxRecDepth 20000 in
theorem t_X12_begins_0 {G : sj_G} {R : sj_R} {x1 : Int32} {σ : sj_S} (h : wp_X12_begins_0 G R x1 σ) : sj_J G 2 me_X12_begins R 0 [.ref (sj_ad G 56), .int x1] σ [] := by
  unfold wp_X12_begins_0 at h
  refine sj_aload_n dX12_begins_0 (i := 0) rfl rfl ?_
  refine sj_get (a := 56) (k9 := 4) (v := .ref (sj_ad G 59)) dX12_begins_1 (by decide +kernel) rfl ?_
  refine sj_iload_n dX12_begins_4 (i := 1) rfl rfl ?_
  refine sj_iconst (v := (-1)) dX12_begins_5 (by decide +kernel) ?_
  obtain ⟨b1, h⟩ := h
  refine sj_iast (a := 59) (j := x1.toNatClampNeg) dX12_begins_6 rfl (by decide +kernel) b1 rfl ?_
  refine sj_aload_n dX12_begins_7 (i := 0) rfl rfl ?_
  refine sj_get (a := 56) (k9 := 6) (v := .ref (sj_ad G 61)) dX12_begins_8 (by decide +kernel) rfl ?_
  refine sj_iload_n dX12_begins_11 (i := 1) rfl rfl ?_
  refine sj_iconst (v := (nI 0)) dX12_begins_12 (by decide +kernel) ?_
  obtain ⟨b2, h⟩ := h
  refine sj_iast (a := 61) (j := x1.toNatClampNeg) dX12_begins_13 rfl (by decide +kernel) b2 rfl ?_
  subst h
  exact sj_vret dX12_begins_14 rfl
theorem c_X12_begins {G : sj_G} (ok : sj_ok G) {R : sj_R} {x1 : Int32} {σ : sj_S} (h : wp_X12_begins_0 G R x1 σ) : sj_C G 2 me_X12_begins [.ref (sj_ad G 56), .int x1] σ R :=
  sj_enter ok (by decide +kernel) rfl rfl (Nat.le_of_ble_eq_true rfl) (by simp [Value.category]) (t_X12_begins_0 h)
def wp_X12_puts_6 (G : sj_G) (R : sj_R) (x1 : Int32) (σ : sj_S) : Prop := ∃ v1 σ1, sj_C G 2 me_X12_many [.ref (sj_ad G 56)] σ (.ok v1, σ1) ∧ (v1 ≤ x1 → R = (.ok 0, (sj_st σ1 57 127 (nI 1)))) ∧ (¬ (v1 ≤ x1) → vp_in x1 9 ∧ vp_in ((nI 116) + x1) 128 ∧ sj_J G 3 me_X12_puts R 6 [.ref (sj_ad G 56), .int (x1 + (nI 1))] (sj_st σ1 57 ((nI 116) + x1).toNatClampNeg (σ1 59 x1.toNatClampNeg)) [])
set_option maxRecDepth 20000 in
theorem t_X12_puts_6 {G : sj_G} {R : sj_R} {x1 : Int32} {σ : sj_S} (h : wp_X12_puts_6 G R x1 σ) : sj_J G 3 me_X12_puts R 6 [.ref (sj_ad G 56), .int x1] σ [] := by
  unfold wp_X12_puts_6 at h
  refine sj_iload_n dX12_puts_6 (i := 1) rfl rfl ?_
  refine sj_aload_n dX12_puts_7 (i := 0) rfl rfl ?_
  obtain ⟨v1, σ1, hc1, h⟩ := h
  refine sj_callVi (M' := me_X12_many) (b := 56) (As := []) (rest := [.int x1]) dX12_puts_8 gX12_puts_X12_many rfl hd_X12_many (by decide +kernel) (by decide +kernel) rfl (Nat.le_of_ble_eq_true rfl) (by omega) rfl hc1 ?_
  refine sj_icmp_ge (tgt := 35) dX12_puts_11 (by decide) (fun c2 => ?_) (fun c2 => ?_)
  · replace h := h.1 c2
    refine sj_aload_n dX12_puts_35 (i := 0) rfl rfl ?_
    refine sj_get (a := 56) (k9 := 1) (v := .ref (sj_ad G 57)) dX12_puts_36 (by decide +kernel) rfl ?_
    refine sj_bipush (v := (nI 127)) dX12_puts_39 (by decide +kernel) ?_
    refine sj_iconst (v := (nI 1)) dX12_puts_41 (by decide +kernel) ?_
    refine sj_iast (a := 57) (j := 127) dX12_puts_42 rfl (by decide +kernel) (vp_in_nI (by decide) (by decide)) (nI_clamp (by decide)) ?_
    subst h
    exact sj_vret dX12_puts_43 rfl
  · replace h := h.2 c2
    refine sj_aload_n dX12_puts_14 (i := 0) rfl rfl ?_
    refine sj_get (a := 56) (k9 := 1) (v := .ref (sj_ad G 57)) dX12_puts_15 (by decide +kernel) rfl ?_
    refine sj_bipush (v := (nI 116)) dX12_puts_18 (by decide +kernel) ?_
    refine sj_iload_n dX12_puts_20 (i := 1) rfl rfl ?_
    refine sj_iadd dX12_puts_21 ?_
    refine sj_aload_n dX12_puts_22 (i := 0) rfl rfl ?_
    refine sj_get (a := 56) (k9 := 4) (v := .ref (sj_ad G 59)) dX12_puts_23 (by decide +kernel) rfl ?_
    refine sj_iload_n dX12_puts_26 (i := 1) rfl rfl ?_
    obtain ⟨b3, h⟩ := h
    refine sj_iald (a := 59) (j := x1.toNatClampNeg) (x := (σ1 59 x1.toNatClampNeg)) dX12_puts_27 rfl (by decide +kernel) b3 rfl rfl ?_
    obtain ⟨b4, h⟩ := h
    refine sj_iast (a := 57) (j := ((nI 116) + x1).toNatClampNeg) dX12_puts_28 rfl (by decide +kernel) b4 rfl ?_
    refine sj_iinc (v := (x1 + (nI 1))) dX12_puts_29 (by decide) rfl rfl ?_
    refine sj_goto (tgt := 6) dX12_puts_32 (by decide) ?_
    exact h
def wp_X12_puts_0 (G : sj_G) (R : sj_R) (σ : sj_S) : Prop := ∃ σ1, sj_C G 2 me_X12_keeps [.ref (sj_ad G 56)] σ (.ok 0, σ1) ∧ sj_J G 3 me_X12_puts R 6 [.ref (sj_ad G 56), .int (nI 0)] σ1 []
set_option maxRecDepth 20000 in
theorem t_X12_puts_0 {G : sj_G} {R : sj_R} {σ : sj_S} (h : wp_X12_puts_0 G R σ) : sj_J G 3 me_X12_puts R 0 [.ref (sj_ad G 56), .null] σ [] := by
  unfold wp_X12_puts_0 at h
  refine sj_aload_n dX12_puts_0 (i := 0) rfl rfl ?_
  obtain ⟨σ1, hc1, h⟩ := h
  refine sj_callVv (M' := me_X12_keeps) (b := 56) (As := []) (rest := []) dX12_puts_1 gX12_puts_X12_keeps rfl hd_X12_keeps (by decide +kernel) (by decide +kernel) rfl (Nat.le_of_ble_eq_true rfl) (by omega) rfl hc1 ?_
  refine sj_iconst (v := (nI 0)) dX12_puts_4 (by decide +kernel) ?_
  refine sj_istore_n dX12_puts_5 (i := 1) rfl (by decide) ?_
  exact h
theorem c_X12_puts {G : sj_G} (ok : sj_ok G) {R : sj_R} {σ : sj_S} (h : wp_X12_puts_0 G R σ) : sj_C G 3 me_X12_puts [.ref (sj_ad G 56)] σ R :=
  sj_enter ok (by decide +kernel) rfl rfl (Nat.le_of_ble_eq_true rfl) (by simp [Value.category]) (t_X12_puts_0 h)
def wp_X12_find_7 (G : sj_G) (R : sj_R) (x1 : Int32) (σ : sj_S) : Prop := ((nI 12) ≤ x1 → ∃ v2 σ2, sj_C G 7 me_X12_looks [.ref (sj_ad G 56)] σ (.ok v2, σ2) ∧ (v2 = 0 → sj_J G 8 me_X12_find R 54 [.ref (sj_ad G 56), .int (nI 0)] (sj_st (sj_st σ2 57 127 (nI 0)) 56 7 (nI 0)) []) ∧ (¬ (v2 = 0) → ∃ σ4, sj_C G 3 me_X12_puts [.ref (sj_ad G 56)] σ2 (.ok 0, σ4) ∧ R = (.ok (nI 1), σ4))) ∧ (¬ ((nI 12) ≤ x1) → vp_in x1 12 ∧ sj_J G 8 me_X12_find R 7 [.ref (sj_ad G 56), .int (x1 + (nI 1))] (sj_st σ 60 x1.toNatClampNeg (nI 0)) [])
set_option maxRecDepth 20000 in
theorem t_X12_find_7 {G : sj_G} {R : sj_R} {x1 : Int32} {σ : sj_S} (h : wp_X12_find_7 G R x1 σ) : sj_J G 8 me_X12_find R 7 [.ref (sj_ad G 56), .int x1] σ [] := by
  unfold wp_X12_find_7 at h
  refine sj_iload_n dX12_find_7 (i := 1) rfl rfl ?_
  refine sj_bipush (v := (nI 12)) dX12_find_8 (by decide +kernel) ?_
  refine sj_icmp_ge (tgt := 26) dX12_find_10 (by decide) (fun c1 => ?_) (fun c1 => ?_)
  · replace h := h.1 c1
    refine sj_aload_n dX12_find_26 (i := 0) rfl rfl ?_
    obtain ⟨v2, σ2, hc2, h⟩ := h
    refine sj_callVi (M' := me_X12_looks) (b := 56) (As := []) (rest := []) dX12_find_27 gX12_find_X12_looks rfl hd_X12_looks (by decide +kernel) (by decide +kernel) rfl (Nat.le_of_ble_eq_true rfl) (by omega) rfl hc2 ?_
    refine sj_if_eq (tgt := 39) dX12_find_30 (by decide) (fun c3 => ?_) (fun c3 => ?_)
    · replace h := h.1 c3
      refine sj_aload_n dX12_find_39 (i := 0) rfl rfl ?_
      refine sj_get (a := 56) (k9 := 1) (v := .ref (sj_ad G 57)) dX12_find_40 (by decide +kernel) rfl ?_
      refine sj_bipush (v := (nI 127)) dX12_find_43 (by decide +kernel) ?_
      refine sj_iconst (v := (nI 0)) dX12_find_45 (by decide +kernel) ?_
      refine sj_iast (a := 57) (j := 127) dX12_find_46 rfl (by decide +kernel) (vp_in_nI (by decide) (by decide)) (nI_clamp (by decide)) ?_
      refine sj_aload_n dX12_find_47 (i := 0) rfl rfl ?_
      refine sj_iconst (v := (nI 0)) dX12_find_48 (by decide +kernel) ?_
      refine sj_put (a := 56) (k9 := 7) dX12_find_49 (by decide +kernel) (by decide +kernel) rfl ?_
      refine sj_iconst (v := (nI 0)) dX12_find_52 (by decide +kernel) ?_
      refine sj_istore_n dX12_find_53 (i := 1) rfl (by decide) ?_
      exact h
    · replace h := h.2 c3
      refine sj_aload_n dX12_find_33 (i := 0) rfl rfl ?_
      obtain ⟨σ4, hc4, h⟩ := h
      refine sj_callVv (M' := me_X12_puts) (b := 56) (As := []) (rest := []) dX12_find_34 gX12_find_X12_puts rfl hd_X12_puts (by decide +kernel) (by decide +kernel) rfl (Nat.le_of_ble_eq_true rfl) (by omega) rfl hc4 ?_
      refine sj_iconst (v := (nI 1)) dX12_find_37 (by decide +kernel) ?_
      subst h
      exact sj_ret dX12_find_38 rfl rfl
  · replace h := h.2 c1
    refine sj_aload_n dX12_find_13 (i := 0) rfl rfl ?_
    refine sj_get (a := 56) (k9 := 5) (v := .ref (sj_ad G 60)) dX12_find_14 (by decide +kernel) rfl ?_
    refine sj_iload_n dX12_find_17 (i := 1) rfl rfl ?_
    refine sj_iconst (v := (nI 0)) dX12_find_18 (by decide +kernel) ?_
    obtain ⟨b5, h⟩ := h
    refine sj_zast (a := 60) (j := x1.toNatClampNeg) dX12_find_19 rfl (by decide +kernel) b5 rfl rfl ?_
    refine sj_iinc (v := (x1 + (nI 1))) dX12_find_20 (by decide) rfl rfl ?_
    refine sj_goto (tgt := 7) dX12_find_23 (by decide) ?_
    exact h
def wp_X12_find_124 (G : sj_G) (R : sj_R) (x1 : Int32) (σ : sj_S) : Prop := sj_J G 8 me_X12_find R 54 [.ref (sj_ad G 56), .int (x1 + (nI 1))] σ []
set_option maxRecDepth 20000 in
theorem t_X12_find_124 {G : sj_G} {R : sj_R} {x1 : Int32} {σ : sj_S} (h : wp_X12_find_124 G R x1 σ) : sj_J G 8 me_X12_find R 124 [.ref (sj_ad G 56), .int x1] σ [] := by
  unfold wp_X12_find_124 at h
  refine sj_iinc (v := (x1 + (nI 1))) dX12_find_124 (by decide) rfl rfl ?_
  refine sj_goto (tgt := 54) dX12_find_127 (by decide) ?_
  exact h
def wp_X12_find_54 (G : sj_G) (R : sj_R) (x1 : Int32) (σ : sj_S) : Prop := ((σ 57 126) ≤ x1 → sj_J G 8 me_X12_find R 132 [.ref (sj_ad G 56), .int (nI 0)] σ []) ∧ (¬ ((σ 57 126) ≤ x1) → vp_in ((nI 81) + x1) 128 ∧ ((σ 57 ((nI 81) + x1).toNatClampNeg) = 0 → vp_in x1 12 ∧ ∃ v7 σ7, sj_C G 7 me_X12_looks [.ref (sj_ad G 56)] (sj_st σ 60 x1.toNatClampNeg (nI 1)) (.ok v7, σ7) ∧ ((¬ (v7 = 0)) → vp_in x1 12 ∧ vp_in (σ7 56 7) 12) ∧ (wp_X12_find_124 G R x1 (if v7 = 0 then σ7 else (sj_st (sj_st (sj_st σ7 60 x1.toNatClampNeg (nI 0)) 62 (σ7 56 7).toNatClampNeg x1) 56 7 ((σ7 56 7) + (nI 1)))))) ∧ (¬ ((σ 57 ((nI 81) + x1).toNatClampNeg) = 0) → (wp_X12_find_124 G R x1 σ)))
set_option maxRecDepth 20000 in
theorem t_X12_find_54 {G : sj_G} {R : sj_R} {x1 : Int32} {σ : sj_S} (h : wp_X12_find_54 G R x1 σ) : sj_J G 8 me_X12_find R 54 [.ref (sj_ad G 56), .int x1] σ [] := by
  unfold wp_X12_find_54 at h
  refine sj_iload_n dX12_find_54 (i := 1) rfl rfl ?_
  refine sj_aload_n dX12_find_55 (i := 0) rfl rfl ?_
  refine sj_get (a := 56) (k9 := 1) (v := .ref (sj_ad G 57)) dX12_find_56 (by decide +kernel) rfl ?_
  refine sj_bipush (v := (nI 126)) dX12_find_59 (by decide +kernel) ?_
  refine sj_iald (a := 57) (j := 126) (x := (σ 57 126)) dX12_find_61 rfl (by decide +kernel) (vp_in_nI (by decide) (by decide)) (nI_clamp (by decide)) rfl ?_
  refine sj_icmp_ge (tgt := 130) dX12_find_62 (by decide) (fun c1 => ?_) (fun c1 => ?_)
  · replace h := h.1 c1
    refine sj_iconst (v := (nI 0)) dX12_find_130 (by decide +kernel) ?_
    refine sj_istore_n dX12_find_131 (i := 1) rfl (by decide) ?_
    exact h
  · replace h := h.2 c1
    refine sj_aload_n dX12_find_65 (i := 0) rfl rfl ?_
    refine sj_get (a := 56) (k9 := 1) (v := .ref (sj_ad G 57)) dX12_find_66 (by decide +kernel) rfl ?_
    refine sj_bipush (v := (nI 81)) dX12_find_69 (by decide +kernel) ?_
    refine sj_iload_n dX12_find_71 (i := 1) rfl rfl ?_
    refine sj_iadd dX12_find_72 ?_
    obtain ⟨b2, h⟩ := h
    refine sj_iald (a := 57) (j := ((nI 81) + x1).toNatClampNeg) (x := (σ 57 ((nI 81) + x1).toNatClampNeg)) dX12_find_73 rfl (by decide +kernel) b2 rfl rfl ?_
    refine sj_if_eq (tgt := 80) dX12_find_74 (by decide) (fun c5 => ?_) (fun c5 => ?_)
    · replace h := h.1 c5
      refine sj_aload_n dX12_find_80 (i := 0) rfl rfl ?_
      refine sj_get (a := 56) (k9 := 5) (v := .ref (sj_ad G 60)) dX12_find_81 (by decide +kernel) rfl ?_
      refine sj_iload_n dX12_find_84 (i := 1) rfl rfl ?_
      refine sj_iconst (v := (nI 1)) dX12_find_85 (by decide +kernel) ?_
      obtain ⟨b6, h⟩ := h
      refine sj_zast (a := 60) (j := x1.toNatClampNeg) dX12_find_86 rfl (by decide +kernel) b6 rfl rfl ?_
      refine sj_aload_n dX12_find_87 (i := 0) rfl rfl ?_
      obtain ⟨v7, σ7, hc7, h⟩ := h
      refine sj_callVi (M' := me_X12_looks) (b := 56) (As := []) (rest := []) dX12_find_88 gX12_find_X12_looks rfl hd_X12_looks (by decide +kernel) (by decide +kernel) rfl (Nat.le_of_ble_eq_true rfl) (by omega) rfl hc7 ?_
      obtain ⟨f11, h⟩ := h
      refine sj_if_ne (tgt := 97) dX12_find_91 (by decide) (fun c8 => ?_) (fun c8 => ?_)
      · obtain ⟨b9, b10⟩ := f11 c8
        refine sj_aload_n dX12_find_97 (i := 0) rfl rfl ?_
        refine sj_get (a := 56) (k9 := 5) (v := .ref (sj_ad G 60)) dX12_find_98 (by decide +kernel) rfl ?_
        refine sj_iload_n dX12_find_101 (i := 1) rfl rfl ?_
        refine sj_iconst (v := (nI 0)) dX12_find_102 (by decide +kernel) ?_
        refine sj_zast (a := 60) (j := x1.toNatClampNeg) dX12_find_103 rfl (by decide +kernel) b9 rfl rfl ?_
        refine sj_aload_n dX12_find_104 (i := 0) rfl rfl ?_
        refine sj_get (a := 56) (k9 := 8) (v := .ref (sj_ad G 62)) dX12_find_105 (by decide +kernel) rfl ?_
        refine sj_aload_n dX12_find_108 (i := 0) rfl rfl ?_
        refine sj_get (a := 56) (k9 := 7) (v := .int (σ7 56 7)) dX12_find_109 (by decide +kernel) rfl ?_
        refine sj_iload_n dX12_find_112 (i := 1) rfl rfl ?_
        refine sj_iast (a := 62) (j := (σ7 56 7).toNatClampNeg) dX12_find_113 rfl (by decide +kernel) b10 rfl ?_
        refine sj_aload_n dX12_find_114 (i := 0) rfl rfl ?_
        refine sj_dup dX12_find_115 rfl ?_
        refine sj_get (a := 56) (k9 := 7) (v := .int (σ7 56 7)) dX12_find_116 (by decide +kernel) rfl ?_
        refine sj_iconst (v := (nI 1)) dX12_find_119 (by decide +kernel) ?_
        refine sj_iadd dX12_find_120 ?_
        refine sj_put (a := 56) (k9 := 7) dX12_find_121 (by decide +kernel) (by decide +kernel) rfl ?_
        try simp only [if_neg c8] at h
        exact t_X12_find_124 h
      · refine sj_goto (tgt := 124) dX12_find_94 (by decide) ?_
        try simp only [if_pos c8] at h
        exact t_X12_find_124 h
    · replace h := h.2 c5
      refine sj_goto (tgt := 124) dX12_find_77 (by decide) ?_
      exact t_X12_find_124 h
def wp_X12_find_132 (G : sj_G) (R : sj_R) (x1 : Int32) (σ : sj_S) : Prop := ((nI 12) ≤ x1 → R = (.ok (nI 0), σ)) ∧ (¬ ((nI 12) ≤ x1) → vp_in x1 12 ∧ sj_J G 8 me_X12_find R 132 [.ref (sj_ad G 56), .int (x1 + (nI 1))] (sj_st σ 60 x1.toNatClampNeg (nI 0)) [])
set_option maxRecDepth 20000 in
theorem t_X12_find_132 {G : sj_G} {R : sj_R} {x1 : Int32} {σ : sj_S} (h : wp_X12_find_132 G R x1 σ) : sj_J G 8 me_X12_find R 132 [.ref (sj_ad G 56), .int x1] σ [] := by
  unfold wp_X12_find_132 at h
  refine sj_iload_n dX12_find_132 (i := 1) rfl rfl ?_
  refine sj_bipush (v := (nI 12)) dX12_find_133 (by decide +kernel) ?_
  refine sj_icmp_ge (tgt := 151) dX12_find_135 (by decide) (fun c1 => ?_) (fun c1 => ?_)
  · replace h := h.1 c1
    refine sj_iconst (v := (nI 0)) dX12_find_151 (by decide +kernel) ?_
    subst h
    exact sj_ret dX12_find_152 rfl rfl
  · replace h := h.2 c1
    refine sj_aload_n dX12_find_138 (i := 0) rfl rfl ?_
    refine sj_get (a := 56) (k9 := 5) (v := .ref (sj_ad G 60)) dX12_find_139 (by decide +kernel) rfl ?_
    refine sj_iload_n dX12_find_142 (i := 1) rfl rfl ?_
    refine sj_iconst (v := (nI 0)) dX12_find_143 (by decide +kernel) ?_
    obtain ⟨b2, h⟩ := h
    refine sj_zast (a := 60) (j := x1.toNatClampNeg) dX12_find_144 rfl (by decide +kernel) b2 rfl rfl ?_
    refine sj_iinc (v := (x1 + (nI 1))) dX12_find_145 (by decide) rfl rfl ?_
    refine sj_goto (tgt := 132) dX12_find_148 (by decide) ?_
    exact h
def wp_X12_find_0 (G : sj_G) (R : sj_R) (σ : sj_S) : Prop := sj_J G 8 me_X12_find R 7 [.ref (sj_ad G 56), .int (nI 0)] (sj_st σ 56 0 (nI 0)) []
set_option maxRecDepth 20000 in
theorem t_X12_find_0 {G : sj_G} {R : sj_R} {σ : sj_S} (h : wp_X12_find_0 G R σ) : sj_J G 8 me_X12_find R 0 [.ref (sj_ad G 56), .null] σ [] := by
  unfold wp_X12_find_0 at h
  refine sj_aload_n dX12_find_0 (i := 0) rfl rfl ?_
  refine sj_iconst (v := (nI 0)) dX12_find_1 (by decide +kernel) ?_
  refine sj_put (a := 56) (k9 := 0) dX12_find_2 (by decide +kernel) (by decide +kernel) rfl ?_
  refine sj_iconst (v := (nI 0)) dX12_find_5 (by decide +kernel) ?_
  refine sj_istore_n dX12_find_6 (i := 1) rfl (by decide) ?_
  exact h
theorem c_X12_find {G : sj_G} (ok : sj_ok G) {R : sj_R} {σ : sj_S} (h : wp_X12_find_0 G R σ) : sj_C G 8 me_X12_find [.ref (sj_ad G 56)] σ R :=
  sj_enter ok (by decide +kernel) rfl rfl (Nat.le_of_ble_eq_true rfl) (by simp [Value.category]) (t_X12_find_0 h)
def wp_X12_proof_0 (G : sj_G) (R : sj_R) (σ : sj_S) : Prop := R = (.ok (σ 56 7), (sj_st σ 56 0 (nI 0)))
set_option maxRecDepth 20000 in
theorem t_X12_proof_0 {G : sj_G} {R : sj_R} {σ : sj_S} (h : wp_X12_proof_0 G R σ) : sj_J G 2 me_X12_proof R 0 [.ref (sj_ad G 56)] σ [] := by
  unfold wp_X12_proof_0 at h
  refine sj_aload_n dX12_proof_0 (i := 0) rfl rfl ?_
  refine sj_iconst (v := (nI 0)) dX12_proof_1 (by decide +kernel) ?_
  refine sj_put (a := 56) (k9 := 0) dX12_proof_2 (by decide +kernel) (by decide +kernel) rfl ?_
  refine sj_aload_n dX12_proof_5 (i := 0) rfl rfl ?_
  refine sj_get (a := 56) (k9 := 7) (v := .int (σ 56 7)) dX12_proof_6 (by decide +kernel) rfl ?_
  subst h
  exact sj_ret dX12_proof_9 rfl rfl
theorem c_X12_proof {G : sj_G} (ok : sj_ok G) {R : sj_R} {σ : sj_S} (h : wp_X12_proof_0 G R σ) : sj_C G 2 me_X12_proof [.ref (sj_ad G 56)] σ R :=
  sj_enter ok (by decide +kernel) rfl rfl (Nat.le_of_ble_eq_true rfl) (by simp [Value.category]) (t_X12_proof_0 h)
def wp_X12_proofAt_34 (G : sj_G) (R : sj_R) (s0 : Int32) (σ : sj_S) : Prop := R = (.ok s0, σ)
set_option maxRecDepth 20000 in
theorem t_X12_proofAt_34 {G : sj_G} {R : sj_R} {s0 : Int32} {σ : sj_S} (h : wp_X12_proofAt_34 G R s0 σ) : sj_J G 3 me_X12_proofAt R 34 [.null, .null] σ [.int s0] := by
  unfold wp_X12_proofAt_34 at h
  subst h
  exact sj_ret dX12_proofAt_34 rfl rfl
def wp_X12_proofAt_0 (G : sj_G) (R : sj_R) (x1 : Int32) (σ : sj_S) : Prop := ∃ v1 σ1, sj_C G 2 me_X12_in [.int x1, .int (nI 0), .int ((σ 56 7) - (nI 1))] (sj_st σ 56 0 (nI 0)) (.ok v1, σ1) ∧ ∃ v2 σ2, sj_C G 2 me_X12_fails [.ref (sj_ad G 56), .int v1, .int (nI 1)] σ1 (.ok v2, σ2) ∧ ((v2 = 0) → vp_in x1 12) ∧ (wp_X12_proofAt_34 G R (if v2 = 0 then (σ2 62 x1.toNatClampNeg) else (nI 0)) σ2)
set_option maxRecDepth 20000 in
theorem t_X12_proofAt_0 {G : sj_G} {R : sj_R} {x1 : Int32} {σ : sj_S} (h : wp_X12_proofAt_0 G R x1 σ) : sj_J G 3 me_X12_proofAt R 0 [.ref (sj_ad G 56), .int x1] σ [] := by
  unfold wp_X12_proofAt_0 at h
  refine sj_aload_n dX12_proofAt_0 (i := 0) rfl rfl ?_
  refine sj_iconst (v := (nI 0)) dX12_proofAt_1 (by decide +kernel) ?_
  refine sj_put (a := 56) (k9 := 0) dX12_proofAt_2 (by decide +kernel) (by decide +kernel) rfl ?_
  refine sj_aload_n dX12_proofAt_5 (i := 0) rfl rfl ?_
  refine sj_iload_n dX12_proofAt_6 (i := 1) rfl rfl ?_
  refine sj_iconst (v := (nI 0)) dX12_proofAt_7 (by decide +kernel) ?_
  refine sj_aload_n dX12_proofAt_8 (i := 0) rfl rfl ?_
  refine sj_get (a := 56) (k9 := 7) (v := .int (σ 56 7)) dX12_proofAt_9 (by decide +kernel) rfl ?_
  refine sj_iconst (v := (nI 1)) dX12_proofAt_12 (by decide +kernel) ?_
  refine sj_isub dX12_proofAt_13 ?_
  obtain ⟨v1, σ1, hc1, h⟩ := h
  refine sj_callSi (M' := me_X12_in) (As := [.int x1, .int (nI 0), .int ((σ 56 7) - (nI 1))]) (rest := [.ref (sj_ad G 56)]) dX12_proofAt_14 gX12_proofAt_X12_in rfl hd_X12_in (Nat.le_of_ble_eq_true rfl) (by omega) rfl hc1 ?_
  refine sj_iconst (v := (nI 1)) dX12_proofAt_17 (by decide +kernel) ?_
  obtain ⟨v2, σ2, hc2, h⟩ := h
  refine sj_callVi (M' := me_X12_fails) (b := 56) (As := [.int v1, .int (nI 1)]) (rest := []) dX12_proofAt_18 gX12_proofAt_X12_fails rfl hd_X12_fails (by decide +kernel) (by decide +kernel) rfl (Nat.le_of_ble_eq_true rfl) (by omega) rfl hc2 ?_
  obtain ⟨f5, h⟩ := h
  refine sj_if_eq (tgt := 28) dX12_proofAt_21 (by decide) (fun c3 => ?_) (fun c3 => ?_)
  · have b4 := f5 c3
    refine sj_aload_n dX12_proofAt_28 (i := 0) rfl rfl ?_
    refine sj_get (a := 56) (k9 := 8) (v := .ref (sj_ad G 62)) dX12_proofAt_29 (by decide +kernel) rfl ?_
    refine sj_iload_n dX12_proofAt_32 (i := 1) rfl rfl ?_
    refine sj_iald (a := 62) (j := x1.toNatClampNeg) (x := (σ2 62 x1.toNatClampNeg)) dX12_proofAt_33 rfl (by decide +kernel) b4 rfl rfl ?_
    try simp only [if_pos c3] at h
    refine sj_fg [0, 1] ?_
    exact t_X12_proofAt_34 h
  · refine sj_iconst (v := (nI 0)) dX12_proofAt_24 (by decide +kernel) ?_
    refine sj_goto (tgt := 34) dX12_proofAt_25 (by decide) ?_
    try simp only [if_neg c3] at h
    refine sj_fg [0, 1] ?_
    exact t_X12_proofAt_34 h
theorem c_X12_proofAt {G : sj_G} (ok : sj_ok G) {R : sj_R} {x1 : Int32} {σ : sj_S} (h : wp_X12_proofAt_0 G R x1 σ) : sj_C G 3 me_X12_proofAt [.ref (sj_ad G 56), .int x1] σ R :=
  sj_enter ok (by decide +kernel) rfl rfl (Nat.le_of_ble_eq_true rfl) (by simp [Value.category]) (t_X12_proofAt_0 h)
def wp_X12_slotOf_35 (G : sj_G) (R : sj_R) (s0 : Int32) (σ : sj_S) : Prop := R = (.ok s0, σ)
set_option maxRecDepth 20000 in
theorem t_X12_slotOf_35 {G : sj_G} {R : sj_R} {s0 : Int32} {σ : sj_S} (h : wp_X12_slotOf_35 G R s0 σ) : sj_J G 4 me_X12_slotOf R 35 [.null, .null] σ [.int s0] := by
  unfold wp_X12_slotOf_35 at h
  subst h
  exact sj_ret dX12_slotOf_35 rfl rfl
def wp_X12_slotOf_22 (G : sj_G) (R : sj_R) (σ : sj_S) : Prop := (wp_X12_slotOf_35 G R (nI 0) σ)
set_option maxRecDepth 20000 in
theorem t_X12_slotOf_22 {G : sj_G} {R : sj_R} {σ : sj_S} (h : wp_X12_slotOf_22 G R σ) : sj_J G 4 me_X12_slotOf R 22 [.null, .null] σ [] := by
  unfold wp_X12_slotOf_22 at h
  refine sj_iconst (v := (nI 0)) dX12_slotOf_22 (by decide +kernel) ?_
  refine sj_goto (tgt := 35) dX12_slotOf_23 (by decide) ?_
  exact t_X12_slotOf_35 h
def wp_X12_slotOf_0 (G : sj_G) (R : sj_R) (x1 : Int32) (σ : sj_S) : Prop := ∃ v1 σ1, sj_C G 3 me_X12_noLesson [.ref (sj_ad G 56), .int x1, .int (nI 1)] (sj_st σ 56 0 (nI 0)) (.ok v1, σ1) ∧ (¬ v1 = 0 → (wp_X12_slotOf_22 G R σ1)) ∧ (v1 = 0 → ∃ v4 σ4, sj_C G 3 me_X12_noTable [.ref (sj_ad G 56), .int (nI 2)] σ1 (.ok v4, σ4) ∧ ((v4 = 0) → vp_in ((nI 116) + x1) 128) ∧ (wp_X12_slotOf_35 G R (if v4 = 0 then (σ4 57 ((nI 116) + x1).toNatClampNeg) else (nI 0)) σ4))
set_option maxRecDepth 20000 in
theorem t_X12_slotOf_0 {G : sj_G} {R : sj_R} {x1 : Int32} {σ : sj_S} (h : wp_X12_slotOf_0 G R x1 σ) : sj_J G 4 me_X12_slotOf R 0 [.ref (sj_ad G 56), .int x1] σ [] := by
  unfold wp_X12_slotOf_0 at h
  refine sj_aload_n dX12_slotOf_0 (i := 0) rfl rfl ?_
  refine sj_iconst (v := (nI 0)) dX12_slotOf_1 (by decide +kernel) ?_
  refine sj_put (a := 56) (k9 := 0) dX12_slotOf_2 (by decide +kernel) (by decide +kernel) rfl ?_
  refine sj_aload_n dX12_slotOf_5 (i := 0) rfl rfl ?_
  refine sj_iload_n dX12_slotOf_6 (i := 1) rfl rfl ?_
  refine sj_iconst (v := (nI 1)) dX12_slotOf_7 (by decide +kernel) ?_
  obtain ⟨v1, σ1, hc1, h⟩ := h
  refine sj_callVi (M' := me_X12_noLesson) (b := 56) (As := [.int x1, .int (nI 1)]) (rest := []) dX12_slotOf_8 gX12_slotOf_X12_noLesson rfl hd_X12_noLesson (by decide +kernel) (by decide +kernel) rfl (Nat.le_of_ble_eq_true rfl) (by omega) rfl hc1 ?_
  refine sj_if_ne (tgt := 22) dX12_slotOf_11 (by decide) (fun c3 => ?_) (fun c3 => ?_)
  · replace h := h.1 c3
    refine sj_fg [0, 1] ?_
    exact t_X12_slotOf_22 h
  · replace h := h.2 c3
    refine sj_aload_n dX12_slotOf_14 (i := 0) rfl rfl ?_
    refine sj_iconst (v := (nI 2)) dX12_slotOf_15 (by decide +kernel) ?_
    obtain ⟨v4, σ4, hc4, h⟩ := h
    refine sj_callVi (M' := me_X12_noTable) (b := 56) (As := [.int (nI 2)]) (rest := []) dX12_slotOf_16 gX12_slotOf_X12_noTable rfl hd_X12_noTable (by decide +kernel) (by decide +kernel) rfl (Nat.le_of_ble_eq_true rfl) (by omega) rfl hc4 ?_
    obtain ⟨f7, h⟩ := h
    refine sj_if_eq (tgt := 26) dX12_slotOf_19 (by decide) (fun c5 => ?_) (fun c5 => ?_)
    · have b6 := f7 c5
      refine sj_aload_n dX12_slotOf_26 (i := 0) rfl rfl ?_
      refine sj_get (a := 56) (k9 := 1) (v := .ref (sj_ad G 57)) dX12_slotOf_27 (by decide +kernel) rfl ?_
      refine sj_bipush (v := (nI 116)) dX12_slotOf_30 (by decide +kernel) ?_
      refine sj_iload_n dX12_slotOf_32 (i := 1) rfl rfl ?_
      refine sj_iadd dX12_slotOf_33 ?_
      refine sj_iald (a := 57) (j := ((nI 116) + x1).toNatClampNeg) (x := (σ4 57 ((nI 116) + x1).toNatClampNeg)) dX12_slotOf_34 rfl (by decide +kernel) b6 rfl rfl ?_
      try simp only [if_pos c5] at h
      refine sj_fg [0, 1] ?_
      exact t_X12_slotOf_35 h
    · refine sj_iconst (v := (nI 0)) dX12_slotOf_22 (by decide +kernel) ?_
      refine sj_goto (tgt := 35) dX12_slotOf_23 (by decide) ?_
      try simp only [if_neg c5] at h
      refine sj_fg [0, 1] ?_
      exact t_X12_slotOf_35 h
theorem c_X12_slotOf {G : sj_G} (ok : sj_ok G) {R : sj_R} {x1 : Int32} {σ : sj_S} (h : wp_X12_slotOf_0 G R x1 σ) : sj_C G 4 me_X12_slotOf [.ref (sj_ad G 56), .int x1] σ R :=
  sj_enter ok (by decide +kernel) rfl rfl (Nat.le_of_ble_eq_true rfl) (by simp [Value.category]) (t_X12_slotOf_0 h)
def wp_X12_noWho_12 (G : sj_G) (R : sj_R) (s0 : Int32) (s1 : Int32) (s2 : Int32) (σ : sj_S) : Prop := ∃ v1 σ1, sj_C G 2 me_X12_in [.int s2, .int s1, .int s0] σ (.ok v1, σ1) ∧ ∃ v2 σ2, sj_C G 2 me_X12_fails [.ref (sj_ad G 56), .int v1, .int (nI 1)] σ1 (.ok v2, σ2) ∧ R = (.ok v2, σ2) ∧ (v2 = nI 0 ∨ v2 = nI 1)
set_option maxRecDepth 20000 in
theorem t_X12_noWho_12 {G : sj_G} {R : sj_R} {s0 : Int32} {s1 : Int32} {s2 : Int32} {σ : sj_S} (h : wp_X12_noWho_12 G R s0 s1 s2 σ) : sj_J G 3 me_X12_noWho R 12 [.null, .null, .null] σ [.int s0, .int s1, .int s2, .ref (sj_ad G 56)] := by
  unfold wp_X12_noWho_12 at h
  obtain ⟨v1, σ1, hc1, h⟩ := h
  refine sj_callSi (M' := me_X12_in) (As := [.int s2, .int s1, .int s0]) (rest := [.ref (sj_ad G 56)]) dX12_noWho_12 gX12_noWho_X12_in rfl hd_X12_in (Nat.le_of_ble_eq_true rfl) (by omega) rfl hc1 ?_
  refine sj_iconst (v := (nI 1)) dX12_noWho_15 (by decide +kernel) ?_
  obtain ⟨v2, σ2, hc2, h⟩ := h
  refine sj_callVi (M' := me_X12_fails) (b := 56) (As := [.int v1, .int (nI 1)]) (rest := []) dX12_noWho_16 gX12_noWho_X12_fails rfl hd_X12_fails (by decide +kernel) (by decide +kernel) rfl (Nat.le_of_ble_eq_true rfl) (by omega) rfl hc2 ?_
  obtain ⟨h, hz⟩ := h
  subst h
  exact sj_ret dX12_noWho_19 rfl (sj_nb hz)
def wp_X12_noWho_0 (G : sj_G) (R : sj_R) (x1 : Int32) (x2 : Int32) (σ : sj_S) : Prop := (wp_X12_noWho_12 G R (if x1 = 0 then (nI 3) else (nI 5)) (nI 0) x2 σ)
set_option maxRecDepth 20000 in
theorem t_X12_noWho_0 {G : sj_G} {R : sj_R} {x1 : Int32} {x2 : Int32} {σ : sj_S} (h : wp_X12_noWho_0 G R x1 x2 σ) : sj_J G 3 me_X12_noWho R 0 [.ref (sj_ad G 56), .int x1, .int x2] σ [] := by
  unfold wp_X12_noWho_0 at h
  refine sj_aload_n dX12_noWho_0 (i := 0) rfl rfl ?_
  refine sj_iload_n dX12_noWho_1 (i := 2) rfl rfl ?_
  refine sj_iconst (v := (nI 0)) dX12_noWho_2 (by decide +kernel) ?_
  refine sj_iload_n dX12_noWho_3 (i := 1) rfl rfl ?_
  refine sj_if_eq (tgt := 11) dX12_noWho_4 (by decide) (fun c1 => ?_) (fun c1 => ?_)
  · refine sj_iconst (v := (nI 3)) dX12_noWho_11 (by decide +kernel) ?_
    try simp only [if_pos c1] at h
    refine sj_fg [0, 1, 2] ?_
    exact t_X12_noWho_12 h
  · refine sj_iconst (v := (nI 5)) dX12_noWho_7 (by decide +kernel) ?_
    refine sj_goto (tgt := 12) dX12_noWho_8 (by decide) ?_
    try simp only [if_neg c1] at h
    refine sj_fg [0, 1, 2] ?_
    exact t_X12_noWho_12 h
theorem c_X12_noWho {G : sj_G} (ok : sj_ok G) {R : sj_R} {x1 : Int32} {x2 : Int32} {σ : sj_S} (h : wp_X12_noWho_0 G R x1 x2 σ) : sj_C G 3 me_X12_noWho [.ref (sj_ad G 56), .int x1, .int x2] σ R :=
  sj_enter ok (by decide +kernel) rfl rfl (Nat.le_of_ble_eq_true rfl) (by simp [Value.category]) (t_X12_noWho_0 h)
def wp_X12_isOf_26 (G : sj_G) (R : sj_R) (s0 : Int32) (σ : sj_S) : Prop := R = (.ok s0, σ) ∧ (s0 = nI 0 ∨ s0 = nI 1)
set_option maxRecDepth 20000 in
theorem t_X12_isOf_26 {G : sj_G} {R : sj_R} {s0 : Int32} {σ : sj_S} (h : wp_X12_isOf_26 G R s0 σ) : sj_J G 2 me_X12_isOf R 26 [.null, .null, .null, .null] σ [.int s0] := by
  unfold wp_X12_isOf_26 at h
  obtain ⟨h, hz⟩ := h
  subst h
  exact sj_ret dX12_isOf_26 rfl (sj_nb hz)
def wp_X12_isOf_14 (G : sj_G) (R : sj_R) (x1 : Int32) (x3 : Int32) (s0 : Int32) (σ : sj_S) : Prop := vp_in (s0 + x1) 128 ∧ (wp_X12_isOf_26 G R (if (σ 57 (s0 + x1).toNatClampNeg) = x3 then (nI 1) else (nI 0)) σ)
set_option maxRecDepth 20000 in
theorem t_X12_isOf_14 {G : sj_G} {R : sj_R} {x1 : Int32} {x3 : Int32} {s0 : Int32} {σ : sj_S} (h : wp_X12_isOf_14 G R x1 x3 s0 σ) : sj_J G 2 me_X12_isOf R 14 [.null, .int x1, .null, .int x3] σ [.int s0, .ref (sj_ad G 57)] := by
  unfold wp_X12_isOf_14 at h
  refine sj_iload_n dX12_isOf_14 (i := 1) rfl rfl ?_
  refine sj_iadd dX12_isOf_15 ?_
  obtain ⟨b1, h⟩ := h
  refine sj_iald (a := 57) (j := (s0 + x1).toNatClampNeg) (x := (σ 57 (s0 + x1).toNatClampNeg)) dX12_isOf_16 rfl (by decide +kernel) b1 rfl rfl ?_
  refine sj_iload_n dX12_isOf_17 (i := 3) rfl rfl ?_
  refine sj_icmp_ne (tgt := 25) dX12_isOf_18 (by decide) (fun c2 => ?_) (fun c2 => ?_)
  · refine sj_iconst (v := (nI 0)) dX12_isOf_25 (by decide +kernel) ?_
    try simp only [if_neg c2] at h
    refine sj_fg [1, 3] ?_
    exact t_X12_isOf_26 h
  · refine sj_iconst (v := (nI 1)) dX12_isOf_21 (by decide +kernel) ?_
    refine sj_goto (tgt := 26) dX12_isOf_22 (by decide) ?_
    try simp only [if_pos c2] at h
    refine sj_fg [1, 3] ?_
    exact t_X12_isOf_26 h
def wp_X12_isOf_0 (G : sj_G) (R : sj_R) (x1 : Int32) (x2 : Int32) (x3 : Int32) (σ : sj_S) : Prop := (wp_X12_isOf_14 G R x1 x3 (if x2 = 0 then (nI 0) else (nI 9)) σ)
set_option maxRecDepth 20000 in
theorem t_X12_isOf_0 {G : sj_G} {R : sj_R} {x1 : Int32} {x2 : Int32} {x3 : Int32} {σ : sj_S} (h : wp_X12_isOf_0 G R x1 x2 x3 σ) : sj_J G 2 me_X12_isOf R 0 [.ref (sj_ad G 56), .int x1, .int x2, .int x3] σ [] := by
  unfold wp_X12_isOf_0 at h
  refine sj_aload_n dX12_isOf_0 (i := 0) rfl rfl ?_
  refine sj_get (a := 56) (k9 := 1) (v := .ref (sj_ad G 57)) dX12_isOf_1 (by decide +kernel) rfl ?_
  refine sj_iload_n dX12_isOf_4 (i := 2) rfl rfl ?_
  refine sj_if_eq (tgt := 13) dX12_isOf_5 (by decide) (fun c1 => ?_) (fun c1 => ?_)
  · refine sj_iconst (v := (nI 0)) dX12_isOf_13 (by decide +kernel) ?_
    try simp only [if_pos c1] at h
    refine sj_fg [0, 2] ?_
    exact t_X12_isOf_14 h
  · refine sj_bipush (v := (nI 9)) dX12_isOf_8 (by decide +kernel) ?_
    refine sj_goto (tgt := 14) dX12_isOf_10 (by decide) ?_
    try simp only [if_neg c1] at h
    refine sj_fg [0, 2] ?_
    exact t_X12_isOf_14 h
theorem c_X12_isOf {G : sj_G} (ok : sj_ok G) {R : sj_R} {x1 : Int32} {x2 : Int32} {x3 : Int32} {σ : sj_S} (h : wp_X12_isOf_0 G R x1 x2 x3 σ) : sj_C G 2 me_X12_isOf [.ref (sj_ad G 56), .int x1, .int x2, .int x3] σ R :=
  sj_enter ok (by decide +kernel) rfl rfl (Nat.le_of_ble_eq_true rfl) (by simp [Value.category]) (t_X12_isOf_0 h)
def wp_X12_lessonThen_36 (G : sj_G) (R : sj_R) (x1 : Int32) (x2 : Int32) (x3 : Int32) (x4 : Int32) (σ : sj_S) : Prop := sj_J G 4 me_X12_lessonThen R 3 [.ref (sj_ad G 56), .int x1, .int x2, .int x3, .int (x4 + (nI 1))] σ []
set_option maxRecDepth 20000 in
theorem t_X12_lessonThen_36 {G : sj_G} {R : sj_R} {x1 : Int32} {x2 : Int32} {x3 : Int32} {x4 : Int32} {σ : sj_S} (h : wp_X12_lessonThen_36 G R x1 x2 x3 x4 σ) : sj_J G 4 me_X12_lessonThen R 36 [.ref (sj_ad G 56), .int x1, .int x2, .int x3, .int x4] σ [] := by
  unfold wp_X12_lessonThen_36 at h
  refine sj_iinc (v := (x4 + (nI 1))) dX12_lessonThen_36 (by decide) rfl rfl ?_
  refine sj_goto (tgt := 3) dX12_lessonThen_39 (by decide) ?_
  exact h
def wp_X12_lessonThen_3 (G : sj_G) (R : sj_R) (x1 : Int32) (x2 : Int32) (x3 : Int32) (x4 : Int32) (σ : sj_S) : Prop := ∃ v1 σ1, sj_C G 2 me_X12_many [.ref (sj_ad G 56)] σ (.ok v1, σ1) ∧ (v1 ≤ x4 → R = (.ok (-1), σ1)) ∧ (¬ (v1 ≤ x4) → ∃ v3 σ3, sj_C G 2 me_X12_isOf [.ref (sj_ad G 56), .int x4, .int x1, .int x2] σ1 (.ok v3, σ3) ∧ (v3 = 0 → (wp_X12_lessonThen_36 G R x1 x2 x3 x4 σ3)) ∧ (¬ (v3 = 0) → ∃ v5 σ5, sj_C G 3 me_X12_isAt [.ref (sj_ad G 56), .int x4, .int x3] σ3 (.ok v5, σ5) ∧ (v5 = 0 → (wp_X12_lessonThen_36 G R x1 x2 x3 x4 σ5)) ∧ (¬ (v5 = 0) → R = (.ok x4, σ5))))
set_option maxRecDepth 20000 in
theorem t_X12_lessonThen_3 {G : sj_G} {R : sj_R} {x1 : Int32} {x2 : Int32} {x3 : Int32} {x4 : Int32} {σ : sj_S} (h : wp_X12_lessonThen_3 G R x1 x2 x3 x4 σ) : sj_J G 4 me_X12_lessonThen R 3 [.ref (sj_ad G 56), .int x1, .int x2, .int x3, .int x4] σ [] := by
  unfold wp_X12_lessonThen_3 at h
  refine sj_iload dX12_lessonThen_3 rfl ?_
  refine sj_aload_n dX12_lessonThen_5 (i := 0) rfl rfl ?_
  obtain ⟨v1, σ1, hc1, h⟩ := h
  refine sj_callVi (M' := me_X12_many) (b := 56) (As := []) (rest := [.int x4]) dX12_lessonThen_6 gX12_lessonThen_X12_many rfl hd_X12_many (by decide +kernel) (by decide +kernel) rfl (Nat.le_of_ble_eq_true rfl) (by omega) rfl hc1 ?_
  refine sj_icmp_ge (tgt := 42) dX12_lessonThen_9 (by decide) (fun c2 => ?_) (fun c2 => ?_)
  · replace h := h.1 c2
    refine sj_iconst (v := (-1)) dX12_lessonThen_42 (by decide +kernel) ?_
    subst h
    exact sj_ret dX12_lessonThen_43 rfl rfl
  · replace h := h.2 c2
    refine sj_aload_n dX12_lessonThen_12 (i := 0) rfl rfl ?_
    refine sj_iload dX12_lessonThen_13 rfl ?_
    refine sj_iload_n dX12_lessonThen_15 (i := 1) rfl rfl ?_
    refine sj_iload_n dX12_lessonThen_16 (i := 2) rfl rfl ?_
    obtain ⟨v3, σ3, hc3, h⟩ := h
    refine sj_callVi (M' := me_X12_isOf) (b := 56) (As := [.int x4, .int x1, .int x2]) (rest := []) dX12_lessonThen_17 gX12_lessonThen_X12_isOf rfl hd_X12_isOf (by decide +kernel) (by decide +kernel) rfl (Nat.le_of_ble_eq_true rfl) (by omega) rfl hc3 ?_
    refine sj_if_eq (tgt := 36) dX12_lessonThen_20 (by decide) (fun c4 => ?_) (fun c4 => ?_)
    · replace h := h.1 c4
      exact t_X12_lessonThen_36 h
    · replace h := h.2 c4
      refine sj_aload_n dX12_lessonThen_23 (i := 0) rfl rfl ?_
      refine sj_iload dX12_lessonThen_24 rfl ?_
      refine sj_iload_n dX12_lessonThen_26 (i := 3) rfl rfl ?_
      obtain ⟨v5, σ5, hc5, h⟩ := h
      refine sj_callVi (M' := me_X12_isAt) (b := 56) (As := [.int x4, .int x3]) (rest := []) dX12_lessonThen_27 gX12_lessonThen_X12_isAt rfl hd_X12_isAt (by decide +kernel) (by decide +kernel) rfl (Nat.le_of_ble_eq_true rfl) (by omega) rfl hc5 ?_
      refine sj_if_eq (tgt := 36) dX12_lessonThen_30 (by decide) (fun c6 => ?_) (fun c6 => ?_)
      · replace h := h.1 c6
        exact t_X12_lessonThen_36 h
      · replace h := h.2 c6
        refine sj_iload dX12_lessonThen_33 rfl ?_
        subst h
        exact sj_ret dX12_lessonThen_35 rfl rfl
def wp_X12_lessonThen_0 (G : sj_G) (R : sj_R) (x1 : Int32) (x2 : Int32) (x3 : Int32) (σ : sj_S) : Prop := sj_J G 4 me_X12_lessonThen R 3 [.ref (sj_ad G 56), .int x1, .int x2, .int x3, .int (nI 0)] σ []
set_option maxRecDepth 20000 in
theorem t_X12_lessonThen_0 {G : sj_G} {R : sj_R} {x1 : Int32} {x2 : Int32} {x3 : Int32} {σ : sj_S} (h : wp_X12_lessonThen_0 G R x1 x2 x3 σ) : sj_J G 4 me_X12_lessonThen R 0 [.ref (sj_ad G 56), .int x1, .int x2, .int x3, .null] σ [] := by
  unfold wp_X12_lessonThen_0 at h
  refine sj_iconst (v := (nI 0)) dX12_lessonThen_0 (by decide +kernel) ?_
  refine sj_istore dX12_lessonThen_1 (by decide) ?_
  exact h
theorem c_X12_lessonThen {G : sj_G} (ok : sj_ok G) {R : sj_R} {x1 : Int32} {x2 : Int32} {x3 : Int32} {σ : sj_S} (h : wp_X12_lessonThen_0 G R x1 x2 x3 σ) : sj_C G 4 me_X12_lessonThen [.ref (sj_ad G 56), .int x1, .int x2, .int x3] σ R :=
  sj_enter ok (by decide +kernel) rfl rfl (Nat.le_of_ble_eq_true rfl) (by simp [Value.category]) (t_X12_lessonThen_0 h)
def wp_X12_lessonAt_37 (G : sj_G) (R : sj_R) (σ : sj_S) : Prop := R = (.ok (nI 0), σ)
set_option maxRecDepth 20000 in
theorem t_X12_lessonAt_37 {G : sj_G} {R : sj_R} {σ : sj_S} (h : wp_X12_lessonAt_37 G R σ) : sj_J G 5 me_X12_lessonAt R 37 [.null, .null, .null, .null] σ [] := by
  unfold wp_X12_lessonAt_37 at h
  refine sj_iconst (v := (nI 0)) dX12_lessonAt_37 (by decide +kernel) ?_
  subst h
  exact sj_ret dX12_lessonAt_38 rfl rfl
def wp_X12_lessonAt_0 (G : sj_G) (R : sj_R) (x1 : Int32) (x2 : Int32) (x3 : Int32) (σ : sj_S) : Prop := ∃ v1 σ1, sj_C G 3 me_X12_noWho [.ref (sj_ad G 56), .int x1, .int x2] (sj_st σ 56 0 (nI 0)) (.ok v1, σ1) ∧ (¬ v1 = 0 → (wp_X12_lessonAt_37 G R σ1)) ∧ (v1 = 0 → ∃ v3 σ3, sj_C G 2 me_X12_in [.int x3, .int (nI 0), .int (nI 19)] σ1 (.ok v3, σ3) ∧ ∃ v4 σ4, sj_C G 2 me_X12_fails [.ref (sj_ad G 56), .int v3, .int (nI 1)] σ3 (.ok v4, σ4) ∧ (¬ v4 = 0 → (wp_X12_lessonAt_37 G R σ4)) ∧ (v4 = 0 → ∃ v6 σ6, sj_C G 3 me_X12_noTable [.ref (sj_ad G 56), .int (nI 2)] σ4 (.ok v6, σ6) ∧ (v6 = 0 → ∃ σ8, sj_C G 3 me_X12_looksAtTable [.ref (sj_ad G 56)] σ6 (.ok 0, σ8) ∧ ∃ v9 σ9, sj_C G 4 me_X12_lessonThen [.ref (sj_ad G 56), .int x1, .int x2, .int x3] σ8 (.ok v9, σ9) ∧ R = (.ok v9, σ9)) ∧ (¬ (v6 = 0) → (wp_X12_lessonAt_37 G R σ6))))
set_option maxRecDepth 20000 in
theorem t_X12_lessonAt_0 {G : sj_G} {R : sj_R} {x1 : Int32} {x2 : Int32} {x3 : Int32} {σ : sj_S} (h : wp_X12_lessonAt_0 G R x1 x2 x3 σ) : sj_J G 5 me_X12_lessonAt R 0 [.ref (sj_ad G 56), .int x1, .int x2, .int x3] σ [] := by
  unfold wp_X12_lessonAt_0 at h
  refine sj_aload_n dX12_lessonAt_0 (i := 0) rfl rfl ?_
  refine sj_iconst (v := (nI 0)) dX12_lessonAt_1 (by decide +kernel) ?_
  refine sj_put (a := 56) (k9 := 0) dX12_lessonAt_2 (by decide +kernel) (by decide +kernel) rfl ?_
  refine sj_aload_n dX12_lessonAt_5 (i := 0) rfl rfl ?_
  refine sj_iload_n dX12_lessonAt_6 (i := 1) rfl rfl ?_
  refine sj_iload_n dX12_lessonAt_7 (i := 2) rfl rfl ?_
  obtain ⟨v1, σ1, hc1, h⟩ := h
  refine sj_callVi (M' := me_X12_noWho) (b := 56) (As := [.int x1, .int x2]) (rest := []) dX12_lessonAt_8 gX12_lessonAt_X12_noWho rfl hd_X12_noWho (by decide +kernel) (by decide +kernel) rfl (Nat.le_of_ble_eq_true rfl) (by omega) rfl hc1 ?_
  refine sj_if_ne (tgt := 37) dX12_lessonAt_11 (by decide) (fun c2 => ?_) (fun c2 => ?_)
  · replace h := h.1 c2
    refine sj_fg [0, 1, 2, 3] ?_
    exact t_X12_lessonAt_37 h
  · replace h := h.2 c2
    refine sj_aload_n dX12_lessonAt_14 (i := 0) rfl rfl ?_
    refine sj_iload_n dX12_lessonAt_15 (i := 3) rfl rfl ?_
    refine sj_iconst (v := (nI 0)) dX12_lessonAt_16 (by decide +kernel) ?_
    refine sj_bipush (v := (nI 19)) dX12_lessonAt_17 (by decide +kernel) ?_
    obtain ⟨v3, σ3, hc3, h⟩ := h
    refine sj_callSi (M' := me_X12_in) (As := [.int x3, .int (nI 0), .int (nI 19)]) (rest := [.ref (sj_ad G 56)]) dX12_lessonAt_19 gX12_lessonAt_X12_in rfl hd_X12_in (Nat.le_of_ble_eq_true rfl) (by omega) rfl hc3 ?_
    refine sj_iconst (v := (nI 1)) dX12_lessonAt_22 (by decide +kernel) ?_
    obtain ⟨v4, σ4, hc4, h⟩ := h
    refine sj_callVi (M' := me_X12_fails) (b := 56) (As := [.int v3, .int (nI 1)]) (rest := []) dX12_lessonAt_23 gX12_lessonAt_X12_fails rfl hd_X12_fails (by decide +kernel) (by decide +kernel) rfl (Nat.le_of_ble_eq_true rfl) (by omega) rfl hc4 ?_
    refine sj_if_ne (tgt := 37) dX12_lessonAt_26 (by decide) (fun c5 => ?_) (fun c5 => ?_)
    · replace h := h.1 c5
      refine sj_fg [0, 1, 2, 3] ?_
      exact t_X12_lessonAt_37 h
    · replace h := h.2 c5
      refine sj_aload_n dX12_lessonAt_29 (i := 0) rfl rfl ?_
      refine sj_iconst (v := (nI 2)) dX12_lessonAt_30 (by decide +kernel) ?_
      obtain ⟨v6, σ6, hc6, h⟩ := h
      refine sj_callVi (M' := me_X12_noTable) (b := 56) (As := [.int (nI 2)]) (rest := []) dX12_lessonAt_31 gX12_lessonAt_X12_noTable rfl hd_X12_noTable (by decide +kernel) (by decide +kernel) rfl (Nat.le_of_ble_eq_true rfl) (by omega) rfl hc6 ?_
      refine sj_if_eq (tgt := 39) dX12_lessonAt_34 (by decide) (fun c7 => ?_) (fun c7 => ?_)
      · replace h := h.1 c7
        refine sj_aload_n dX12_lessonAt_39 (i := 0) rfl rfl ?_
        obtain ⟨σ8, hc8, h⟩ := h
        refine sj_callVv (M' := me_X12_looksAtTable) (b := 56) (As := []) (rest := []) dX12_lessonAt_40 gX12_lessonAt_X12_looksAtTable rfl hd_X12_looksAtTable (by decide +kernel) (by decide +kernel) rfl (Nat.le_of_ble_eq_true rfl) (by omega) rfl hc8 ?_
        refine sj_aload_n dX12_lessonAt_43 (i := 0) rfl rfl ?_
        refine sj_iload_n dX12_lessonAt_44 (i := 1) rfl rfl ?_
        refine sj_iload_n dX12_lessonAt_45 (i := 2) rfl rfl ?_
        refine sj_iload_n dX12_lessonAt_46 (i := 3) rfl rfl ?_
        obtain ⟨v9, σ9, hc9, h⟩ := h
        refine sj_callVi (M' := me_X12_lessonThen) (b := 56) (As := [.int x1, .int x2, .int x3]) (rest := []) dX12_lessonAt_47 gX12_lessonAt_X12_lessonThen rfl hd_X12_lessonThen (by decide +kernel) (by decide +kernel) rfl (Nat.le_of_ble_eq_true rfl) (by omega) rfl hc9 ?_
        subst h
        exact sj_ret dX12_lessonAt_50 rfl rfl
      · replace h := h.2 c7
        refine sj_fg [0, 1, 2, 3] ?_
        exact t_X12_lessonAt_37 h
theorem c_X12_lessonAt {G : sj_G} (ok : sj_ok G) {R : sj_R} {x1 : Int32} {x2 : Int32} {x3 : Int32} {σ : sj_S} (h : wp_X12_lessonAt_0 G R x1 x2 x3 σ) : sj_C G 5 me_X12_lessonAt [.ref (sj_ad G 56), .int x1, .int x2, .int x3] σ R :=
  sj_enter ok (by decide +kernel) rfl rfl (Nat.le_of_ble_eq_true rfl) (by simp [Value.category]) (t_X12_lessonAt_0 h)
def wp_X12_givesRooms_2 (G : sj_G) (R : sj_R) (x1 : Int32) (σ : sj_S) : Prop := ∃ v1 σ1, sj_C G 2 me_X12_many [.ref (sj_ad G 56)] σ (.ok v1, σ1) ∧ (v1 ≤ x1 → sj_J G 6 me_X12_givesRooms R 25 [.ref (sj_ad G 56), .int (nI 0), .null, .null] σ1 []) ∧ (¬ (v1 ≤ x1) → vp_in x1 9 ∧ sj_J G 6 me_X12_givesRooms R 2 [.ref (sj_ad G 56), .int (x1 + (nI 1)), .null, .null] (sj_st σ1 63 x1.toNatClampNeg (-1)) [])
set_option maxRecDepth 20000 in
theorem t_X12_givesRooms_2 {G : sj_G} {R : sj_R} {x1 : Int32} {σ : sj_S} (h : wp_X12_givesRooms_2 G R x1 σ) : sj_J G 6 me_X12_givesRooms R 2 [.ref (sj_ad G 56), .int x1, .null, .null] σ [] := by
  unfold wp_X12_givesRooms_2 at h
  refine sj_iload_n dX12_givesRooms_2 (i := 1) rfl rfl ?_
  refine sj_aload_n dX12_givesRooms_3 (i := 0) rfl rfl ?_
  obtain ⟨v1, σ1, hc1, h⟩ := h
  refine sj_callVi (M' := me_X12_many) (b := 56) (As := []) (rest := [.int x1]) dX12_givesRooms_4 gX12_givesRooms_X12_many rfl hd_X12_many (by decide +kernel) (by decide +kernel) rfl (Nat.le_of_ble_eq_true rfl) (by omega) rfl hc1 ?_
  refine sj_icmp_ge (tgt := 23) dX12_givesRooms_7 (by decide) (fun c2 => ?_) (fun c2 => ?_)
  · replace h := h.1 c2
    refine sj_iconst (v := (nI 0)) dX12_givesRooms_23 (by decide +kernel) ?_
    refine sj_istore_n dX12_givesRooms_24 (i := 1) rfl (by decide) ?_
    exact h
  · replace h := h.2 c2
    refine sj_aload_n dX12_givesRooms_10 (i := 0) rfl rfl ?_
    refine sj_get (a := 56) (k9 := 9) (v := .ref (sj_ad G 63)) dX12_givesRooms_11 (by decide +kernel) rfl ?_
    refine sj_iload_n dX12_givesRooms_14 (i := 1) rfl rfl ?_
    refine sj_iconst (v := (-1)) dX12_givesRooms_15 (by decide +kernel) ?_
    obtain ⟨b3, h⟩ := h
    refine sj_iast (a := 63) (j := x1.toNatClampNeg) dX12_givesRooms_16 rfl (by decide +kernel) b3 rfl ?_
    refine sj_iinc (v := (x1 + (nI 1))) dX12_givesRooms_17 (by decide) rfl rfl ?_
    refine sj_goto (tgt := 2) dX12_givesRooms_20 (by decide) ?_
    exact h
def wp_X12_givesRooms_25 (G : sj_G) (R : sj_R) (x1 : Int32) (σ : sj_S) : Prop := ((nI 20) ≤ x1 → R = (.ok 0, σ)) ∧ (¬ ((nI 20) ≤ x1) → sj_J G 6 me_X12_givesRooms R 33 [.ref (sj_ad G 56), .int x1, .int (nI 0), .null] σ [])
set_option maxRecDepth 20000 in
theorem t_X12_givesRooms_25 {G : sj_G} {R : sj_R} {x1 : Int32} {σ : sj_S} (h : wp_X12_givesRooms_25 G R x1 σ) : sj_J G 6 me_X12_givesRooms R 25 [.ref (sj_ad G 56), .int x1, .null, .null] σ [] := by
  unfold wp_X12_givesRooms_25 at h
  refine sj_iload_n dX12_givesRooms_25 (i := 1) rfl rfl ?_
  refine sj_bipush (v := (nI 20)) dX12_givesRooms_26 (by decide +kernel) ?_
  refine sj_icmp_ge (tgt := 103) dX12_givesRooms_28 (by decide) (fun c1 => ?_) (fun c1 => ?_)
  · replace h := h.1 c1
    subst h
    exact sj_vret dX12_givesRooms_103 rfl
  · replace h := h.2 c1
    refine sj_iconst (v := (nI 0)) dX12_givesRooms_31 (by decide +kernel) ?_
    refine sj_istore_n dX12_givesRooms_32 (i := 2) rfl (by decide) ?_
    exact h
def wp_X12_givesRooms_91 (G : sj_G) (R : sj_R) (x1 : Int32) (x2 : Int32) (σ : sj_S) : Prop := sj_J G 6 me_X12_givesRooms R 33 [.ref (sj_ad G 56), .int x1, .int (x2 + (nI 1)), .null] σ []
set_option maxRecDepth 20000 in
theorem t_X12_givesRooms_91 {G : sj_G} {R : sj_R} {x1 : Int32} {x2 : Int32} {σ : sj_S} (h : wp_X12_givesRooms_91 G R x1 x2 σ) : sj_J G 6 me_X12_givesRooms R 91 [.ref (sj_ad G 56), .int x1, .int x2, .null] σ [] := by
  unfold wp_X12_givesRooms_91 at h
  refine sj_iinc (v := (x2 + (nI 1))) dX12_givesRooms_91 (by decide) rfl rfl ?_
  refine sj_goto (tgt := 33) dX12_givesRooms_94 (by decide) ?_
  exact h
def wp_X12_givesRooms_33 (G : sj_G) (R : sj_R) (x1 : Int32) (x2 : Int32) (σ : sj_S) : Prop := ∃ v1 σ1, sj_C G 2 me_X12_many [.ref (sj_ad G 56)] σ (.ok v1, σ1) ∧ (v1 ≤ x2 → sj_J G 6 me_X12_givesRooms R 25 [.ref (sj_ad G 56), .int (x1 + (nI 1)), .null, .null] σ1 []) ∧ (¬ (v1 ≤ x2) → vp_in x2 9 ∧ (¬ (σ1 59 x2.toNatClampNeg) = x1 → (wp_X12_givesRooms_91 G R x1 x2 σ1)) ∧ ((σ1 59 x2.toNatClampNeg) = x1 → vp_in ((nI 27) + x2) 128 ∧ (¬ (σ1 57 ((nI 27) + x2).toNatClampNeg) = (-1) → sj_J G 6 me_X12_givesRooms R 69 [.ref (sj_ad G 56), .int x1, .int x2, .int (nI 0)] σ1 []) ∧ ((σ1 57 ((nI 27) + x2).toNatClampNeg) = (-1) → (wp_X12_givesRooms_91 G R x1 x2 σ1))))
set_option maxRecDepth 20000 in
theorem t_X12_givesRooms_33 {G : sj_G} {R : sj_R} {x1 : Int32} {x2 : Int32} {σ : sj_S} (h : wp_X12_givesRooms_33 G R x1 x2 σ) : sj_J G 6 me_X12_givesRooms R 33 [.ref (sj_ad G 56), .int x1, .int x2, .null] σ [] := by
  unfold wp_X12_givesRooms_33 at h
  refine sj_iload_n dX12_givesRooms_33 (i := 2) rfl rfl ?_
  refine sj_aload_n dX12_givesRooms_34 (i := 0) rfl rfl ?_
  obtain ⟨v1, σ1, hc1, h⟩ := h
  refine sj_callVi (M' := me_X12_many) (b := 56) (As := []) (rest := [.int x2]) dX12_givesRooms_35 gX12_givesRooms_X12_many rfl hd_X12_many (by decide +kernel) (by decide +kernel) rfl (Nat.le_of_ble_eq_true rfl) (by omega) rfl hc1 ?_
  refine sj_icmp_ge (tgt := 97) dX12_givesRooms_38 (by decide) (fun c2 => ?_) (fun c2 => ?_)
  · replace h := h.1 c2
    refine sj_iinc (v := (x1 + (nI 1))) dX12_givesRooms_97 (by decide) rfl rfl ?_
    refine sj_goto (tgt := 25) dX12_givesRooms_100 (by decide) ?_
    refine sj_fg [2] ?_
    exact h
  · replace h := h.2 c2
    refine sj_aload_n dX12_givesRooms_41 (i := 0) rfl rfl ?_
    refine sj_get (a := 56) (k9 := 4) (v := .ref (sj_ad G 59)) dX12_givesRooms_42 (by decide +kernel) rfl ?_
    refine sj_iload_n dX12_givesRooms_45 (i := 2) rfl rfl ?_
    obtain ⟨b3, h⟩ := h
    refine sj_iald (a := 59) (j := x2.toNatClampNeg) (x := (σ1 59 x2.toNatClampNeg)) dX12_givesRooms_46 rfl (by decide +kernel) b3 rfl rfl ?_
    refine sj_iload_n dX12_givesRooms_47 (i := 1) rfl rfl ?_
    refine sj_icmp_ne (tgt := 91) dX12_givesRooms_48 (by decide) (fun c7 => ?_) (fun c7 => ?_)
    · replace h := h.1 c7
      exact t_X12_givesRooms_91 h
    · replace h := h.2 c7
      refine sj_aload_n dX12_givesRooms_51 (i := 0) rfl rfl ?_
      refine sj_get (a := 56) (k9 := 1) (v := .ref (sj_ad G 57)) dX12_givesRooms_52 (by decide +kernel) rfl ?_
      refine sj_bipush (v := (nI 27)) dX12_givesRooms_55 (by decide +kernel) ?_
      refine sj_iload_n dX12_givesRooms_57 (i := 2) rfl rfl ?_
      refine sj_iadd dX12_givesRooms_58 ?_
      obtain ⟨b8, h⟩ := h
      refine sj_iald (a := 57) (j := ((nI 27) + x2).toNatClampNeg) (x := (σ1 57 ((nI 27) + x2).toNatClampNeg)) dX12_givesRooms_59 rfl (by decide +kernel) b8 rfl rfl ?_
      refine sj_iconst (v := (-1)) dX12_givesRooms_60 (by decide +kernel) ?_
      refine sj_icmp_ne (tgt := 67) dX12_givesRooms_61 (by decide) (fun c10 => ?_) (fun c10 => ?_)
      · replace h := h.1 c10
        refine sj_iconst (v := (nI 0)) dX12_givesRooms_67 (by decide +kernel) ?_
        refine sj_istore_n dX12_givesRooms_68 (i := 3) rfl (by decide) ?_
        exact h
      · replace h := h.2 c10
        refine sj_goto (tgt := 91) dX12_givesRooms_64 (by decide) ?_
        exact t_X12_givesRooms_91 h
def wp_X12_givesRooms_69 (G : sj_G) (R : sj_R) (x1 : Int32) (x2 : Int32) (x3 : Int32) (σ : sj_S) : Prop := ∃ v1 σ1, sj_C G 5 me_X12_isRoomTaken [.ref (sj_ad G 56), .int x2, .int x3] σ (.ok v1, σ1) ∧ (v1 = 0 → vp_in x2 9 ∧ (wp_X12_givesRooms_91 G R x1 x2 (sj_st σ1 63 x2.toNatClampNeg x3))) ∧ (¬ (v1 = 0) → sj_J G 6 me_X12_givesRooms R 69 [.ref (sj_ad G 56), .int x1, .int x2, .int (x3 + (nI 1))] σ1 [])
set_option maxRecDepth 20000 in
theorem t_X12_givesRooms_69 {G : sj_G} {R : sj_R} {x1 : Int32} {x2 : Int32} {x3 : Int32} {σ : sj_S} (h : wp_X12_givesRooms_69 G R x1 x2 x3 σ) : sj_J G 6 me_X12_givesRooms R 69 [.ref (sj_ad G 56), .int x1, .int x2, .int x3] σ [] := by
  unfold wp_X12_givesRooms_69 at h
  refine sj_aload_n dX12_givesRooms_69 (i := 0) rfl rfl ?_
  refine sj_iload_n dX12_givesRooms_70 (i := 2) rfl rfl ?_
  refine sj_iload_n dX12_givesRooms_71 (i := 3) rfl rfl ?_
  obtain ⟨v1, σ1, hc1, h⟩ := h
  refine sj_callVi (M' := me_X12_isRoomTaken) (b := 56) (As := [.int x2, .int x3]) (rest := []) dX12_givesRooms_72 gX12_givesRooms_X12_isRoomTaken rfl hd_X12_isRoomTaken (by decide +kernel) (by decide +kernel) rfl (Nat.le_of_ble_eq_true rfl) (by omega) rfl hc1 ?_
  refine sj_if_eq (tgt := 84) dX12_givesRooms_75 (by decide) (fun c2 => ?_) (fun c2 => ?_)
  · replace h := h.1 c2
    refine sj_aload_n dX12_givesRooms_84 (i := 0) rfl rfl ?_
    refine sj_get (a := 56) (k9 := 9) (v := .ref (sj_ad G 63)) dX12_givesRooms_85 (by decide +kernel) rfl ?_
    refine sj_iload_n dX12_givesRooms_88 (i := 2) rfl rfl ?_
    refine sj_iload_n dX12_givesRooms_89 (i := 3) rfl rfl ?_
    obtain ⟨b3, h⟩ := h
    refine sj_iast (a := 63) (j := x2.toNatClampNeg) dX12_givesRooms_90 rfl (by decide +kernel) b3 rfl ?_
    refine sj_fg [3] ?_
    exact t_X12_givesRooms_91 h
  · replace h := h.2 c2
    refine sj_iinc (v := (x3 + (nI 1))) dX12_givesRooms_78 (by decide) rfl rfl ?_
    refine sj_goto (tgt := 69) dX12_givesRooms_81 (by decide) ?_
    exact h
def wp_X12_givesRooms_0 (G : sj_G) (R : sj_R) (σ : sj_S) : Prop := sj_J G 6 me_X12_givesRooms R 2 [.ref (sj_ad G 56), .int (nI 0), .null, .null] σ []
set_option maxRecDepth 20000 in
theorem t_X12_givesRooms_0 {G : sj_G} {R : sj_R} {σ : sj_S} (h : wp_X12_givesRooms_0 G R σ) : sj_J G 6 me_X12_givesRooms R 0 [.ref (sj_ad G 56), .null, .null, .null] σ [] := by
  unfold wp_X12_givesRooms_0 at h
  refine sj_iconst (v := (nI 0)) dX12_givesRooms_0 (by decide +kernel) ?_
  refine sj_istore_n dX12_givesRooms_1 (i := 1) rfl (by decide) ?_
  exact h
theorem c_X12_givesRooms {G : sj_G} (ok : sj_ok G) {R : sj_R} {σ : sj_S} (h : wp_X12_givesRooms_0 G R σ) : sj_C G 6 me_X12_givesRooms [.ref (sj_ad G 56)] σ R :=
  sj_enter ok (by decide +kernel) rfl rfl (Nat.le_of_ble_eq_true rfl) (by simp [Value.category]) (t_X12_givesRooms_0 h)
def wp_X12_isRoomTaken_57 (G : sj_G) (R : sj_R) (x1 : Int32) (x2 : Int32) (x3 : Int32) (σ : sj_S) : Prop := sj_J G 5 me_X12_isRoomTaken R 2 [.ref (sj_ad G 56), .int x1, .int x2, .int (x3 + (nI 1))] σ []
set_option maxRecDepth 20000 in
theorem t_X12_isRoomTaken_57 {G : sj_G} {R : sj_R} {x1 : Int32} {x2 : Int32} {x3 : Int32} {σ : sj_S} (h : wp_X12_isRoomTaken_57 G R x1 x2 x3 σ) : sj_J G 5 me_X12_isRoomTaken R 57 [.ref (sj_ad G 56), .int x1, .int x2, .int x3] σ [] := by
  unfold wp_X12_isRoomTaken_57 at h
  refine sj_iinc (v := (x3 + (nI 1))) dX12_isRoomTaken_57 (by decide) rfl rfl ?_
  refine sj_goto (tgt := 2) dX12_isRoomTaken_60 (by decide) ?_
  exact h
def wp_X12_isRoomTaken_2 (G : sj_G) (R : sj_R) (x1 : Int32) (x2 : Int32) (x3 : Int32) (σ : sj_S) : Prop := ∃ v1 σ1, sj_C G 2 me_X12_many [.ref (sj_ad G 56)] σ (.ok v1, σ1) ∧ (v1 ≤ x3 → R = (.ok (nI 0), σ1)) ∧ (¬ (v1 ≤ x3) → (x3 = x1 → (wp_X12_isRoomTaken_57 G R x1 x2 x3 σ1)) ∧ (¬ (x3 = x1) → vp_in x3 9 ∧ (¬ (σ1 63 x3.toNatClampNeg) = x2 → (wp_X12_isRoomTaken_57 G R x1 x2 x3 σ1)) ∧ ((σ1 63 x3.toNatClampNeg) = x2 → vp_in ((nI 27) + x3) 128 ∧ vp_in ((nI 27) + x1) 128 ∧ (¬ (σ1 57 ((nI 27) + x3).toNatClampNeg) = (σ1 57 ((nI 27) + x1).toNatClampNeg) → (wp_X12_isRoomTaken_57 G R x1 x2 x3 σ1)) ∧ ((σ1 57 ((nI 27) + x3).toNatClampNeg) = (σ1 57 ((nI 27) + x1).toNatClampNeg) → ∃ v9 σ9, sj_C G 4 me_X12_doMeet [.ref (sj_ad G 56), .int x1, .int x3] σ1 (.ok v9, σ9) ∧ (v9 = 0 → (wp_X12_isRoomTaken_57 G R x1 x2 x3 σ9)) ∧ (¬ (v9 = 0) → R = (.ok (nI 1), σ9))))))
set_option maxRecDepth 20000 in
theorem t_X12_isRoomTaken_2 {G : sj_G} {R : sj_R} {x1 : Int32} {x2 : Int32} {x3 : Int32} {σ : sj_S} (h : wp_X12_isRoomTaken_2 G R x1 x2 x3 σ) : sj_J G 5 me_X12_isRoomTaken R 2 [.ref (sj_ad G 56), .int x1, .int x2, .int x3] σ [] := by
  unfold wp_X12_isRoomTaken_2 at h
  refine sj_iload_n dX12_isRoomTaken_2 (i := 3) rfl rfl ?_
  refine sj_aload_n dX12_isRoomTaken_3 (i := 0) rfl rfl ?_
  obtain ⟨v1, σ1, hc1, h⟩ := h
  refine sj_callVi (M' := me_X12_many) (b := 56) (As := []) (rest := [.int x3]) dX12_isRoomTaken_4 gX12_isRoomTaken_X12_many rfl hd_X12_many (by decide +kernel) (by decide +kernel) rfl (Nat.le_of_ble_eq_true rfl) (by omega) rfl hc1 ?_
  refine sj_icmp_ge (tgt := 63) dX12_isRoomTaken_7 (by decide) (fun c2 => ?_) (fun c2 => ?_)
  · replace h := h.1 c2
    refine sj_iconst (v := (nI 0)) dX12_isRoomTaken_63 (by decide +kernel) ?_
    subst h
    exact sj_ret dX12_isRoomTaken_64 rfl rfl
  · replace h := h.2 c2
    refine sj_iload_n dX12_isRoomTaken_10 (i := 3) rfl rfl ?_
    refine sj_iload_n dX12_isRoomTaken_11 (i := 1) rfl rfl ?_
    refine sj_icmp_eq (tgt := 57) dX12_isRoomTaken_12 (by decide) (fun c3 => ?_) (fun c3 => ?_)
    · replace h := h.1 c3
      exact t_X12_isRoomTaken_57 h
    · replace h := h.2 c3
      refine sj_aload_n dX12_isRoomTaken_15 (i := 0) rfl rfl ?_
      refine sj_get (a := 56) (k9 := 9) (v := .ref (sj_ad G 63)) dX12_isRoomTaken_16 (by decide +kernel) rfl ?_
      refine sj_iload_n dX12_isRoomTaken_19 (i := 3) rfl rfl ?_
      obtain ⟨b4, h⟩ := h
      refine sj_iald (a := 63) (j := x3.toNatClampNeg) (x := (σ1 63 x3.toNatClampNeg)) dX12_isRoomTaken_20 rfl (by decide +kernel) b4 rfl rfl ?_
      refine sj_iload_n dX12_isRoomTaken_21 (i := 2) rfl rfl ?_
      refine sj_icmp_ne (tgt := 57) dX12_isRoomTaken_22 (by decide) (fun c5 => ?_) (fun c5 => ?_)
      · replace h := h.1 c5
        exact t_X12_isRoomTaken_57 h
      · replace h := h.2 c5
        refine sj_aload_n dX12_isRoomTaken_25 (i := 0) rfl rfl ?_
        refine sj_get (a := 56) (k9 := 1) (v := .ref (sj_ad G 57)) dX12_isRoomTaken_26 (by decide +kernel) rfl ?_
        refine sj_bipush (v := (nI 27)) dX12_isRoomTaken_29 (by decide +kernel) ?_
        refine sj_iload_n dX12_isRoomTaken_31 (i := 3) rfl rfl ?_
        refine sj_iadd dX12_isRoomTaken_32 ?_
        obtain ⟨b6, h⟩ := h
        refine sj_iald (a := 57) (j := ((nI 27) + x3).toNatClampNeg) (x := (σ1 57 ((nI 27) + x3).toNatClampNeg)) dX12_isRoomTaken_33 rfl (by decide +kernel) b6 rfl rfl ?_
        refine sj_aload_n dX12_isRoomTaken_34 (i := 0) rfl rfl ?_
        refine sj_get (a := 56) (k9 := 1) (v := .ref (sj_ad G 57)) dX12_isRoomTaken_35 (by decide +kernel) rfl ?_
        refine sj_bipush (v := (nI 27)) dX12_isRoomTaken_38 (by decide +kernel) ?_
        refine sj_iload_n dX12_isRoomTaken_40 (i := 1) rfl rfl ?_
        refine sj_iadd dX12_isRoomTaken_41 ?_
        obtain ⟨b7, h⟩ := h
        refine sj_iald (a := 57) (j := ((nI 27) + x1).toNatClampNeg) (x := (σ1 57 ((nI 27) + x1).toNatClampNeg)) dX12_isRoomTaken_42 rfl (by decide +kernel) b7 rfl rfl ?_
        refine sj_icmp_ne (tgt := 57) dX12_isRoomTaken_43 (by decide) (fun c8 => ?_) (fun c8 => ?_)
        · replace h := h.1 c8
          exact t_X12_isRoomTaken_57 h
        · replace h := h.2 c8
          refine sj_aload_n dX12_isRoomTaken_46 (i := 0) rfl rfl ?_
          refine sj_iload_n dX12_isRoomTaken_47 (i := 1) rfl rfl ?_
          refine sj_iload_n dX12_isRoomTaken_48 (i := 3) rfl rfl ?_
          obtain ⟨v9, σ9, hc9, h⟩ := h
          refine sj_callVi (M' := me_X12_doMeet) (b := 56) (As := [.int x1, .int x3]) (rest := []) dX12_isRoomTaken_49 gX12_isRoomTaken_X12_doMeet rfl hd_X12_doMeet (by decide +kernel) (by decide +kernel) rfl (Nat.le_of_ble_eq_true rfl) (by omega) rfl hc9 ?_
          refine sj_if_eq (tgt := 57) dX12_isRoomTaken_52 (by decide) (fun c10 => ?_) (fun c10 => ?_)
          · replace h := h.1 c10
            exact t_X12_isRoomTaken_57 h
          · replace h := h.2 c10
            refine sj_iconst (v := (nI 1)) dX12_isRoomTaken_55 (by decide +kernel) ?_
            subst h
            exact sj_ret dX12_isRoomTaken_56 rfl rfl
def wp_X12_isRoomTaken_0 (G : sj_G) (R : sj_R) (x1 : Int32) (x2 : Int32) (σ : sj_S) : Prop := sj_J G 5 me_X12_isRoomTaken R 2 [.ref (sj_ad G 56), .int x1, .int x2, .int (nI 0)] σ []
set_option maxRecDepth 20000 in
theorem t_X12_isRoomTaken_0 {G : sj_G} {R : sj_R} {x1 : Int32} {x2 : Int32} {σ : sj_S} (h : wp_X12_isRoomTaken_0 G R x1 x2 σ) : sj_J G 5 me_X12_isRoomTaken R 0 [.ref (sj_ad G 56), .int x1, .int x2, .null] σ [] := by
  unfold wp_X12_isRoomTaken_0 at h
  refine sj_iconst (v := (nI 0)) dX12_isRoomTaken_0 (by decide +kernel) ?_
  refine sj_istore_n dX12_isRoomTaken_1 (i := 3) rfl (by decide) ?_
  exact h
theorem c_X12_isRoomTaken {G : sj_G} (ok : sj_ok G) {R : sj_R} {x1 : Int32} {x2 : Int32} {σ : sj_S} (h : wp_X12_isRoomTaken_0 G R x1 x2 σ) : sj_C G 5 me_X12_isRoomTaken [.ref (sj_ad G 56), .int x1, .int x2] σ R :=
  sj_enter ok (by decide +kernel) rfl rfl (Nat.le_of_ble_eq_true rfl) (by simp [Value.category]) (t_X12_isRoomTaken_0 h)
def wp_X12_roomOf_22 (G : sj_G) (R : sj_R) (σ : sj_S) : Prop := R = (.ok (nI 0), σ)
set_option maxRecDepth 20000 in
theorem t_X12_roomOf_22 {G : sj_G} {R : sj_R} {σ : sj_S} (h : wp_X12_roomOf_22 G R σ) : sj_J G 7 me_X12_roomOf R 22 [.null, .null] σ [] := by
  unfold wp_X12_roomOf_22 at h
  refine sj_iconst (v := (nI 0)) dX12_roomOf_22 (by decide +kernel) ?_
  subst h
  exact sj_ret dX12_roomOf_23 rfl rfl
def wp_X12_roomOf_0 (G : sj_G) (R : sj_R) (x1 : Int32) (σ : sj_S) : Prop := ∃ v1 σ1, sj_C G 3 me_X12_noLesson [.ref (sj_ad G 56), .int x1, .int (nI 1)] (sj_st σ 56 0 (nI 0)) (.ok v1, σ1) ∧ (¬ v1 = 0 → (wp_X12_roomOf_22 G R σ1)) ∧ (v1 = 0 → ∃ v3 σ3, sj_C G 3 me_X12_noTable [.ref (sj_ad G 56), .int (nI 2)] σ1 (.ok v3, σ3) ∧ (v3 = 0 → ∃ σ5, sj_C G 3 me_X12_looksAtTable [.ref (sj_ad G 56)] σ3 (.ok 0, σ5) ∧ ∃ σ6, sj_C G 6 me_X12_givesRooms [.ref (sj_ad G 56)] σ5 (.ok 0, σ6) ∧ vp_in x1 9 ∧ R = (.ok (σ6 63 x1.toNatClampNeg), σ6)) ∧ (¬ (v3 = 0) → (wp_X12_roomOf_22 G R σ3)))
set_option maxRecDepth 20000 in
theorem t_X12_roomOf_0 {G : sj_G} {R : sj_R} {x1 : Int32} {σ : sj_S} (h : wp_X12_roomOf_0 G R x1 σ) : sj_J G 7 me_X12_roomOf R 0 [.ref (sj_ad G 56), .int x1] σ [] := by
  unfold wp_X12_roomOf_0 at h
  refine sj_aload_n dX12_roomOf_0 (i := 0) rfl rfl ?_
  refine sj_iconst (v := (nI 0)) dX12_roomOf_1 (by decide +kernel) ?_
  refine sj_put (a := 56) (k9 := 0) dX12_roomOf_2 (by decide +kernel) (by decide +kernel) rfl ?_
  refine sj_aload_n dX12_roomOf_5 (i := 0) rfl rfl ?_
  refine sj_iload_n dX12_roomOf_6 (i := 1) rfl rfl ?_
  refine sj_iconst (v := (nI 1)) dX12_roomOf_7 (by decide +kernel) ?_
  obtain ⟨v1, σ1, hc1, h⟩ := h
  refine sj_callVi (M' := me_X12_noLesson) (b := 56) (As := [.int x1, .int (nI 1)]) (rest := []) dX12_roomOf_8 gX12_roomOf_X12_noLesson rfl hd_X12_noLesson (by decide +kernel) (by decide +kernel) rfl (Nat.le_of_ble_eq_true rfl) (by omega) rfl hc1 ?_
  refine sj_if_ne (tgt := 22) dX12_roomOf_11 (by decide) (fun c2 => ?_) (fun c2 => ?_)
  · replace h := h.1 c2
    refine sj_fg [0, 1] ?_
    exact t_X12_roomOf_22 h
  · replace h := h.2 c2
    refine sj_aload_n dX12_roomOf_14 (i := 0) rfl rfl ?_
    refine sj_iconst (v := (nI 2)) dX12_roomOf_15 (by decide +kernel) ?_
    obtain ⟨v3, σ3, hc3, h⟩ := h
    refine sj_callVi (M' := me_X12_noTable) (b := 56) (As := [.int (nI 2)]) (rest := []) dX12_roomOf_16 gX12_roomOf_X12_noTable rfl hd_X12_noTable (by decide +kernel) (by decide +kernel) rfl (Nat.le_of_ble_eq_true rfl) (by omega) rfl hc3 ?_
    refine sj_if_eq (tgt := 24) dX12_roomOf_19 (by decide) (fun c4 => ?_) (fun c4 => ?_)
    · replace h := h.1 c4
      refine sj_aload_n dX12_roomOf_24 (i := 0) rfl rfl ?_
      obtain ⟨σ5, hc5, h⟩ := h
      refine sj_callVv (M' := me_X12_looksAtTable) (b := 56) (As := []) (rest := []) dX12_roomOf_25 gX12_roomOf_X12_looksAtTable rfl hd_X12_looksAtTable (by decide +kernel) (by decide +kernel) rfl (Nat.le_of_ble_eq_true rfl) (by omega) rfl hc5 ?_
      refine sj_aload_n dX12_roomOf_28 (i := 0) rfl rfl ?_
      obtain ⟨σ6, hc6, h⟩ := h
      refine sj_callVv (M' := me_X12_givesRooms) (b := 56) (As := []) (rest := []) dX12_roomOf_29 gX12_roomOf_X12_givesRooms rfl hd_X12_givesRooms (by decide +kernel) (by decide +kernel) rfl (Nat.le_of_ble_eq_true rfl) (by omega) rfl hc6 ?_
      refine sj_aload_n dX12_roomOf_32 (i := 0) rfl rfl ?_
      refine sj_get (a := 56) (k9 := 9) (v := .ref (sj_ad G 63)) dX12_roomOf_33 (by decide +kernel) rfl ?_
      refine sj_iload_n dX12_roomOf_36 (i := 1) rfl rfl ?_
      obtain ⟨b7, h⟩ := h
      refine sj_iald (a := 63) (j := x1.toNatClampNeg) (x := (σ6 63 x1.toNatClampNeg)) dX12_roomOf_37 rfl (by decide +kernel) b7 rfl rfl ?_
      subst h
      exact sj_ret dX12_roomOf_38 rfl rfl
    · replace h := h.2 c4
      refine sj_fg [0, 1] ?_
      exact t_X12_roomOf_22 h
theorem c_X12_roomOf {G : sj_G} (ok : sj_ok G) {R : sj_R} {x1 : Int32} {σ : sj_S} (h : wp_X12_roomOf_0 G R x1 σ) : sj_C G 7 me_X12_roomOf [.ref (sj_ad G 56), .int x1] σ R :=
  sj_enter ok (by decide +kernel) rfl rfl (Nat.le_of_ble_eq_true rfl) (by simp [Value.category]) (t_X12_roomOf_0 h)
def wp_X12_choices_22 (G : sj_G) (R : sj_R) (σ : sj_S) : Prop := R = (.ok (nI 0), σ)
set_option maxRecDepth 20000 in
theorem t_X12_choices_22 {G : sj_G} {R : sj_R} {σ : sj_S} (h : wp_X12_choices_22 G R σ) : sj_J G 7 me_X12_choices R 22 [.null, .null, .null, .null] σ [] := by
  unfold wp_X12_choices_22 at h
  refine sj_iconst (v := (nI 0)) dX12_choices_22 (by decide +kernel) ?_
  subst h
  exact sj_ret dX12_choices_23 rfl rfl
def wp_X12_choices_71 (G : sj_G) (R : sj_R) (x1 : Int32) (x3 : Int32) (s0 : Int32) (s1 : Int32) (σ : sj_S) : Prop := sj_J G 7 me_X12_choices R 32 [.ref (sj_ad G 56), .int x1, .int (s1 + s0), .int (x3 + (nI 1))] σ []
set_option maxRecDepth 20000 in
theorem t_X12_choices_71 {G : sj_G} {R : sj_R} {x1 : Int32} {x3 : Int32} {s0 : Int32} {s1 : Int32} {σ : sj_S} (h : wp_X12_choices_71 G R x1 x3 s0 s1 σ) : sj_J G 7 me_X12_choices R 71 [.ref (sj_ad G 56), .int x1, .null, .int x3] σ [.int s0, .int s1] := by
  unfold wp_X12_choices_71 at h
  refine sj_iadd dX12_choices_71 ?_
  refine sj_istore_n dX12_choices_72 (i := 2) rfl (by decide) ?_
  refine sj_iinc (v := (x3 + (nI 1))) dX12_choices_73 (by decide) rfl rfl ?_
  refine sj_goto (tgt := 32) dX12_choices_76 (by decide) ?_
  exact h
def wp_X12_choices_70 (G : sj_G) (R : sj_R) (x1 : Int32) (x3 : Int32) (s0 : Int32) (σ : sj_S) : Prop := (wp_X12_choices_71 G R x1 x3 (nI 0) s0 σ)
set_option maxRecDepth 20000 in
theorem t_X12_choices_70 {G : sj_G} {R : sj_R} {x1 : Int32} {x3 : Int32} {s0 : Int32} {σ : sj_S} (h : wp_X12_choices_70 G R x1 x3 s0 σ) : sj_J G 7 me_X12_choices R 70 [.ref (sj_ad G 56), .int x1, .null, .int x3] σ [.int s0] := by
  unfold wp_X12_choices_70 at h
  refine sj_iconst (v := (nI 0)) dX12_choices_70 (by decide +kernel) ?_
  exact t_X12_choices_71 h
def wp_X12_choices_32 (G : sj_G) (R : sj_R) (x1 : Int32) (x2 : Int32) (x3 : Int32) (σ : sj_S) : Prop := ((nI 20) ≤ x3 → R = (.ok x2, σ)) ∧ (¬ ((nI 20) ≤ x3) → vp_in x1 9 ∧ vp_in ((nI 116) + x1) 128 ∧ (x3 = (σ 57 ((nI 116) + x1).toNatClampNeg) → (wp_X12_choices_70 G R x1 x3 x2 (sj_st σ 59 x1.toNatClampNeg x3))) ∧ (¬ (x3 = (σ 57 ((nI 116) + x1).toNatClampNeg)) → ∃ v6 σ6, sj_C G 6 me_X12_isRight [.ref (sj_ad G 56)] (sj_st σ 59 x1.toNatClampNeg x3) (.ok v6, σ6) ∧ (wp_X12_choices_71 G R x1 x3 (if v6 = 0 then (nI 0) else (nI 1)) x2 σ6)))
set_option maxRecDepth 20000 in
theorem t_X12_choices_32 {G : sj_G} {R : sj_R} {x1 : Int32} {x2 : Int32} {x3 : Int32} {σ : sj_S} (h : wp_X12_choices_32 G R x1 x2 x3 σ) : sj_J G 7 me_X12_choices R 32 [.ref (sj_ad G 56), .int x1, .int x2, .int x3] σ [] := by
  unfold wp_X12_choices_32 at h
  refine sj_iload_n dX12_choices_32 (i := 3) rfl rfl ?_
  refine sj_bipush (v := (nI 20)) dX12_choices_33 (by decide +kernel) ?_
  refine sj_icmp_ge (tgt := 79) dX12_choices_35 (by decide) (fun c1 => ?_) (fun c1 => ?_)
  · replace h := h.1 c1
    refine sj_iload_n dX12_choices_79 (i := 2) rfl rfl ?_
    subst h
    exact sj_ret dX12_choices_80 rfl rfl
  · replace h := h.2 c1
    refine sj_aload_n dX12_choices_38 (i := 0) rfl rfl ?_
    refine sj_get (a := 56) (k9 := 4) (v := .ref (sj_ad G 59)) dX12_choices_39 (by decide +kernel) rfl ?_
    refine sj_iload_n dX12_choices_42 (i := 1) rfl rfl ?_
    refine sj_iload_n dX12_choices_43 (i := 3) rfl rfl ?_
    obtain ⟨b2, h⟩ := h
    refine sj_iast (a := 59) (j := x1.toNatClampNeg) dX12_choices_44 rfl (by decide +kernel) b2 rfl ?_
    refine sj_iload_n dX12_choices_45 (i := 2) rfl rfl ?_
    refine sj_iload_n dX12_choices_46 (i := 3) rfl rfl ?_
    refine sj_aload_n dX12_choices_47 (i := 0) rfl rfl ?_
    refine sj_get (a := 56) (k9 := 1) (v := .ref (sj_ad G 57)) dX12_choices_48 (by decide +kernel) rfl ?_
    refine sj_bipush (v := (nI 116)) dX12_choices_51 (by decide +kernel) ?_
    refine sj_iload_n dX12_choices_53 (i := 1) rfl rfl ?_
    refine sj_iadd dX12_choices_54 ?_
    obtain ⟨b3, h⟩ := h
    refine sj_iald (a := 57) (j := ((nI 116) + x1).toNatClampNeg) (x := (σ 57 ((nI 116) + x1).toNatClampNeg)) dX12_choices_55 rfl (by decide +kernel) b3 rfl rfl ?_
    refine sj_icmp_eq (tgt := 70) dX12_choices_56 (by decide) (fun c5 => ?_) (fun c5 => ?_)
    · replace h := h.1 c5
      refine sj_fg [2] ?_
      exact t_X12_choices_70 h
    · replace h := h.2 c5
      refine sj_aload_n dX12_choices_59 (i := 0) rfl rfl ?_
      obtain ⟨v6, σ6, hc6, h⟩ := h
      refine sj_callVi (M' := me_X12_isRight) (b := 56) (As := []) (rest := [.int x2]) dX12_choices_60 gX12_choices_X12_isRight rfl hd_X12_isRight (by decide +kernel) (by decide +kernel) rfl (Nat.le_of_ble_eq_true rfl) (by omega) rfl hc6 ?_
      refine sj_if_eq (tgt := 70) dX12_choices_63 (by decide) (fun c7 => ?_) (fun c7 => ?_)
      · refine sj_iconst (v := (nI 0)) dX12_choices_70 (by decide +kernel) ?_
        try simp only [if_pos c7] at h
        refine sj_fg [2] ?_
        exact t_X12_choices_71 h
      · refine sj_iconst (v := (nI 1)) dX12_choices_66 (by decide +kernel) ?_
        refine sj_goto (tgt := 71) dX12_choices_67 (by decide) ?_
        try simp only [if_neg c7] at h
        refine sj_fg [2] ?_
        exact t_X12_choices_71 h
def wp_X12_choices_0 (G : sj_G) (R : sj_R) (x1 : Int32) (σ : sj_S) : Prop := ∃ v1 σ1, sj_C G 3 me_X12_noLesson [.ref (sj_ad G 56), .int x1, .int (nI 1)] (sj_st σ 56 0 (nI 0)) (.ok v1, σ1) ∧ (¬ v1 = 0 → (wp_X12_choices_22 G R σ1)) ∧ (v1 = 0 → ∃ v3 σ3, sj_C G 3 me_X12_noTable [.ref (sj_ad G 56), .int (nI 2)] σ1 (.ok v3, σ3) ∧ (v3 = 0 → ∃ σ5, sj_C G 3 me_X12_looksAtTable [.ref (sj_ad G 56)] σ3 (.ok 0, σ5) ∧ sj_J G 7 me_X12_choices R 32 [.ref (sj_ad G 56), .int x1, .int (nI 0), .int (nI 0)] σ5 []) ∧ (¬ (v3 = 0) → (wp_X12_choices_22 G R σ3)))
set_option maxRecDepth 20000 in
theorem t_X12_choices_0 {G : sj_G} {R : sj_R} {x1 : Int32} {σ : sj_S} (h : wp_X12_choices_0 G R x1 σ) : sj_J G 7 me_X12_choices R 0 [.ref (sj_ad G 56), .int x1, .null, .null] σ [] := by
  unfold wp_X12_choices_0 at h
  refine sj_aload_n dX12_choices_0 (i := 0) rfl rfl ?_
  refine sj_iconst (v := (nI 0)) dX12_choices_1 (by decide +kernel) ?_
  refine sj_put (a := 56) (k9 := 0) dX12_choices_2 (by decide +kernel) (by decide +kernel) rfl ?_
  refine sj_aload_n dX12_choices_5 (i := 0) rfl rfl ?_
  refine sj_iload_n dX12_choices_6 (i := 1) rfl rfl ?_
  refine sj_iconst (v := (nI 1)) dX12_choices_7 (by decide +kernel) ?_
  obtain ⟨v1, σ1, hc1, h⟩ := h
  refine sj_callVi (M' := me_X12_noLesson) (b := 56) (As := [.int x1, .int (nI 1)]) (rest := []) dX12_choices_8 gX12_choices_X12_noLesson rfl hd_X12_noLesson (by decide +kernel) (by decide +kernel) rfl (Nat.le_of_ble_eq_true rfl) (by omega) rfl hc1 ?_
  refine sj_if_ne (tgt := 22) dX12_choices_11 (by decide) (fun c2 => ?_) (fun c2 => ?_)
  · replace h := h.1 c2
    refine sj_fg [0, 1] ?_
    exact t_X12_choices_22 h
  · replace h := h.2 c2
    refine sj_aload_n dX12_choices_14 (i := 0) rfl rfl ?_
    refine sj_iconst (v := (nI 2)) dX12_choices_15 (by decide +kernel) ?_
    obtain ⟨v3, σ3, hc3, h⟩ := h
    refine sj_callVi (M' := me_X12_noTable) (b := 56) (As := [.int (nI 2)]) (rest := []) dX12_choices_16 gX12_choices_X12_noTable rfl hd_X12_noTable (by decide +kernel) (by decide +kernel) rfl (Nat.le_of_ble_eq_true rfl) (by omega) rfl hc3 ?_
    refine sj_if_eq (tgt := 24) dX12_choices_19 (by decide) (fun c4 => ?_) (fun c4 => ?_)
    · replace h := h.1 c4
      refine sj_aload_n dX12_choices_24 (i := 0) rfl rfl ?_
      obtain ⟨σ5, hc5, h⟩ := h
      refine sj_callVv (M' := me_X12_looksAtTable) (b := 56) (As := []) (rest := []) dX12_choices_25 gX12_choices_X12_looksAtTable rfl hd_X12_looksAtTable (by decide +kernel) (by decide +kernel) rfl (Nat.le_of_ble_eq_true rfl) (by omega) rfl hc5 ?_
      refine sj_iconst (v := (nI 0)) dX12_choices_28 (by decide +kernel) ?_
      refine sj_istore_n dX12_choices_29 (i := 2) rfl (by decide) ?_
      refine sj_iconst (v := (nI 0)) dX12_choices_30 (by decide +kernel) ?_
      refine sj_istore_n dX12_choices_31 (i := 3) rfl (by decide) ?_
      exact h
    · replace h := h.2 c4
      refine sj_fg [0, 1] ?_
      exact t_X12_choices_22 h
theorem c_X12_choices {G : sj_G} (ok : sj_ok G) {R : sj_R} {x1 : Int32} {σ : sj_S} (h : wp_X12_choices_0 G R x1 σ) : sj_C G 7 me_X12_choices [.ref (sj_ad G 56), .int x1] σ R :=
  sj_enter ok (by decide +kernel) rfl rfl (Nat.le_of_ble_eq_true rfl) (by simp [Value.category]) (t_X12_choices_0 h)
def wp_X12_move_37 (G : sj_G) (R : sj_R) (σ : sj_S) : Prop := R = (.ok (nI 0), σ)
set_option maxRecDepth 20000 in
theorem t_X12_move_37 {G : sj_G} {R : sj_R} {σ : sj_S} (h : wp_X12_move_37 G R σ) : sj_J G 7 me_X12_move R 37 [.null, .null, .null] σ [] := by
  unfold wp_X12_move_37 at h
  refine sj_iconst (v := (nI 0)) dX12_move_37 (by decide +kernel) ?_
  subst h
  exact sj_ret dX12_move_38 rfl rfl
def wp_X12_move_0 (G : sj_G) (R : sj_R) (x1 : Int32) (x2 : Int32) (σ : sj_S) : Prop := ∃ v1 σ1, sj_C G 3 me_X12_noLesson [.ref (sj_ad G 56), .int x1, .int (nI 1)] (sj_st σ 56 0 (nI 0)) (.ok v1, σ1) ∧ (¬ v1 = 0 → (wp_X12_move_37 G R σ1)) ∧ (v1 = 0 → ∃ v3 σ3, sj_C G 2 me_X12_in [.int x2, .int (nI 0), .int (nI 19)] σ1 (.ok v3, σ3) ∧ ∃ v4 σ4, sj_C G 2 me_X12_fails [.ref (sj_ad G 56), .int v3, .int (nI 2)] σ3 (.ok v4, σ4) ∧ (¬ v4 = 0 → (wp_X12_move_37 G R σ4)) ∧ (v4 = 0 → ∃ v6 σ6, sj_C G 3 me_X12_noTable [.ref (sj_ad G 56), .int (nI 3)] σ4 (.ok v6, σ6) ∧ (v6 = 0 → ∃ σ8, sj_C G 3 me_X12_looksAtTable [.ref (sj_ad G 56)] σ6 (.ok 0, σ8) ∧ vp_in x1 9 ∧ ∃ v10 σ10, sj_C G 6 me_X12_isRight [.ref (sj_ad G 56)] (sj_st σ8 59 x1.toNatClampNeg x2) (.ok v10, σ10) ∧ ∃ v11 σ11, sj_C G 2 me_X12_fails [.ref (sj_ad G 56), .int v10, .int (nI 3)] σ10 (.ok v11, σ11) ∧ (v11 = 0 → ∃ σ13, sj_C G 3 me_X12_puts [.ref (sj_ad G 56)] σ11 (.ok 0, σ13) ∧ ∃ v14 σ14, sj_C G 6 me_X12_costs [.ref (sj_ad G 56)] σ13 (.ok v14, σ14) ∧ R = (.ok v14, σ14)) ∧ (¬ (v11 = 0) → R = (.ok (nI 0), σ11))) ∧ (¬ (v6 = 0) → (wp_X12_move_37 G R σ6))))
set_option maxRecDepth 20000 in
theorem t_X12_move_0 {G : sj_G} {R : sj_R} {x1 : Int32} {x2 : Int32} {σ : sj_S} (h : wp_X12_move_0 G R x1 x2 σ) : sj_J G 7 me_X12_move R 0 [.ref (sj_ad G 56), .int x1, .int x2] σ [] := by
  unfold wp_X12_move_0 at h
  refine sj_aload_n dX12_move_0 (i := 0) rfl rfl ?_
  refine sj_iconst (v := (nI 0)) dX12_move_1 (by decide +kernel) ?_
  refine sj_put (a := 56) (k9 := 0) dX12_move_2 (by decide +kernel) (by decide +kernel) rfl ?_
  refine sj_aload_n dX12_move_5 (i := 0) rfl rfl ?_
  refine sj_iload_n dX12_move_6 (i := 1) rfl rfl ?_
  refine sj_iconst (v := (nI 1)) dX12_move_7 (by decide +kernel) ?_
  obtain ⟨v1, σ1, hc1, h⟩ := h
  refine sj_callVi (M' := me_X12_noLesson) (b := 56) (As := [.int x1, .int (nI 1)]) (rest := []) dX12_move_8 gX12_move_X12_noLesson rfl hd_X12_noLesson (by decide +kernel) (by decide +kernel) rfl (Nat.le_of_ble_eq_true rfl) (by omega) rfl hc1 ?_
  refine sj_if_ne (tgt := 37) dX12_move_11 (by decide) (fun c2 => ?_) (fun c2 => ?_)
  · replace h := h.1 c2
    refine sj_fg [0, 1, 2] ?_
    exact t_X12_move_37 h
  · replace h := h.2 c2
    refine sj_aload_n dX12_move_14 (i := 0) rfl rfl ?_
    refine sj_iload_n dX12_move_15 (i := 2) rfl rfl ?_
    refine sj_iconst (v := (nI 0)) dX12_move_16 (by decide +kernel) ?_
    refine sj_bipush (v := (nI 19)) dX12_move_17 (by decide +kernel) ?_
    obtain ⟨v3, σ3, hc3, h⟩ := h
    refine sj_callSi (M' := me_X12_in) (As := [.int x2, .int (nI 0), .int (nI 19)]) (rest := [.ref (sj_ad G 56)]) dX12_move_19 gX12_move_X12_in rfl hd_X12_in (Nat.le_of_ble_eq_true rfl) (by omega) rfl hc3 ?_
    refine sj_iconst (v := (nI 2)) dX12_move_22 (by decide +kernel) ?_
    obtain ⟨v4, σ4, hc4, h⟩ := h
    refine sj_callVi (M' := me_X12_fails) (b := 56) (As := [.int v3, .int (nI 2)]) (rest := []) dX12_move_23 gX12_move_X12_fails rfl hd_X12_fails (by decide +kernel) (by decide +kernel) rfl (Nat.le_of_ble_eq_true rfl) (by omega) rfl hc4 ?_
    refine sj_if_ne (tgt := 37) dX12_move_26 (by decide) (fun c5 => ?_) (fun c5 => ?_)
    · replace h := h.1 c5
      refine sj_fg [0, 1, 2] ?_
      exact t_X12_move_37 h
    · replace h := h.2 c5
      refine sj_aload_n dX12_move_29 (i := 0) rfl rfl ?_
      refine sj_iconst (v := (nI 3)) dX12_move_30 (by decide +kernel) ?_
      obtain ⟨v6, σ6, hc6, h⟩ := h
      refine sj_callVi (M' := me_X12_noTable) (b := 56) (As := [.int (nI 3)]) (rest := []) dX12_move_31 gX12_move_X12_noTable rfl hd_X12_noTable (by decide +kernel) (by decide +kernel) rfl (Nat.le_of_ble_eq_true rfl) (by omega) rfl hc6 ?_
      refine sj_if_eq (tgt := 39) dX12_move_34 (by decide) (fun c7 => ?_) (fun c7 => ?_)
      · replace h := h.1 c7
        refine sj_aload_n dX12_move_39 (i := 0) rfl rfl ?_
        obtain ⟨σ8, hc8, h⟩ := h
        refine sj_callVv (M' := me_X12_looksAtTable) (b := 56) (As := []) (rest := []) dX12_move_40 gX12_move_X12_looksAtTable rfl hd_X12_looksAtTable (by decide +kernel) (by decide +kernel) rfl (Nat.le_of_ble_eq_true rfl) (by omega) rfl hc8 ?_
        refine sj_aload_n dX12_move_43 (i := 0) rfl rfl ?_
        refine sj_get (a := 56) (k9 := 4) (v := .ref (sj_ad G 59)) dX12_move_44 (by decide +kernel) rfl ?_
        refine sj_iload_n dX12_move_47 (i := 1) rfl rfl ?_
        refine sj_iload_n dX12_move_48 (i := 2) rfl rfl ?_
        obtain ⟨b9, h⟩ := h
        refine sj_iast (a := 59) (j := x1.toNatClampNeg) dX12_move_49 rfl (by decide +kernel) b9 rfl ?_
        refine sj_aload_n dX12_move_50 (i := 0) rfl rfl ?_
        refine sj_aload_n dX12_move_51 (i := 0) rfl rfl ?_
        obtain ⟨v10, σ10, hc10, h⟩ := h
        refine sj_callVi (M' := me_X12_isRight) (b := 56) (As := []) (rest := [.ref (sj_ad G 56)]) dX12_move_52 gX12_move_X12_isRight rfl hd_X12_isRight (by decide +kernel) (by decide +kernel) rfl (Nat.le_of_ble_eq_true rfl) (by omega) rfl hc10 ?_
        refine sj_iconst (v := (nI 3)) dX12_move_55 (by decide +kernel) ?_
        obtain ⟨v11, σ11, hc11, h⟩ := h
        refine sj_callVi (M' := me_X12_fails) (b := 56) (As := [.int v10, .int (nI 3)]) (rest := []) dX12_move_56 gX12_move_X12_fails rfl hd_X12_fails (by decide +kernel) (by decide +kernel) rfl (Nat.le_of_ble_eq_true rfl) (by omega) rfl hc11 ?_
        refine sj_if_eq (tgt := 64) dX12_move_59 (by decide) (fun c12 => ?_) (fun c12 => ?_)
        · replace h := h.1 c12
          refine sj_aload_n dX12_move_64 (i := 0) rfl rfl ?_
          obtain ⟨σ13, hc13, h⟩ := h
          refine sj_callVv (M' := me_X12_puts) (b := 56) (As := []) (rest := []) dX12_move_65 gX12_move_X12_puts rfl hd_X12_puts (by decide +kernel) (by decide +kernel) rfl (Nat.le_of_ble_eq_true rfl) (by omega) rfl hc13 ?_
          refine sj_aload_n dX12_move_68 (i := 0) rfl rfl ?_
          obtain ⟨v14, σ14, hc14, h⟩ := h
          refine sj_callVi (M' := me_X12_costs) (b := 56) (As := []) (rest := []) dX12_move_69 gX12_move_X12_costs rfl hd_X12_costs (by decide +kernel) (by decide +kernel) rfl (Nat.le_of_ble_eq_true rfl) (by omega) rfl hc14 ?_
          subst h
          exact sj_ret dX12_move_72 rfl rfl
        · replace h := h.2 c12
          refine sj_iconst (v := (nI 0)) dX12_move_62 (by decide +kernel) ?_
          subst h
          exact sj_ret dX12_move_63 rfl rfl
      · replace h := h.2 c7
        refine sj_fg [0, 1, 2] ?_
        exact t_X12_move_37 h
theorem c_X12_move {G : sj_G} (ok : sj_ok G) {R : sj_R} {x1 : Int32} {x2 : Int32} {σ : sj_S} (h : wp_X12_move_0 G R x1 x2 σ) : sj_C G 7 me_X12_move [.ref (sj_ad G 56), .int x1, .int x2] σ R :=
  sj_enter ok (by decide +kernel) rfl rfl (Nat.le_of_ble_eq_true rfl) (by simp [Value.category]) (t_X12_move_0 h)
def wp_X12_holds_21 (G : sj_G) (R : sj_R) (σ : sj_S) : Prop := R = (.ok (nI 0), σ)
set_option maxRecDepth 20000 in
theorem t_X12_holds_21 {G : sj_G} {R : sj_R} {σ : sj_S} (h : wp_X12_holds_21 G R σ) : sj_J G 6 me_X12_holds R 21 [.null, .null] σ [] := by
  unfold wp_X12_holds_21 at h
  refine sj_iconst (v := (nI 0)) dX12_holds_21 (by decide +kernel) ?_
  subst h
  exact sj_ret dX12_holds_22 rfl rfl
def wp_X12_holds_0 (G : sj_G) (R : sj_R) (x1 : Int32) (σ : sj_S) : Prop := ∃ v1 σ1, sj_C G 3 me_X12_noWish [.ref (sj_ad G 56), .int x1] (sj_st σ 56 0 (nI 0)) (.ok v1, σ1) ∧ (¬ v1 = 0 → (wp_X12_holds_21 G R σ1)) ∧ (v1 = 0 → ∃ v3 σ3, sj_C G 3 me_X12_noTable [.ref (sj_ad G 56), .int (nI 2)] σ1 (.ok v3, σ3) ∧ (v3 = 0 → ∃ σ5, sj_C G 3 me_X12_looksAtTable [.ref (sj_ad G 56)] σ3 (.ok 0, σ5) ∧ ∃ v6 σ6, sj_C G 5 me_X12_holdsNow [.ref (sj_ad G 56), .int x1] σ5 (.ok v6, σ6) ∧ R = (.ok v6, σ6) ∧ (v6 = nI 0 ∨ v6 = nI 1)) ∧ (¬ (v3 = 0) → (wp_X12_holds_21 G R σ3)))
set_option maxRecDepth 20000 in
theorem t_X12_holds_0 {G : sj_G} {R : sj_R} {x1 : Int32} {σ : sj_S} (h : wp_X12_holds_0 G R x1 σ) : sj_J G 6 me_X12_holds R 0 [.ref (sj_ad G 56), .int x1] σ [] := by
  unfold wp_X12_holds_0 at h
  refine sj_aload_n dX12_holds_0 (i := 0) rfl rfl ?_
  refine sj_iconst (v := (nI 0)) dX12_holds_1 (by decide +kernel) ?_
  refine sj_put (a := 56) (k9 := 0) dX12_holds_2 (by decide +kernel) (by decide +kernel) rfl ?_
  refine sj_aload_n dX12_holds_5 (i := 0) rfl rfl ?_
  refine sj_iload_n dX12_holds_6 (i := 1) rfl rfl ?_
  obtain ⟨v1, σ1, hc1, h⟩ := h
  refine sj_callVi (M' := me_X12_noWish) (b := 56) (As := [.int x1]) (rest := []) dX12_holds_7 gX12_holds_X12_noWish rfl hd_X12_noWish (by decide +kernel) (by decide +kernel) rfl (Nat.le_of_ble_eq_true rfl) (by omega) rfl hc1 ?_
  refine sj_if_ne (tgt := 21) dX12_holds_10 (by decide) (fun c2 => ?_) (fun c2 => ?_)
  · replace h := h.1 c2
    refine sj_fg [0, 1] ?_
    exact t_X12_holds_21 h
  · replace h := h.2 c2
    refine sj_aload_n dX12_holds_13 (i := 0) rfl rfl ?_
    refine sj_iconst (v := (nI 2)) dX12_holds_14 (by decide +kernel) ?_
    obtain ⟨v3, σ3, hc3, h⟩ := h
    refine sj_callVi (M' := me_X12_noTable) (b := 56) (As := [.int (nI 2)]) (rest := []) dX12_holds_15 gX12_holds_X12_noTable rfl hd_X12_noTable (by decide +kernel) (by decide +kernel) rfl (Nat.le_of_ble_eq_true rfl) (by omega) rfl hc3 ?_
    refine sj_if_eq (tgt := 23) dX12_holds_18 (by decide) (fun c4 => ?_) (fun c4 => ?_)
    · replace h := h.1 c4
      refine sj_aload_n dX12_holds_23 (i := 0) rfl rfl ?_
      obtain ⟨σ5, hc5, h⟩ := h
      refine sj_callVv (M' := me_X12_looksAtTable) (b := 56) (As := []) (rest := []) dX12_holds_24 gX12_holds_X12_looksAtTable rfl hd_X12_looksAtTable (by decide +kernel) (by decide +kernel) rfl (Nat.le_of_ble_eq_true rfl) (by omega) rfl hc5 ?_
      refine sj_aload_n dX12_holds_27 (i := 0) rfl rfl ?_
      refine sj_iload_n dX12_holds_28 (i := 1) rfl rfl ?_
      obtain ⟨v6, σ6, hc6, h⟩ := h
      refine sj_callVi (M' := me_X12_holdsNow) (b := 56) (As := [.int x1]) (rest := []) dX12_holds_29 gX12_holds_X12_holdsNow rfl hd_X12_holdsNow (by decide +kernel) (by decide +kernel) rfl (Nat.le_of_ble_eq_true rfl) (by omega) rfl hc6 ?_
      obtain ⟨h, hz⟩ := h
      subst h
      exact sj_ret dX12_holds_32 rfl (sj_nb hz)
    · replace h := h.2 c4
      refine sj_fg [0, 1] ?_
      exact t_X12_holds_21 h
theorem c_X12_holds {G : sj_G} (ok : sj_ok G) {R : sj_R} {x1 : Int32} {σ : sj_S} (h : wp_X12_holds_0 G R x1 σ) : sj_C G 6 me_X12_holds [.ref (sj_ad G 56), .int x1] σ R :=
  sj_enter ok (by decide +kernel) rfl rfl (Nat.le_of_ble_eq_true rfl) (by simp [Value.category]) (t_X12_holds_0 h)
def wp_X12_gapsOf_143 (G : sj_G) (R : sj_R) (x1 : Int32) (x2 : Int32) (x3 : Int32) (x4 : Int32) (σ : sj_S) : Prop := sj_J G 5 me_X12_gapsOf R 5 [.ref (sj_ad G 56), .int x1, .int x2, .int x3, .int (x4 + (nI 1)), .null, .null, .null, .null, .null] σ []
set_option maxRecDepth 20000 in
theorem t_X12_gapsOf_143 {G : sj_G} {R : sj_R} {x1 : Int32} {x2 : Int32} {x3 : Int32} {x4 : Int32} {σ : sj_S} (h : wp_X12_gapsOf_143 G R x1 x2 x3 x4 σ) : sj_J G 5 me_X12_gapsOf R 143 [.ref (sj_ad G 56), .int x1, .int x2, .int x3, .int x4, .null, .null, .null, .null, .null] σ [] := by
  unfold wp_X12_gapsOf_143 at h
  refine sj_iinc (v := (x4 + (nI 1))) dX12_gapsOf_143 (by decide) rfl rfl ?_
  refine sj_goto (tgt := 5) dX12_gapsOf_146 (by decide) ?_
  exact h
def wp_X12_gapsOf_5 (G : sj_G) (R : sj_R) (x1 : Int32) (x2 : Int32) (x3 : Int32) (x4 : Int32) (σ : sj_S) : Prop := ((nI 20) ≤ x4 → R = (.ok x3, σ)) ∧ (¬ ((nI 20) ≤ x4) → ∃ v2 σ2, sj_C G 4 me_X12_lessonThen [.ref (sj_ad G 56), .int x1, .int x2, .int x4] σ (.ok v2, σ2) ∧ (v2 = (-1) → sj_J G 5 me_X12_gapsOf R 45 [.ref (sj_ad G 56), .int x1, .int x2, .int x3, .int x4, .int (nI 0), .int (nI 0), .int (x4 / (nI 4)), .int ((nI 4) * (x4 / (nI 4))), .null] σ2 []) ∧ (¬ (v2 = (-1)) → (wp_X12_gapsOf_143 G R x1 x2 x3 x4 σ2)))
set_option maxRecDepth 20000 in
theorem t_X12_gapsOf_5 {G : sj_G} {R : sj_R} {x1 : Int32} {x2 : Int32} {x3 : Int32} {x4 : Int32} {σ : sj_S} (h : wp_X12_gapsOf_5 G R x1 x2 x3 x4 σ) : sj_J G 5 me_X12_gapsOf R 5 [.ref (sj_ad G 56), .int x1, .int x2, .int x3, .int x4, .null, .null, .null, .null, .null] σ [] := by
  unfold wp_X12_gapsOf_5 at h
  refine sj_iload dX12_gapsOf_5 rfl ?_
  refine sj_bipush (v := (nI 20)) dX12_gapsOf_7 (by decide +kernel) ?_
  refine sj_icmp_ge (tgt := 149) dX12_gapsOf_9 (by decide) (fun c1 => ?_) (fun c1 => ?_)
  · replace h := h.1 c1
    refine sj_iload_n dX12_gapsOf_149 (i := 3) rfl rfl ?_
    subst h
    exact sj_ret dX12_gapsOf_150 rfl rfl
  · replace h := h.2 c1
    refine sj_aload_n dX12_gapsOf_12 (i := 0) rfl rfl ?_
    refine sj_iload_n dX12_gapsOf_13 (i := 1) rfl rfl ?_
    refine sj_iload_n dX12_gapsOf_14 (i := 2) rfl rfl ?_
    refine sj_iload dX12_gapsOf_15 rfl ?_
    obtain ⟨v2, σ2, hc2, h⟩ := h
    refine sj_callVi (M' := me_X12_lessonThen) (b := 56) (As := [.int x1, .int x2, .int x4]) (rest := []) dX12_gapsOf_17 gX12_gapsOf_X12_lessonThen rfl hd_X12_lessonThen (by decide +kernel) (by decide +kernel) rfl (Nat.le_of_ble_eq_true rfl) (by omega) rfl hc2 ?_
    refine sj_iconst (v := (-1)) dX12_gapsOf_20 (by decide +kernel) ?_
    refine sj_icmp_eq (tgt := 27) dX12_gapsOf_21 (by decide) (fun c4 => ?_) (fun c4 => ?_)
    · replace h := h.1 c4
      refine sj_iconst (v := (nI 0)) dX12_gapsOf_27 (by decide +kernel) ?_
      refine sj_istore dX12_gapsOf_28 (by decide) ?_
      refine sj_iconst (v := (nI 0)) dX12_gapsOf_30 (by decide +kernel) ?_
      refine sj_istore dX12_gapsOf_31 (by decide) ?_
      refine sj_iload dX12_gapsOf_33 rfl ?_
      refine sj_iconst (v := (nI 4)) dX12_gapsOf_35 (by decide +kernel) ?_
      refine sj_idiv dX12_gapsOf_36 (by decide +kernel) ?_
      refine sj_istore dX12_gapsOf_37 (by decide) ?_
      refine sj_iconst (v := (nI 4)) dX12_gapsOf_39 (by decide +kernel) ?_
      refine sj_iload dX12_gapsOf_40 rfl ?_
      refine sj_imul dX12_gapsOf_42 ?_
      refine sj_istore dX12_gapsOf_43 (by decide) ?_
      exact h
    · replace h := h.2 c4
      refine sj_goto (tgt := 143) dX12_gapsOf_24 (by decide) ?_
      exact t_X12_gapsOf_143 h
def wp_X12_gapsOf_116 (G : sj_G) (R : sj_R) (x1 : Int32) (x2 : Int32) (x3 : Int32) (x4 : Int32) (x5 : Int32) (x7 : Int32) (x8 : Int32) (s0 : Int32) (s1 : Int32) (σ : sj_S) : Prop := sj_J G 5 me_X12_gapsOf R 45 [.ref (sj_ad G 56), .int x1, .int x2, .int x3, .int x4, .int x5, .int (s1 ||| s0), .int x7, .int (x8 + (nI 1)), .null] σ []
set_option maxRecDepth 20000 in
theorem t_X12_gapsOf_116 {G : sj_G} {R : sj_R} {x1 : Int32} {x2 : Int32} {x3 : Int32} {x4 : Int32} {x5 : Int32} {x7 : Int32} {x8 : Int32} {s0 : Int32} {s1 : Int32} {σ : sj_S} (h : wp_X12_gapsOf_116 G R x1 x2 x3 x4 x5 x7 x8 s0 s1 σ) : sj_J G 5 me_X12_gapsOf R 116 [.ref (sj_ad G 56), .int x1, .int x2, .int x3, .int x4, .int x5, .null, .int x7, .int x8, .null] σ [.int s0, .int s1] := by
  unfold wp_X12_gapsOf_116 at h
  refine sj_ior dX12_gapsOf_116 ?_
  refine sj_istore dX12_gapsOf_117 (by decide) ?_
  refine sj_iinc (v := (x8 + (nI 1))) dX12_gapsOf_119 (by decide) rfl rfl ?_
  refine sj_goto (tgt := 45) dX12_gapsOf_122 (by decide) ?_
  exact h
def wp_X12_gapsOf_94 (G : sj_G) (R : sj_R) (x1 : Int32) (x2 : Int32) (x3 : Int32) (x4 : Int32) (x6 : Int32) (x7 : Int32) (x8 : Int32) (x9 : Int32) (s0 : Int32) (s1 : Int32) (σ : sj_S) : Prop := (wp_X12_gapsOf_116 G R x1 x2 x3 x4 (s1 ||| s0) x7 x8 (if x9 = 0 then (nI 0) else (if x8 ≤ x4 then (nI 0) else (nI 1))) x6 σ)
set_option maxRecDepth 20000 in
theorem t_X12_gapsOf_94 {G : sj_G} {R : sj_R} {x1 : Int32} {x2 : Int32} {x3 : Int32} {x4 : Int32} {x6 : Int32} {x7 : Int32} {x8 : Int32} {x9 : Int32} {s0 : Int32} {s1 : Int32} {σ : sj_S} (h : wp_X12_gapsOf_94 G R x1 x2 x3 x4 x6 x7 x8 x9 s0 s1 σ) : sj_J G 5 me_X12_gapsOf R 94 [.ref (sj_ad G 56), .int x1, .int x2, .int x3, .int x4, .null, .int x6, .int x7, .int x8, .int x9] σ [.int s0, .int s1] := by
  unfold wp_X12_gapsOf_94 at h
  refine sj_ior dX12_gapsOf_94 ?_
  refine sj_istore dX12_gapsOf_95 (by decide) ?_
  refine sj_iload dX12_gapsOf_97 rfl ?_
  refine sj_iload dX12_gapsOf_99 rfl ?_
  refine sj_if_eq (tgt := 115) dX12_gapsOf_101 (by decide) (fun c1 => ?_) (fun c1 => ?_)
  · refine sj_iconst (v := (nI 0)) dX12_gapsOf_115 (by decide +kernel) ?_
    try simp only [if_pos c1] at h
    refine sj_fg [6, 9] ?_
    exact t_X12_gapsOf_116 h
  · refine sj_iload dX12_gapsOf_104 rfl ?_
    refine sj_iload dX12_gapsOf_106 rfl ?_
    refine sj_icmp_le (tgt := 115) dX12_gapsOf_108 (by decide) (fun c2 => ?_) (fun c2 => ?_)
    · refine sj_iconst (v := (nI 0)) dX12_gapsOf_115 (by decide +kernel) ?_
      try simp only [if_neg c1, if_pos c2] at h
      refine sj_fg [6, 9] ?_
      exact t_X12_gapsOf_116 h
    · refine sj_iconst (v := (nI 1)) dX12_gapsOf_111 (by decide +kernel) ?_
      refine sj_goto (tgt := 116) dX12_gapsOf_112 (by decide) ?_
      try simp only [if_neg c1, if_neg c2] at h
      refine sj_fg [6, 9] ?_
      exact t_X12_gapsOf_116 h
def wp_X12_gapsOf_73 (G : sj_G) (R : sj_R) (x1 : Int32) (x2 : Int32) (x3 : Int32) (x4 : Int32) (x5 : Int32) (x6 : Int32) (x7 : Int32) (x8 : Int32) (s0 : Int32) (σ : sj_S) : Prop := (wp_X12_gapsOf_94 G R x1 x2 x3 x4 x6 x7 x8 s0 (if s0 = 0 then (nI 0) else (if x4 ≤ x8 then (nI 0) else (nI 1))) x5 σ)
set_option maxRecDepth 20000 in
theorem t_X12_gapsOf_73 {G : sj_G} {R : sj_R} {x1 : Int32} {x2 : Int32} {x3 : Int32} {x4 : Int32} {x5 : Int32} {x6 : Int32} {x7 : Int32} {x8 : Int32} {s0 : Int32} {σ : sj_S} (h : wp_X12_gapsOf_73 G R x1 x2 x3 x4 x5 x6 x7 x8 s0 σ) : sj_J G 5 me_X12_gapsOf R 73 [.ref (sj_ad G 56), .int x1, .int x2, .int x3, .int x4, .int x5, .int x6, .int x7, .int x8, .null] σ [.int s0] := by
  unfold wp_X12_gapsOf_73 at h
  refine sj_istore dX12_gapsOf_73 (by decide) ?_
  refine sj_iload dX12_gapsOf_75 rfl ?_
  refine sj_iload dX12_gapsOf_77 rfl ?_
  refine sj_if_eq (tgt := 93) dX12_gapsOf_79 (by decide) (fun c1 => ?_) (fun c1 => ?_)
  · refine sj_iconst (v := (nI 0)) dX12_gapsOf_93 (by decide +kernel) ?_
    try simp only [if_pos c1] at h
    refine sj_fg [5] ?_
    exact t_X12_gapsOf_94 h
  · refine sj_iload dX12_gapsOf_82 rfl ?_
    refine sj_iload dX12_gapsOf_84 rfl ?_
    refine sj_icmp_ge (tgt := 93) dX12_gapsOf_86 (by decide) (fun c2 => ?_) (fun c2 => ?_)
    · refine sj_iconst (v := (nI 0)) dX12_gapsOf_93 (by decide +kernel) ?_
      try simp only [if_neg c1, if_pos c2] at h
      refine sj_fg [5] ?_
      exact t_X12_gapsOf_94 h
    · refine sj_iconst (v := (nI 1)) dX12_gapsOf_89 (by decide +kernel) ?_
      refine sj_goto (tgt := 94) dX12_gapsOf_90 (by decide) ?_
      try simp only [if_neg c1, if_neg c2] at h
      refine sj_fg [5] ?_
      exact t_X12_gapsOf_94 h
def wp_X12_gapsOf_141 (G : sj_G) (R : sj_R) (x1 : Int32) (x2 : Int32) (x4 : Int32) (s0 : Int32) (s1 : Int32) (σ : sj_S) : Prop := (wp_X12_gapsOf_143 G R x1 x2 (s1 + s0) x4 σ)
set_option maxRecDepth 20000 in
theorem t_X12_gapsOf_141 {G : sj_G} {R : sj_R} {x1 : Int32} {x2 : Int32} {x4 : Int32} {s0 : Int32} {s1 : Int32} {σ : sj_S} (h : wp_X12_gapsOf_141 G R x1 x2 x4 s0 s1 σ) : sj_J G 5 me_X12_gapsOf R 141 [.ref (sj_ad G 56), .int x1, .int x2, .null, .int x4, .null, .null, .null, .null, .null] σ [.int s0, .int s1] := by
  unfold wp_X12_gapsOf_141 at h
  refine sj_iadd dX12_gapsOf_141 ?_
  refine sj_istore_n dX12_gapsOf_142 (i := 3) rfl (by decide) ?_
  exact t_X12_gapsOf_143 h
def wp_X12_gapsOf_45 (G : sj_G) (R : sj_R) (x1 : Int32) (x2 : Int32) (x3 : Int32) (x4 : Int32) (x5 : Int32) (x6 : Int32) (x7 : Int32) (x8 : Int32) (σ : sj_S) : Prop := ((((nI 4) * x7) + (nI 4)) ≤ x8 → (wp_X12_gapsOf_141 G R x1 x2 x4 (if x5 = 0 then (nI 0) else (if x6 = 0 then (nI 0) else (nI 1))) x3 σ)) ∧ (¬ ((((nI 4) * x7) + (nI 4)) ≤ x8) → ∃ v4 σ4, sj_C G 4 me_X12_lessonThen [.ref (sj_ad G 56), .int x1, .int x2, .int x8] σ (.ok v4, σ4) ∧ (wp_X12_gapsOf_73 G R x1 x2 x3 x4 x5 x6 x7 x8 (if v4 = (-1) then (nI 0) else (nI 1)) σ4))
set_option maxRecDepth 20000 in
theorem t_X12_gapsOf_45 {G : sj_G} {R : sj_R} {x1 : Int32} {x2 : Int32} {x3 : Int32} {x4 : Int32} {x5 : Int32} {x6 : Int32} {x7 : Int32} {x8 : Int32} {σ : sj_S} (h : wp_X12_gapsOf_45 G R x1 x2 x3 x4 x5 x6 x7 x8 σ) : sj_J G 5 me_X12_gapsOf R 45 [.ref (sj_ad G 56), .int x1, .int x2, .int x3, .int x4, .int x5, .int x6, .int x7, .int x8, .null] σ [] := by
  unfold wp_X12_gapsOf_45 at h
  refine sj_iload dX12_gapsOf_45 rfl ?_
  refine sj_iconst (v := (nI 4)) dX12_gapsOf_47 (by decide +kernel) ?_
  refine sj_iload dX12_gapsOf_48 rfl ?_
  refine sj_imul dX12_gapsOf_50 ?_
  refine sj_iconst (v := (nI 4)) dX12_gapsOf_51 (by decide +kernel) ?_
  refine sj_iadd dX12_gapsOf_52 ?_
  refine sj_icmp_ge (tgt := 125) dX12_gapsOf_53 (by decide) (fun c1 => ?_) (fun c1 => ?_)
  · replace h := h.1 c1
    refine sj_iload_n dX12_gapsOf_125 (i := 3) rfl rfl ?_
    refine sj_iload dX12_gapsOf_126 rfl ?_
    refine sj_if_eq (tgt := 140) dX12_gapsOf_128 (by decide) (fun c2 => ?_) (fun c2 => ?_)
    · refine sj_iconst (v := (nI 0)) dX12_gapsOf_140 (by decide +kernel) ?_
      try simp only [if_pos c2] at h
      refine sj_fg [3, 5, 6, 7, 8] ?_
      exact t_X12_gapsOf_141 h
    · refine sj_iload dX12_gapsOf_131 rfl ?_
      refine sj_if_eq (tgt := 140) dX12_gapsOf_133 (by decide) (fun c3 => ?_) (fun c3 => ?_)
      · refine sj_iconst (v := (nI 0)) dX12_gapsOf_140 (by decide +kernel) ?_
        try simp only [if_neg c2, if_pos c3] at h
        refine sj_fg [3, 5, 6, 7, 8] ?_
        exact t_X12_gapsOf_141 h
      · refine sj_iconst (v := (nI 1)) dX12_gapsOf_136 (by decide +kernel) ?_
        refine sj_goto (tgt := 141) dX12_gapsOf_137 (by decide) ?_
        try simp only [if_neg c2, if_neg c3] at h
        refine sj_fg [3, 5, 6, 7, 8] ?_
        exact t_X12_gapsOf_141 h
  · replace h := h.2 c1
    refine sj_aload_n dX12_gapsOf_56 (i := 0) rfl rfl ?_
    refine sj_iload_n dX12_gapsOf_57 (i := 1) rfl rfl ?_
    refine sj_iload_n dX12_gapsOf_58 (i := 2) rfl rfl ?_
    refine sj_iload dX12_gapsOf_59 rfl ?_
    obtain ⟨v4, σ4, hc4, h⟩ := h
    refine sj_callVi (M' := me_X12_lessonThen) (b := 56) (As := [.int x1, .int x2, .int x8]) (rest := []) dX12_gapsOf_61 gX12_gapsOf_X12_lessonThen rfl hd_X12_lessonThen (by decide +kernel) (by decide +kernel) rfl (Nat.le_of_ble_eq_true rfl) (by omega) rfl hc4 ?_
    refine sj_iconst (v := (-1)) dX12_gapsOf_64 (by decide +kernel) ?_
    refine sj_icmp_eq (tgt := 72) dX12_gapsOf_65 (by decide) (fun c5 => ?_) (fun c5 => ?_)
    · refine sj_iconst (v := (nI 0)) dX12_gapsOf_72 (by decide +kernel) ?_
      try simp only [if_pos c5] at h
      exact t_X12_gapsOf_73 h
    · refine sj_iconst (v := (nI 1)) dX12_gapsOf_68 (by decide +kernel) ?_
      refine sj_goto (tgt := 73) dX12_gapsOf_69 (by decide) ?_
      try simp only [if_neg c5] at h
      exact t_X12_gapsOf_73 h
def wp_X12_gapsOf_0 (G : sj_G) (R : sj_R) (x1 : Int32) (x2 : Int32) (σ : sj_S) : Prop := sj_J G 5 me_X12_gapsOf R 5 [.ref (sj_ad G 56), .int x1, .int x2, .int (nI 0), .int (nI 0), .null, .null, .null, .null, .null] σ []
set_option maxRecDepth 20000 in
theorem t_X12_gapsOf_0 {G : sj_G} {R : sj_R} {x1 : Int32} {x2 : Int32} {σ : sj_S} (h : wp_X12_gapsOf_0 G R x1 x2 σ) : sj_J G 5 me_X12_gapsOf R 0 [.ref (sj_ad G 56), .int x1, .int x2, .null, .null, .null, .null, .null, .null, .null] σ [] := by
  unfold wp_X12_gapsOf_0 at h
  refine sj_iconst (v := (nI 0)) dX12_gapsOf_0 (by decide +kernel) ?_
  refine sj_istore_n dX12_gapsOf_1 (i := 3) rfl (by decide) ?_
  refine sj_iconst (v := (nI 0)) dX12_gapsOf_2 (by decide +kernel) ?_
  refine sj_istore dX12_gapsOf_3 (by decide) ?_
  exact h
theorem c_X12_gapsOf {G : sj_G} (ok : sj_ok G) {R : sj_R} {x1 : Int32} {x2 : Int32} {σ : sj_S} (h : wp_X12_gapsOf_0 G R x1 x2 σ) : sj_C G 5 me_X12_gapsOf [.ref (sj_ad G 56), .int x1, .int x2] σ R :=
  sj_enter ok (by decide +kernel) rfl rfl (Nat.le_of_ble_eq_true rfl) (by simp [Value.category]) (t_X12_gapsOf_0 h)
def wp_X12_costs_4 (G : sj_G) (R : sj_R) (x1 : Int32) (x2 : Int32) (σ : sj_S) : Prop := ((nI 6) ≤ x2 → sj_J G 6 me_X12_costs R 27 [.ref (sj_ad G 56), .int x1, .int (nI 0)] σ []) ∧ (¬ ((nI 6) ≤ x2) → ∃ v2 σ2, sj_C G 5 me_X12_gapsOf [.ref (sj_ad G 56), .int (nI 1), .int x2] σ (.ok v2, σ2) ∧ sj_J G 6 me_X12_costs R 4 [.ref (sj_ad G 56), .int (x1 + v2), .int (x2 + (nI 1))] σ2 [])
set_option maxRecDepth 20000 in
theorem t_X12_costs_4 {G : sj_G} {R : sj_R} {x1 : Int32} {x2 : Int32} {σ : sj_S} (h : wp_X12_costs_4 G R x1 x2 σ) : sj_J G 6 me_X12_costs R 4 [.ref (sj_ad G 56), .int x1, .int x2] σ [] := by
  unfold wp_X12_costs_4 at h
  refine sj_iload_n dX12_costs_4 (i := 2) rfl rfl ?_
  refine sj_bipush (v := (nI 6)) dX12_costs_5 (by decide +kernel) ?_
  refine sj_icmp_ge (tgt := 25) dX12_costs_7 (by decide) (fun c1 => ?_) (fun c1 => ?_)
  · replace h := h.1 c1
    refine sj_iconst (v := (nI 0)) dX12_costs_25 (by decide +kernel) ?_
    refine sj_istore_n dX12_costs_26 (i := 2) rfl (by decide) ?_
    exact h
  · replace h := h.2 c1
    refine sj_iload_n dX12_costs_10 (i := 1) rfl rfl ?_
    refine sj_aload_n dX12_costs_11 (i := 0) rfl rfl ?_
    refine sj_iconst (v := (nI 1)) dX12_costs_12 (by decide +kernel) ?_
    refine sj_iload_n dX12_costs_13 (i := 2) rfl rfl ?_
    obtain ⟨v2, σ2, hc2, h⟩ := h
    refine sj_callVi (M' := me_X12_gapsOf) (b := 56) (As := [.int (nI 1), .int x2]) (rest := [.int x1]) dX12_costs_14 gX12_costs_X12_gapsOf rfl hd_X12_gapsOf (by decide +kernel) (by decide +kernel) rfl (Nat.le_of_ble_eq_true rfl) (by omega) rfl hc2 ?_
    refine sj_iadd dX12_costs_17 ?_
    refine sj_istore_n dX12_costs_18 (i := 1) rfl (by decide) ?_
    refine sj_iinc (v := (x2 + (nI 1))) dX12_costs_19 (by decide) rfl rfl ?_
    refine sj_goto (tgt := 4) dX12_costs_22 (by decide) ?_
    exact h
def wp_X12_costs_27 (G : sj_G) (R : sj_R) (x1 : Int32) (x2 : Int32) (σ : sj_S) : Prop := ((nI 4) ≤ x2 → sj_J G 6 me_X12_costs R 49 [.ref (sj_ad G 56), .int x1, .int (nI 0)] σ []) ∧ (¬ ((nI 4) ≤ x2) → ∃ v2 σ2, sj_C G 5 me_X12_gapsOf [.ref (sj_ad G 56), .int (nI 0), .int x2] σ (.ok v2, σ2) ∧ sj_J G 6 me_X12_costs R 27 [.ref (sj_ad G 56), .int (x1 + v2), .int (x2 + (nI 1))] σ2 [])
set_option maxRecDepth 20000 in
theorem t_X12_costs_27 {G : sj_G} {R : sj_R} {x1 : Int32} {x2 : Int32} {σ : sj_S} (h : wp_X12_costs_27 G R x1 x2 σ) : sj_J G 6 me_X12_costs R 27 [.ref (sj_ad G 56), .int x1, .int x2] σ [] := by
  unfold wp_X12_costs_27 at h
  refine sj_iload_n dX12_costs_27 (i := 2) rfl rfl ?_
  refine sj_iconst (v := (nI 4)) dX12_costs_28 (by decide +kernel) ?_
  refine sj_icmp_ge (tgt := 47) dX12_costs_29 (by decide) (fun c1 => ?_) (fun c1 => ?_)
  · replace h := h.1 c1
    refine sj_iconst (v := (nI 0)) dX12_costs_47 (by decide +kernel) ?_
    refine sj_istore_n dX12_costs_48 (i := 2) rfl (by decide) ?_
    exact h
  · replace h := h.2 c1
    refine sj_iload_n dX12_costs_32 (i := 1) rfl rfl ?_
    refine sj_aload_n dX12_costs_33 (i := 0) rfl rfl ?_
    refine sj_iconst (v := (nI 0)) dX12_costs_34 (by decide +kernel) ?_
    refine sj_iload_n dX12_costs_35 (i := 2) rfl rfl ?_
    obtain ⟨v2, σ2, hc2, h⟩ := h
    refine sj_callVi (M' := me_X12_gapsOf) (b := 56) (As := [.int (nI 0), .int x2]) (rest := [.int x1]) dX12_costs_36 gX12_costs_X12_gapsOf rfl hd_X12_gapsOf (by decide +kernel) (by decide +kernel) rfl (Nat.le_of_ble_eq_true rfl) (by omega) rfl hc2 ?_
    refine sj_iadd dX12_costs_39 ?_
    refine sj_istore_n dX12_costs_40 (i := 1) rfl (by decide) ?_
    refine sj_iinc (v := (x2 + (nI 1))) dX12_costs_41 (by decide) rfl rfl ?_
    refine sj_goto (tgt := 27) dX12_costs_44 (by decide) ?_
    exact h
def wp_X12_costs_94 (G : sj_G) (R : sj_R) (x2 : Int32) (s0 : Int32) (s1 : Int32) (σ : sj_S) : Prop := sj_J G 6 me_X12_costs R 49 [.ref (sj_ad G 56), .int (s1 + s0), .int (x2 + (nI 1))] σ []
set_option maxRecDepth 20000 in
theorem t_X12_costs_94 {G : sj_G} {R : sj_R} {x2 : Int32} {s0 : Int32} {s1 : Int32} {σ : sj_S} (h : wp_X12_costs_94 G R x2 s0 s1 σ) : sj_J G 6 me_X12_costs R 94 [.ref (sj_ad G 56), .null, .int x2] σ [.int s0, .int s1] := by
  unfold wp_X12_costs_94 at h
  refine sj_iadd dX12_costs_94 ?_
  refine sj_istore_n dX12_costs_95 (i := 1) rfl (by decide) ?_
  refine sj_iinc (v := (x2 + (nI 1))) dX12_costs_96 (by decide) rfl rfl ?_
  refine sj_goto (tgt := 49) dX12_costs_99 (by decide) ?_
  exact h
def wp_X12_costs_93 (G : sj_G) (R : sj_R) (x2 : Int32) (s0 : Int32) (σ : sj_S) : Prop := (wp_X12_costs_94 G R x2 (nI 0) s0 σ)
set_option maxRecDepth 20000 in
theorem t_X12_costs_93 {G : sj_G} {R : sj_R} {x2 : Int32} {s0 : Int32} {σ : sj_S} (h : wp_X12_costs_93 G R x2 s0 σ) : sj_J G 6 me_X12_costs R 93 [.ref (sj_ad G 56), .null, .int x2] σ [.int s0] := by
  unfold wp_X12_costs_93 at h
  refine sj_iconst (v := (nI 0)) dX12_costs_93 (by decide +kernel) ?_
  exact t_X12_costs_94 h
def wp_X12_costs_49 (G : sj_G) (R : sj_R) (x1 : Int32) (x2 : Int32) (σ : sj_S) : Prop := ((σ 57 126) ≤ x2 → R = (.ok x1, σ)) ∧ (¬ ((σ 57 126) ≤ x2) → vp_in ((nI 81) + x2) 128 ∧ ((σ 57 ((nI 81) + x2).toNatClampNeg) ≤ 0 → (wp_X12_costs_93 G R x2 x1 σ)) ∧ (¬ ((σ 57 ((nI 81) + x2).toNatClampNeg) ≤ 0) → ∃ v5 σ5, sj_C G 5 me_X12_holdsNow [.ref (sj_ad G 56), .int x2] σ (.ok v5, σ5) ∧ ((v5 = 0) → vp_in ((nI 81) + x2) 128) ∧ (wp_X12_costs_94 G R x2 (if v5 = 0 then (σ5 57 ((nI 81) + x2).toNatClampNeg) else (nI 0)) x1 σ5)))
set_option maxRecDepth 20000 in
theorem t_X12_costs_49 {G : sj_G} {R : sj_R} {x1 : Int32} {x2 : Int32} {σ : sj_S} (h : wp_X12_costs_49 G R x1 x2 σ) : sj_J G 6 me_X12_costs R 49 [.ref (sj_ad G 56), .int x1, .int x2] σ [] := by
  unfold wp_X12_costs_49 at h
  refine sj_iload_n dX12_costs_49 (i := 2) rfl rfl ?_
  refine sj_aload_n dX12_costs_50 (i := 0) rfl rfl ?_
  refine sj_get (a := 56) (k9 := 1) (v := .ref (sj_ad G 57)) dX12_costs_51 (by decide +kernel) rfl ?_
  refine sj_bipush (v := (nI 126)) dX12_costs_54 (by decide +kernel) ?_
  refine sj_iald (a := 57) (j := 126) (x := (σ 57 126)) dX12_costs_56 rfl (by decide +kernel) (vp_in_nI (by decide) (by decide)) (nI_clamp (by decide)) rfl ?_
  refine sj_icmp_ge (tgt := 102) dX12_costs_57 (by decide) (fun c1 => ?_) (fun c1 => ?_)
  · replace h := h.1 c1
    refine sj_iload_n dX12_costs_102 (i := 1) rfl rfl ?_
    subst h
    exact sj_ret dX12_costs_103 rfl rfl
  · replace h := h.2 c1
    refine sj_iload_n dX12_costs_60 (i := 1) rfl rfl ?_
    refine sj_aload_n dX12_costs_61 (i := 0) rfl rfl ?_
    refine sj_get (a := 56) (k9 := 1) (v := .ref (sj_ad G 57)) dX12_costs_62 (by decide +kernel) rfl ?_
    refine sj_bipush (v := (nI 81)) dX12_costs_65 (by decide +kernel) ?_
    refine sj_iload_n dX12_costs_67 (i := 2) rfl rfl ?_
    refine sj_iadd dX12_costs_68 ?_
    obtain ⟨b2, h⟩ := h
    refine sj_iald (a := 57) (j := ((nI 81) + x2).toNatClampNeg) (x := (σ 57 ((nI 81) + x2).toNatClampNeg)) dX12_costs_69 rfl (by decide +kernel) b2 rfl rfl ?_
    refine sj_if_le (tgt := 93) dX12_costs_70 (by decide) (fun c4 => ?_) (fun c4 => ?_)
    · replace h := h.1 c4
      refine sj_fg [1] ?_
      exact t_X12_costs_93 h
    · replace h := h.2 c4
      refine sj_aload_n dX12_costs_73 (i := 0) rfl rfl ?_
      refine sj_iload_n dX12_costs_74 (i := 2) rfl rfl ?_
      obtain ⟨v5, σ5, hc5, h⟩ := h
      refine sj_callVi (M' := me_X12_holdsNow) (b := 56) (As := [.int x2]) (rest := [.int x1]) dX12_costs_75 gX12_costs_X12_holdsNow rfl hd_X12_holdsNow (by decide +kernel) (by decide +kernel) rfl (Nat.le_of_ble_eq_true rfl) (by omega) rfl hc5 ?_
      obtain ⟨f8, h⟩ := h
      refine sj_if_ne (tgt := 93) dX12_costs_78 (by decide) (fun c6 => ?_) (fun c6 => ?_)
      · refine sj_iconst (v := (nI 0)) dX12_costs_93 (by decide +kernel) ?_
        try simp only [if_neg c6] at h
        refine sj_fg [1] ?_
        exact t_X12_costs_94 h
      · have b7 := f8 c6
        refine sj_aload_n dX12_costs_81 (i := 0) rfl rfl ?_
        refine sj_get (a := 56) (k9 := 1) (v := .ref (sj_ad G 57)) dX12_costs_82 (by decide +kernel) rfl ?_
        refine sj_bipush (v := (nI 81)) dX12_costs_85 (by decide +kernel) ?_
        refine sj_iload_n dX12_costs_87 (i := 2) rfl rfl ?_
        refine sj_iadd dX12_costs_88 ?_
        refine sj_iald (a := 57) (j := ((nI 81) + x2).toNatClampNeg) (x := (σ5 57 ((nI 81) + x2).toNatClampNeg)) dX12_costs_89 rfl (by decide +kernel) b7 rfl rfl ?_
        refine sj_goto (tgt := 94) dX12_costs_90 (by decide) ?_
        try simp only [if_pos c6] at h
        refine sj_fg [1] ?_
        exact t_X12_costs_94 h
def wp_X12_costs_0 (G : sj_G) (R : sj_R) (σ : sj_S) : Prop := sj_J G 6 me_X12_costs R 4 [.ref (sj_ad G 56), .int (nI 0), .int (nI 0)] σ []
set_option maxRecDepth 20000 in
theorem t_X12_costs_0 {G : sj_G} {R : sj_R} {σ : sj_S} (h : wp_X12_costs_0 G R σ) : sj_J G 6 me_X12_costs R 0 [.ref (sj_ad G 56), .null, .null] σ [] := by
  unfold wp_X12_costs_0 at h
  refine sj_iconst (v := (nI 0)) dX12_costs_0 (by decide +kernel) ?_
  refine sj_istore_n dX12_costs_1 (i := 1) rfl (by decide) ?_
  refine sj_iconst (v := (nI 0)) dX12_costs_2 (by decide +kernel) ?_
  refine sj_istore_n dX12_costs_3 (i := 2) rfl (by decide) ?_
  exact h
theorem c_X12_costs {G : sj_G} (ok : sj_ok G) {R : sj_R} {σ : sj_S} (h : wp_X12_costs_0 G R σ) : sj_C G 6 me_X12_costs [.ref (sj_ad G 56)] σ R :=
  sj_enter ok (by decide +kernel) rfl rfl (Nat.le_of_ble_eq_true rfl) (by simp [Value.category]) (t_X12_costs_0 h)
def wp_X12_cost_0 (G : sj_G) (R : sj_R) (σ : sj_S) : Prop := ∃ v1 σ1, sj_C G 3 me_X12_noTable [.ref (sj_ad G 56), .int (nI 1)] (sj_st σ 56 0 (nI 0)) (.ok v1, σ1) ∧ (v1 = 0 → ∃ σ3, sj_C G 3 me_X12_looksAtTable [.ref (sj_ad G 56)] σ1 (.ok 0, σ3) ∧ ∃ v4 σ4, sj_C G 6 me_X12_costs [.ref (sj_ad G 56)] σ3 (.ok v4, σ4) ∧ R = (.ok v4, σ4)) ∧ (¬ (v1 = 0) → R = (.ok (nI 0), σ1))
set_option maxRecDepth 20000 in
theorem t_X12_cost_0 {G : sj_G} {R : sj_R} {σ : sj_S} (h : wp_X12_cost_0 G R σ) : sj_J G 7 me_X12_cost R 0 [.ref (sj_ad G 56)] σ [] := by
  unfold wp_X12_cost_0 at h
  refine sj_aload_n dX12_cost_0 (i := 0) rfl rfl ?_
  refine sj_iconst (v := (nI 0)) dX12_cost_1 (by decide +kernel) ?_
  refine sj_put (a := 56) (k9 := 0) dX12_cost_2 (by decide +kernel) (by decide +kernel) rfl ?_
  refine sj_aload_n dX12_cost_5 (i := 0) rfl rfl ?_
  refine sj_iconst (v := (nI 1)) dX12_cost_6 (by decide +kernel) ?_
  obtain ⟨v1, σ1, hc1, h⟩ := h
  refine sj_callVi (M' := me_X12_noTable) (b := 56) (As := [.int (nI 1)]) (rest := []) dX12_cost_7 gX12_cost_X12_noTable rfl hd_X12_noTable (by decide +kernel) (by decide +kernel) rfl (Nat.le_of_ble_eq_true rfl) (by omega) rfl hc1 ?_
  refine sj_if_eq (tgt := 15) dX12_cost_10 (by decide) (fun c2 => ?_) (fun c2 => ?_)
  · replace h := h.1 c2
    refine sj_aload_n dX12_cost_15 (i := 0) rfl rfl ?_
    obtain ⟨σ3, hc3, h⟩ := h
    refine sj_callVv (M' := me_X12_looksAtTable) (b := 56) (As := []) (rest := []) dX12_cost_16 gX12_cost_X12_looksAtTable rfl hd_X12_looksAtTable (by decide +kernel) (by decide +kernel) rfl (Nat.le_of_ble_eq_true rfl) (by omega) rfl hc3 ?_
    refine sj_aload_n dX12_cost_19 (i := 0) rfl rfl ?_
    obtain ⟨v4, σ4, hc4, h⟩ := h
    refine sj_callVi (M' := me_X12_costs) (b := 56) (As := []) (rest := []) dX12_cost_20 gX12_cost_X12_costs rfl hd_X12_costs (by decide +kernel) (by decide +kernel) rfl (Nat.le_of_ble_eq_true rfl) (by omega) rfl hc4 ?_
    subst h
    exact sj_ret dX12_cost_23 rfl rfl
  · replace h := h.2 c2
    refine sj_iconst (v := (nI 0)) dX12_cost_13 (by decide +kernel) ?_
    subst h
    exact sj_ret dX12_cost_14 rfl rfl
theorem c_X12_cost {G : sj_G} (ok : sj_ok G) {R : sj_R} {σ : sj_S} (h : wp_X12_cost_0 G R σ) : sj_C G 7 me_X12_cost [.ref (sj_ad G 56)] σ R :=
  sj_enter ok (by decide +kernel) rfl rfl (Nat.le_of_ble_eq_true rfl) (by simp [Value.category]) (t_X12_cost_0 h)
def wp_X12_gaps_22 (G : sj_G) (R : sj_R) (σ : sj_S) : Prop := R = (.ok (nI 0), σ)
set_option maxRecDepth 20000 in
theorem t_X12_gaps_22 {G : sj_G} {R : sj_R} {σ : sj_S} (h : wp_X12_gaps_22 G R σ) : sj_J G 6 me_X12_gaps R 22 [.null, .null, .null] σ [] := by
  unfold wp_X12_gaps_22 at h
  refine sj_iconst (v := (nI 0)) dX12_gaps_22 (by decide +kernel) ?_
  subst h
  exact sj_ret dX12_gaps_23 rfl rfl
def wp_X12_gaps_0 (G : sj_G) (R : sj_R) (x1 : Int32) (x2 : Int32) (σ : sj_S) : Prop := ∃ v1 σ1, sj_C G 3 me_X12_noWho [.ref (sj_ad G 56), .int x1, .int x2] (sj_st σ 56 0 (nI 0)) (.ok v1, σ1) ∧ (¬ v1 = 0 → (wp_X12_gaps_22 G R σ1)) ∧ (v1 = 0 → ∃ v3 σ3, sj_C G 3 me_X12_noTable [.ref (sj_ad G 56), .int (nI 2)] σ1 (.ok v3, σ3) ∧ (v3 = 0 → ∃ σ5, sj_C G 3 me_X12_looksAtTable [.ref (sj_ad G 56)] σ3 (.ok 0, σ5) ∧ ∃ v6 σ6, sj_C G 5 me_X12_gapsOf [.ref (sj_ad G 56), .int x1, .int x2] σ5 (.ok v6, σ6) ∧ R = (.ok v6, σ6)) ∧ (¬ (v3 = 0) → (wp_X12_gaps_22 G R σ3)))
set_option maxRecDepth 20000 in
theorem t_X12_gaps_0 {G : sj_G} {R : sj_R} {x1 : Int32} {x2 : Int32} {σ : sj_S} (h : wp_X12_gaps_0 G R x1 x2 σ) : sj_J G 6 me_X12_gaps R 0 [.ref (sj_ad G 56), .int x1, .int x2] σ [] := by
  unfold wp_X12_gaps_0 at h
  refine sj_aload_n dX12_gaps_0 (i := 0) rfl rfl ?_
  refine sj_iconst (v := (nI 0)) dX12_gaps_1 (by decide +kernel) ?_
  refine sj_put (a := 56) (k9 := 0) dX12_gaps_2 (by decide +kernel) (by decide +kernel) rfl ?_
  refine sj_aload_n dX12_gaps_5 (i := 0) rfl rfl ?_
  refine sj_iload_n dX12_gaps_6 (i := 1) rfl rfl ?_
  refine sj_iload_n dX12_gaps_7 (i := 2) rfl rfl ?_
  obtain ⟨v1, σ1, hc1, h⟩ := h
  refine sj_callVi (M' := me_X12_noWho) (b := 56) (As := [.int x1, .int x2]) (rest := []) dX12_gaps_8 gX12_gaps_X12_noWho rfl hd_X12_noWho (by decide +kernel) (by decide +kernel) rfl (Nat.le_of_ble_eq_true rfl) (by omega) rfl hc1 ?_
  refine sj_if_ne (tgt := 22) dX12_gaps_11 (by decide) (fun c2 => ?_) (fun c2 => ?_)
  · replace h := h.1 c2
    refine sj_fg [0, 1, 2] ?_
    exact t_X12_gaps_22 h
  · replace h := h.2 c2
    refine sj_aload_n dX12_gaps_14 (i := 0) rfl rfl ?_
    refine sj_iconst (v := (nI 2)) dX12_gaps_15 (by decide +kernel) ?_
    obtain ⟨v3, σ3, hc3, h⟩ := h
    refine sj_callVi (M' := me_X12_noTable) (b := 56) (As := [.int (nI 2)]) (rest := []) dX12_gaps_16 gX12_gaps_X12_noTable rfl hd_X12_noTable (by decide +kernel) (by decide +kernel) rfl (Nat.le_of_ble_eq_true rfl) (by omega) rfl hc3 ?_
    refine sj_if_eq (tgt := 24) dX12_gaps_19 (by decide) (fun c4 => ?_) (fun c4 => ?_)
    · replace h := h.1 c4
      refine sj_aload_n dX12_gaps_24 (i := 0) rfl rfl ?_
      obtain ⟨σ5, hc5, h⟩ := h
      refine sj_callVv (M' := me_X12_looksAtTable) (b := 56) (As := []) (rest := []) dX12_gaps_25 gX12_gaps_X12_looksAtTable rfl hd_X12_looksAtTable (by decide +kernel) (by decide +kernel) rfl (Nat.le_of_ble_eq_true rfl) (by omega) rfl hc5 ?_
      refine sj_aload_n dX12_gaps_28 (i := 0) rfl rfl ?_
      refine sj_iload_n dX12_gaps_29 (i := 1) rfl rfl ?_
      refine sj_iload_n dX12_gaps_30 (i := 2) rfl rfl ?_
      obtain ⟨v6, σ6, hc6, h⟩ := h
      refine sj_callVi (M' := me_X12_gapsOf) (b := 56) (As := [.int x1, .int x2]) (rest := []) dX12_gaps_31 gX12_gaps_X12_gapsOf rfl hd_X12_gapsOf (by decide +kernel) (by decide +kernel) rfl (Nat.le_of_ble_eq_true rfl) (by omega) rfl hc6 ?_
      subst h
      exact sj_ret dX12_gaps_34 rfl rfl
    · replace h := h.2 c4
      refine sj_fg [0, 1, 2] ?_
      exact t_X12_gaps_22 h
theorem c_X12_gaps {G : sj_G} (ok : sj_ok G) {R : sj_R} {x1 : Int32} {x2 : Int32} {σ : sj_S} (h : wp_X12_gaps_0 G R x1 x2 σ) : sj_C G 6 me_X12_gaps [.ref (sj_ad G 56), .int x1, .int x2] σ R :=
  sj_enter ok (by decide +kernel) rfl rfl (Nat.le_of_ble_eq_true rfl) (by simp [Value.category]) (t_X12_gaps_0 h)
def wp_X12_improve_37 (G : sj_G) (R : sj_R) (x1 : Int32) (x2 : Int32) (x3 : Int32) (x4 : Int32) (x5 : Int32) (x6 : Int32) (σ : sj_S) : Prop := ∃ v1 σ1, sj_C G 2 me_X12_many [.ref (sj_ad G 56)] σ (.ok v1, σ1) ∧ (v1 ≤ x6 → sj_J G 7 me_X12_improve R 154 [.ref (sj_ad G 56), .int x1, .int x2, .int x3, .int x4, .int x5, .int (nI 0), .null, .null] σ1 []) ∧ (¬ (v1 ≤ x6) → sj_J G 7 me_X12_improve R 49 [.ref (sj_ad G 56), .int x1, .int x2, .int x3, .int x4, .int x5, .int x6, .int (nI 0), .null] σ1 [])
set_option maxRecDepth 20000 in
theorem t_X12_improve_37 {G : sj_G} {R : sj_R} {x1 : Int32} {x2 : Int32} {x3 : Int32} {x4 : Int32} {x5 : Int32} {x6 : Int32} {σ : sj_S} (h : wp_X12_improve_37 G R x1 x2 x3 x4 x5 x6 σ) : sj_J G 7 me_X12_improve R 37 [.ref (sj_ad G 56), .int x1, .int x2, .int x3, .int x4, .int x5, .int x6, .null, .null] σ [] := by
  unfold wp_X12_improve_37 at h
  refine sj_iload dX12_improve_37 rfl ?_
  refine sj_aload_n dX12_improve_39 (i := 0) rfl rfl ?_
  obtain ⟨v1, σ1, hc1, h⟩ := h
  refine sj_callVi (M' := me_X12_many) (b := 56) (As := []) (rest := [.int x6]) dX12_improve_40 gX12_improve_X12_many rfl hd_X12_many (by decide +kernel) (by decide +kernel) rfl (Nat.le_of_ble_eq_true rfl) (by omega) rfl hc1 ?_
  refine sj_icmp_ge (tgt := 151) dX12_improve_43 (by decide) (fun c2 => ?_) (fun c2 => ?_)
  · replace h := h.1 c2
    refine sj_iconst (v := (nI 0)) dX12_improve_151 (by decide +kernel) ?_
    refine sj_istore dX12_improve_152 (by decide) ?_
    exact h
  · replace h := h.2 c2
    refine sj_iconst (v := (nI 0)) dX12_improve_46 (by decide +kernel) ?_
    refine sj_istore dX12_improve_47 (by decide) ?_
    exact h
def wp_X12_improve_122 (G : sj_G) (R : sj_R) (x1 : Int32) (x2 : Int32) (x3 : Int32) (x4 : Int32) (x5 : Int32) (x6 : Int32) (x7 : Int32) (σ : sj_S) : Prop := sj_J G 7 me_X12_improve R 49 [.ref (sj_ad G 56), .int x1, .int x2, .int x3, .int x4, .int x5, .int x6, .int (x7 + (nI 1)), .null] σ []
set_option maxRecDepth 20000 in
theorem t_X12_improve_122 {G : sj_G} {R : sj_R} {x1 : Int32} {x2 : Int32} {x3 : Int32} {x4 : Int32} {x5 : Int32} {x6 : Int32} {x7 : Int32} {σ : sj_S} (h : wp_X12_improve_122 G R x1 x2 x3 x4 x5 x6 x7 σ) : sj_J G 7 me_X12_improve R 122 [.ref (sj_ad G 56), .int x1, .int x2, .int x3, .int x4, .int x5, .int x6, .int x7, .null] σ [] := by
  unfold wp_X12_improve_122 at h
  refine sj_iinc (v := (x7 + (nI 1))) dX12_improve_122 (by decide) rfl rfl ?_
  refine sj_goto (tgt := 49) dX12_improve_125 (by decide) ?_
  exact h
def wp_X12_improve_100 (G : sj_G) (R : sj_R) (x1 : Int32) (x2 : Int32) (x3 : Int32) (x4 : Int32) (x5 : Int32) (x6 : Int32) (x7 : Int32) (s0 : Int32) (σ : sj_S) : Prop := (¬ s0 = 0 → ∃ v3 σ3, sj_C G 6 me_X12_costs [.ref (sj_ad G 56)] σ (.ok v3, σ3) ∧ (wp_X12_improve_122 G R x1 v3 x6 x4 x7 x6 x7 σ3)) ∧ (s0 = 0 → (wp_X12_improve_122 G R x1 x2 x3 x4 x5 x6 x7 σ))
set_option maxRecDepth 20000 in
theorem t_X12_improve_100 {G : sj_G} {R : sj_R} {x1 : Int32} {x2 : Int32} {x3 : Int32} {x4 : Int32} {x5 : Int32} {x6 : Int32} {x7 : Int32} {s0 : Int32} {σ : sj_S} (h : wp_X12_improve_100 G R x1 x2 x3 x4 x5 x6 x7 s0 σ) : sj_J G 7 me_X12_improve R 100 [.ref (sj_ad G 56), .int x1, .int x2, .int x3, .int x4, .int x5, .int x6, .int x7, .null] σ [.int s0] := by
  unfold wp_X12_improve_100 at h
  refine sj_istore dX12_improve_100 (by decide) ?_
  refine sj_iload dX12_improve_102 rfl ?_
  refine sj_if_ne (tgt := 110) dX12_improve_104 (by decide) (fun c2 => ?_) (fun c2 => ?_)
  · replace h := h.1 c2
    refine sj_aload_n dX12_improve_110 (i := 0) rfl rfl ?_
    obtain ⟨v3, σ3, hc3, h⟩ := h
    refine sj_callVi (M' := me_X12_costs) (b := 56) (As := []) (rest := []) dX12_improve_111 gX12_improve_X12_costs rfl hd_X12_costs (by decide +kernel) (by decide +kernel) rfl (Nat.le_of_ble_eq_true rfl) (by omega) rfl hc3 ?_
    refine sj_istore_n dX12_improve_114 (i := 2) rfl (by decide) ?_
    refine sj_iload dX12_improve_115 rfl ?_
    refine sj_istore_n dX12_improve_117 (i := 3) rfl (by decide) ?_
    refine sj_iload dX12_improve_118 rfl ?_
    refine sj_istore dX12_improve_120 (by decide) ?_
    refine sj_fg [8] ?_
    exact t_X12_improve_122 h
  · replace h := h.2 c2
    refine sj_goto (tgt := 122) dX12_improve_107 (by decide) ?_
    refine sj_fg [8] ?_
    exact t_X12_improve_122 h
def wp_X12_improve_99 (G : sj_G) (R : sj_R) (x1 : Int32) (x2 : Int32) (x3 : Int32) (x4 : Int32) (x5 : Int32) (x6 : Int32) (x7 : Int32) (σ : sj_S) : Prop := (wp_X12_improve_100 G R x1 x2 x3 x4 x5 x6 x7 (nI 0) σ)
set_option maxRecDepth 20000 in
theorem t_X12_improve_99 {G : sj_G} {R : sj_R} {x1 : Int32} {x2 : Int32} {x3 : Int32} {x4 : Int32} {x5 : Int32} {x6 : Int32} {x7 : Int32} {σ : sj_S} (h : wp_X12_improve_99 G R x1 x2 x3 x4 x5 x6 x7 σ) : sj_J G 7 me_X12_improve R 99 [.ref (sj_ad G 56), .int x1, .int x2, .int x3, .int x4, .int x5, .int x6, .int x7, .null] σ [] := by
  unfold wp_X12_improve_99 at h
  refine sj_iconst (v := (nI 0)) dX12_improve_99 (by decide +kernel) ?_
  exact t_X12_improve_100 h
def wp_X12_improve_49 (G : sj_G) (R : sj_R) (x1 : Int32) (x2 : Int32) (x3 : Int32) (x4 : Int32) (x5 : Int32) (x6 : Int32) (x7 : Int32) (σ : sj_S) : Prop := ((nI 20) ≤ x7 → vp_in ((nI 116) + x6) 128 ∧ vp_in x6 9 ∧ sj_J G 7 me_X12_improve R 37 [.ref (sj_ad G 56), .int x1, .int x2, .int x3, .int x4, .int x5, .int (x6 + (nI 1)), .null, .null] (sj_st σ 59 x6.toNatClampNeg (σ 57 ((nI 116) + x6).toNatClampNeg)) []) ∧ (¬ ((nI 20) ≤ x7) → vp_in x6 9 ∧ vp_in ((nI 116) + x6) 128 ∧ (x7 = (σ 57 ((nI 116) + x6).toNatClampNeg) → (wp_X12_improve_99 G R x1 x2 x3 x4 x5 x6 x7 (sj_st σ 59 x6.toNatClampNeg x7))) ∧ (¬ (x7 = (σ 57 ((nI 116) + x6).toNatClampNeg)) → ∃ v8 σ8, sj_C G 6 me_X12_isRight [.ref (sj_ad G 56)] (sj_st σ 59 x6.toNatClampNeg x7) (.ok v8, σ8) ∧ (v8 = 0 → (wp_X12_improve_99 G R x1 x2 x3 x4 x5 x6 x7 σ8)) ∧ (¬ (v8 = 0) → ∃ v11 σ11, sj_C G 6 me_X12_costs [.ref (sj_ad G 56)] σ8 (.ok v11, σ11) ∧ (wp_X12_improve_100 G R x1 x2 x3 x4 x5 x6 x7 (if x2 ≤ v11 then (nI 0) else (nI 1)) σ11))))
set_option maxRecDepth 20000 in
theorem t_X12_improve_49 {G : sj_G} {R : sj_R} {x1 : Int32} {x2 : Int32} {x3 : Int32} {x4 : Int32} {x5 : Int32} {x6 : Int32} {x7 : Int32} {σ : sj_S} (h : wp_X12_improve_49 G R x1 x2 x3 x4 x5 x6 x7 σ) : sj_J G 7 me_X12_improve R 49 [.ref (sj_ad G 56), .int x1, .int x2, .int x3, .int x4, .int x5, .int x6, .int x7, .null] σ [] := by
  unfold wp_X12_improve_49 at h
  refine sj_iload dX12_improve_49 rfl ?_
  refine sj_bipush (v := (nI 20)) dX12_improve_51 (by decide +kernel) ?_
  refine sj_icmp_ge (tgt := 128) dX12_improve_53 (by decide) (fun c1 => ?_) (fun c1 => ?_)
  · replace h := h.1 c1
    refine sj_aload_n dX12_improve_128 (i := 0) rfl rfl ?_
    refine sj_get (a := 56) (k9 := 4) (v := .ref (sj_ad G 59)) dX12_improve_129 (by decide +kernel) rfl ?_
    refine sj_iload dX12_improve_132 rfl ?_
    refine sj_aload_n dX12_improve_134 (i := 0) rfl rfl ?_
    refine sj_get (a := 56) (k9 := 1) (v := .ref (sj_ad G 57)) dX12_improve_135 (by decide +kernel) rfl ?_
    refine sj_bipush (v := (nI 116)) dX12_improve_138 (by decide +kernel) ?_
    refine sj_iload dX12_improve_140 rfl ?_
    refine sj_iadd dX12_improve_142 ?_
    obtain ⟨b2, h⟩ := h
    refine sj_iald (a := 57) (j := ((nI 116) + x6).toNatClampNeg) (x := (σ 57 ((nI 116) + x6).toNatClampNeg)) dX12_improve_143 rfl (by decide +kernel) b2 rfl rfl ?_
    obtain ⟨b3, h⟩ := h
    refine sj_iast (a := 59) (j := x6.toNatClampNeg) dX12_improve_144 rfl (by decide +kernel) b3 rfl ?_
    refine sj_iinc (v := (x6 + (nI 1))) dX12_improve_145 (by decide) rfl rfl ?_
    refine sj_goto (tgt := 37) dX12_improve_148 (by decide) ?_
    refine sj_fg [7] ?_
    exact h
  · replace h := h.2 c1
    refine sj_aload_n dX12_improve_56 (i := 0) rfl rfl ?_
    refine sj_get (a := 56) (k9 := 4) (v := .ref (sj_ad G 59)) dX12_improve_57 (by decide +kernel) rfl ?_
    refine sj_iload dX12_improve_60 rfl ?_
    refine sj_iload dX12_improve_62 rfl ?_
    obtain ⟨b4, h⟩ := h
    refine sj_iast (a := 59) (j := x6.toNatClampNeg) dX12_improve_64 rfl (by decide +kernel) b4 rfl ?_
    refine sj_iload dX12_improve_65 rfl ?_
    refine sj_aload_n dX12_improve_67 (i := 0) rfl rfl ?_
    refine sj_get (a := 56) (k9 := 1) (v := .ref (sj_ad G 57)) dX12_improve_68 (by decide +kernel) rfl ?_
    refine sj_bipush (v := (nI 116)) dX12_improve_71 (by decide +kernel) ?_
    refine sj_iload dX12_improve_73 rfl ?_
    refine sj_iadd dX12_improve_75 ?_
    obtain ⟨b5, h⟩ := h
    refine sj_iald (a := 57) (j := ((nI 116) + x6).toNatClampNeg) (x := (σ 57 ((nI 116) + x6).toNatClampNeg)) dX12_improve_76 rfl (by decide +kernel) b5 rfl rfl ?_
    refine sj_icmp_eq (tgt := 99) dX12_improve_77 (by decide) (fun c7 => ?_) (fun c7 => ?_)
    · replace h := h.1 c7
      exact t_X12_improve_99 h
    · replace h := h.2 c7
      refine sj_aload_n dX12_improve_80 (i := 0) rfl rfl ?_
      obtain ⟨v8, σ8, hc8, h⟩ := h
      refine sj_callVi (M' := me_X12_isRight) (b := 56) (As := []) (rest := []) dX12_improve_81 gX12_improve_X12_isRight rfl hd_X12_isRight (by decide +kernel) (by decide +kernel) rfl (Nat.le_of_ble_eq_true rfl) (by omega) rfl hc8 ?_
      refine sj_if_eq (tgt := 99) dX12_improve_84 (by decide) (fun c10 => ?_) (fun c10 => ?_)
      · replace h := h.1 c10
        exact t_X12_improve_99 h
      · replace h := h.2 c10
        refine sj_aload_n dX12_improve_87 (i := 0) rfl rfl ?_
        obtain ⟨v11, σ11, hc11, h⟩ := h
        refine sj_callVi (M' := me_X12_costs) (b := 56) (As := []) (rest := []) dX12_improve_88 gX12_improve_X12_costs rfl hd_X12_costs (by decide +kernel) (by decide +kernel) rfl (Nat.le_of_ble_eq_true rfl) (by omega) rfl hc11 ?_
        refine sj_iload_n dX12_improve_91 (i := 2) rfl rfl ?_
        refine sj_icmp_ge (tgt := 99) dX12_improve_92 (by decide) (fun c12 => ?_) (fun c12 => ?_)
        · refine sj_iconst (v := (nI 0)) dX12_improve_99 (by decide +kernel) ?_
          try simp only [if_pos c12] at h
          exact t_X12_improve_100 h
        · refine sj_iconst (v := (nI 1)) dX12_improve_95 (by decide +kernel) ?_
          refine sj_goto (tgt := 100) dX12_improve_96 (by decide) ?_
          try simp only [if_neg c12] at h
          exact t_X12_improve_100 h
def wp_X12_improve_341 (G : sj_G) (R : sj_R) (x1 : Int32) (x2 : Int32) (σ : sj_S) : Prop := ∃ σ1, sj_C G 3 me_X12_puts [.ref (sj_ad G 56)] σ (.ok 0, σ1) ∧ R = (.ok (x1 - x2), σ1)
set_option maxRecDepth 20000 in
theorem t_X12_improve_341 {G : sj_G} {R : sj_R} {x1 : Int32} {x2 : Int32} {σ : sj_S} (h : wp_X12_improve_341 G R x1 x2 σ) : sj_J G 7 me_X12_improve R 341 [.ref (sj_ad G 56), .int x1, .int x2, .null, .null, .null, .null, .null, .null] σ [] := by
  unfold wp_X12_improve_341 at h
  refine sj_aload_n dX12_improve_341 (i := 0) rfl rfl ?_
  obtain ⟨σ1, hc1, h⟩ := h
  refine sj_callVv (M' := me_X12_puts) (b := 56) (As := []) (rest := []) dX12_improve_342 gX12_improve_X12_puts rfl hd_X12_puts (by decide +kernel) (by decide +kernel) rfl (Nat.le_of_ble_eq_true rfl) (by omega) rfl hc1 ?_
  refine sj_iload_n dX12_improve_345 (i := 1) rfl rfl ?_
  refine sj_iload_n dX12_improve_346 (i := 2) rfl rfl ?_
  refine sj_isub dX12_improve_347 ?_
  subst h
  exact sj_ret dX12_improve_348 rfl rfl
def wp_X12_improve_318 (G : sj_G) (R : sj_R) (x1 : Int32) (x2 : Int32) (x3 : Int32) (x4 : Int32) (s0 : Int32) (s1 : Int32) (σ : sj_S) : Prop := vp_in s1 9 ∧ ((¬ (x4 = (-1))) → vp_in ((nI 116) + x3) 128 ∧ vp_in x4 9) ∧ (wp_X12_improve_341 G R x1 x2 (if x4 = (-1) then (sj_st σ 59 s1.toNatClampNeg s0) else (sj_st (sj_st σ 59 s1.toNatClampNeg s0) 59 x4.toNatClampNeg (σ 57 ((nI 116) + x3).toNatClampNeg))))
set_option maxRecDepth 20000 in
theorem t_X12_improve_318 {G : sj_G} {R : sj_R} {x1 : Int32} {x2 : Int32} {x3 : Int32} {x4 : Int32} {s0 : Int32} {s1 : Int32} {σ : sj_S} (h : wp_X12_improve_318 G R x1 x2 x3 x4 s0 s1 σ) : sj_J G 7 me_X12_improve R 318 [.ref (sj_ad G 56), .int x1, .int x2, .int x3, .int x4, .null, .null, .null, .null] σ [.int s0, .int s1, .ref (sj_ad G 59)] := by
  unfold wp_X12_improve_318 at h
  obtain ⟨b1, h⟩ := h
  refine sj_iast (a := 59) (j := s1.toNatClampNeg) dX12_improve_318 rfl (by decide +kernel) b1 rfl ?_
  refine sj_iload dX12_improve_319 rfl ?_
  refine sj_iconst (v := (-1)) dX12_improve_321 (by decide +kernel) ?_
  obtain ⟨f5, h⟩ := h
  refine sj_icmp_eq (tgt := 341) dX12_improve_322 (by decide) (fun c2 => ?_) (fun c2 => ?_)
  · try simp only [if_pos c2] at h
    refine sj_fg [3, 4] ?_
    exact t_X12_improve_341 h
  · obtain ⟨b3, b4⟩ := f5 c2
    refine sj_aload_n dX12_improve_325 (i := 0) rfl rfl ?_
    refine sj_get (a := 56) (k9 := 4) (v := .ref (sj_ad G 59)) dX12_improve_326 (by decide +kernel) rfl ?_
    refine sj_iload dX12_improve_329 rfl ?_
    refine sj_aload_n dX12_improve_331 (i := 0) rfl rfl ?_
    refine sj_get (a := 56) (k9 := 1) (v := .ref (sj_ad G 57)) dX12_improve_332 (by decide +kernel) rfl ?_
    refine sj_bipush (v := (nI 116)) dX12_improve_335 (by decide +kernel) ?_
    refine sj_iload_n dX12_improve_337 (i := 3) rfl rfl ?_
    refine sj_iadd dX12_improve_338 ?_
    refine sj_iald (a := 57) (j := ((nI 116) + x3).toNatClampNeg) (x := (σ 57 ((nI 116) + x3).toNatClampNeg)) dX12_improve_339 rfl (by decide +kernel) b3 rfl rfl ?_
    refine sj_iast (a := 59) (j := x4.toNatClampNeg) dX12_improve_340 rfl (by decide +kernel) b4 rfl ?_
    try simp only [if_neg c2] at h
    refine sj_fg [3, 4] ?_
    exact t_X12_improve_341 h
def wp_X12_improve_154 (G : sj_G) (R : sj_R) (x1 : Int32) (x2 : Int32) (x3 : Int32) (x4 : Int32) (x5 : Int32) (x6 : Int32) (σ : sj_S) : Prop := ∃ v1 σ1, sj_C G 2 me_X12_many [.ref (sj_ad G 56)] σ (.ok v1, σ1) ∧ (v1 ≤ x6 → (¬ x3 = (-1) → ((¬ (x4 = (-1))) → vp_in ((nI 116) + x4) 128) ∧ (wp_X12_improve_318 G R x1 x2 x3 x4 (if x4 = (-1) then x5 else (σ1 57 ((nI 116) + x4).toNatClampNeg)) x3 σ1)) ∧ (x3 = (-1) → R = (.ok (nI 0), σ1))) ∧ (¬ (v1 ≤ x6) → sj_J G 7 me_X12_improve R 169 [.ref (sj_ad G 56), .int x1, .int x2, .int x3, .int x4, .int x5, .int x6, .int (x6 + (nI 1)), .null] σ1 [])
set_option maxRecDepth 20000 in
theorem t_X12_improve_154 {G : sj_G} {R : sj_R} {x1 : Int32} {x2 : Int32} {x3 : Int32} {x4 : Int32} {x5 : Int32} {x6 : Int32} {σ : sj_S} (h : wp_X12_improve_154 G R x1 x2 x3 x4 x5 x6 σ) : sj_J G 7 me_X12_improve R 154 [.ref (sj_ad G 56), .int x1, .int x2, .int x3, .int x4, .int x5, .int x6, .null, .null] σ [] := by
  unfold wp_X12_improve_154 at h
  refine sj_iload dX12_improve_154 rfl ?_
  refine sj_aload_n dX12_improve_156 (i := 0) rfl rfl ?_
  obtain ⟨v1, σ1, hc1, h⟩ := h
  refine sj_callVi (M' := me_X12_many) (b := 56) (As := []) (rest := [.int x6]) dX12_improve_157 gX12_improve_X12_many rfl hd_X12_many (by decide +kernel) (by decide +kernel) rfl (Nat.le_of_ble_eq_true rfl) (by omega) rfl hc1 ?_
  refine sj_icmp_ge (tgt := 285) dX12_improve_160 (by decide) (fun c2 => ?_) (fun c2 => ?_)
  · replace h := h.1 c2
    refine sj_iload_n dX12_improve_285 (i := 3) rfl rfl ?_
    refine sj_iconst (v := (-1)) dX12_improve_286 (by decide +kernel) ?_
    refine sj_icmp_ne (tgt := 292) dX12_improve_287 (by decide) (fun c3 => ?_) (fun c3 => ?_)
    · replace h := h.1 c3
      refine sj_aload_n dX12_improve_292 (i := 0) rfl rfl ?_
      refine sj_get (a := 56) (k9 := 4) (v := .ref (sj_ad G 59)) dX12_improve_293 (by decide +kernel) rfl ?_
      refine sj_iload_n dX12_improve_296 (i := 3) rfl rfl ?_
      refine sj_iload dX12_improve_297 rfl ?_
      refine sj_iconst (v := (-1)) dX12_improve_299 (by decide +kernel) ?_
      obtain ⟨f6, h⟩ := h
      refine sj_icmp_ne (tgt := 308) dX12_improve_300 (by decide) (fun c4 => ?_) (fun c4 => ?_)
      · have b5 := f6 c4
        refine sj_aload_n dX12_improve_308 (i := 0) rfl rfl ?_
        refine sj_get (a := 56) (k9 := 1) (v := .ref (sj_ad G 57)) dX12_improve_309 (by decide +kernel) rfl ?_
        refine sj_bipush (v := (nI 116)) dX12_improve_312 (by decide +kernel) ?_
        refine sj_iload dX12_improve_314 rfl ?_
        refine sj_iadd dX12_improve_316 ?_
        refine sj_iald (a := 57) (j := ((nI 116) + x4).toNatClampNeg) (x := (σ1 57 ((nI 116) + x4).toNatClampNeg)) dX12_improve_317 rfl (by decide +kernel) b5 rfl rfl ?_
        try simp only [if_neg c4] at h
        refine sj_fg [5, 6] ?_
        exact t_X12_improve_318 h
      · refine sj_iload dX12_improve_303 rfl ?_
        refine sj_goto (tgt := 318) dX12_improve_305 (by decide) ?_
        try simp only [if_pos c4] at h
        refine sj_fg [5, 6] ?_
        exact t_X12_improve_318 h
    · replace h := h.2 c3
      refine sj_iconst (v := (nI 0)) dX12_improve_290 (by decide +kernel) ?_
      subst h
      exact sj_ret dX12_improve_291 rfl rfl
  · replace h := h.2 c2
    refine sj_iload dX12_improve_163 rfl ?_
    refine sj_iconst (v := (nI 1)) dX12_improve_165 (by decide +kernel) ?_
    refine sj_iadd dX12_improve_166 ?_
    refine sj_istore dX12_improve_167 (by decide) ?_
    exact h
def wp_X12_improve_239 (G : sj_G) (R : sj_R) (x1 : Int32) (x2 : Int32) (x3 : Int32) (x4 : Int32) (x5 : Int32) (x6 : Int32) (x7 : Int32) (σ : sj_S) : Prop := vp_in ((nI 116) + x6) 128 ∧ vp_in x6 9 ∧ vp_in ((nI 116) + x7) 128 ∧ vp_in x7 9 ∧ sj_J G 7 me_X12_improve R 169 [.ref (sj_ad G 56), .int x1, .int x2, .int x3, .int x4, .int x5, .int x6, .int (x7 + (nI 1)), .null] (sj_st (sj_st σ 59 x6.toNatClampNeg (σ 57 ((nI 116) + x6).toNatClampNeg)) 59 x7.toNatClampNeg (σ 57 ((nI 116) + x7).toNatClampNeg)) []
set_option maxRecDepth 20000 in
theorem t_X12_improve_239 {G : sj_G} {R : sj_R} {x1 : Int32} {x2 : Int32} {x3 : Int32} {x4 : Int32} {x5 : Int32} {x6 : Int32} {x7 : Int32} {σ : sj_S} (h : wp_X12_improve_239 G R x1 x2 x3 x4 x5 x6 x7 σ) : sj_J G 7 me_X12_improve R 239 [.ref (sj_ad G 56), .int x1, .int x2, .int x3, .int x4, .int x5, .int x6, .int x7, .null] σ [] := by
  unfold wp_X12_improve_239 at h
  refine sj_aload_n dX12_improve_239 (i := 0) rfl rfl ?_
  refine sj_get (a := 56) (k9 := 4) (v := .ref (sj_ad G 59)) dX12_improve_240 (by decide +kernel) rfl ?_
  refine sj_iload dX12_improve_243 rfl ?_
  refine sj_aload_n dX12_improve_245 (i := 0) rfl rfl ?_
  refine sj_get (a := 56) (k9 := 1) (v := .ref (sj_ad G 57)) dX12_improve_246 (by decide +kernel) rfl ?_
  refine sj_bipush (v := (nI 116)) dX12_improve_249 (by decide +kernel) ?_
  refine sj_iload dX12_improve_251 rfl ?_
  refine sj_iadd dX12_improve_253 ?_
  obtain ⟨b1, h⟩ := h
  refine sj_iald (a := 57) (j := ((nI 116) + x6).toNatClampNeg) (x := (σ 57 ((nI 116) + x6).toNatClampNeg)) dX12_improve_254 rfl (by decide +kernel) b1 rfl rfl ?_
  obtain ⟨b2, h⟩ := h
  refine sj_iast (a := 59) (j := x6.toNatClampNeg) dX12_improve_255 rfl (by decide +kernel) b2 rfl ?_
  refine sj_aload_n dX12_improve_256 (i := 0) rfl rfl ?_
  refine sj_get (a := 56) (k9 := 4) (v := .ref (sj_ad G 59)) dX12_improve_257 (by decide +kernel) rfl ?_
  refine sj_iload dX12_improve_260 rfl ?_
  refine sj_aload_n dX12_improve_262 (i := 0) rfl rfl ?_
  refine sj_get (a := 56) (k9 := 1) (v := .ref (sj_ad G 57)) dX12_improve_263 (by decide +kernel) rfl ?_
  refine sj_bipush (v := (nI 116)) dX12_improve_266 (by decide +kernel) ?_
  refine sj_iload dX12_improve_268 rfl ?_
  refine sj_iadd dX12_improve_270 ?_
  obtain ⟨b3, h⟩ := h
  refine sj_iald (a := 57) (j := ((nI 116) + x7).toNatClampNeg) (x := (σ 57 ((nI 116) + x7).toNatClampNeg)) dX12_improve_271 rfl (by decide +kernel) b3 rfl rfl ?_
  obtain ⟨b4, h⟩ := h
  refine sj_iast (a := 59) (j := x7.toNatClampNeg) dX12_improve_272 rfl (by decide +kernel) b4 rfl ?_
  refine sj_iinc (v := (x7 + (nI 1))) dX12_improve_273 (by decide) rfl rfl ?_
  refine sj_goto (tgt := 169) dX12_improve_276 (by decide) ?_
  exact h
def wp_X12_improve_169 (G : sj_G) (R : sj_R) (x1 : Int32) (x2 : Int32) (x3 : Int32) (x4 : Int32) (x5 : Int32) (x6 : Int32) (x7 : Int32) (σ : sj_S) : Prop := ∃ v1 σ1, sj_C G 2 me_X12_many [.ref (sj_ad G 56)] σ (.ok v1, σ1) ∧ (v1 ≤ x7 → sj_J G 7 me_X12_improve R 154 [.ref (sj_ad G 56), .int x1, .int x2, .int x3, .int x4, .int x5, .int (x6 + (nI 1)), .null, .null] σ1 []) ∧ (¬ (v1 ≤ x7) → vp_in ((nI 116) + x7) 128 ∧ vp_in x6 9 ∧ vp_in ((nI 116) + x6) 128 ∧ vp_in x7 9 ∧ ∃ v7 σ7, sj_C G 6 me_X12_isRight [.ref (sj_ad G 56)] (sj_st (sj_st σ1 59 x6.toNatClampNeg (σ1 57 ((nI 116) + x7).toNatClampNeg)) 59 x7.toNatClampNeg (σ1 57 ((nI 116) + x6).toNatClampNeg)) (.ok v7, σ7) ∧ (v7 = 0 → (wp_X12_improve_239 G R x1 x2 x3 x4 x5 x6 x7 σ7)) ∧ (¬ (v7 = 0) → ∃ v10 σ10, sj_C G 6 me_X12_costs [.ref (sj_ad G 56)] σ7 (.ok v10, σ10) ∧ (x2 ≤ v10 → (wp_X12_improve_239 G R x1 x2 x3 x4 x5 x6 x7 σ10)) ∧ (¬ (x2 ≤ v10) → ∃ v13 σ13, sj_C G 6 me_X12_costs [.ref (sj_ad G 56)] σ10 (.ok v13, σ13) ∧ (wp_X12_improve_239 G R x1 v13 x6 x7 x5 x6 x7 σ13))))
set_option maxRecDepth 20000 in
theorem t_X12_improve_169 {G : sj_G} {R : sj_R} {x1 : Int32} {x2 : Int32} {x3 : Int32} {x4 : Int32} {x5 : Int32} {x6 : Int32} {x7 : Int32} {σ : sj_S} (h : wp_X12_improve_169 G R x1 x2 x3 x4 x5 x6 x7 σ) : sj_J G 7 me_X12_improve R 169 [.ref (sj_ad G 56), .int x1, .int x2, .int x3, .int x4, .int x5, .int x6, .int x7, .null] σ [] := by
  unfold wp_X12_improve_169 at h
  refine sj_iload dX12_improve_169 rfl ?_
  refine sj_aload_n dX12_improve_171 (i := 0) rfl rfl ?_
  obtain ⟨v1, σ1, hc1, h⟩ := h
  refine sj_callVi (M' := me_X12_many) (b := 56) (As := []) (rest := [.int x7]) dX12_improve_172 gX12_improve_X12_many rfl hd_X12_many (by decide +kernel) (by decide +kernel) rfl (Nat.le_of_ble_eq_true rfl) (by omega) rfl hc1 ?_
  refine sj_icmp_ge (tgt := 279) dX12_improve_175 (by decide) (fun c2 => ?_) (fun c2 => ?_)
  · replace h := h.1 c2
    refine sj_iinc (v := (x6 + (nI 1))) dX12_improve_279 (by decide) rfl rfl ?_
    refine sj_goto (tgt := 154) dX12_improve_282 (by decide) ?_
    refine sj_fg [7] ?_
    exact h
  · replace h := h.2 c2
    refine sj_aload_n dX12_improve_178 (i := 0) rfl rfl ?_
    refine sj_get (a := 56) (k9 := 4) (v := .ref (sj_ad G 59)) dX12_improve_179 (by decide +kernel) rfl ?_
    refine sj_iload dX12_improve_182 rfl ?_
    refine sj_aload_n dX12_improve_184 (i := 0) rfl rfl ?_
    refine sj_get (a := 56) (k9 := 1) (v := .ref (sj_ad G 57)) dX12_improve_185 (by decide +kernel) rfl ?_
    refine sj_bipush (v := (nI 116)) dX12_improve_188 (by decide +kernel) ?_
    refine sj_iload dX12_improve_190 rfl ?_
    refine sj_iadd dX12_improve_192 ?_
    obtain ⟨b3, h⟩ := h
    refine sj_iald (a := 57) (j := ((nI 116) + x7).toNatClampNeg) (x := (σ1 57 ((nI 116) + x7).toNatClampNeg)) dX12_improve_193 rfl (by decide +kernel) b3 rfl rfl ?_
    obtain ⟨b4, h⟩ := h
    refine sj_iast (a := 59) (j := x6.toNatClampNeg) dX12_improve_194 rfl (by decide +kernel) b4 rfl ?_
    refine sj_aload_n dX12_improve_195 (i := 0) rfl rfl ?_
    refine sj_get (a := 56) (k9 := 4) (v := .ref (sj_ad G 59)) dX12_improve_196 (by decide +kernel) rfl ?_
    refine sj_iload dX12_improve_199 rfl ?_
    refine sj_aload_n dX12_improve_201 (i := 0) rfl rfl ?_
    refine sj_get (a := 56) (k9 := 1) (v := .ref (sj_ad G 57)) dX12_improve_202 (by decide +kernel) rfl ?_
    refine sj_bipush (v := (nI 116)) dX12_improve_205 (by decide +kernel) ?_
    refine sj_iload dX12_improve_207 rfl ?_
    refine sj_iadd dX12_improve_209 ?_
    obtain ⟨b5, h⟩ := h
    refine sj_iald (a := 57) (j := ((nI 116) + x6).toNatClampNeg) (x := (σ1 57 ((nI 116) + x6).toNatClampNeg)) dX12_improve_210 rfl (by decide +kernel) b5 rfl rfl ?_
    obtain ⟨b6, h⟩ := h
    refine sj_iast (a := 59) (j := x7.toNatClampNeg) dX12_improve_211 rfl (by decide +kernel) b6 rfl ?_
    refine sj_aload_n dX12_improve_212 (i := 0) rfl rfl ?_
    obtain ⟨v7, σ7, hc7, h⟩ := h
    refine sj_callVi (M' := me_X12_isRight) (b := 56) (As := []) (rest := []) dX12_improve_213 gX12_improve_X12_isRight rfl hd_X12_isRight (by decide +kernel) (by decide +kernel) rfl (Nat.le_of_ble_eq_true rfl) (by omega) rfl hc7 ?_
    refine sj_if_eq (tgt := 239) dX12_improve_216 (by decide) (fun c9 => ?_) (fun c9 => ?_)
    · replace h := h.1 c9
      exact t_X12_improve_239 h
    · replace h := h.2 c9
      refine sj_aload_n dX12_improve_219 (i := 0) rfl rfl ?_
      obtain ⟨v10, σ10, hc10, h⟩ := h
      refine sj_callVi (M' := me_X12_costs) (b := 56) (As := []) (rest := []) dX12_improve_220 gX12_improve_X12_costs rfl hd_X12_costs (by decide +kernel) (by decide +kernel) rfl (Nat.le_of_ble_eq_true rfl) (by omega) rfl hc10 ?_
      refine sj_iload_n dX12_improve_223 (i := 2) rfl rfl ?_
      refine sj_icmp_ge (tgt := 239) dX12_improve_224 (by decide) (fun c12 => ?_) (fun c12 => ?_)
      · replace h := h.1 c12
        exact t_X12_improve_239 h
      · replace h := h.2 c12
        refine sj_aload_n dX12_improve_227 (i := 0) rfl rfl ?_
        obtain ⟨v13, σ13, hc13, h⟩ := h
        refine sj_callVi (M' := me_X12_costs) (b := 56) (As := []) (rest := []) dX12_improve_228 gX12_improve_X12_costs rfl hd_X12_costs (by decide +kernel) (by decide +kernel) rfl (Nat.le_of_ble_eq_true rfl) (by omega) rfl hc13 ?_
        refine sj_istore_n dX12_improve_231 (i := 2) rfl (by decide) ?_
        refine sj_iload dX12_improve_232 rfl ?_
        refine sj_istore_n dX12_improve_234 (i := 3) rfl (by decide) ?_
        refine sj_iload dX12_improve_235 rfl ?_
        refine sj_istore dX12_improve_237 (by decide) ?_
        exact t_X12_improve_239 h
def wp_X12_improve_0 (G : sj_G) (R : sj_R) (σ : sj_S) : Prop := ∃ v1 σ1, sj_C G 3 me_X12_noTable [.ref (sj_ad G 56), .int (nI 1)] (sj_st σ 56 0 (nI 0)) (.ok v1, σ1) ∧ (v1 = 0 → ∃ σ3, sj_C G 3 me_X12_looksAtTable [.ref (sj_ad G 56)] σ1 (.ok 0, σ3) ∧ ∃ v4 σ4, sj_C G 6 me_X12_costs [.ref (sj_ad G 56)] σ3 (.ok v4, σ4) ∧ sj_J G 7 me_X12_improve R 37 [.ref (sj_ad G 56), .int v4, .int v4, .int (-1), .int (-1), .int (-1), .int (nI 0), .null, .null] σ4 []) ∧ (¬ (v1 = 0) → R = (.ok (nI 0), σ1))
set_option maxRecDepth 20000 in
theorem t_X12_improve_0 {G : sj_G} {R : sj_R} {σ : sj_S} (h : wp_X12_improve_0 G R σ) : sj_J G 7 me_X12_improve R 0 [.ref (sj_ad G 56), .null, .null, .null, .null, .null, .null, .null, .null] σ [] := by
  unfold wp_X12_improve_0 at h
  refine sj_aload_n dX12_improve_0 (i := 0) rfl rfl ?_
  refine sj_iconst (v := (nI 0)) dX12_improve_1 (by decide +kernel) ?_
  refine sj_put (a := 56) (k9 := 0) dX12_improve_2 (by decide +kernel) (by decide +kernel) rfl ?_
  refine sj_aload_n dX12_improve_5 (i := 0) rfl rfl ?_
  refine sj_iconst (v := (nI 1)) dX12_improve_6 (by decide +kernel) ?_
  obtain ⟨v1, σ1, hc1, h⟩ := h
  refine sj_callVi (M' := me_X12_noTable) (b := 56) (As := [.int (nI 1)]) (rest := []) dX12_improve_7 gX12_improve_X12_noTable rfl hd_X12_noTable (by decide +kernel) (by decide +kernel) rfl (Nat.le_of_ble_eq_true rfl) (by omega) rfl hc1 ?_
  refine sj_if_eq (tgt := 15) dX12_improve_10 (by decide) (fun c2 => ?_) (fun c2 => ?_)
  · replace h := h.1 c2
    refine sj_aload_n dX12_improve_15 (i := 0) rfl rfl ?_
    obtain ⟨σ3, hc3, h⟩ := h
    refine sj_callVv (M' := me_X12_looksAtTable) (b := 56) (As := []) (rest := []) dX12_improve_16 gX12_improve_X12_looksAtTable rfl hd_X12_looksAtTable (by decide +kernel) (by decide +kernel) rfl (Nat.le_of_ble_eq_true rfl) (by omega) rfl hc3 ?_
    refine sj_aload_n dX12_improve_19 (i := 0) rfl rfl ?_
    obtain ⟨v4, σ4, hc4, h⟩ := h
    refine sj_callVi (M' := me_X12_costs) (b := 56) (As := []) (rest := []) dX12_improve_20 gX12_improve_X12_costs rfl hd_X12_costs (by decide +kernel) (by decide +kernel) rfl (Nat.le_of_ble_eq_true rfl) (by omega) rfl hc4 ?_
    refine sj_istore_n dX12_improve_23 (i := 1) rfl (by decide) ?_
    refine sj_iload_n dX12_improve_24 (i := 1) rfl rfl ?_
    refine sj_istore_n dX12_improve_25 (i := 2) rfl (by decide) ?_
    refine sj_iconst (v := (-1)) dX12_improve_26 (by decide +kernel) ?_
    refine sj_istore_n dX12_improve_27 (i := 3) rfl (by decide) ?_
    refine sj_iconst (v := (-1)) dX12_improve_28 (by decide +kernel) ?_
    refine sj_istore dX12_improve_29 (by decide) ?_
    refine sj_iconst (v := (-1)) dX12_improve_31 (by decide +kernel) ?_
    refine sj_istore dX12_improve_32 (by decide) ?_
    refine sj_iconst (v := (nI 0)) dX12_improve_34 (by decide +kernel) ?_
    refine sj_istore dX12_improve_35 (by decide) ?_
    exact h
  · replace h := h.2 c2
    refine sj_iconst (v := (nI 0)) dX12_improve_13 (by decide +kernel) ?_
    subst h
    exact sj_ret dX12_improve_14 rfl rfl
theorem c_X12_improve {G : sj_G} (ok : sj_ok G) {R : sj_R} {σ : sj_S} (h : wp_X12_improve_0 G R σ) : sj_C G 7 me_X12_improve [.ref (sj_ad G 56)] σ R :=
  sj_enter ok (by decide +kernel) rfl rfl (Nat.le_of_ble_eq_true rfl) (by simp [Value.category]) (t_X12_improve_0 h)
def wp_X12_mostOf_4 (G : sj_G) (R : sj_R) (x1 : Int32) (x2 : Int32) (σ : sj_S) : Prop := ((nI 10) ≤ x2 → R = (.ok x1, σ)) ∧ (¬ ((nI 10) ≤ x2) → sj_J G 3 me_X12_mostOf R 15 [.ref (sj_ad G 56), .int x1, .int x2, .int (nI 0), .int (nI 0)] σ [])
set_option maxRecDepth 20000 in
theorem t_X12_mostOf_4 {G : sj_G} {R : sj_R} {x1 : Int32} {x2 : Int32} {σ : sj_S} (h : wp_X12_mostOf_4 G R x1 x2 σ) : sj_J G 3 me_X12_mostOf R 4 [.ref (sj_ad G 56), .int x1, .int x2, .null, .null] σ [] := by
  unfold wp_X12_mostOf_4 at h
  refine sj_iload_n dX12_mostOf_4 (i := 2) rfl rfl ?_
  refine sj_bipush (v := (nI 10)) dX12_mostOf_5 (by decide +kernel) ?_
  refine sj_icmp_ge (tgt := 85) dX12_mostOf_7 (by decide) (fun c1 => ?_) (fun c1 => ?_)
  · replace h := h.1 c1
    refine sj_iload_n dX12_mostOf_85 (i := 1) rfl rfl ?_
    subst h
    exact sj_ret dX12_mostOf_86 rfl rfl
  · replace h := h.2 c1
    refine sj_iconst (v := (nI 0)) dX12_mostOf_10 (by decide +kernel) ?_
    refine sj_istore_n dX12_mostOf_11 (i := 3) rfl (by decide) ?_
    refine sj_iconst (v := (nI 0)) dX12_mostOf_12 (by decide +kernel) ?_
    refine sj_istore dX12_mostOf_13 (by decide) ?_
    exact h
def wp_X12_mostOf_64 (G : sj_G) (R : sj_R) (x1 : Int32) (x2 : Int32) (x4 : Int32) (s0 : Int32) (s1 : Int32) (σ : sj_S) : Prop := sj_J G 3 me_X12_mostOf R 15 [.ref (sj_ad G 56), .int x1, .int x2, .int (s1 + s0), .int (x4 + (nI 1))] σ []
set_option maxRecDepth 20000 in
theorem t_X12_mostOf_64 {G : sj_G} {R : sj_R} {x1 : Int32} {x2 : Int32} {x4 : Int32} {s0 : Int32} {s1 : Int32} {σ : sj_S} (h : wp_X12_mostOf_64 G R x1 x2 x4 s0 s1 σ) : sj_J G 3 me_X12_mostOf R 64 [.ref (sj_ad G 56), .int x1, .int x2, .null, .int x4] σ [.int s0, .int s1] := by
  unfold wp_X12_mostOf_64 at h
  refine sj_iadd dX12_mostOf_64 ?_
  refine sj_istore_n dX12_mostOf_65 (i := 3) rfl (by decide) ?_
  refine sj_iinc (v := (x4 + (nI 1))) dX12_mostOf_66 (by decide) rfl rfl ?_
  refine sj_goto (tgt := 15) dX12_mostOf_69 (by decide) ?_
  exact h
def wp_X12_mostOf_53 (G : sj_G) (R : sj_R) (x1 : Int32) (x2 : Int32) (x4 : Int32) (s0 : Int32) (s1 : Int32) (s2 : Int32) (s4 : Int32) (σ : sj_S) : Prop := ∃ v1 σ1, sj_C G 2 me_X12_isOf [.ref (sj_ad G 56), .int s2, .int s1, .int s0] σ (.ok v1, σ1) ∧ (wp_X12_mostOf_64 G R x1 x2 x4 (if v1 = 0 then (nI 0) else (nI 1)) s4 σ1)
set_option maxRecDepth 20000 in
theorem t_X12_mostOf_53 {G : sj_G} {R : sj_R} {x1 : Int32} {x2 : Int32} {x4 : Int32} {s0 : Int32} {s1 : Int32} {s2 : Int32} {s4 : Int32} {σ : sj_S} (h : wp_X12_mostOf_53 G R x1 x2 x4 s0 s1 s2 s4 σ) : sj_J G 3 me_X12_mostOf R 53 [.ref (sj_ad G 56), .int x1, .int x2, .null, .int x4] σ [.int s0, .int s1, .int s2, .ref (sj_ad G 56), .int s4] := by
  unfold wp_X12_mostOf_53 at h
  obtain ⟨v1, σ1, hc1, h⟩ := h
  refine sj_callVi (M' := me_X12_isOf) (b := 56) (As := [.int s2, .int s1, .int s0]) (rest := [.int s4]) dX12_mostOf_53 gX12_mostOf_X12_isOf rfl hd_X12_isOf (by decide +kernel) (by decide +kernel) rfl (Nat.le_of_ble_eq_true rfl) (by omega) rfl hc1 ?_
  refine sj_if_eq (tgt := 63) dX12_mostOf_56 (by decide) (fun c2 => ?_) (fun c2 => ?_)
  · refine sj_iconst (v := (nI 0)) dX12_mostOf_63 (by decide +kernel) ?_
    try simp only [if_pos c2] at h
    exact t_X12_mostOf_64 h
  · refine sj_iconst (v := (nI 1)) dX12_mostOf_59 (by decide +kernel) ?_
    refine sj_goto (tgt := 64) dX12_mostOf_60 (by decide) ?_
    try simp only [if_neg c2] at h
    exact t_X12_mostOf_64 h
def wp_X12_mostOf_39 (G : sj_G) (R : sj_R) (x1 : Int32) (x2 : Int32) (x4 : Int32) (s0 : Int32) (s1 : Int32) (s3 : Int32) (σ : sj_S) : Prop := (wp_X12_mostOf_53 G R x1 x2 x4 (if (nI 6) ≤ x2 then (x2 - (nI 6)) else x2) s0 s1 s3 σ)
set_option maxRecDepth 20000 in
theorem t_X12_mostOf_39 {G : sj_G} {R : sj_R} {x1 : Int32} {x2 : Int32} {x4 : Int32} {s0 : Int32} {s1 : Int32} {s3 : Int32} {σ : sj_S} (h : wp_X12_mostOf_39 G R x1 x2 x4 s0 s1 s3 σ) : sj_J G 3 me_X12_mostOf R 39 [.ref (sj_ad G 56), .int x1, .int x2, .null, .int x4] σ [.int s0, .int s1, .ref (sj_ad G 56), .int s3] := by
  unfold wp_X12_mostOf_39 at h
  refine sj_iload_n dX12_mostOf_39 (i := 2) rfl rfl ?_
  refine sj_bipush (v := (nI 6)) dX12_mostOf_40 (by decide +kernel) ?_
  refine sj_icmp_ge (tgt := 49) dX12_mostOf_42 (by decide) (fun c1 => ?_) (fun c1 => ?_)
  · refine sj_iload_n dX12_mostOf_49 (i := 2) rfl rfl ?_
    refine sj_bipush (v := (nI 6)) dX12_mostOf_50 (by decide +kernel) ?_
    refine sj_isub dX12_mostOf_52 ?_
    try simp only [if_pos c1] at h
    exact t_X12_mostOf_53 h
  · refine sj_iload_n dX12_mostOf_45 (i := 2) rfl rfl ?_
    refine sj_goto (tgt := 53) dX12_mostOf_46 (by decide) ?_
    try simp only [if_neg c1] at h
    exact t_X12_mostOf_53 h
def wp_X12_mostOf_79 (G : sj_G) (R : sj_R) (x1 : Int32) (x2 : Int32) (σ : sj_S) : Prop := sj_J G 3 me_X12_mostOf R 4 [.ref (sj_ad G 56), .int x1, .int (x2 + (nI 1)), .null, .null] σ []
set_option maxRecDepth 20000 in
theorem t_X12_mostOf_79 {G : sj_G} {R : sj_R} {x1 : Int32} {x2 : Int32} {σ : sj_S} (h : wp_X12_mostOf_79 G R x1 x2 σ) : sj_J G 3 me_X12_mostOf R 79 [.ref (sj_ad G 56), .int x1, .int x2, .null, .null] σ [] := by
  unfold wp_X12_mostOf_79 at h
  refine sj_iinc (v := (x2 + (nI 1))) dX12_mostOf_79 (by decide) rfl rfl ?_
  refine sj_goto (tgt := 4) dX12_mostOf_82 (by decide) ?_
  exact h
def wp_X12_mostOf_15 (G : sj_G) (R : sj_R) (x1 : Int32) (x2 : Int32) (x3 : Int32) (x4 : Int32) (σ : sj_S) : Prop := ∃ v1 σ1, sj_C G 2 me_X12_many [.ref (sj_ad G 56)] σ (.ok v1, σ1) ∧ (v1 ≤ x4 → (wp_X12_mostOf_79 G R (if x3 ≤ x1 then x1 else x3) x2 σ1)) ∧ (¬ (v1 ≤ x4) → (wp_X12_mostOf_39 G R x1 x2 x4 (if (nI 6) ≤ x2 then (nI 0) else (nI 1)) x4 x3 σ1))
set_option maxRecDepth 20000 in
theorem t_X12_mostOf_15 {G : sj_G} {R : sj_R} {x1 : Int32} {x2 : Int32} {x3 : Int32} {x4 : Int32} {σ : sj_S} (h : wp_X12_mostOf_15 G R x1 x2 x3 x4 σ) : sj_J G 3 me_X12_mostOf R 15 [.ref (sj_ad G 56), .int x1, .int x2, .int x3, .int x4] σ [] := by
  unfold wp_X12_mostOf_15 at h
  refine sj_iload dX12_mostOf_15 rfl ?_
  refine sj_aload_n dX12_mostOf_17 (i := 0) rfl rfl ?_
  obtain ⟨v1, σ1, hc1, h⟩ := h
  refine sj_callVi (M' := me_X12_many) (b := 56) (As := []) (rest := [.int x4]) dX12_mostOf_18 gX12_mostOf_X12_many rfl hd_X12_many (by decide +kernel) (by decide +kernel) rfl (Nat.le_of_ble_eq_true rfl) (by omega) rfl hc1 ?_
  refine sj_icmp_ge (tgt := 72) dX12_mostOf_21 (by decide) (fun c2 => ?_) (fun c2 => ?_)
  · replace h := h.1 c2
    refine sj_iload_n dX12_mostOf_72 (i := 3) rfl rfl ?_
    refine sj_iload_n dX12_mostOf_73 (i := 1) rfl rfl ?_
    refine sj_icmp_le (tgt := 79) dX12_mostOf_74 (by decide) (fun c3 => ?_) (fun c3 => ?_)
    · try simp only [if_pos c3] at h
      refine sj_fg [3, 4] ?_
      exact t_X12_mostOf_79 h
    · refine sj_iload_n dX12_mostOf_77 (i := 3) rfl rfl ?_
      refine sj_istore_n dX12_mostOf_78 (i := 1) rfl (by decide) ?_
      try simp only [if_neg c3] at h
      refine sj_fg [3, 4] ?_
      exact t_X12_mostOf_79 h
  · replace h := h.2 c2
    refine sj_iload_n dX12_mostOf_24 (i := 3) rfl rfl ?_
    refine sj_aload_n dX12_mostOf_25 (i := 0) rfl rfl ?_
    refine sj_iload dX12_mostOf_26 rfl ?_
    refine sj_iload_n dX12_mostOf_28 (i := 2) rfl rfl ?_
    refine sj_bipush (v := (nI 6)) dX12_mostOf_29 (by decide +kernel) ?_
    refine sj_icmp_ge (tgt := 38) dX12_mostOf_31 (by decide) (fun c4 => ?_) (fun c4 => ?_)
    · refine sj_iconst (v := (nI 0)) dX12_mostOf_38 (by decide +kernel) ?_
      try simp only [if_pos c4] at h
      refine sj_fg [3] ?_
      exact t_X12_mostOf_39 h
    · refine sj_iconst (v := (nI 1)) dX12_mostOf_34 (by decide +kernel) ?_
      refine sj_goto (tgt := 39) dX12_mostOf_35 (by decide) ?_
      try simp only [if_neg c4] at h
      refine sj_fg [3] ?_
      exact t_X12_mostOf_39 h
def wp_X12_mostOf_0 (G : sj_G) (R : sj_R) (σ : sj_S) : Prop := sj_J G 3 me_X12_mostOf R 4 [.ref (sj_ad G 56), .int (nI 0), .int (nI 0), .null, .null] σ []
set_option maxRecDepth 20000 in
theorem t_X12_mostOf_0 {G : sj_G} {R : sj_R} {σ : sj_S} (h : wp_X12_mostOf_0 G R σ) : sj_J G 3 me_X12_mostOf R 0 [.ref (sj_ad G 56), .null, .null, .null, .null] σ [] := by
  unfold wp_X12_mostOf_0 at h
  refine sj_iconst (v := (nI 0)) dX12_mostOf_0 (by decide +kernel) ?_
  refine sj_istore_n dX12_mostOf_1 (i := 1) rfl (by decide) ?_
  refine sj_iconst (v := (nI 0)) dX12_mostOf_2 (by decide +kernel) ?_
  refine sj_istore_n dX12_mostOf_3 (i := 2) rfl (by decide) ?_
  exact h
theorem c_X12_mostOf {G : sj_G} (ok : sj_ok G) {R : sj_R} {σ : sj_S} (h : wp_X12_mostOf_0 G R σ) : sj_C G 3 me_X12_mostOf [.ref (sj_ad G 56)] σ R :=
  sj_enter ok (by decide +kernel) rfl rfl (Nat.le_of_ble_eq_true rfl) (by simp [Value.category]) (t_X12_mostOf_0 h)
def wp_X12_coloured_35 (G : sj_G) (R : sj_R) (x1 : Int32) (x2 : Int32) (x3 : Int32) (x4 : Int32) (x5 : Int32) (σ : sj_S) : Prop := sj_J G 3 me_X12_coloured R 3 [.ref (sj_ad G 56), .int x1, .int x2, .int x3, .int x4, .int (x5 + (nI 1))] σ []
set_option maxRecDepth 20000 in
theorem t_X12_coloured_35 {G : sj_G} {R : sj_R} {x1 : Int32} {x2 : Int32} {x3 : Int32} {x4 : Int32} {x5 : Int32} {σ : sj_S} (h : wp_X12_coloured_35 G R x1 x2 x3 x4 x5 σ) : sj_J G 3 me_X12_coloured R 35 [.ref (sj_ad G 56), .int x1, .int x2, .int x3, .int x4, .int x5] σ [] := by
  unfold wp_X12_coloured_35 at h
  refine sj_iinc (v := (x5 + (nI 1))) dX12_coloured_35 (by decide) rfl rfl ?_
  refine sj_goto (tgt := 3) dX12_coloured_38 (by decide) ?_
  exact h
def wp_X12_coloured_3 (G : sj_G) (R : sj_R) (x1 : Int32) (x2 : Int32) (x3 : Int32) (x4 : Int32) (x5 : Int32) (σ : sj_S) : Prop := (x1 ≤ x5 → R = (.ok (-1), σ)) ∧ (¬ (x1 ≤ x5) → ∃ v2 σ2, sj_C G 2 me_X12_isOf [.ref (sj_ad G 56), .int x5, .int x2, .int x3] σ (.ok v2, σ2) ∧ (v2 = 0 → (wp_X12_coloured_35 G R x1 x2 x3 x4 x5 σ2)) ∧ (¬ (v2 = 0) → vp_in x5 9 ∧ (¬ (σ2 64 x5.toNatClampNeg) = x4 → (wp_X12_coloured_35 G R x1 x2 x3 x4 x5 σ2)) ∧ ((σ2 64 x5.toNatClampNeg) = x4 → R = (.ok x5, σ2))))
set_option maxRecDepth 20000 in
theorem t_X12_coloured_3 {G : sj_G} {R : sj_R} {x1 : Int32} {x2 : Int32} {x3 : Int32} {x4 : Int32} {x5 : Int32} {σ : sj_S} (h : wp_X12_coloured_3 G R x1 x2 x3 x4 x5 σ) : sj_J G 3 me_X12_coloured R 3 [.ref (sj_ad G 56), .int x1, .int x2, .int x3, .int x4, .int x5] σ [] := by
  unfold wp_X12_coloured_3 at h
  refine sj_iload dX12_coloured_3 rfl ?_
  refine sj_iload_n dX12_coloured_5 (i := 1) rfl rfl ?_
  refine sj_icmp_ge (tgt := 41) dX12_coloured_6 (by decide) (fun c1 => ?_) (fun c1 => ?_)
  · replace h := h.1 c1
    refine sj_iconst (v := (-1)) dX12_coloured_41 (by decide +kernel) ?_
    subst h
    exact sj_ret dX12_coloured_42 rfl rfl
  · replace h := h.2 c1
    refine sj_aload_n dX12_coloured_9 (i := 0) rfl rfl ?_
    refine sj_iload dX12_coloured_10 rfl ?_
    refine sj_iload_n dX12_coloured_12 (i := 2) rfl rfl ?_
    refine sj_iload_n dX12_coloured_13 (i := 3) rfl rfl ?_
    obtain ⟨v2, σ2, hc2, h⟩ := h
    refine sj_callVi (M' := me_X12_isOf) (b := 56) (As := [.int x5, .int x2, .int x3]) (rest := []) dX12_coloured_14 gX12_coloured_X12_isOf rfl hd_X12_isOf (by decide +kernel) (by decide +kernel) rfl (Nat.le_of_ble_eq_true rfl) (by omega) rfl hc2 ?_
    refine sj_if_eq (tgt := 35) dX12_coloured_17 (by decide) (fun c3 => ?_) (fun c3 => ?_)
    · replace h := h.1 c3
      exact t_X12_coloured_35 h
    · replace h := h.2 c3
      refine sj_aload_n dX12_coloured_20 (i := 0) rfl rfl ?_
      refine sj_get (a := 56) (k9 := 10) (v := .ref (sj_ad G 64)) dX12_coloured_21 (by decide +kernel) rfl ?_
      refine sj_iload dX12_coloured_24 rfl ?_
      obtain ⟨b4, h⟩ := h
      refine sj_iald (a := 64) (j := x5.toNatClampNeg) (x := (σ2 64 x5.toNatClampNeg)) dX12_coloured_26 rfl (by decide +kernel) b4 rfl rfl ?_
      refine sj_iload dX12_coloured_27 rfl ?_
      refine sj_icmp_ne (tgt := 35) dX12_coloured_29 (by decide) (fun c5 => ?_) (fun c5 => ?_)
      · replace h := h.1 c5
        exact t_X12_coloured_35 h
      · replace h := h.2 c5
        refine sj_iload dX12_coloured_32 rfl ?_
        subst h
        exact sj_ret dX12_coloured_34 rfl rfl
def wp_X12_coloured_0 (G : sj_G) (R : sj_R) (x1 : Int32) (x2 : Int32) (x3 : Int32) (x4 : Int32) (σ : sj_S) : Prop := sj_J G 3 me_X12_coloured R 3 [.ref (sj_ad G 56), .int x1, .int x2, .int x3, .int x4, .int (nI 0)] σ []
set_option maxRecDepth 20000 in
theorem t_X12_coloured_0 {G : sj_G} {R : sj_R} {x1 : Int32} {x2 : Int32} {x3 : Int32} {x4 : Int32} {σ : sj_S} (h : wp_X12_coloured_0 G R x1 x2 x3 x4 σ) : sj_J G 3 me_X12_coloured R 0 [.ref (sj_ad G 56), .int x1, .int x2, .int x3, .int x4, .null] σ [] := by
  unfold wp_X12_coloured_0 at h
  refine sj_iconst (v := (nI 0)) dX12_coloured_0 (by decide +kernel) ?_
  refine sj_istore dX12_coloured_1 (by decide) ?_
  exact h
theorem c_X12_coloured {G : sj_G} (ok : sj_ok G) {R : sj_R} {x1 : Int32} {x2 : Int32} {x3 : Int32} {x4 : Int32} {σ : sj_S} (h : wp_X12_coloured_0 G R x1 x2 x3 x4 σ) : sj_C G 3 me_X12_coloured [.ref (sj_ad G 56), .int x1, .int x2, .int x3, .int x4] σ R :=
  sj_enter ok (by decide +kernel) rfl rfl (Nat.le_of_ble_eq_true rfl) (by simp [Value.category]) (t_X12_coloured_0 h)
def wp_X12_free_3 (G : sj_G) (R : sj_R) (x1 : Int32) (x2 : Int32) (x3 : Int32) (x4 : Int32) (σ : sj_S) : Prop := ∃ v1 σ1, sj_C G 3 me_X12_coloured [.ref (sj_ad G 56), .int x1, .int x2, .int x3, .int x4] σ (.ok v1, σ1) ∧ (v1 = (-1) → R = (.ok x4, σ1)) ∧ (¬ (v1 = (-1)) → sj_J G 4 me_X12_free R 3 [.ref (sj_ad G 56), .int x1, .int x2, .int x3, .int (x4 + (nI 1))] σ1 [])
set_option maxRecDepth 20000 in
theorem t_X12_free_3 {G : sj_G} {R : sj_R} {x1 : Int32} {x2 : Int32} {x3 : Int32} {x4 : Int32} {σ : sj_S} (h : wp_X12_free_3 G R x1 x2 x3 x4 σ) : sj_J G 4 me_X12_free R 3 [.ref (sj_ad G 56), .int x1, .int x2, .int x3, .int x4] σ [] := by
  unfold wp_X12_free_3 at h
  refine sj_aload_n dX12_free_3 (i := 0) rfl rfl ?_
  refine sj_iload_n dX12_free_4 (i := 1) rfl rfl ?_
  refine sj_iload_n dX12_free_5 (i := 2) rfl rfl ?_
  refine sj_iload_n dX12_free_6 (i := 3) rfl rfl ?_
  refine sj_iload dX12_free_7 rfl ?_
  obtain ⟨v1, σ1, hc1, h⟩ := h
  refine sj_callVi (M' := me_X12_coloured) (b := 56) (As := [.int x1, .int x2, .int x3, .int x4]) (rest := []) dX12_free_9 gX12_free_X12_coloured rfl hd_X12_coloured (by decide +kernel) (by decide +kernel) rfl (Nat.le_of_ble_eq_true rfl) (by omega) rfl hc1 ?_
  refine sj_iconst (v := (-1)) dX12_free_12 (by decide +kernel) ?_
  refine sj_icmp_eq (tgt := 22) dX12_free_13 (by decide) (fun c2 => ?_) (fun c2 => ?_)
  · replace h := h.1 c2
    refine sj_iload dX12_free_22 rfl ?_
    subst h
    exact sj_ret dX12_free_24 rfl rfl
  · replace h := h.2 c2
    refine sj_iinc (v := (x4 + (nI 1))) dX12_free_16 (by decide) rfl rfl ?_
    refine sj_goto (tgt := 3) dX12_free_19 (by decide) ?_
    exact h
def wp_X12_free_0 (G : sj_G) (R : sj_R) (x1 : Int32) (x2 : Int32) (x3 : Int32) (σ : sj_S) : Prop := sj_J G 4 me_X12_free R 3 [.ref (sj_ad G 56), .int x1, .int x2, .int x3, .int (nI 0)] σ []
set_option maxRecDepth 20000 in
theorem t_X12_free_0 {G : sj_G} {R : sj_R} {x1 : Int32} {x2 : Int32} {x3 : Int32} {σ : sj_S} (h : wp_X12_free_0 G R x1 x2 x3 σ) : sj_J G 4 me_X12_free R 0 [.ref (sj_ad G 56), .int x1, .int x2, .int x3, .null] σ [] := by
  unfold wp_X12_free_0 at h
  refine sj_iconst (v := (nI 0)) dX12_free_0 (by decide +kernel) ?_
  refine sj_istore dX12_free_1 (by decide) ?_
  exact h
theorem c_X12_free {G : sj_G} (ok : sj_ok G) {R : sj_R} {x1 : Int32} {x2 : Int32} {x3 : Int32} {σ : sj_S} (h : wp_X12_free_0 G R x1 x2 x3 σ) : sj_C G 4 me_X12_free [.ref (sj_ad G 56), .int x1, .int x2, .int x3] σ R :=
  sj_enter ok (by decide +kernel) rfl rfl (Nat.le_of_ble_eq_true rfl) (by simp [Value.category]) (t_X12_free_0 h)
def wp_X12_colours_7 (G : sj_G) (R : sj_R) (x1 : Int32) (x2 : Int32) (σ : sj_S) : Prop := ∃ v1 σ1, sj_C G 2 me_X12_many [.ref (sj_ad G 56)] σ (.ok v1, σ1) ∧ (v1 ≤ x2 → R = (.ok 0, σ1)) ∧ (¬ (v1 ≤ x2) → vp_in ((nI 9) + x2) 128 ∧ vp_in ((nI 0) + x2) 128 ∧ sj_J G 5 me_X12_colours R 38 [.ref (sj_ad G 56), .int x1, .int x2, .int (σ1 57 ((nI 9) + x2).toNatClampNeg), .int (σ1 57 ((nI 0) + x2).toNatClampNeg), .int (nI 0), .null, .null, .null, .null, .null] σ1 [])
set_option maxRecDepth 20000 in
theorem t_X12_colours_7 {G : sj_G} {R : sj_R} {x1 : Int32} {x2 : Int32} {σ : sj_S} (h : wp_X12_colours_7 G R x1 x2 σ) : sj_J G 5 me_X12_colours R 7 [.ref (sj_ad G 56), .int x1, .int x2, .null, .null, .null, .null, .null, .null, .null, .null] σ [] := by
  unfold wp_X12_colours_7 at h
  refine sj_iload_n dX12_colours_7 (i := 2) rfl rfl ?_
  refine sj_aload_n dX12_colours_8 (i := 0) rfl rfl ?_
  obtain ⟨v1, σ1, hc1, h⟩ := h
  refine sj_callVi (M' := me_X12_many) (b := 56) (As := []) (rest := [.int x2]) dX12_colours_9 gX12_colours_X12_many rfl hd_X12_many (by decide +kernel) (by decide +kernel) rfl (Nat.le_of_ble_eq_true rfl) (by omega) rfl hc1 ?_
  refine sj_icmp_ge (tgt := 273) dX12_colours_12 (by decide) (fun c2 => ?_) (fun c2 => ?_)
  · replace h := h.1 c2
    subst h
    exact sj_vret dX12_colours_273 rfl
  · replace h := h.2 c2
    refine sj_aload_n dX12_colours_15 (i := 0) rfl rfl ?_
    refine sj_get (a := 56) (k9 := 1) (v := .ref (sj_ad G 57)) dX12_colours_16 (by decide +kernel) rfl ?_
    refine sj_bipush (v := (nI 9)) dX12_colours_19 (by decide +kernel) ?_
    refine sj_iload_n dX12_colours_21 (i := 2) rfl rfl ?_
    refine sj_iadd dX12_colours_22 ?_
    obtain ⟨b3, h⟩ := h
    refine sj_iald (a := 57) (j := ((nI 9) + x2).toNatClampNeg) (x := (σ1 57 ((nI 9) + x2).toNatClampNeg)) dX12_colours_23 rfl (by decide +kernel) b3 rfl rfl ?_
    refine sj_istore_n dX12_colours_24 (i := 3) rfl (by decide) ?_
    refine sj_aload_n dX12_colours_25 (i := 0) rfl rfl ?_
    refine sj_get (a := 56) (k9 := 1) (v := .ref (sj_ad G 57)) dX12_colours_26 (by decide +kernel) rfl ?_
    refine sj_iconst (v := (nI 0)) dX12_colours_29 (by decide +kernel) ?_
    refine sj_iload_n dX12_colours_30 (i := 2) rfl rfl ?_
    refine sj_iadd dX12_colours_31 ?_
    obtain ⟨b4, h⟩ := h
    refine sj_iald (a := 57) (j := ((nI 0) + x2).toNatClampNeg) (x := (σ1 57 ((nI 0) + x2).toNatClampNeg)) dX12_colours_32 rfl (by decide +kernel) b4 rfl rfl ?_
    refine sj_istore dX12_colours_33 (by decide) ?_
    refine sj_iconst (v := (nI 0)) dX12_colours_35 (by decide +kernel) ?_
    refine sj_istore dX12_colours_36 (by decide) ?_
    exact h
def wp_X12_colours_65 (G : sj_G) (R : sj_R) (x1 : Int32) (x2 : Int32) (x3 : Int32) (x4 : Int32) (x5 : Int32) (σ : sj_S) : Prop := sj_J G 5 me_X12_colours R 38 [.ref (sj_ad G 56), .int x1, .int x2, .int x3, .int x4, .int (x5 + (nI 1)), .null, .null, .null, .null, .null] σ []
set_option maxRecDepth 20000 in
theorem t_X12_colours_65 {G : sj_G} {R : sj_R} {x1 : Int32} {x2 : Int32} {x3 : Int32} {x4 : Int32} {x5 : Int32} {σ : sj_S} (h : wp_X12_colours_65 G R x1 x2 x3 x4 x5 σ) : sj_J G 5 me_X12_colours R 65 [.ref (sj_ad G 56), .int x1, .int x2, .int x3, .int x4, .int x5, .null, .null, .null, .null, .null] σ [] := by
  unfold wp_X12_colours_65 at h
  refine sj_iinc (v := (x5 + (nI 1))) dX12_colours_65 (by decide) rfl rfl ?_
  refine sj_goto (tgt := 38) dX12_colours_68 (by decide) ?_
  exact h
def wp_X12_colours_267 (G : sj_G) (R : sj_R) (x1 : Int32) (x2 : Int32) (σ : sj_S) : Prop := sj_J G 5 me_X12_colours R 7 [.ref (sj_ad G 56), .int x1, .int (x2 + (nI 1)), .null, .null, .null, .null, .null, .null, .null, .null] σ []
set_option maxRecDepth 20000 in
theorem t_X12_colours_267 {G : sj_G} {R : sj_R} {x1 : Int32} {x2 : Int32} {σ : sj_S} (h : wp_X12_colours_267 G R x1 x2 σ) : sj_J G 5 me_X12_colours R 267 [.ref (sj_ad G 56), .int x1, .int x2, .null, .null, .null, .null, .null, .null, .null, .null] σ [] := by
  unfold wp_X12_colours_267 at h
  refine sj_iinc (v := (x2 + (nI 1))) dX12_colours_267 (by decide) rfl rfl ?_
  refine sj_goto (tgt := 7) dX12_colours_270 (by decide) ?_
  exact h
def wp_X12_colours_38 (G : sj_G) (R : sj_R) (x1 : Int32) (x2 : Int32) (x3 : Int32) (x4 : Int32) (x5 : Int32) (σ : sj_S) : Prop := ∃ v1 σ1, sj_C G 3 me_X12_coloured [.ref (sj_ad G 56), .int x2, .int (nI 1), .int x3, .int x5] σ (.ok v1, σ1) ∧ (¬ v1 = (-1) → (wp_X12_colours_65 G R x1 x2 x3 x4 x5 σ1)) ∧ (v1 = (-1) → ∃ v3 σ3, sj_C G 3 me_X12_coloured [.ref (sj_ad G 56), .int x2, .int (nI 0), .int x4, .int x5] σ1 (.ok v3, σ3) ∧ (v3 = (-1) → vp_in x2 9 ∧ (x1 ≤ x5 → ∃ v8 σ8, sj_C G 4 me_X12_free [.ref (sj_ad G 56), .int x2, .int (nI 0), .int x4] (sj_st σ3 64 x2.toNatClampNeg x5) (.ok v8, σ8) ∧ ∃ v9 σ9, sj_C G 4 me_X12_free [.ref (sj_ad G 56), .int x2, .int (nI 1), .int x3] σ8 (.ok v9, σ9) ∧ ∃ v10 σ10, sj_C G 3 me_X12_coloured [.ref (sj_ad G 56), .int x2, .int (nI 1), .int x3, .int v8] σ9 (.ok v10, σ10) ∧ sj_J G 5 me_X12_colours R 121 [.ref (sj_ad G 56), .int x1, .int x2, .null, .null, .null, .int v8, .int v9, .int (nI 0), .int v10, .null] σ10 []) ∧ (¬ (x1 ≤ x5) → (wp_X12_colours_267 G R x1 x2 (sj_st σ3 64 x2.toNatClampNeg x5)))) ∧ (¬ (v3 = (-1)) → (wp_X12_colours_65 G R x1 x2 x3 x4 x5 σ3)))
set_option maxRecDepth 20000 in
theorem t_X12_colours_38 {G : sj_G} {R : sj_R} {x1 : Int32} {x2 : Int32} {x3 : Int32} {x4 : Int32} {x5 : Int32} {σ : sj_S} (h : wp_X12_colours_38 G R x1 x2 x3 x4 x5 σ) : sj_J G 5 me_X12_colours R 38 [.ref (sj_ad G 56), .int x1, .int x2, .int x3, .int x4, .int x5, .null, .null, .null, .null, .null] σ [] := by
  unfold wp_X12_colours_38 at h
  refine sj_aload_n dX12_colours_38 (i := 0) rfl rfl ?_
  refine sj_iload_n dX12_colours_39 (i := 2) rfl rfl ?_
  refine sj_iconst (v := (nI 1)) dX12_colours_40 (by decide +kernel) ?_
  refine sj_iload_n dX12_colours_41 (i := 3) rfl rfl ?_
  refine sj_iload dX12_colours_42 rfl ?_
  obtain ⟨v1, σ1, hc1, h⟩ := h
  refine sj_callVi (M' := me_X12_coloured) (b := 56) (As := [.int x2, .int (nI 1), .int x3, .int x5]) (rest := []) dX12_colours_44 gX12_colours_X12_coloured rfl hd_X12_coloured (by decide +kernel) (by decide +kernel) rfl (Nat.le_of_ble_eq_true rfl) (by omega) rfl hc1 ?_
  refine sj_iconst (v := (-1)) dX12_colours_47 (by decide +kernel) ?_
  refine sj_icmp_ne (tgt := 65) dX12_colours_48 (by decide) (fun c2 => ?_) (fun c2 => ?_)
  · replace h := h.1 c2
    exact t_X12_colours_65 h
  · replace h := h.2 c2
    refine sj_aload_n dX12_colours_51 (i := 0) rfl rfl ?_
    refine sj_iload_n dX12_colours_52 (i := 2) rfl rfl ?_
    refine sj_iconst (v := (nI 0)) dX12_colours_53 (by decide +kernel) ?_
    refine sj_iload dX12_colours_54 rfl ?_
    refine sj_iload dX12_colours_56 rfl ?_
    obtain ⟨v3, σ3, hc3, h⟩ := h
    refine sj_callVi (M' := me_X12_coloured) (b := 56) (As := [.int x2, .int (nI 0), .int x4, .int x5]) (rest := []) dX12_colours_58 gX12_colours_X12_coloured rfl hd_X12_coloured (by decide +kernel) (by decide +kernel) rfl (Nat.le_of_ble_eq_true rfl) (by omega) rfl hc3 ?_
    refine sj_iconst (v := (-1)) dX12_colours_61 (by decide +kernel) ?_
    refine sj_icmp_eq (tgt := 71) dX12_colours_62 (by decide) (fun c4 => ?_) (fun c4 => ?_)
    · replace h := h.1 c4
      refine sj_aload_n dX12_colours_71 (i := 0) rfl rfl ?_
      refine sj_get (a := 56) (k9 := 10) (v := .ref (sj_ad G 64)) dX12_colours_72 (by decide +kernel) rfl ?_
      refine sj_iload_n dX12_colours_75 (i := 2) rfl rfl ?_
      refine sj_iload dX12_colours_76 rfl ?_
      obtain ⟨b5, h⟩ := h
      refine sj_iast (a := 64) (j := x2.toNatClampNeg) dX12_colours_78 rfl (by decide +kernel) b5 rfl ?_
      refine sj_iload dX12_colours_79 rfl ?_
      refine sj_iload_n dX12_colours_81 (i := 1) rfl rfl ?_
      refine sj_icmp_ge (tgt := 88) dX12_colours_82 (by decide) (fun c7 => ?_) (fun c7 => ?_)
      · replace h := h.1 c7
        refine sj_aload_n dX12_colours_88 (i := 0) rfl rfl ?_
        refine sj_iload_n dX12_colours_89 (i := 2) rfl rfl ?_
        refine sj_iconst (v := (nI 0)) dX12_colours_90 (by decide +kernel) ?_
        refine sj_iload dX12_colours_91 rfl ?_
        obtain ⟨v8, σ8, hc8, h⟩ := h
        refine sj_callVi (M' := me_X12_free) (b := 56) (As := [.int x2, .int (nI 0), .int x4]) (rest := []) dX12_colours_93 gX12_colours_X12_free rfl hd_X12_free (by decide +kernel) (by decide +kernel) rfl (Nat.le_of_ble_eq_true rfl) (by omega) rfl hc8 ?_
        refine sj_istore dX12_colours_96 (by decide) ?_
        refine sj_aload_n dX12_colours_98 (i := 0) rfl rfl ?_
        refine sj_iload_n dX12_colours_99 (i := 2) rfl rfl ?_
        refine sj_iconst (v := (nI 1)) dX12_colours_100 (by decide +kernel) ?_
        refine sj_iload_n dX12_colours_101 (i := 3) rfl rfl ?_
        obtain ⟨v9, σ9, hc9, h⟩ := h
        refine sj_callVi (M' := me_X12_free) (b := 56) (As := [.int x2, .int (nI 1), .int x3]) (rest := []) dX12_colours_102 gX12_colours_X12_free rfl hd_X12_free (by decide +kernel) (by decide +kernel) rfl (Nat.le_of_ble_eq_true rfl) (by omega) rfl hc9 ?_
        refine sj_istore dX12_colours_105 (by decide) ?_
        refine sj_iconst (v := (nI 0)) dX12_colours_107 (by decide +kernel) ?_
        refine sj_istore dX12_colours_108 (by decide) ?_
        refine sj_aload_n dX12_colours_110 (i := 0) rfl rfl ?_
        refine sj_iload_n dX12_colours_111 (i := 2) rfl rfl ?_
        refine sj_iconst (v := (nI 1)) dX12_colours_112 (by decide +kernel) ?_
        refine sj_iload_n dX12_colours_113 (i := 3) rfl rfl ?_
        refine sj_iload dX12_colours_114 rfl ?_
        obtain ⟨v10, σ10, hc10, h⟩ := h
        refine sj_callVi (M' := me_X12_coloured) (b := 56) (As := [.int x2, .int (nI 1), .int x3, .int v8]) (rest := []) dX12_colours_116 gX12_colours_X12_coloured rfl hd_X12_coloured (by decide +kernel) (by decide +kernel) rfl (Nat.le_of_ble_eq_true rfl) (by omega) rfl hc10 ?_
        refine sj_istore dX12_colours_119 (by decide) ?_
        refine sj_fg [3, 4, 5] ?_
        exact h
      · replace h := h.2 c7
        refine sj_goto (tgt := 267) dX12_colours_85 (by decide) ?_
        refine sj_fg [3, 4, 5] ?_
        exact t_X12_colours_267 h
    · replace h := h.2 c4
      exact t_X12_colours_65 h
def wp_X12_colours_205 (G : sj_G) (R : sj_R) (x1 : Int32) (x2 : Int32) (x6 : Int32) (x7 : Int32) (x8 : Int32) (s0 : Int32) (s1 : Int32) (s2 : Int32) (s3 : Int32) (σ : sj_S) : Prop := ∃ v1 σ1, sj_C G 3 me_X12_coloured [.ref (sj_ad G 56), .int s3, .int s2, .int s1, .int s0] σ (.ok v1, σ1) ∧ sj_J G 5 me_X12_colours R 121 [.ref (sj_ad G 56), .int x1, .int x2, .null, .null, .null, .int x6, .int x7, .int x8, .int v1, .null] σ1 []
set_option maxRecDepth 20000 in
theorem t_X12_colours_205 {G : sj_G} {R : sj_R} {x1 : Int32} {x2 : Int32} {x6 : Int32} {x7 : Int32} {x8 : Int32} {s0 : Int32} {s1 : Int32} {s2 : Int32} {s3 : Int32} {σ : sj_S} (h : wp_X12_colours_205 G R x1 x2 x6 x7 x8 s0 s1 s2 s3 σ) : sj_J G 5 me_X12_colours R 205 [.ref (sj_ad G 56), .int x1, .int x2, .null, .null, .null, .int x6, .int x7, .int x8, .null, .null] σ [.int s0, .int s1, .int s2, .int s3, .ref (sj_ad G 56)] := by
  unfold wp_X12_colours_205 at h
  obtain ⟨v1, σ1, hc1, h⟩ := h
  refine sj_callVi (M' := me_X12_coloured) (b := 56) (As := [.int s3, .int s2, .int s1, .int s0]) (rest := []) dX12_colours_205 gX12_colours_X12_coloured rfl hd_X12_coloured (by decide +kernel) (by decide +kernel) rfl (Nat.le_of_ble_eq_true rfl) (by omega) rfl hc1 ?_
  refine sj_istore dX12_colours_208 (by decide) ?_
  refine sj_goto (tgt := 121) dX12_colours_210 (by decide) ?_
  exact h
def wp_X12_colours_193 (G : sj_G) (R : sj_R) (x1 : Int32) (x2 : Int32) (x6 : Int32) (x7 : Int32) (x8 : Int32) (x10 : Int32) (s0 : Int32) (s1 : Int32) (s2 : Int32) (σ : sj_S) : Prop := (wp_X12_colours_205 G R x1 x2 x6 x7 x8 (if x10 = 0 then x6 else x7) s0 s1 s2 σ)
set_option maxRecDepth 20000 in
theorem t_X12_colours_193 {G : sj_G} {R : sj_R} {x1 : Int32} {x2 : Int32} {x6 : Int32} {x7 : Int32} {x8 : Int32} {x10 : Int32} {s0 : Int32} {s1 : Int32} {s2 : Int32} {σ : sj_S} (h : wp_X12_colours_193 G R x1 x2 x6 x7 x8 x10 s0 s1 s2 σ) : sj_J G 5 me_X12_colours R 193 [.ref (sj_ad G 56), .int x1, .int x2, .null, .null, .null, .int x6, .int x7, .int x8, .null, .int x10] σ [.int s0, .int s1, .int s2, .ref (sj_ad G 56)] := by
  unfold wp_X12_colours_193 at h
  refine sj_iload dX12_colours_193 rfl ?_
  refine sj_if_eq (tgt := 203) dX12_colours_195 (by decide) (fun c1 => ?_) (fun c1 => ?_)
  · refine sj_iload dX12_colours_203 rfl ?_
    try simp only [if_pos c1] at h
    refine sj_fg [10] ?_
    exact t_X12_colours_205 h
  · refine sj_iload dX12_colours_198 rfl ?_
    refine sj_goto (tgt := 205) dX12_colours_200 (by decide) ?_
    try simp only [if_neg c1] at h
    refine sj_fg [10] ?_
    exact t_X12_colours_205 h
def wp_X12_colours_166 (G : sj_G) (R : sj_R) (x1 : Int32) (x2 : Int32) (x6 : Int32) (x7 : Int32) (x8 : Int32) (x9 : Int32) (x10 : Int32) (s0 : Int32) (s1 : Int32) (σ : sj_S) : Prop := ((x10 = 0) → vp_in ((nI 9) + x9) 128) ∧ ((¬ (x10 = 0)) → vp_in ((nI 0) + x9) 128) ∧ (wp_X12_colours_193 G R x1 x2 x6 x7 x8 x10 (if x10 = 0 then (σ 57 ((nI 9) + x9).toNatClampNeg) else (σ 57 ((nI 0) + x9).toNatClampNeg)) s0 s1 σ)
set_option maxRecDepth 20000 in
theorem t_X12_colours_166 {G : sj_G} {R : sj_R} {x1 : Int32} {x2 : Int32} {x6 : Int32} {x7 : Int32} {x8 : Int32} {x9 : Int32} {x10 : Int32} {s0 : Int32} {s1 : Int32} {σ : sj_S} (h : wp_X12_colours_166 G R x1 x2 x6 x7 x8 x9 x10 s0 s1 σ) : sj_J G 5 me_X12_colours R 166 [.ref (sj_ad G 56), .int x1, .int x2, .null, .null, .null, .int x6, .int x7, .int x8, .int x9, .int x10] σ [.int s0, .int s1, .ref (sj_ad G 56)] := by
  unfold wp_X12_colours_166 at h
  refine sj_iload dX12_colours_166 rfl ?_
  obtain ⟨f4, f5, h⟩ := h
  refine sj_if_eq (tgt := 183) dX12_colours_168 (by decide) (fun c1 => ?_) (fun c1 => ?_)
  · have b2 := f4 c1
    refine sj_aload_n dX12_colours_183 (i := 0) rfl rfl ?_
    refine sj_get (a := 56) (k9 := 1) (v := .ref (sj_ad G 57)) dX12_colours_184 (by decide +kernel) rfl ?_
    refine sj_bipush (v := (nI 9)) dX12_colours_187 (by decide +kernel) ?_
    refine sj_iload dX12_colours_189 rfl ?_
    refine sj_iadd dX12_colours_191 ?_
    refine sj_iald (a := 57) (j := ((nI 9) + x9).toNatClampNeg) (x := (σ 57 ((nI 9) + x9).toNatClampNeg)) dX12_colours_192 rfl (by decide +kernel) b2 rfl rfl ?_
    try simp only [if_pos c1] at h
    refine sj_fg [9] ?_
    exact t_X12_colours_193 h
  · have b3 := f5 c1
    refine sj_aload_n dX12_colours_171 (i := 0) rfl rfl ?_
    refine sj_get (a := 56) (k9 := 1) (v := .ref (sj_ad G 57)) dX12_colours_172 (by decide +kernel) rfl ?_
    refine sj_iconst (v := (nI 0)) dX12_colours_175 (by decide +kernel) ?_
    refine sj_iload dX12_colours_176 rfl ?_
    refine sj_iadd dX12_colours_178 ?_
    refine sj_iald (a := 57) (j := ((nI 0) + x9).toNatClampNeg) (x := (σ 57 ((nI 0) + x9).toNatClampNeg)) dX12_colours_179 rfl (by decide +kernel) b3 rfl rfl ?_
    refine sj_goto (tgt := 193) dX12_colours_180 (by decide) ?_
    try simp only [if_neg c1] at h
    refine sj_fg [9] ?_
    exact t_X12_colours_193 h
def wp_X12_colours_152 (G : sj_G) (R : sj_R) (x1 : Int32) (x2 : Int32) (x6 : Int32) (x7 : Int32) (x8 : Int32) (x9 : Int32) (s0 : Int32) (σ : sj_S) : Prop := (wp_X12_colours_166 G R x1 x2 x6 x7 x8 x9 s0 (if s0 = 0 then (nI 1) else (nI 0)) x2 σ)
set_option maxRecDepth 20000 in
theorem t_X12_colours_152 {G : sj_G} {R : sj_R} {x1 : Int32} {x2 : Int32} {x6 : Int32} {x7 : Int32} {x8 : Int32} {x9 : Int32} {s0 : Int32} {σ : sj_S} (h : wp_X12_colours_152 G R x1 x2 x6 x7 x8 x9 s0 σ) : sj_J G 5 me_X12_colours R 152 [.ref (sj_ad G 56), .int x1, .int x2, .null, .null, .null, .int x6, .int x7, .int x8, .int x9, .null] σ [.int s0] := by
  unfold wp_X12_colours_152 at h
  refine sj_istore dX12_colours_152 (by decide) ?_
  refine sj_aload_n dX12_colours_154 (i := 0) rfl rfl ?_
  refine sj_iload_n dX12_colours_155 (i := 2) rfl rfl ?_
  refine sj_iload dX12_colours_156 rfl ?_
  refine sj_if_ne (tgt := 165) dX12_colours_158 (by decide) (fun c1 => ?_) (fun c1 => ?_)
  · refine sj_iconst (v := (nI 0)) dX12_colours_165 (by decide +kernel) ?_
    try simp only [if_neg c1] at h
    exact t_X12_colours_166 h
  · refine sj_iconst (v := (nI 1)) dX12_colours_161 (by decide +kernel) ?_
    refine sj_goto (tgt := 166) dX12_colours_162 (by decide) ?_
    try simp only [if_pos c1] at h
    exact t_X12_colours_166 h
def wp_X12_colours_121 (G : sj_G) (R : sj_R) (x1 : Int32) (x2 : Int32) (x6 : Int32) (x7 : Int32) (x8 : Int32) (x9 : Int32) (σ : sj_S) : Prop := (x9 = (-1) → sj_J G 5 me_X12_colours R 216 [.ref (sj_ad G 56), .int x1, .int x2, .null, .null, .null, .int x6, .int x7, .int x8, .null, .int (nI 0)] σ []) ∧ (¬ (x9 = (-1)) → vp_in x8 9 ∧ (wp_X12_colours_152 G R x1 x2 x6 x7 (x8 + (nI 1)) x9 (if ((x8 + (nI 1)) - (x8 + (nI 1)) / (nI 2) * (nI 2)) = (nI 1) then (nI 1) else (nI 0)) (sj_st σ 65 x8.toNatClampNeg x9)))
set_option maxRecDepth 20000 in
theorem t_X12_colours_121 {G : sj_G} {R : sj_R} {x1 : Int32} {x2 : Int32} {x6 : Int32} {x7 : Int32} {x8 : Int32} {x9 : Int32} {σ : sj_S} (h : wp_X12_colours_121 G R x1 x2 x6 x7 x8 x9 σ) : sj_J G 5 me_X12_colours R 121 [.ref (sj_ad G 56), .int x1, .int x2, .null, .null, .null, .int x6, .int x7, .int x8, .int x9, .null] σ [] := by
  unfold wp_X12_colours_121 at h
  refine sj_iload dX12_colours_121 rfl ?_
  refine sj_iconst (v := (-1)) dX12_colours_123 (by decide +kernel) ?_
  refine sj_icmp_eq (tgt := 213) dX12_colours_124 (by decide) (fun c1 => ?_) (fun c1 => ?_)
  · replace h := h.1 c1
    refine sj_iconst (v := (nI 0)) dX12_colours_213 (by decide +kernel) ?_
    refine sj_istore dX12_colours_214 (by decide) ?_
    refine sj_fg [9] ?_
    exact h
  · replace h := h.2 c1
    refine sj_aload_n dX12_colours_127 (i := 0) rfl rfl ?_
    refine sj_get (a := 56) (k9 := 11) (v := .ref (sj_ad G 65)) dX12_colours_128 (by decide +kernel) rfl ?_
    refine sj_iload dX12_colours_131 rfl ?_
    refine sj_iload dX12_colours_133 rfl ?_
    obtain ⟨b2, h⟩ := h
    refine sj_iast (a := 65) (j := x8.toNatClampNeg) dX12_colours_135 rfl (by decide +kernel) b2 rfl ?_
    refine sj_iinc (v := (x8 + (nI 1))) dX12_colours_136 (by decide) rfl rfl ?_
    refine sj_iload dX12_colours_139 rfl ?_
    refine sj_iconst (v := (nI 2)) dX12_colours_141 (by decide +kernel) ?_
    refine sj_irem dX12_colours_142 (by decide +kernel) ?_
    refine sj_iconst (v := (nI 1)) dX12_colours_143 (by decide +kernel) ?_
    refine sj_icmp_ne (tgt := 151) dX12_colours_144 (by decide) (fun c3 => ?_) (fun c3 => ?_)
    · refine sj_iconst (v := (nI 0)) dX12_colours_151 (by decide +kernel) ?_
      try simp only [if_neg c3] at h
      exact t_X12_colours_152 h
    · refine sj_iconst (v := (nI 1)) dX12_colours_147 (by decide +kernel) ?_
      refine sj_goto (tgt := 152) dX12_colours_148 (by decide) ?_
      try simp only [if_pos c3] at h
      exact t_X12_colours_152 h
def wp_X12_colours_216 (G : sj_G) (R : sj_R) (x1 : Int32) (x2 : Int32) (x6 : Int32) (x7 : Int32) (x8 : Int32) (x10 : Int32) (σ : sj_S) : Prop := (x8 ≤ x10 → vp_in x2 9 ∧ (wp_X12_colours_267 G R x1 x2 (sj_st σ 64 x2.toNatClampNeg x6))) ∧ (¬ (x8 ≤ x10) → vp_in x10 9 ∧ vp_in x10 9 ∧ vp_in (σ 65 x10.toNatClampNeg) 9 ∧ vp_in (σ 65 x10.toNatClampNeg) 9 ∧ sj_J G 5 me_X12_colours R 216 [.ref (sj_ad G 56), .int x1, .int x2, .null, .null, .null, .int x6, .int x7, .int x8, .null, .int (x10 + (nI 1))] (sj_st σ 64 (σ 65 x10.toNatClampNeg).toNatClampNeg ((x6 + x7) - (σ 64 (σ 65 x10.toNatClampNeg).toNatClampNeg))) [])
set_option maxRecDepth 20000 in
theorem t_X12_colours_216 {G : sj_G} {R : sj_R} {x1 : Int32} {x2 : Int32} {x6 : Int32} {x7 : Int32} {x8 : Int32} {x10 : Int32} {σ : sj_S} (h : wp_X12_colours_216 G R x1 x2 x6 x7 x8 x10 σ) : sj_J G 5 me_X12_colours R 216 [.ref (sj_ad G 56), .int x1, .int x2, .null, .null, .null, .int x6, .int x7, .int x8, .null, .int x10] σ [] := by
  unfold wp_X12_colours_216 at h
  refine sj_iload dX12_colours_216 rfl ?_
  refine sj_iload dX12_colours_218 rfl ?_
  refine sj_icmp_ge (tgt := 259) dX12_colours_220 (by decide) (fun c1 => ?_) (fun c1 => ?_)
  · replace h := h.1 c1
    refine sj_aload_n dX12_colours_259 (i := 0) rfl rfl ?_
    refine sj_get (a := 56) (k9 := 10) (v := .ref (sj_ad G 64)) dX12_colours_260 (by decide +kernel) rfl ?_
    refine sj_iload_n dX12_colours_263 (i := 2) rfl rfl ?_
    refine sj_iload dX12_colours_264 rfl ?_
    obtain ⟨b2, h⟩ := h
    refine sj_iast (a := 64) (j := x2.toNatClampNeg) dX12_colours_266 rfl (by decide +kernel) b2 rfl ?_
    refine sj_fg [6, 7, 8, 10] ?_
    exact t_X12_colours_267 h
  · replace h := h.2 c1
    refine sj_aload_n dX12_colours_223 (i := 0) rfl rfl ?_
    refine sj_get (a := 56) (k9 := 10) (v := .ref (sj_ad G 64)) dX12_colours_224 (by decide +kernel) rfl ?_
    refine sj_aload_n dX12_colours_227 (i := 0) rfl rfl ?_
    refine sj_get (a := 56) (k9 := 11) (v := .ref (sj_ad G 65)) dX12_colours_228 (by decide +kernel) rfl ?_
    refine sj_iload dX12_colours_231 rfl ?_
    obtain ⟨b3, h⟩ := h
    refine sj_iald (a := 65) (j := x10.toNatClampNeg) (x := (σ 65 x10.toNatClampNeg)) dX12_colours_233 rfl (by decide +kernel) b3 rfl rfl ?_
    refine sj_iload dX12_colours_234 rfl ?_
    refine sj_iload dX12_colours_236 rfl ?_
    refine sj_iadd dX12_colours_238 ?_
    refine sj_aload_n dX12_colours_239 (i := 0) rfl rfl ?_
    refine sj_get (a := 56) (k9 := 10) (v := .ref (sj_ad G 64)) dX12_colours_240 (by decide +kernel) rfl ?_
    refine sj_aload_n dX12_colours_243 (i := 0) rfl rfl ?_
    refine sj_get (a := 56) (k9 := 11) (v := .ref (sj_ad G 65)) dX12_colours_244 (by decide +kernel) rfl ?_
    refine sj_iload dX12_colours_247 rfl ?_
    obtain ⟨b4, h⟩ := h
    refine sj_iald (a := 65) (j := x10.toNatClampNeg) (x := (σ 65 x10.toNatClampNeg)) dX12_colours_249 rfl (by decide +kernel) b4 rfl rfl ?_
    obtain ⟨b5, h⟩ := h
    refine sj_iald (a := 64) (j := (σ 65 x10.toNatClampNeg).toNatClampNeg) (x := (σ 64 (σ 65 x10.toNatClampNeg).toNatClampNeg)) dX12_colours_250 rfl (by decide +kernel) b5 rfl rfl ?_
    refine sj_isub dX12_colours_251 ?_
    obtain ⟨b6, h⟩ := h
    refine sj_iast (a := 64) (j := (σ 65 x10.toNatClampNeg).toNatClampNeg) dX12_colours_252 rfl (by decide +kernel) b6 rfl ?_
    refine sj_iinc (v := (x10 + (nI 1))) dX12_colours_253 (by decide) rfl rfl ?_
    refine sj_goto (tgt := 216) dX12_colours_256 (by decide) ?_
    exact h
def wp_X12_colours_0 (G : sj_G) (R : sj_R) (σ : sj_S) : Prop := ∃ v1 σ1, sj_C G 3 me_X12_mostOf [.ref (sj_ad G 56)] σ (.ok v1, σ1) ∧ sj_J G 5 me_X12_colours R 7 [.ref (sj_ad G 56), .int v1, .int (nI 0), .null, .null, .null, .null, .null, .null, .null, .null] σ1 []
set_option maxRecDepth 20000 in
theorem t_X12_colours_0 {G : sj_G} {R : sj_R} {σ : sj_S} (h : wp_X12_colours_0 G R σ) : sj_J G 5 me_X12_colours R 0 [.ref (sj_ad G 56), .null, .null, .null, .null, .null, .null, .null, .null, .null, .null] σ [] := by
  unfold wp_X12_colours_0 at h
  refine sj_aload_n dX12_colours_0 (i := 0) rfl rfl ?_
  obtain ⟨v1, σ1, hc1, h⟩ := h
  refine sj_callVi (M' := me_X12_mostOf) (b := 56) (As := []) (rest := []) dX12_colours_1 gX12_colours_X12_mostOf rfl hd_X12_mostOf (by decide +kernel) (by decide +kernel) rfl (Nat.le_of_ble_eq_true rfl) (by omega) rfl hc1 ?_
  refine sj_istore_n dX12_colours_4 (i := 1) rfl (by decide) ?_
  refine sj_iconst (v := (nI 0)) dX12_colours_5 (by decide +kernel) ?_
  refine sj_istore_n dX12_colours_6 (i := 2) rfl (by decide) ?_
  exact h
theorem c_X12_colours {G : sj_G} (ok : sj_ok G) {R : sj_R} {σ : sj_S} (h : wp_X12_colours_0 G R σ) : sj_C G 5 me_X12_colours [.ref (sj_ad G 56)] σ R :=
  sj_enter ok (by decide +kernel) rfl rfl (Nat.le_of_ble_eq_true rfl) (by simp [Value.category]) (t_X12_colours_0 h)
def wp_X12_most_0 (G : sj_G) (R : sj_R) (σ : sj_S) : Prop := ∃ v1 σ1, sj_C G 3 me_X12_mostOf [.ref (sj_ad G 56)] (sj_st σ 56 0 (nI 0)) (.ok v1, σ1) ∧ R = (.ok v1, σ1)
set_option maxRecDepth 20000 in
theorem t_X12_most_0 {G : sj_G} {R : sj_R} {σ : sj_S} (h : wp_X12_most_0 G R σ) : sj_J G 4 me_X12_most R 0 [.ref (sj_ad G 56)] σ [] := by
  unfold wp_X12_most_0 at h
  refine sj_aload_n dX12_most_0 (i := 0) rfl rfl ?_
  refine sj_iconst (v := (nI 0)) dX12_most_1 (by decide +kernel) ?_
  refine sj_put (a := 56) (k9 := 0) dX12_most_2 (by decide +kernel) (by decide +kernel) rfl ?_
  refine sj_aload_n dX12_most_5 (i := 0) rfl rfl ?_
  obtain ⟨v1, σ1, hc1, h⟩ := h
  refine sj_callVi (M' := me_X12_mostOf) (b := 56) (As := []) (rest := []) dX12_most_6 gX12_most_X12_mostOf rfl hd_X12_mostOf (by decide +kernel) (by decide +kernel) rfl (Nat.le_of_ble_eq_true rfl) (by omega) rfl hc1 ?_
  subst h
  exact sj_ret dX12_most_9 rfl rfl
theorem c_X12_most {G : sj_G} (ok : sj_ok G) {R : sj_R} {σ : sj_S} (h : wp_X12_most_0 G R σ) : sj_C G 4 me_X12_most [.ref (sj_ad G 56)] σ R :=
  sj_enter ok (by decide +kernel) rfl rfl (Nat.le_of_ble_eq_true rfl) (by simp [Value.category]) (t_X12_most_0 h)
def wp_X12_colour_0 (G : sj_G) (R : sj_R) (x1 : Int32) (σ : sj_S) : Prop := ∃ v1 σ1, sj_C G 3 me_X12_noLesson [.ref (sj_ad G 56), .int x1, .int (nI 1)] (sj_st σ 56 0 (nI 0)) (.ok v1, σ1) ∧ (v1 = 0 → ∃ σ3, sj_C G 5 me_X12_colours [.ref (sj_ad G 56)] σ1 (.ok 0, σ3) ∧ vp_in x1 9 ∧ R = (.ok (σ3 64 x1.toNatClampNeg), σ3)) ∧ (¬ (v1 = 0) → R = (.ok (nI 0), σ1))
set_option maxRecDepth 20000 in
theorem t_X12_colour_0 {G : sj_G} {R : sj_R} {x1 : Int32} {σ : sj_S} (h : wp_X12_colour_0 G R x1 σ) : sj_J G 6 me_X12_colour R 0 [.ref (sj_ad G 56), .int x1] σ [] := by
  unfold wp_X12_colour_0 at h
  refine sj_aload_n dX12_colour_0 (i := 0) rfl rfl ?_
  refine sj_iconst (v := (nI 0)) dX12_colour_1 (by decide +kernel) ?_
  refine sj_put (a := 56) (k9 := 0) dX12_colour_2 (by decide +kernel) (by decide +kernel) rfl ?_
  refine sj_aload_n dX12_colour_5 (i := 0) rfl rfl ?_
  refine sj_iload_n dX12_colour_6 (i := 1) rfl rfl ?_
  refine sj_iconst (v := (nI 1)) dX12_colour_7 (by decide +kernel) ?_
  obtain ⟨v1, σ1, hc1, h⟩ := h
  refine sj_callVi (M' := me_X12_noLesson) (b := 56) (As := [.int x1, .int (nI 1)]) (rest := []) dX12_colour_8 gX12_colour_X12_noLesson rfl hd_X12_noLesson (by decide +kernel) (by decide +kernel) rfl (Nat.le_of_ble_eq_true rfl) (by omega) rfl hc1 ?_
  refine sj_if_eq (tgt := 16) dX12_colour_11 (by decide) (fun c2 => ?_) (fun c2 => ?_)
  · replace h := h.1 c2
    refine sj_aload_n dX12_colour_16 (i := 0) rfl rfl ?_
    obtain ⟨σ3, hc3, h⟩ := h
    refine sj_callVv (M' := me_X12_colours) (b := 56) (As := []) (rest := []) dX12_colour_17 gX12_colour_X12_colours rfl hd_X12_colours (by decide +kernel) (by decide +kernel) rfl (Nat.le_of_ble_eq_true rfl) (by omega) rfl hc3 ?_
    refine sj_aload_n dX12_colour_20 (i := 0) rfl rfl ?_
    refine sj_get (a := 56) (k9 := 10) (v := .ref (sj_ad G 64)) dX12_colour_21 (by decide +kernel) rfl ?_
    refine sj_iload_n dX12_colour_24 (i := 1) rfl rfl ?_
    obtain ⟨b4, h⟩ := h
    refine sj_iald (a := 64) (j := x1.toNatClampNeg) (x := (σ3 64 x1.toNatClampNeg)) dX12_colour_25 rfl (by decide +kernel) b4 rfl rfl ?_
    subst h
    exact sj_ret dX12_colour_26 rfl rfl
  · replace h := h.2 c2
    refine sj_iconst (v := (nI 0)) dX12_colour_14 (by decide +kernel) ?_
    subst h
    exact sj_ret dX12_colour_15 rfl rfl
theorem c_X12_colour {G : sj_G} (ok : sj_ok G) {R : sj_R} {x1 : Int32} {σ : sj_S} (h : wp_X12_colour_0 G R x1 σ) : sj_C G 6 me_X12_colour [.ref (sj_ad G 56), .int x1] σ R :=
  sj_enter ok (by decide +kernel) rfl rfl (Nat.le_of_ble_eq_true rfl) (by simp [Value.category]) (t_X12_colour_0 h)
def wp_X12_isIll_22 (G : sj_G) (R : sj_R) (s0 : Int32) (σ : sj_S) : Prop := R = (.ok s0, σ) ∧ (s0 = nI 0 ∨ s0 = nI 1)
set_option maxRecDepth 20000 in
theorem t_X12_isIll_22 {G : sj_G} {R : sj_R} {s0 : Int32} {σ : sj_S} (h : wp_X12_isIll_22 G R s0 σ) : sj_J G 2 me_X12_isIll R 22 [.null, .null, .null] σ [.int s0] := by
  unfold wp_X12_isIll_22 at h
  obtain ⟨h, hz⟩ := h
  subst h
  exact sj_ret dX12_isIll_22 rfl (sj_nb hz)
def wp_X12_isIll_0 (G : sj_G) (R : sj_R) (x1 : Int32) (x2 : Int32) (σ : sj_S) : Prop := vp_in ((nI 102) + x1) 128 ∧ (wp_X12_isIll_22 G R (if (((σ 57 ((nI 102) + x1).toNatClampNeg) >>> (x2 &&& 31)) &&& (nI 1)) = (nI 1) then (nI 1) else (nI 0)) σ)
set_option maxRecDepth 20000 in
theorem t_X12_isIll_0 {G : sj_G} {R : sj_R} {x1 : Int32} {x2 : Int32} {σ : sj_S} (h : wp_X12_isIll_0 G R x1 x2 σ) : sj_J G 2 me_X12_isIll R 0 [.ref (sj_ad G 56), .int x1, .int x2] σ [] := by
  unfold wp_X12_isIll_0 at h
  refine sj_aload_n dX12_isIll_0 (i := 0) rfl rfl ?_
  refine sj_get (a := 56) (k9 := 1) (v := .ref (sj_ad G 57)) dX12_isIll_1 (by decide +kernel) rfl ?_
  refine sj_bipush (v := (nI 102)) dX12_isIll_4 (by decide +kernel) ?_
  refine sj_iload_n dX12_isIll_6 (i := 1) rfl rfl ?_
  refine sj_iadd dX12_isIll_7 ?_
  obtain ⟨b1, h⟩ := h
  refine sj_iald (a := 57) (j := ((nI 102) + x1).toNatClampNeg) (x := (σ 57 ((nI 102) + x1).toNatClampNeg)) dX12_isIll_8 rfl (by decide +kernel) b1 rfl rfl ?_
  refine sj_iload_n dX12_isIll_9 (i := 2) rfl rfl ?_
  refine sj_ishr dX12_isIll_10 ?_
  refine sj_iconst (v := (nI 1)) dX12_isIll_11 (by decide +kernel) ?_
  refine sj_iand dX12_isIll_12 ?_
  refine sj_iconst (v := (nI 1)) dX12_isIll_13 (by decide +kernel) ?_
  refine sj_icmp_ne (tgt := 21) dX12_isIll_14 (by decide) (fun c2 => ?_) (fun c2 => ?_)
  · refine sj_iconst (v := (nI 0)) dX12_isIll_21 (by decide +kernel) ?_
    try simp only [if_neg c2] at h
    refine sj_fg [0, 1, 2] ?_
    exact t_X12_isIll_22 h
  · refine sj_iconst (v := (nI 1)) dX12_isIll_17 (by decide +kernel) ?_
    refine sj_goto (tgt := 22) dX12_isIll_18 (by decide) ?_
    try simp only [if_pos c2] at h
    refine sj_fg [0, 1, 2] ?_
    exact t_X12_isIll_22 h
theorem c_X12_isIll {G : sj_G} (ok : sj_ok G) {R : sj_R} {x1 : Int32} {x2 : Int32} {σ : sj_S} (h : wp_X12_isIll_0 G R x1 x2 σ) : sj_C G 2 me_X12_isIll [.ref (sj_ad G 56), .int x1, .int x2] σ R :=
  sj_enter ok (by decide +kernel) rfl rfl (Nat.le_of_ble_eq_true rfl) (by simp [Value.category]) (t_X12_isIll_0 h)
def wp_X12_canTake_52 (G : sj_G) (R : sj_R) (s0 : Int32) (σ : sj_S) : Prop := R = (.ok s0, σ) ∧ (s0 = nI 0 ∨ s0 = nI 1)
set_option maxRecDepth 20000 in
theorem t_X12_canTake_52 {G : sj_G} {R : sj_R} {s0 : Int32} {σ : sj_S} (h : wp_X12_canTake_52 G R s0 σ) : sj_J G 5 me_X12_canTake R 52 [.null, .null, .null, .null] σ [.int s0] := by
  unfold wp_X12_canTake_52 at h
  obtain ⟨h, hz⟩ := h
  subst h
  exact sj_ret dX12_canTake_52 rfl (sj_nb hz)
def wp_X12_canTake_51 (G : sj_G) (R : sj_R) (σ : sj_S) : Prop := (wp_X12_canTake_52 G R (nI 0) σ)
set_option maxRecDepth 20000 in
theorem t_X12_canTake_51 {G : sj_G} {R : sj_R} {σ : sj_S} (h : wp_X12_canTake_51 G R σ) : sj_J G 5 me_X12_canTake R 51 [.null, .null, .null, .null] σ [] := by
  unfold wp_X12_canTake_51 at h
  refine sj_iconst (v := (nI 0)) dX12_canTake_51 (by decide +kernel) ?_
  exact t_X12_canTake_52 h
def wp_X12_canTake_0 (G : sj_G) (R : sj_R) (x1 : Int32) (x2 : Int32) (x3 : Int32) (σ : sj_S) : Prop := vp_in ((nI 93) + x1) 128 ∧ vp_in ((nI 18) + x2) 128 ∧ (¬ (((σ 57 ((nI 93) + x1).toNatClampNeg) >>> ((σ 57 ((nI 18) + x2).toNatClampNeg) &&& 31)) &&& (nI 1)) = (nI 1) → (wp_X12_canTake_51 G R σ)) ∧ ((((σ 57 ((nI 93) + x1).toNatClampNeg) >>> ((σ 57 ((nI 18) + x2).toNatClampNeg) &&& 31)) &&& (nI 1)) = (nI 1) → ∃ v5 σ5, sj_C G 2 me_X12_isIll [.ref (sj_ad G 56), .int x1, .int (x3 / (nI 4))] σ (.ok v5, σ5) ∧ (¬ v5 = 0 → (wp_X12_canTake_51 G R σ5)) ∧ (v5 = 0 → ∃ v8 σ8, sj_C G 4 me_X12_lessonThen [.ref (sj_ad G 56), .int (nI 1), .int x1, .int x3] σ5 (.ok v8, σ8) ∧ (wp_X12_canTake_52 G R (if v8 = (-1) then (nI 1) else (nI 0)) σ8)))
set_option maxRecDepth 20000 in
theorem t_X12_canTake_0 {G : sj_G} {R : sj_R} {x1 : Int32} {x2 : Int32} {x3 : Int32} {σ : sj_S} (h : wp_X12_canTake_0 G R x1 x2 x3 σ) : sj_J G 5 me_X12_canTake R 0 [.ref (sj_ad G 56), .int x1, .int x2, .int x3] σ [] := by
  unfold wp_X12_canTake_0 at h
  refine sj_aload_n dX12_canTake_0 (i := 0) rfl rfl ?_
  refine sj_get (a := 56) (k9 := 1) (v := .ref (sj_ad G 57)) dX12_canTake_1 (by decide +kernel) rfl ?_
  refine sj_bipush (v := (nI 93)) dX12_canTake_4 (by decide +kernel) ?_
  refine sj_iload_n dX12_canTake_6 (i := 1) rfl rfl ?_
  refine sj_iadd dX12_canTake_7 ?_
  obtain ⟨b1, h⟩ := h
  refine sj_iald (a := 57) (j := ((nI 93) + x1).toNatClampNeg) (x := (σ 57 ((nI 93) + x1).toNatClampNeg)) dX12_canTake_8 rfl (by decide +kernel) b1 rfl rfl ?_
  refine sj_aload_n dX12_canTake_9 (i := 0) rfl rfl ?_
  refine sj_get (a := 56) (k9 := 1) (v := .ref (sj_ad G 57)) dX12_canTake_10 (by decide +kernel) rfl ?_
  refine sj_bipush (v := (nI 18)) dX12_canTake_13 (by decide +kernel) ?_
  refine sj_iload_n dX12_canTake_15 (i := 2) rfl rfl ?_
  refine sj_iadd dX12_canTake_16 ?_
  obtain ⟨b2, h⟩ := h
  refine sj_iald (a := 57) (j := ((nI 18) + x2).toNatClampNeg) (x := (σ 57 ((nI 18) + x2).toNatClampNeg)) dX12_canTake_17 rfl (by decide +kernel) b2 rfl rfl ?_
  refine sj_ishr dX12_canTake_18 ?_
  refine sj_iconst (v := (nI 1)) dX12_canTake_19 (by decide +kernel) ?_
  refine sj_iand dX12_canTake_20 ?_
  refine sj_iconst (v := (nI 1)) dX12_canTake_21 (by decide +kernel) ?_
  refine sj_icmp_ne (tgt := 51) dX12_canTake_22 (by decide) (fun c4 => ?_) (fun c4 => ?_)
  · replace h := h.1 c4
    refine sj_fg [0, 1, 2, 3] ?_
    exact t_X12_canTake_51 h
  · replace h := h.2 c4
    refine sj_aload_n dX12_canTake_25 (i := 0) rfl rfl ?_
    refine sj_iload_n dX12_canTake_26 (i := 1) rfl rfl ?_
    refine sj_iload_n dX12_canTake_27 (i := 3) rfl rfl ?_
    refine sj_iconst (v := (nI 4)) dX12_canTake_28 (by decide +kernel) ?_
    refine sj_idiv dX12_canTake_29 (by decide +kernel) ?_
    obtain ⟨v5, σ5, hc5, h⟩ := h
    refine sj_callVi (M' := me_X12_isIll) (b := 56) (As := [.int x1, .int (x3 / (nI 4))]) (rest := []) dX12_canTake_30 gX12_canTake_X12_isIll rfl hd_X12_isIll (by decide +kernel) (by decide +kernel) rfl (Nat.le_of_ble_eq_true rfl) (by omega) rfl hc5 ?_
    refine sj_if_ne (tgt := 51) dX12_canTake_33 (by decide) (fun c7 => ?_) (fun c7 => ?_)
    · replace h := h.1 c7
      refine sj_fg [0, 1, 2, 3] ?_
      exact t_X12_canTake_51 h
    · replace h := h.2 c7
      refine sj_aload_n dX12_canTake_36 (i := 0) rfl rfl ?_
      refine sj_iconst (v := (nI 1)) dX12_canTake_37 (by decide +kernel) ?_
      refine sj_iload_n dX12_canTake_38 (i := 1) rfl rfl ?_
      refine sj_iload_n dX12_canTake_39 (i := 3) rfl rfl ?_
      obtain ⟨v8, σ8, hc8, h⟩ := h
      refine sj_callVi (M' := me_X12_lessonThen) (b := 56) (As := [.int (nI 1), .int x1, .int x3]) (rest := []) dX12_canTake_40 gX12_canTake_X12_lessonThen rfl hd_X12_lessonThen (by decide +kernel) (by decide +kernel) rfl (Nat.le_of_ble_eq_true rfl) (by omega) rfl hc8 ?_
      refine sj_iconst (v := (-1)) dX12_canTake_43 (by decide +kernel) ?_
      refine sj_icmp_ne (tgt := 51) dX12_canTake_44 (by decide) (fun c9 => ?_) (fun c9 => ?_)
      · refine sj_iconst (v := (nI 0)) dX12_canTake_51 (by decide +kernel) ?_
        try simp only [if_neg c9] at h
        refine sj_fg [0, 1, 2, 3] ?_
        exact t_X12_canTake_52 h
      · refine sj_iconst (v := (nI 1)) dX12_canTake_47 (by decide +kernel) ?_
        refine sj_goto (tgt := 52) dX12_canTake_48 (by decide) ?_
        try simp only [if_pos c9] at h
        refine sj_fg [0, 1, 2, 3] ?_
        exact t_X12_canTake_52 h
theorem c_X12_canTake {G : sj_G} (ok : sj_ok G) {R : sj_R} {x1 : Int32} {x2 : Int32} {x3 : Int32} {σ : sj_S} (h : wp_X12_canTake_0 G R x1 x2 x3 σ) : sj_C G 5 me_X12_canTake [.ref (sj_ad G 56), .int x1, .int x2, .int x3] σ R :=
  sj_enter ok (by decide +kernel) rfl rfl (Nat.le_of_ble_eq_true rfl) (by simp [Value.category]) (t_X12_canTake_0 h)
def wp_X12_plans_66 (G : sj_G) (R : sj_R) (x1 : Int32) (x2 : Int32) (σ : sj_S) : Prop := sj_J G 7 me_X12_plans R 7 [.ref (sj_ad G 56), .int x1, .int (x2 + (nI 1)), .null, .null, .null, .null] σ []
set_option maxRecDepth 20000 in
theorem t_X12_plans_66 {G : sj_G} {R : sj_R} {x1 : Int32} {x2 : Int32} {σ : sj_S} (h : wp_X12_plans_66 G R x1 x2 σ) : sj_J G 7 me_X12_plans R 66 [.ref (sj_ad G 56), .int x1, .int x2, .null, .null, .null, .null] σ [] := by
  unfold wp_X12_plans_66 at h
  refine sj_iinc (v := (x2 + (nI 1))) dX12_plans_66 (by decide) rfl rfl ?_
  refine sj_goto (tgt := 7) dX12_plans_69 (by decide) ?_
  exact h
def wp_X12_plans_7 (G : sj_G) (R : sj_R) (x1 : Int32) (x2 : Int32) (σ : sj_S) : Prop := ∃ v1 σ1, sj_C G 2 me_X12_many [.ref (sj_ad G 56)] σ (.ok v1, σ1) ∧ (v1 ≤ x2 → sj_J G 7 me_X12_plans R 81 [.ref (sj_ad G 56), .int x1, .int (nI 1), .int (nI 0), .null, .null, .null] (sj_st σ1 56 16 (-1)) []) ∧ (¬ (v1 ≤ x2) → ∃ v3 σ3, sj_C G 3 me_X12_isAt [.ref (sj_ad G 56), .int x2, .int x1] σ1 (.ok v3, σ3) ∧ (v3 = 0 → (wp_X12_plans_66 G R x1 x2 σ3)) ∧ (¬ (v3 = 0) → vp_in ((nI 9) + x2) 128 ∧ ∃ v8 σ8, sj_C G 2 me_X12_isIll [.ref (sj_ad G 56), .int (σ3 57 ((nI 9) + x2).toNatClampNeg), .int (x1 / (nI 4))] σ3 (.ok v8, σ8) ∧ ((¬ (v8 = 0)) → vp_in (σ8 56 15) 9) ∧ (wp_X12_plans_66 G R x1 x2 (if v8 = 0 then σ8 else (sj_st (sj_st σ8 66 (σ8 56 15).toNatClampNeg x2) 56 15 ((σ8 56 15) + (nI 1)))))))
set_option maxRecDepth 20000 in
theorem t_X12_plans_7 {G : sj_G} {R : sj_R} {x1 : Int32} {x2 : Int32} {σ : sj_S} (h : wp_X12_plans_7 G R x1 x2 σ) : sj_J G 7 me_X12_plans R 7 [.ref (sj_ad G 56), .int x1, .int x2, .null, .null, .null, .null] σ [] := by
  unfold wp_X12_plans_7 at h
  refine sj_iload_n dX12_plans_7 (i := 2) rfl rfl ?_
  refine sj_aload_n dX12_plans_8 (i := 0) rfl rfl ?_
  obtain ⟨v1, σ1, hc1, h⟩ := h
  refine sj_callVi (M' := me_X12_many) (b := 56) (As := []) (rest := [.int x2]) dX12_plans_9 gX12_plans_X12_many rfl hd_X12_many (by decide +kernel) (by decide +kernel) rfl (Nat.le_of_ble_eq_true rfl) (by omega) rfl hc1 ?_
  refine sj_icmp_ge (tgt := 72) dX12_plans_12 (by decide) (fun c2 => ?_) (fun c2 => ?_)
  · replace h := h.1 c2
    refine sj_aload_n dX12_plans_72 (i := 0) rfl rfl ?_
    refine sj_iconst (v := (-1)) dX12_plans_73 (by decide +kernel) ?_
    refine sj_put (a := 56) (k9 := 16) dX12_plans_74 (by decide +kernel) (by decide +kernel) rfl ?_
    refine sj_iconst (v := (nI 1)) dX12_plans_77 (by decide +kernel) ?_
    refine sj_istore_n dX12_plans_78 (i := 2) rfl (by decide) ?_
    refine sj_iconst (v := (nI 0)) dX12_plans_79 (by decide +kernel) ?_
    refine sj_istore_n dX12_plans_80 (i := 3) rfl (by decide) ?_
    exact h
  · replace h := h.2 c2
    refine sj_aload_n dX12_plans_15 (i := 0) rfl rfl ?_
    refine sj_iload_n dX12_plans_16 (i := 2) rfl rfl ?_
    refine sj_iload_n dX12_plans_17 (i := 1) rfl rfl ?_
    obtain ⟨v3, σ3, hc3, h⟩ := h
    refine sj_callVi (M' := me_X12_isAt) (b := 56) (As := [.int x2, .int x1]) (rest := []) dX12_plans_18 gX12_plans_X12_isAt rfl hd_X12_isAt (by decide +kernel) (by decide +kernel) rfl (Nat.le_of_ble_eq_true rfl) (by omega) rfl hc3 ?_
    refine sj_if_eq (tgt := 66) dX12_plans_21 (by decide) (fun c6 => ?_) (fun c6 => ?_)
    · replace h := h.1 c6
      exact t_X12_plans_66 h
    · replace h := h.2 c6
      refine sj_aload_n dX12_plans_24 (i := 0) rfl rfl ?_
      refine sj_aload_n dX12_plans_25 (i := 0) rfl rfl ?_
      refine sj_get (a := 56) (k9 := 1) (v := .ref (sj_ad G 57)) dX12_plans_26 (by decide +kernel) rfl ?_
      refine sj_bipush (v := (nI 9)) dX12_plans_29 (by decide +kernel) ?_
      refine sj_iload_n dX12_plans_31 (i := 2) rfl rfl ?_
      refine sj_iadd dX12_plans_32 ?_
      obtain ⟨b7, h⟩ := h
      refine sj_iald (a := 57) (j := ((nI 9) + x2).toNatClampNeg) (x := (σ3 57 ((nI 9) + x2).toNatClampNeg)) dX12_plans_33 rfl (by decide +kernel) b7 rfl rfl ?_
      refine sj_iload_n dX12_plans_34 (i := 1) rfl rfl ?_
      refine sj_iconst (v := (nI 4)) dX12_plans_35 (by decide +kernel) ?_
      refine sj_idiv dX12_plans_36 (by decide +kernel) ?_
      obtain ⟨v8, σ8, hc8, h⟩ := h
      refine sj_callVi (M' := me_X12_isIll) (b := 56) (As := [.int (σ3 57 ((nI 9) + x2).toNatClampNeg), .int (x1 / (nI 4))]) (rest := []) dX12_plans_37 gX12_plans_X12_isIll rfl hd_X12_isIll (by decide +kernel) (by decide +kernel) rfl (Nat.le_of_ble_eq_true rfl) (by omega) rfl hc8 ?_
      obtain ⟨f11, h⟩ := h
      refine sj_if_ne (tgt := 46) dX12_plans_40 (by decide) (fun c9 => ?_) (fun c9 => ?_)
      · have b10 := f11 c9
        refine sj_aload_n dX12_plans_46 (i := 0) rfl rfl ?_
        refine sj_get (a := 56) (k9 := 12) (v := .ref (sj_ad G 66)) dX12_plans_47 (by decide +kernel) rfl ?_
        refine sj_aload_n dX12_plans_50 (i := 0) rfl rfl ?_
        refine sj_get (a := 56) (k9 := 15) (v := .int (σ8 56 15)) dX12_plans_51 (by decide +kernel) rfl ?_
        refine sj_iload_n dX12_plans_54 (i := 2) rfl rfl ?_
        refine sj_iast (a := 66) (j := (σ8 56 15).toNatClampNeg) dX12_plans_55 rfl (by decide +kernel) b10 rfl ?_
        refine sj_aload_n dX12_plans_56 (i := 0) rfl rfl ?_
        refine sj_dup dX12_plans_57 rfl ?_
        refine sj_get (a := 56) (k9 := 15) (v := .int (σ8 56 15)) dX12_plans_58 (by decide +kernel) rfl ?_
        refine sj_iconst (v := (nI 1)) dX12_plans_61 (by decide +kernel) ?_
        refine sj_iadd dX12_plans_62 ?_
        refine sj_put (a := 56) (k9 := 15) dX12_plans_63 (by decide +kernel) (by decide +kernel) rfl ?_
        try simp only [if_neg c9] at h
        exact t_X12_plans_66 h
      · refine sj_goto (tgt := 66) dX12_plans_43 (by decide) ?_
        try simp only [if_pos c9] at h
        exact t_X12_plans_66 h
def wp_X12_plans_81 (G : sj_G) (R : sj_R) (x1 : Int32) (x2 : Int32) (x3 : Int32) (σ : sj_S) : Prop := ((σ 56 15) ≤ x3 → sj_J G 7 me_X12_plans R 102 [.ref (sj_ad G 56), .int x1, .int x2, .int (nI 0), .null, .null, .null] σ []) ∧ (¬ ((σ 56 15) ≤ x3) → sj_J G 7 me_X12_plans R 81 [.ref (sj_ad G 56), .int x1, .int (x2 * (nI 7)), .int (x3 + (nI 1)), .null, .null, .null] σ [])
set_option maxRecDepth 20000 in
theorem t_X12_plans_81 {G : sj_G} {R : sj_R} {x1 : Int32} {x2 : Int32} {x3 : Int32} {σ : sj_S} (h : wp_X12_plans_81 G R x1 x2 x3 σ) : sj_J G 7 me_X12_plans R 81 [.ref (sj_ad G 56), .int x1, .int x2, .int x3, .null, .null, .null] σ [] := by
  unfold wp_X12_plans_81 at h
  refine sj_iload_n dX12_plans_81 (i := 3) rfl rfl ?_
  refine sj_aload_n dX12_plans_82 (i := 0) rfl rfl ?_
  refine sj_get (a := 56) (k9 := 15) (v := .int (σ 56 15)) dX12_plans_83 (by decide +kernel) rfl ?_
  refine sj_icmp_ge (tgt := 100) dX12_plans_86 (by decide) (fun c1 => ?_) (fun c1 => ?_)
  · replace h := h.1 c1
    refine sj_iconst (v := (nI 0)) dX12_plans_100 (by decide +kernel) ?_
    refine sj_istore_n dX12_plans_101 (i := 3) rfl (by decide) ?_
    exact h
  · replace h := h.2 c1
    refine sj_iload_n dX12_plans_89 (i := 2) rfl rfl ?_
    refine sj_bipush (v := (nI 7)) dX12_plans_90 (by decide +kernel) ?_
    refine sj_imul dX12_plans_92 ?_
    refine sj_istore_n dX12_plans_93 (i := 2) rfl (by decide) ?_
    refine sj_iinc (v := (x3 + (nI 1))) dX12_plans_94 (by decide) rfl rfl ?_
    refine sj_goto (tgt := 81) dX12_plans_97 (by decide) ?_
    exact h
def wp_X12_plans_102 (G : sj_G) (R : sj_R) (x1 : Int32) (x2 : Int32) (x3 : Int32) (σ : sj_S) : Prop := (x2 ≤ x3 → R = (.ok 0, σ)) ∧ (¬ (x2 ≤ x3) → sj_J G 7 me_X12_plans R 118 [.ref (sj_ad G 56), .int x1, .int x2, .int x3, .int x3, .int ((σ 56 15) - (nI 1)), .null] σ [])
set_option maxRecDepth 20000 in
theorem t_X12_plans_102 {G : sj_G} {R : sj_R} {x1 : Int32} {x2 : Int32} {x3 : Int32} {σ : sj_S} (h : wp_X12_plans_102 G R x1 x2 x3 σ) : sj_J G 7 me_X12_plans R 102 [.ref (sj_ad G 56), .int x1, .int x2, .int x3, .null, .null, .null] σ [] := by
  unfold wp_X12_plans_102 at h
  refine sj_iload_n dX12_plans_102 (i := 3) rfl rfl ?_
  refine sj_iload_n dX12_plans_103 (i := 2) rfl rfl ?_
  refine sj_icmp_ge (tgt := 211) dX12_plans_104 (by decide) (fun c1 => ?_) (fun c1 => ?_)
  · replace h := h.1 c1
    subst h
    exact sj_vret dX12_plans_211 rfl
  · replace h := h.2 c1
    refine sj_iload_n dX12_plans_107 (i := 3) rfl rfl ?_
    refine sj_istore dX12_plans_108 (by decide) ?_
    refine sj_aload_n dX12_plans_110 (i := 0) rfl rfl ?_
    refine sj_get (a := 56) (k9 := 15) (v := .int (σ 56 15)) dX12_plans_111 (by decide +kernel) rfl ?_
    refine sj_iconst (v := (nI 1)) dX12_plans_114 (by decide +kernel) ?_
    refine sj_isub dX12_plans_115 ?_
    refine sj_istore dX12_plans_116 (by decide) ?_
    exact h
def wp_X12_plans_205 (G : sj_G) (R : sj_R) (x1 : Int32) (x2 : Int32) (x3 : Int32) (σ : sj_S) : Prop := sj_J G 7 me_X12_plans R 102 [.ref (sj_ad G 56), .int x1, .int x2, .int (x3 + (nI 1)), .null, .null, .null] σ []
set_option maxRecDepth 20000 in
theorem t_X12_plans_205 {G : sj_G} {R : sj_R} {x1 : Int32} {x2 : Int32} {x3 : Int32} {σ : sj_S} (h : wp_X12_plans_205 G R x1 x2 x3 σ) : sj_J G 7 me_X12_plans R 205 [.ref (sj_ad G 56), .int x1, .int x2, .int x3, .null, .null, .null] σ [] := by
  unfold wp_X12_plans_205 at h
  refine sj_iinc (v := (x3 + (nI 1))) dX12_plans_205 (by decide) rfl rfl ?_
  refine sj_goto (tgt := 102) dX12_plans_208 (by decide) ?_
  exact h
def wp_X12_plans_118 (G : sj_G) (R : sj_R) (x1 : Int32) (x2 : Int32) (x3 : Int32) (x4 : Int32) (x5 : Int32) (σ : sj_S) : Prop := (x5 < 0 → ∃ v2 σ2, sj_C G 6 me_X12_serves [.ref (sj_ad G 56), .int x1] σ (.ok v2, σ2) ∧ ((σ2 56 16) < v2 → sj_J G 7 me_X12_plans R 176 [.ref (sj_ad G 56), .int x1, .int x2, .int x3, .null, .null, .int (nI 0)] (sj_st σ2 56 16 v2) []) ∧ (¬ ((σ2 56 16) < v2) → (wp_X12_plans_205 G R x1 x2 x3 σ2))) ∧ (¬ (x5 < 0) → vp_in x5 9 ∧ sj_J G 7 me_X12_plans R 118 [.ref (sj_ad G 56), .int x1, .int x2, .int x3, .int (x4 / (nI 7)), .int (x5 + (-1)), .null] (sj_st σ 67 x5.toNatClampNeg (x4 - x4 / (nI 7) * (nI 7))) [])
set_option maxRecDepth 20000 in
theorem t_X12_plans_118 {G : sj_G} {R : sj_R} {x1 : Int32} {x2 : Int32} {x3 : Int32} {x4 : Int32} {x5 : Int32} {σ : sj_S} (h : wp_X12_plans_118 G R x1 x2 x3 x4 x5 σ) : sj_J G 7 me_X12_plans R 118 [.ref (sj_ad G 56), .int x1, .int x2, .int x3, .int x4, .int x5, .null] σ [] := by
  unfold wp_X12_plans_118 at h
  refine sj_iload dX12_plans_118 rfl ?_
  refine sj_if_lt (tgt := 148) dX12_plans_120 (by decide) (fun c1 => ?_) (fun c1 => ?_)
  · replace h := h.1 c1
    refine sj_aload_n dX12_plans_148 (i := 0) rfl rfl ?_
    refine sj_iload_n dX12_plans_149 (i := 1) rfl rfl ?_
    obtain ⟨v2, σ2, hc2, h⟩ := h
    refine sj_callVi (M' := me_X12_serves) (b := 56) (As := [.int x1]) (rest := []) dX12_plans_150 gX12_plans_X12_serves rfl hd_X12_serves (by decide +kernel) (by decide +kernel) rfl (Nat.le_of_ble_eq_true rfl) (by omega) rfl hc2 ?_
    refine sj_istore dX12_plans_153 (by decide) ?_
    refine sj_iload dX12_plans_155 rfl ?_
    refine sj_aload_n dX12_plans_157 (i := 0) rfl rfl ?_
    refine sj_get (a := 56) (k9 := 16) (v := .int (σ2 56 16)) dX12_plans_158 (by decide +kernel) rfl ?_
    refine sj_icmp_gt (tgt := 167) dX12_plans_161 (by decide) (fun c4 => ?_) (fun c4 => ?_)
    · replace h := h.1 c4
      refine sj_aload_n dX12_plans_167 (i := 0) rfl rfl ?_
      refine sj_iload dX12_plans_168 rfl ?_
      refine sj_put (a := 56) (k9 := 16) dX12_plans_170 (by decide +kernel) (by decide +kernel) rfl ?_
      refine sj_iconst (v := (nI 0)) dX12_plans_173 (by decide +kernel) ?_
      refine sj_istore dX12_plans_174 (by decide) ?_
      refine sj_fg [4, 5] ?_
      exact h
    · replace h := h.2 c4
      refine sj_goto (tgt := 205) dX12_plans_164 (by decide) ?_
      refine sj_fg [4, 5] ?_
      exact t_X12_plans_205 h
  · replace h := h.2 c1
    refine sj_aload_n dX12_plans_123 (i := 0) rfl rfl ?_
    refine sj_get (a := 56) (k9 := 13) (v := .ref (sj_ad G 67)) dX12_plans_124 (by decide +kernel) rfl ?_
    refine sj_iload dX12_plans_127 rfl ?_
    refine sj_iload dX12_plans_129 rfl ?_
    refine sj_bipush (v := (nI 7)) dX12_plans_131 (by decide +kernel) ?_
    refine sj_irem dX12_plans_133 (by decide +kernel) ?_
    obtain ⟨b5, h⟩ := h
    refine sj_iast (a := 67) (j := x5.toNatClampNeg) dX12_plans_134 rfl (by decide +kernel) b5 rfl ?_
    refine sj_iload dX12_plans_135 rfl ?_
    refine sj_bipush (v := (nI 7)) dX12_plans_137 (by decide +kernel) ?_
    refine sj_idiv dX12_plans_139 (by decide +kernel) ?_
    refine sj_istore dX12_plans_140 (by decide) ?_
    refine sj_iinc (v := (x5 + (-1))) dX12_plans_142 (by decide) rfl rfl ?_
    refine sj_goto (tgt := 118) dX12_plans_145 (by decide) ?_
    exact h
def wp_X12_plans_176 (G : sj_G) (R : sj_R) (x1 : Int32) (x2 : Int32) (x3 : Int32) (x6 : Int32) (σ : sj_S) : Prop := ((σ 56 15) ≤ x6 → (wp_X12_plans_205 G R x1 x2 x3 σ)) ∧ (¬ ((σ 56 15) ≤ x6) → vp_in x6 9 ∧ vp_in x6 9 ∧ sj_J G 7 me_X12_plans R 176 [.ref (sj_ad G 56), .int x1, .int x2, .int x3, .null, .null, .int (x6 + (nI 1))] (sj_st σ 68 x6.toNatClampNeg (σ 67 x6.toNatClampNeg)) [])
set_option maxRecDepth 20000 in
theorem t_X12_plans_176 {G : sj_G} {R : sj_R} {x1 : Int32} {x2 : Int32} {x3 : Int32} {x6 : Int32} {σ : sj_S} (h : wp_X12_plans_176 G R x1 x2 x3 x6 σ) : sj_J G 7 me_X12_plans R 176 [.ref (sj_ad G 56), .int x1, .int x2, .int x3, .null, .null, .int x6] σ [] := by
  unfold wp_X12_plans_176 at h
  refine sj_iload dX12_plans_176 rfl ?_
  refine sj_aload_n dX12_plans_178 (i := 0) rfl rfl ?_
  refine sj_get (a := 56) (k9 := 15) (v := .int (σ 56 15)) dX12_plans_179 (by decide +kernel) rfl ?_
  refine sj_icmp_ge (tgt := 205) dX12_plans_182 (by decide) (fun c4 => ?_) (fun c4 => ?_)
  · replace h := h.1 c4
    refine sj_fg [6] ?_
    exact t_X12_plans_205 h
  · replace h := h.2 c4
    refine sj_aload_n dX12_plans_185 (i := 0) rfl rfl ?_
    refine sj_get (a := 56) (k9 := 14) (v := .ref (sj_ad G 68)) dX12_plans_186 (by decide +kernel) rfl ?_
    refine sj_iload dX12_plans_189 rfl ?_
    refine sj_aload_n dX12_plans_191 (i := 0) rfl rfl ?_
    refine sj_get (a := 56) (k9 := 13) (v := .ref (sj_ad G 67)) dX12_plans_192 (by decide +kernel) rfl ?_
    refine sj_iload dX12_plans_195 rfl ?_
    obtain ⟨b5, h⟩ := h
    refine sj_iald (a := 67) (j := x6.toNatClampNeg) (x := (σ 67 x6.toNatClampNeg)) dX12_plans_197 rfl (by decide +kernel) b5 rfl rfl ?_
    obtain ⟨b6, h⟩ := h
    refine sj_iast (a := 68) (j := x6.toNatClampNeg) dX12_plans_198 rfl (by decide +kernel) b6 rfl ?_
    refine sj_iinc (v := (x6 + (nI 1))) dX12_plans_199 (by decide) rfl rfl ?_
    refine sj_goto (tgt := 176) dX12_plans_202 (by decide) ?_
    exact h
def wp_X12_plans_0 (G : sj_G) (R : sj_R) (x1 : Int32) (σ : sj_S) : Prop := sj_J G 7 me_X12_plans R 7 [.ref (sj_ad G 56), .int x1, .int (nI 0), .null, .null, .null, .null] (sj_st σ 56 15 (nI 0)) []
set_option maxRecDepth 20000 in
theorem t_X12_plans_0 {G : sj_G} {R : sj_R} {x1 : Int32} {σ : sj_S} (h : wp_X12_plans_0 G R x1 σ) : sj_J G 7 me_X12_plans R 0 [.ref (sj_ad G 56), .int x1, .null, .null, .null, .null, .null] σ [] := by
  unfold wp_X12_plans_0 at h
  refine sj_aload_n dX12_plans_0 (i := 0) rfl rfl ?_
  refine sj_iconst (v := (nI 0)) dX12_plans_1 (by decide +kernel) ?_
  refine sj_put (a := 56) (k9 := 15) dX12_plans_2 (by decide +kernel) (by decide +kernel) rfl ?_
  refine sj_iconst (v := (nI 0)) dX12_plans_5 (by decide +kernel) ?_
  refine sj_istore_n dX12_plans_6 (i := 2) rfl (by decide) ?_
  exact h
theorem c_X12_plans {G : sj_G} (ok : sj_ok G) {R : sj_R} {x1 : Int32} {σ : sj_S} (h : wp_X12_plans_0 G R x1 σ) : sj_C G 7 me_X12_plans [.ref (sj_ad G 56), .int x1] σ R :=
  sj_enter ok (by decide +kernel) rfl rfl (Nat.le_of_ble_eq_true rfl) (by simp [Value.category]) (t_X12_plans_0 h)
def wp_X12_serves_84 (G : sj_G) (R : sj_R) (x1 : Int32) (x2 : Int32) (x3 : Int32) (σ : sj_S) : Prop := sj_J G 6 me_X12_serves R 4 [.ref (sj_ad G 56), .int x1, .int x2, .int (x3 + (nI 1)), .null] σ []
set_option maxRecDepth 20000 in
theorem t_X12_serves_84 {G : sj_G} {R : sj_R} {x1 : Int32} {x2 : Int32} {x3 : Int32} {σ : sj_S} (h : wp_X12_serves_84 G R x1 x2 x3 σ) : sj_J G 6 me_X12_serves R 84 [.ref (sj_ad G 56), .int x1, .int x2, .int x3, .null] σ [] := by
  unfold wp_X12_serves_84 at h
  refine sj_iinc (v := (x3 + (nI 1))) dX12_serves_84 (by decide) rfl rfl ?_
  refine sj_goto (tgt := 4) dX12_serves_87 (by decide) ?_
  exact h
def wp_X12_serves_4 (G : sj_G) (R : sj_R) (x1 : Int32) (x2 : Int32) (x3 : Int32) (σ : sj_S) : Prop := ((σ 56 15) ≤ x3 → R = (.ok x2, σ)) ∧ (¬ ((σ 56 15) ≤ x3) → vp_in x3 9 ∧ (¬ (σ 67 x3.toNatClampNeg) = (nI 6) → vp_in x3 9 ∧ vp_in x3 9 ∧ ∃ v6 σ6, sj_C G 5 me_X12_canTake [.ref (sj_ad G 56), .int (σ 67 x3.toNatClampNeg), .int (σ 66 x3.toNatClampNeg), .int x1] σ (.ok v6, σ6) ∧ (¬ v6 = 0 → sj_J G 6 me_X12_serves R 51 [.ref (sj_ad G 56), .int x1, .int x2, .int x3, .int (nI 0)] σ6 []) ∧ (v6 = 0 → R = (.ok (-1), σ6))) ∧ ((σ 67 x3.toNatClampNeg) = (nI 6) → (wp_X12_serves_84 G R x1 x2 x3 σ)))
set_option maxRecDepth 20000 in
theorem t_X12_serves_4 {G : sj_G} {R : sj_R} {x1 : Int32} {x2 : Int32} {x3 : Int32} {σ : sj_S} (h : wp_X12_serves_4 G R x1 x2 x3 σ) : sj_J G 6 me_X12_serves R 4 [.ref (sj_ad G 56), .int x1, .int x2, .int x3, .null] σ [] := by
  unfold wp_X12_serves_4 at h
  refine sj_iload_n dX12_serves_4 (i := 3) rfl rfl ?_
  refine sj_aload_n dX12_serves_5 (i := 0) rfl rfl ?_
  refine sj_get (a := 56) (k9 := 15) (v := .int (σ 56 15)) dX12_serves_6 (by decide +kernel) rfl ?_
  refine sj_icmp_ge (tgt := 90) dX12_serves_9 (by decide) (fun c1 => ?_) (fun c1 => ?_)
  · replace h := h.1 c1
    refine sj_iload_n dX12_serves_90 (i := 2) rfl rfl ?_
    subst h
    exact sj_ret dX12_serves_91 rfl rfl
  · replace h := h.2 c1
    refine sj_aload_n dX12_serves_12 (i := 0) rfl rfl ?_
    refine sj_get (a := 56) (k9 := 13) (v := .ref (sj_ad G 67)) dX12_serves_13 (by decide +kernel) rfl ?_
    refine sj_iload_n dX12_serves_16 (i := 3) rfl rfl ?_
    obtain ⟨b2, h⟩ := h
    refine sj_iald (a := 67) (j := x3.toNatClampNeg) (x := (σ 67 x3.toNatClampNeg)) dX12_serves_17 rfl (by decide +kernel) b2 rfl rfl ?_
    refine sj_bipush (v := (nI 6)) dX12_serves_18 (by decide +kernel) ?_
    refine sj_icmp_ne (tgt := 26) dX12_serves_20 (by decide) (fun c3 => ?_) (fun c3 => ?_)
    · replace h := h.1 c3
      refine sj_aload_n dX12_serves_26 (i := 0) rfl rfl ?_
      refine sj_aload_n dX12_serves_27 (i := 0) rfl rfl ?_
      refine sj_get (a := 56) (k9 := 13) (v := .ref (sj_ad G 67)) dX12_serves_28 (by decide +kernel) rfl ?_
      refine sj_iload_n dX12_serves_31 (i := 3) rfl rfl ?_
      obtain ⟨b4, h⟩ := h
      refine sj_iald (a := 67) (j := x3.toNatClampNeg) (x := (σ 67 x3.toNatClampNeg)) dX12_serves_32 rfl (by decide +kernel) b4 rfl rfl ?_
      refine sj_aload_n dX12_serves_33 (i := 0) rfl rfl ?_
      refine sj_get (a := 56) (k9 := 12) (v := .ref (sj_ad G 66)) dX12_serves_34 (by decide +kernel) rfl ?_
      refine sj_iload_n dX12_serves_37 (i := 3) rfl rfl ?_
      obtain ⟨b5, h⟩ := h
      refine sj_iald (a := 66) (j := x3.toNatClampNeg) (x := (σ 66 x3.toNatClampNeg)) dX12_serves_38 rfl (by decide +kernel) b5 rfl rfl ?_
      refine sj_iload_n dX12_serves_39 (i := 1) rfl rfl ?_
      obtain ⟨v6, σ6, hc6, h⟩ := h
      refine sj_callVi (M' := me_X12_canTake) (b := 56) (As := [.int (σ 67 x3.toNatClampNeg), .int (σ 66 x3.toNatClampNeg), .int x1]) (rest := []) dX12_serves_40 gX12_serves_X12_canTake rfl hd_X12_canTake (by decide +kernel) (by decide +kernel) rfl (Nat.le_of_ble_eq_true rfl) (by omega) rfl hc6 ?_
      refine sj_if_ne (tgt := 48) dX12_serves_43 (by decide) (fun c7 => ?_) (fun c7 => ?_)
      · replace h := h.1 c7
        refine sj_iconst (v := (nI 0)) dX12_serves_48 (by decide +kernel) ?_
        refine sj_istore dX12_serves_49 (by decide) ?_
        exact h
      · replace h := h.2 c7
        refine sj_iconst (v := (-1)) dX12_serves_46 (by decide +kernel) ?_
        subst h
        exact sj_ret dX12_serves_47 rfl rfl
    · replace h := h.2 c3
      refine sj_goto (tgt := 84) dX12_serves_23 (by decide) ?_
      exact t_X12_serves_84 h
def wp_X12_serves_51 (G : sj_G) (R : sj_R) (x1 : Int32) (x2 : Int32) (x3 : Int32) (x4 : Int32) (σ : sj_S) : Prop := (x3 ≤ x4 → (wp_X12_serves_84 G R x1 (x2 + (nI 1)) x3 σ)) ∧ (¬ (x3 ≤ x4) → vp_in x4 9 ∧ vp_in x3 9 ∧ (¬ (σ 67 x4.toNatClampNeg) = (σ 67 x3.toNatClampNeg) → sj_J G 6 me_X12_serves R 51 [.ref (sj_ad G 56), .int x1, .int x2, .int x3, .int (x4 + (nI 1))] σ []) ∧ ((σ 67 x4.toNatClampNeg) = (σ 67 x3.toNatClampNeg) → R = (.ok (-1), σ)))
set_option maxRecDepth 20000 in
theorem t_X12_serves_51 {G : sj_G} {R : sj_R} {x1 : Int32} {x2 : Int32} {x3 : Int32} {x4 : Int32} {σ : sj_S} (h : wp_X12_serves_51 G R x1 x2 x3 x4 σ) : sj_J G 6 me_X12_serves R 51 [.ref (sj_ad G 56), .int x1, .int x2, .int x3, .int x4] σ [] := by
  unfold wp_X12_serves_51 at h
  refine sj_iload dX12_serves_51 rfl ?_
  refine sj_iload_n dX12_serves_53 (i := 3) rfl rfl ?_
  refine sj_icmp_ge (tgt := 81) dX12_serves_54 (by decide) (fun c1 => ?_) (fun c1 => ?_)
  · replace h := h.1 c1
    refine sj_iinc (v := (x2 + (nI 1))) dX12_serves_81 (by decide) rfl rfl ?_
    refine sj_fg [4] ?_
    exact t_X12_serves_84 h
  · replace h := h.2 c1
    refine sj_aload_n dX12_serves_57 (i := 0) rfl rfl ?_
    refine sj_get (a := 56) (k9 := 13) (v := .ref (sj_ad G 67)) dX12_serves_58 (by decide +kernel) rfl ?_
    refine sj_iload dX12_serves_61 rfl ?_
    obtain ⟨b2, h⟩ := h
    refine sj_iald (a := 67) (j := x4.toNatClampNeg) (x := (σ 67 x4.toNatClampNeg)) dX12_serves_63 rfl (by decide +kernel) b2 rfl rfl ?_
    refine sj_aload_n dX12_serves_64 (i := 0) rfl rfl ?_
    refine sj_get (a := 56) (k9 := 13) (v := .ref (sj_ad G 67)) dX12_serves_65 (by decide +kernel) rfl ?_
    refine sj_iload_n dX12_serves_68 (i := 3) rfl rfl ?_
    obtain ⟨b3, h⟩ := h
    refine sj_iald (a := 67) (j := x3.toNatClampNeg) (x := (σ 67 x3.toNatClampNeg)) dX12_serves_69 rfl (by decide +kernel) b3 rfl rfl ?_
    refine sj_icmp_ne (tgt := 75) dX12_serves_70 (by decide) (fun c4 => ?_) (fun c4 => ?_)
    · replace h := h.1 c4
      refine sj_iinc (v := (x4 + (nI 1))) dX12_serves_75 (by decide) rfl rfl ?_
      refine sj_goto (tgt := 51) dX12_serves_78 (by decide) ?_
      exact h
    · replace h := h.2 c4
      refine sj_iconst (v := (-1)) dX12_serves_73 (by decide +kernel) ?_
      subst h
      exact sj_ret dX12_serves_74 rfl rfl
def wp_X12_serves_0 (G : sj_G) (R : sj_R) (x1 : Int32) (σ : sj_S) : Prop := sj_J G 6 me_X12_serves R 4 [.ref (sj_ad G 56), .int x1, .int (nI 0), .int (nI 0), .null] σ []
set_option maxRecDepth 20000 in
theorem t_X12_serves_0 {G : sj_G} {R : sj_R} {x1 : Int32} {σ : sj_S} (h : wp_X12_serves_0 G R x1 σ) : sj_J G 6 me_X12_serves R 0 [.ref (sj_ad G 56), .int x1, .null, .null, .null] σ [] := by
  unfold wp_X12_serves_0 at h
  refine sj_iconst (v := (nI 0)) dX12_serves_0 (by decide +kernel) ?_
  refine sj_istore_n dX12_serves_1 (i := 2) rfl (by decide) ?_
  refine sj_iconst (v := (nI 0)) dX12_serves_2 (by decide +kernel) ?_
  refine sj_istore_n dX12_serves_3 (i := 3) rfl (by decide) ?_
  exact h
theorem c_X12_serves {G : sj_G} (ok : sj_ok G) {R : sj_R} {x1 : Int32} {σ : sj_S} (h : wp_X12_serves_0 G R x1 σ) : sj_C G 6 me_X12_serves [.ref (sj_ad G 56), .int x1] σ R :=
  sj_enter ok (by decide +kernel) rfl rfl (Nat.le_of_ble_eq_true rfl) (by simp [Value.category]) (t_X12_serves_0 h)
def wp_X12_setIll_27 (G : sj_G) (R : sj_R) (σ : sj_S) : Prop := R = (.ok (nI 0), σ)
set_option maxRecDepth 20000 in
theorem t_X12_setIll_27 {G : sj_G} {R : sj_R} {σ : sj_S} (h : wp_X12_setIll_27 G R σ) : sj_J G 4 me_X12_setIll R 27 [.null, .null, .null, .null, .null] σ [] := by
  unfold wp_X12_setIll_27 at h
  refine sj_iconst (v := (nI 0)) dX12_setIll_27 (by decide +kernel) ?_
  subst h
  exact sj_ret dX12_setIll_28 rfl rfl
def wp_X12_setIll_84 (G : sj_G) (R : sj_R) (x4 : Int32) (s0 : Int32) (s1 : Int32) (σ : sj_S) : Prop := vp_in s1 128 ∧ R = (.ok x4, (sj_st σ 57 s1.toNatClampNeg s0)) ∧ (x4 = nI 0 ∨ x4 = nI 1)
set_option maxRecDepth 20000 in
theorem t_X12_setIll_84 {G : sj_G} {R : sj_R} {x4 : Int32} {s0 : Int32} {s1 : Int32} {σ : sj_S} (h : wp_X12_setIll_84 G R x4 s0 s1 σ) : sj_J G 4 me_X12_setIll R 84 [.null, .null, .null, .null, .int x4] σ [.int s0, .int s1, .ref (sj_ad G 57)] := by
  unfold wp_X12_setIll_84 at h
  obtain ⟨b1, h⟩ := h
  refine sj_iast (a := 57) (j := s1.toNatClampNeg) dX12_setIll_84 rfl (by decide +kernel) b1 rfl ?_
  refine sj_iload dX12_setIll_85 rfl ?_
  obtain ⟨h, hz⟩ := h
  subst h
  exact sj_ret dX12_setIll_87 rfl (sj_nb hz)
def wp_X12_setIll_0 (G : sj_G) (R : sj_R) (x1 : Int32) (x2 : Int32) (x3 : Int32) (σ : sj_S) : Prop := ∃ v1 σ1, sj_C G 3 me_X12_noTeacher [.ref (sj_ad G 56), .int x1] (sj_st σ 56 0 (nI 0)) (.ok v1, σ1) ∧ (¬ v1 = 0 → (wp_X12_setIll_27 G R σ1)) ∧ (v1 = 0 → ∃ v3 σ3, sj_C G 2 me_X12_in [.int x2, .int (nI 0), .int (nI 4)] σ1 (.ok v3, σ3) ∧ ∃ v4 σ4, sj_C G 2 me_X12_fails [.ref (sj_ad G 56), .int v3, .int (nI 1)] σ3 (.ok v4, σ4) ∧ (v4 = 0 → ∃ σ6, sj_C G 2 me_X12_keeps [.ref (sj_ad G 56)] σ4 (.ok 0, σ6) ∧ ∃ v7 σ7, sj_C G 2 me_X12_isIll [.ref (sj_ad G 56), .int x1, .int x2] σ6 (.ok v7, σ7) ∧ ((x3 = 0) → vp_in ((nI 102) + x1) 128) ∧ ((¬ (x3 = 0)) → vp_in ((nI 102) + x1) 128) ∧ (wp_X12_setIll_84 G R v7 (if x3 = 0 then ((σ7 57 ((nI 102) + x1).toNatClampNeg) &&& (((nI 1) <<< (x2 &&& 31)) ^^^ (-1))) else ((σ7 57 ((nI 102) + x1).toNatClampNeg) ||| ((nI 1) <<< (x2 &&& 31)))) ((nI 102) + x1) σ7)) ∧ (¬ (v4 = 0) → (wp_X12_setIll_27 G R σ4)))
set_option maxRecDepth 20000 in
theorem t_X12_setIll_0 {G : sj_G} {R : sj_R} {x1 : Int32} {x2 : Int32} {x3 : Int32} {σ : sj_S} (h : wp_X12_setIll_0 G R x1 x2 x3 σ) : sj_J G 4 me_X12_setIll R 0 [.ref (sj_ad G 56), .int x1, .int x2, .int x3, .null] σ [] := by
  unfold wp_X12_setIll_0 at h
  refine sj_aload_n dX12_setIll_0 (i := 0) rfl rfl ?_
  refine sj_iconst (v := (nI 0)) dX12_setIll_1 (by decide +kernel) ?_
  refine sj_put (a := 56) (k9 := 0) dX12_setIll_2 (by decide +kernel) (by decide +kernel) rfl ?_
  refine sj_aload_n dX12_setIll_5 (i := 0) rfl rfl ?_
  refine sj_iload_n dX12_setIll_6 (i := 1) rfl rfl ?_
  obtain ⟨v1, σ1, hc1, h⟩ := h
  refine sj_callVi (M' := me_X12_noTeacher) (b := 56) (As := [.int x1]) (rest := []) dX12_setIll_7 gX12_setIll_X12_noTeacher rfl hd_X12_noTeacher (by decide +kernel) (by decide +kernel) rfl (Nat.le_of_ble_eq_true rfl) (by omega) rfl hc1 ?_
  refine sj_if_ne (tgt := 27) dX12_setIll_10 (by decide) (fun c2 => ?_) (fun c2 => ?_)
  · replace h := h.1 c2
    refine sj_fg [0, 1, 2, 3] ?_
    exact t_X12_setIll_27 h
  · replace h := h.2 c2
    refine sj_aload_n dX12_setIll_13 (i := 0) rfl rfl ?_
    refine sj_iload_n dX12_setIll_14 (i := 2) rfl rfl ?_
    refine sj_iconst (v := (nI 0)) dX12_setIll_15 (by decide +kernel) ?_
    refine sj_iconst (v := (nI 4)) dX12_setIll_16 (by decide +kernel) ?_
    obtain ⟨v3, σ3, hc3, h⟩ := h
    refine sj_callSi (M' := me_X12_in) (As := [.int x2, .int (nI 0), .int (nI 4)]) (rest := [.ref (sj_ad G 56)]) dX12_setIll_17 gX12_setIll_X12_in rfl hd_X12_in (Nat.le_of_ble_eq_true rfl) (by omega) rfl hc3 ?_
    refine sj_iconst (v := (nI 1)) dX12_setIll_20 (by decide +kernel) ?_
    obtain ⟨v4, σ4, hc4, h⟩ := h
    refine sj_callVi (M' := me_X12_fails) (b := 56) (As := [.int v3, .int (nI 1)]) (rest := []) dX12_setIll_21 gX12_setIll_X12_fails rfl hd_X12_fails (by decide +kernel) (by decide +kernel) rfl (Nat.le_of_ble_eq_true rfl) (by omega) rfl hc4 ?_
    refine sj_if_eq (tgt := 29) dX12_setIll_24 (by decide) (fun c5 => ?_) (fun c5 => ?_)
    · replace h := h.1 c5
      refine sj_aload_n dX12_setIll_29 (i := 0) rfl rfl ?_
      obtain ⟨σ6, hc6, h⟩ := h
      refine sj_callVv (M' := me_X12_keeps) (b := 56) (As := []) (rest := []) dX12_setIll_30 gX12_setIll_X12_keeps rfl hd_X12_keeps (by decide +kernel) (by decide +kernel) rfl (Nat.le_of_ble_eq_true rfl) (by omega) rfl hc6 ?_
      refine sj_aload_n dX12_setIll_33 (i := 0) rfl rfl ?_
      refine sj_iload_n dX12_setIll_34 (i := 1) rfl rfl ?_
      refine sj_iload_n dX12_setIll_35 (i := 2) rfl rfl ?_
      obtain ⟨v7, σ7, hc7, h⟩ := h
      refine sj_callVi (M' := me_X12_isIll) (b := 56) (As := [.int x1, .int x2]) (rest := []) dX12_setIll_36 gX12_setIll_X12_isIll rfl hd_X12_isIll (by decide +kernel) (by decide +kernel) rfl (Nat.le_of_ble_eq_true rfl) (by omega) rfl hc7 ?_
      refine sj_istore dX12_setIll_39 (by decide) ?_
      refine sj_aload_n dX12_setIll_41 (i := 0) rfl rfl ?_
      refine sj_get (a := 56) (k9 := 1) (v := .ref (sj_ad G 57)) dX12_setIll_42 (by decide +kernel) rfl ?_
      refine sj_bipush (v := (nI 102)) dX12_setIll_45 (by decide +kernel) ?_
      refine sj_iload_n dX12_setIll_47 (i := 1) rfl rfl ?_
      refine sj_iadd dX12_setIll_48 ?_
      refine sj_iload_n dX12_setIll_49 (i := 3) rfl rfl ?_
      obtain ⟨f11, f12, h⟩ := h
      refine sj_if_eq (tgt := 69) dX12_setIll_50 (by decide) (fun c8 => ?_) (fun c8 => ?_)
      · have b9 := f11 c8
        refine sj_aload_n dX12_setIll_69 (i := 0) rfl rfl ?_
        refine sj_get (a := 56) (k9 := 1) (v := .ref (sj_ad G 57)) dX12_setIll_70 (by decide +kernel) rfl ?_
        refine sj_bipush (v := (nI 102)) dX12_setIll_73 (by decide +kernel) ?_
        refine sj_iload_n dX12_setIll_75 (i := 1) rfl rfl ?_
        refine sj_iadd dX12_setIll_76 ?_
        refine sj_iald (a := 57) (j := ((nI 102) + x1).toNatClampNeg) (x := (σ7 57 ((nI 102) + x1).toNatClampNeg)) dX12_setIll_77 rfl (by decide +kernel) b9 rfl rfl ?_
        refine sj_iconst (v := (nI 1)) dX12_setIll_78 (by decide +kernel) ?_
        refine sj_iload_n dX12_setIll_79 (i := 2) rfl rfl ?_
        refine sj_ishl dX12_setIll_80 ?_
        refine sj_iconst (v := (-1)) dX12_setIll_81 (by decide +kernel) ?_
        refine sj_ixor dX12_setIll_82 ?_
        refine sj_iand dX12_setIll_83 ?_
        try simp only [if_pos c8] at h
        refine sj_fg [0, 1, 2, 3] ?_
        exact t_X12_setIll_84 h
      · have b10 := f12 c8
        refine sj_aload_n dX12_setIll_53 (i := 0) rfl rfl ?_
        refine sj_get (a := 56) (k9 := 1) (v := .ref (sj_ad G 57)) dX12_setIll_54 (by decide +kernel) rfl ?_
        refine sj_bipush (v := (nI 102)) dX12_setIll_57 (by decide +kernel) ?_
        refine sj_iload_n dX12_setIll_59 (i := 1) rfl rfl ?_
        refine sj_iadd dX12_setIll_60 ?_
        refine sj_iald (a := 57) (j := ((nI 102) + x1).toNatClampNeg) (x := (σ7 57 ((nI 102) + x1).toNatClampNeg)) dX12_setIll_61 rfl (by decide +kernel) b10 rfl rfl ?_
        refine sj_iconst (v := (nI 1)) dX12_setIll_62 (by decide +kernel) ?_
        refine sj_iload_n dX12_setIll_63 (i := 2) rfl rfl ?_
        refine sj_ishl dX12_setIll_64 ?_
        refine sj_ior dX12_setIll_65 ?_
        refine sj_goto (tgt := 84) dX12_setIll_66 (by decide) ?_
        try simp only [if_neg c8] at h
        refine sj_fg [0, 1, 2, 3] ?_
        exact t_X12_setIll_84 h
    · replace h := h.2 c5
      refine sj_fg [0, 1, 2, 3] ?_
      exact t_X12_setIll_27 h
theorem c_X12_setIll {G : sj_G} (ok : sj_ok G) {R : sj_R} {x1 : Int32} {x2 : Int32} {x3 : Int32} {σ : sj_S} (h : wp_X12_setIll_0 G R x1 x2 x3 σ) : sj_C G 4 me_X12_setIll [.ref (sj_ad G 56), .int x1, .int x2, .int x3] σ R :=
  sj_enter ok (by decide +kernel) rfl rfl (Nat.le_of_ble_eq_true rfl) (by simp [Value.category]) (t_X12_setIll_0 h)
def wp_X12_ill_27 (G : sj_G) (R : sj_R) (σ : sj_S) : Prop := R = (.ok (nI 0), σ)
set_option maxRecDepth 20000 in
theorem t_X12_ill_27 {G : sj_G} {R : sj_R} {σ : sj_S} (h : wp_X12_ill_27 G R σ) : sj_J G 8 me_X12_ill R 27 [.null, .null, .null, .null, .null] σ [] := by
  unfold wp_X12_ill_27 at h
  refine sj_iconst (v := (nI 0)) dX12_ill_27 (by decide +kernel) ?_
  subst h
  exact sj_ret dX12_ill_28 rfl rfl
def wp_X12_ill_77 (G : sj_G) (R : sj_R) (x1 : Int32) (x2 : Int32) (x4 : Int32) (s0 : Int32) (s1 : Int32) (σ : sj_S) : Prop := sj_J G 8 me_X12_ill R 40 [.ref (sj_ad G 56), .int x1, .int x2, .int (s1 + s0), .int (x4 + (nI 1))] σ []
set_option maxRecDepth 20000 in
theorem t_X12_ill_77 {G : sj_G} {R : sj_R} {x1 : Int32} {x2 : Int32} {x4 : Int32} {s0 : Int32} {s1 : Int32} {σ : sj_S} (h : wp_X12_ill_77 G R x1 x2 x4 s0 s1 σ) : sj_J G 8 me_X12_ill R 77 [.ref (sj_ad G 56), .int x1, .int x2, .null, .int x4] σ [.int s0, .int s1] := by
  unfold wp_X12_ill_77 at h
  refine sj_iadd dX12_ill_77 ?_
  refine sj_istore_n dX12_ill_78 (i := 3) rfl (by decide) ?_
  refine sj_iinc (v := (x4 + (nI 1))) dX12_ill_79 (by decide) rfl rfl ?_
  refine sj_goto (tgt := 40) dX12_ill_82 (by decide) ?_
  exact h
def wp_X12_ill_40 (G : sj_G) (R : sj_R) (x1 : Int32) (x2 : Int32) (x3 : Int32) (x4 : Int32) (σ : sj_S) : Prop := ((((nI 4) * x1) + (nI 4)) ≤ x4 → R = (.ok x3, σ)) ∧ (¬ ((((nI 4) * x1) + (nI 4)) ≤ x4) → ∃ σ2, sj_C G 7 me_X12_plans [.ref (sj_ad G 56), .int x4] σ (.ok 0, σ2) ∧ (wp_X12_ill_77 G R x1 x2 x4 (if x2 = 0 then (σ2 56 15) else ((σ2 56 15) - (σ2 56 16))) x3 σ2))
set_option maxRecDepth 20000 in
theorem t_X12_ill_40 {G : sj_G} {R : sj_R} {x1 : Int32} {x2 : Int32} {x3 : Int32} {x4 : Int32} {σ : sj_S} (h : wp_X12_ill_40 G R x1 x2 x3 x4 σ) : sj_J G 8 me_X12_ill R 40 [.ref (sj_ad G 56), .int x1, .int x2, .int x3, .int x4] σ [] := by
  unfold wp_X12_ill_40 at h
  refine sj_iload dX12_ill_40 rfl ?_
  refine sj_iconst (v := (nI 4)) dX12_ill_42 (by decide +kernel) ?_
  refine sj_iload_n dX12_ill_43 (i := 1) rfl rfl ?_
  refine sj_imul dX12_ill_44 ?_
  refine sj_iconst (v := (nI 4)) dX12_ill_45 (by decide +kernel) ?_
  refine sj_iadd dX12_ill_46 ?_
  refine sj_icmp_ge (tgt := 85) dX12_ill_47 (by decide) (fun c1 => ?_) (fun c1 => ?_)
  · replace h := h.1 c1
    refine sj_iload_n dX12_ill_85 (i := 3) rfl rfl ?_
    subst h
    exact sj_ret dX12_ill_86 rfl rfl
  · replace h := h.2 c1
    refine sj_aload_n dX12_ill_50 (i := 0) rfl rfl ?_
    refine sj_iload dX12_ill_51 rfl ?_
    obtain ⟨σ2, hc2, h⟩ := h
    refine sj_callVv (M' := me_X12_plans) (b := 56) (As := [.int x4]) (rest := []) dX12_ill_53 gX12_ill_X12_plans rfl hd_X12_plans (by decide +kernel) (by decide +kernel) rfl (Nat.le_of_ble_eq_true rfl) (by omega) rfl hc2 ?_
    refine sj_iload_n dX12_ill_56 (i := 3) rfl rfl ?_
    refine sj_iload_n dX12_ill_57 (i := 2) rfl rfl ?_
    refine sj_if_eq (tgt := 73) dX12_ill_58 (by decide) (fun c3 => ?_) (fun c3 => ?_)
    · refine sj_aload_n dX12_ill_73 (i := 0) rfl rfl ?_
      refine sj_get (a := 56) (k9 := 15) (v := .int (σ2 56 15)) dX12_ill_74 (by decide +kernel) rfl ?_
      try simp only [if_pos c3] at h
      refine sj_fg [3] ?_
      exact t_X12_ill_77 h
    · refine sj_aload_n dX12_ill_61 (i := 0) rfl rfl ?_
      refine sj_get (a := 56) (k9 := 15) (v := .int (σ2 56 15)) dX12_ill_62 (by decide +kernel) rfl ?_
      refine sj_aload_n dX12_ill_65 (i := 0) rfl rfl ?_
      refine sj_get (a := 56) (k9 := 16) (v := .int (σ2 56 16)) dX12_ill_66 (by decide +kernel) rfl ?_
      refine sj_isub dX12_ill_69 ?_
      refine sj_goto (tgt := 77) dX12_ill_70 (by decide) ?_
      try simp only [if_neg c3] at h
      refine sj_fg [3] ?_
      exact t_X12_ill_77 h
def wp_X12_ill_0 (G : sj_G) (R : sj_R) (x1 : Int32) (x2 : Int32) (σ : sj_S) : Prop := ∃ v1 σ1, sj_C G 2 me_X12_in [.int x1, .int (nI 0), .int (nI 4)] (sj_st σ 56 0 (nI 0)) (.ok v1, σ1) ∧ ∃ v2 σ2, sj_C G 2 me_X12_fails [.ref (sj_ad G 56), .int v1, .int (nI 1)] σ1 (.ok v2, σ2) ∧ (¬ v2 = 0 → (wp_X12_ill_27 G R σ2)) ∧ (v2 = 0 → ∃ v4 σ4, sj_C G 3 me_X12_noTable [.ref (sj_ad G 56), .int (nI 2)] σ2 (.ok v4, σ4) ∧ (v4 = 0 → ∃ σ6, sj_C G 3 me_X12_looksAtTable [.ref (sj_ad G 56)] σ4 (.ok 0, σ6) ∧ sj_J G 8 me_X12_ill R 40 [.ref (sj_ad G 56), .int x1, .int x2, .int (nI 0), .int ((nI 4) * x1)] σ6 []) ∧ (¬ (v4 = 0) → (wp_X12_ill_27 G R σ4)))
set_option maxRecDepth 20000 in
theorem t_X12_ill_0 {G : sj_G} {R : sj_R} {x1 : Int32} {x2 : Int32} {σ : sj_S} (h : wp_X12_ill_0 G R x1 x2 σ) : sj_J G 8 me_X12_ill R 0 [.ref (sj_ad G 56), .int x1, .int x2, .null, .null] σ [] := by
  unfold wp_X12_ill_0 at h
  refine sj_aload_n dX12_ill_0 (i := 0) rfl rfl ?_
  refine sj_iconst (v := (nI 0)) dX12_ill_1 (by decide +kernel) ?_
  refine sj_put (a := 56) (k9 := 0) dX12_ill_2 (by decide +kernel) (by decide +kernel) rfl ?_
  refine sj_aload_n dX12_ill_5 (i := 0) rfl rfl ?_
  refine sj_iload_n dX12_ill_6 (i := 1) rfl rfl ?_
  refine sj_iconst (v := (nI 0)) dX12_ill_7 (by decide +kernel) ?_
  refine sj_iconst (v := (nI 4)) dX12_ill_8 (by decide +kernel) ?_
  obtain ⟨v1, σ1, hc1, h⟩ := h
  refine sj_callSi (M' := me_X12_in) (As := [.int x1, .int (nI 0), .int (nI 4)]) (rest := [.ref (sj_ad G 56)]) dX12_ill_9 gX12_ill_X12_in rfl hd_X12_in (Nat.le_of_ble_eq_true rfl) (by omega) rfl hc1 ?_
  refine sj_iconst (v := (nI 1)) dX12_ill_12 (by decide +kernel) ?_
  obtain ⟨v2, σ2, hc2, h⟩ := h
  refine sj_callVi (M' := me_X12_fails) (b := 56) (As := [.int v1, .int (nI 1)]) (rest := []) dX12_ill_13 gX12_ill_X12_fails rfl hd_X12_fails (by decide +kernel) (by decide +kernel) rfl (Nat.le_of_ble_eq_true rfl) (by omega) rfl hc2 ?_
  refine sj_if_ne (tgt := 27) dX12_ill_16 (by decide) (fun c3 => ?_) (fun c3 => ?_)
  · replace h := h.1 c3
    refine sj_fg [0, 1, 2] ?_
    exact t_X12_ill_27 h
  · replace h := h.2 c3
    refine sj_aload_n dX12_ill_19 (i := 0) rfl rfl ?_
    refine sj_iconst (v := (nI 2)) dX12_ill_20 (by decide +kernel) ?_
    obtain ⟨v4, σ4, hc4, h⟩ := h
    refine sj_callVi (M' := me_X12_noTable) (b := 56) (As := [.int (nI 2)]) (rest := []) dX12_ill_21 gX12_ill_X12_noTable rfl hd_X12_noTable (by decide +kernel) (by decide +kernel) rfl (Nat.le_of_ble_eq_true rfl) (by omega) rfl hc4 ?_
    refine sj_if_eq (tgt := 29) dX12_ill_24 (by decide) (fun c5 => ?_) (fun c5 => ?_)
    · replace h := h.1 c5
      refine sj_aload_n dX12_ill_29 (i := 0) rfl rfl ?_
      obtain ⟨σ6, hc6, h⟩ := h
      refine sj_callVv (M' := me_X12_looksAtTable) (b := 56) (As := []) (rest := []) dX12_ill_30 gX12_ill_X12_looksAtTable rfl hd_X12_looksAtTable (by decide +kernel) (by decide +kernel) rfl (Nat.le_of_ble_eq_true rfl) (by omega) rfl hc6 ?_
      refine sj_iconst (v := (nI 0)) dX12_ill_33 (by decide +kernel) ?_
      refine sj_istore_n dX12_ill_34 (i := 3) rfl (by decide) ?_
      refine sj_iconst (v := (nI 4)) dX12_ill_35 (by decide +kernel) ?_
      refine sj_iload_n dX12_ill_36 (i := 1) rfl rfl ?_
      refine sj_imul dX12_ill_37 ?_
      refine sj_istore dX12_ill_38 (by decide) ?_
      exact h
    · replace h := h.2 c5
      refine sj_fg [0, 1, 2] ?_
      exact t_X12_ill_27 h
theorem c_X12_ill {G : sj_G} (ok : sj_ok G) {R : sj_R} {x1 : Int32} {x2 : Int32} {σ : sj_S} (h : wp_X12_ill_0 G R x1 x2 σ) : sj_C G 8 me_X12_ill [.ref (sj_ad G 56), .int x1, .int x2] σ R :=
  sj_enter ok (by decide +kernel) rfl rfl (Nat.le_of_ble_eq_true rfl) (by simp [Value.category]) (t_X12_ill_0 h)
def wp_X12_substitute_37 (G : sj_G) (R : sj_R) (σ : sj_S) : Prop := R = (.ok (nI 0), σ)
set_option maxRecDepth 20000 in
theorem t_X12_substitute_37 {G : sj_G} {R : sj_R} {σ : sj_S} (h : wp_X12_substitute_37 G R σ) : sj_J G 8 me_X12_substitute R 37 [.null, .null, .null, .null] σ [] := by
  unfold wp_X12_substitute_37 at h
  refine sj_iconst (v := (nI 0)) dX12_substitute_37 (by decide +kernel) ?_
  subst h
  exact sj_ret dX12_substitute_38 rfl rfl
def wp_X12_substitute_86 (G : sj_G) (R : sj_R) (x1 : Int32) (x3 : Int32) (σ : sj_S) : Prop := sj_J G 8 me_X12_substitute R 50 [.ref (sj_ad G 56), .int x1, .null, .int (x3 + (nI 1))] σ []
set_option maxRecDepth 20000 in
theorem t_X12_substitute_86 {G : sj_G} {R : sj_R} {x1 : Int32} {x3 : Int32} {σ : sj_S} (h : wp_X12_substitute_86 G R x1 x3 σ) : sj_J G 8 me_X12_substitute R 86 [.ref (sj_ad G 56), .int x1, .null, .int x3] σ [] := by
  unfold wp_X12_substitute_86 at h
  refine sj_iinc (v := (x3 + (nI 1))) dX12_substitute_86 (by decide) rfl rfl ?_
  refine sj_goto (tgt := 50) dX12_substitute_89 (by decide) ?_
  exact h
def wp_X12_substitute_50 (G : sj_G) (R : sj_R) (x1 : Int32) (x3 : Int32) (σ : sj_S) : Prop := ((σ 56 15) ≤ x3 → R = (.ok (-1), σ)) ∧ (¬ ((σ 56 15) ≤ x3) → vp_in x3 9 ∧ (¬ (σ 66 x3.toNatClampNeg) = x1 → (wp_X12_substitute_86 G R x1 x3 σ)) ∧ ((σ 66 x3.toNatClampNeg) = x1 → vp_in x3 9 ∧ ((nI 6) ≤ (σ 68 x3.toNatClampNeg) → (wp_X12_substitute_86 G R x1 x3 σ)) ∧ (¬ ((nI 6) ≤ (σ 68 x3.toNatClampNeg)) → vp_in x3 9 ∧ R = (.ok (σ 68 x3.toNatClampNeg), σ))))
set_option maxRecDepth 20000 in
theorem t_X12_substitute_50 {G : sj_G} {R : sj_R} {x1 : Int32} {x3 : Int32} {σ : sj_S} (h : wp_X12_substitute_50 G R x1 x3 σ) : sj_J G 8 me_X12_substitute R 50 [.ref (sj_ad G 56), .int x1, .null, .int x3] σ [] := by
  unfold wp_X12_substitute_50 at h
  refine sj_iload_n dX12_substitute_50 (i := 3) rfl rfl ?_
  refine sj_aload_n dX12_substitute_51 (i := 0) rfl rfl ?_
  refine sj_get (a := 56) (k9 := 15) (v := .int (σ 56 15)) dX12_substitute_52 (by decide +kernel) rfl ?_
  refine sj_icmp_ge (tgt := 92) dX12_substitute_55 (by decide) (fun c1 => ?_) (fun c1 => ?_)
  · replace h := h.1 c1
    refine sj_iconst (v := (-1)) dX12_substitute_92 (by decide +kernel) ?_
    subst h
    exact sj_ret dX12_substitute_93 rfl rfl
  · replace h := h.2 c1
    refine sj_aload_n dX12_substitute_58 (i := 0) rfl rfl ?_
    refine sj_get (a := 56) (k9 := 12) (v := .ref (sj_ad G 66)) dX12_substitute_59 (by decide +kernel) rfl ?_
    refine sj_iload_n dX12_substitute_62 (i := 3) rfl rfl ?_
    obtain ⟨b2, h⟩ := h
    refine sj_iald (a := 66) (j := x3.toNatClampNeg) (x := (σ 66 x3.toNatClampNeg)) dX12_substitute_63 rfl (by decide +kernel) b2 rfl rfl ?_
    refine sj_iload_n dX12_substitute_64 (i := 1) rfl rfl ?_
    refine sj_icmp_ne (tgt := 86) dX12_substitute_65 (by decide) (fun c3 => ?_) (fun c3 => ?_)
    · replace h := h.1 c3
      exact t_X12_substitute_86 h
    · replace h := h.2 c3
      refine sj_aload_n dX12_substitute_68 (i := 0) rfl rfl ?_
      refine sj_get (a := 56) (k9 := 14) (v := .ref (sj_ad G 68)) dX12_substitute_69 (by decide +kernel) rfl ?_
      refine sj_iload_n dX12_substitute_72 (i := 3) rfl rfl ?_
      obtain ⟨b4, h⟩ := h
      refine sj_iald (a := 68) (j := x3.toNatClampNeg) (x := (σ 68 x3.toNatClampNeg)) dX12_substitute_73 rfl (by decide +kernel) b4 rfl rfl ?_
      refine sj_bipush (v := (nI 6)) dX12_substitute_74 (by decide +kernel) ?_
      refine sj_icmp_ge (tgt := 86) dX12_substitute_76 (by decide) (fun c5 => ?_) (fun c5 => ?_)
      · replace h := h.1 c5
        exact t_X12_substitute_86 h
      · replace h := h.2 c5
        refine sj_aload_n dX12_substitute_79 (i := 0) rfl rfl ?_
        refine sj_get (a := 56) (k9 := 14) (v := .ref (sj_ad G 68)) dX12_substitute_80 (by decide +kernel) rfl ?_
        refine sj_iload_n dX12_substitute_83 (i := 3) rfl rfl ?_
        obtain ⟨b6, h⟩ := h
        refine sj_iald (a := 68) (j := x3.toNatClampNeg) (x := (σ 68 x3.toNatClampNeg)) dX12_substitute_84 rfl (by decide +kernel) b6 rfl rfl ?_
        subst h
        exact sj_ret dX12_substitute_85 rfl rfl
def wp_X12_substitute_0 (G : sj_G) (R : sj_R) (x1 : Int32) (x2 : Int32) (σ : sj_S) : Prop := ∃ v1 σ1, sj_C G 3 me_X12_noLesson [.ref (sj_ad G 56), .int x1, .int (nI 1)] (sj_st σ 56 0 (nI 0)) (.ok v1, σ1) ∧ (¬ v1 = 0 → (wp_X12_substitute_37 G R σ1)) ∧ (v1 = 0 → ∃ v3 σ3, sj_C G 2 me_X12_in [.int x2, .int (nI 0), .int (nI 19)] σ1 (.ok v3, σ3) ∧ ∃ v4 σ4, sj_C G 2 me_X12_fails [.ref (sj_ad G 56), .int v3, .int (nI 2)] σ3 (.ok v4, σ4) ∧ (¬ v4 = 0 → (wp_X12_substitute_37 G R σ4)) ∧ (v4 = 0 → ∃ v6 σ6, sj_C G 3 me_X12_noTable [.ref (sj_ad G 56), .int (nI 3)] σ4 (.ok v6, σ6) ∧ (v6 = 0 → ∃ σ8, sj_C G 3 me_X12_looksAtTable [.ref (sj_ad G 56)] σ6 (.ok 0, σ8) ∧ ∃ σ9, sj_C G 7 me_X12_plans [.ref (sj_ad G 56), .int x2] σ8 (.ok 0, σ9) ∧ sj_J G 8 me_X12_substitute R 50 [.ref (sj_ad G 56), .int x1, .null, .int (nI 0)] σ9 []) ∧ (¬ (v6 = 0) → (wp_X12_substitute_37 G R σ6))))
set_option maxRecDepth 20000 in
theorem t_X12_substitute_0 {G : sj_G} {R : sj_R} {x1 : Int32} {x2 : Int32} {σ : sj_S} (h : wp_X12_substitute_0 G R x1 x2 σ) : sj_J G 8 me_X12_substitute R 0 [.ref (sj_ad G 56), .int x1, .int x2, .null] σ [] := by
  unfold wp_X12_substitute_0 at h
  refine sj_aload_n dX12_substitute_0 (i := 0) rfl rfl ?_
  refine sj_iconst (v := (nI 0)) dX12_substitute_1 (by decide +kernel) ?_
  refine sj_put (a := 56) (k9 := 0) dX12_substitute_2 (by decide +kernel) (by decide +kernel) rfl ?_
  refine sj_aload_n dX12_substitute_5 (i := 0) rfl rfl ?_
  refine sj_iload_n dX12_substitute_6 (i := 1) rfl rfl ?_
  refine sj_iconst (v := (nI 1)) dX12_substitute_7 (by decide +kernel) ?_
  obtain ⟨v1, σ1, hc1, h⟩ := h
  refine sj_callVi (M' := me_X12_noLesson) (b := 56) (As := [.int x1, .int (nI 1)]) (rest := []) dX12_substitute_8 gX12_substitute_X12_noLesson rfl hd_X12_noLesson (by decide +kernel) (by decide +kernel) rfl (Nat.le_of_ble_eq_true rfl) (by omega) rfl hc1 ?_
  refine sj_if_ne (tgt := 37) dX12_substitute_11 (by decide) (fun c2 => ?_) (fun c2 => ?_)
  · replace h := h.1 c2
    refine sj_fg [0, 1, 2] ?_
    exact t_X12_substitute_37 h
  · replace h := h.2 c2
    refine sj_aload_n dX12_substitute_14 (i := 0) rfl rfl ?_
    refine sj_iload_n dX12_substitute_15 (i := 2) rfl rfl ?_
    refine sj_iconst (v := (nI 0)) dX12_substitute_16 (by decide +kernel) ?_
    refine sj_bipush (v := (nI 19)) dX12_substitute_17 (by decide +kernel) ?_
    obtain ⟨v3, σ3, hc3, h⟩ := h
    refine sj_callSi (M' := me_X12_in) (As := [.int x2, .int (nI 0), .int (nI 19)]) (rest := [.ref (sj_ad G 56)]) dX12_substitute_19 gX12_substitute_X12_in rfl hd_X12_in (Nat.le_of_ble_eq_true rfl) (by omega) rfl hc3 ?_
    refine sj_iconst (v := (nI 2)) dX12_substitute_22 (by decide +kernel) ?_
    obtain ⟨v4, σ4, hc4, h⟩ := h
    refine sj_callVi (M' := me_X12_fails) (b := 56) (As := [.int v3, .int (nI 2)]) (rest := []) dX12_substitute_23 gX12_substitute_X12_fails rfl hd_X12_fails (by decide +kernel) (by decide +kernel) rfl (Nat.le_of_ble_eq_true rfl) (by omega) rfl hc4 ?_
    refine sj_if_ne (tgt := 37) dX12_substitute_26 (by decide) (fun c5 => ?_) (fun c5 => ?_)
    · replace h := h.1 c5
      refine sj_fg [0, 1, 2] ?_
      exact t_X12_substitute_37 h
    · replace h := h.2 c5
      refine sj_aload_n dX12_substitute_29 (i := 0) rfl rfl ?_
      refine sj_iconst (v := (nI 3)) dX12_substitute_30 (by decide +kernel) ?_
      obtain ⟨v6, σ6, hc6, h⟩ := h
      refine sj_callVi (M' := me_X12_noTable) (b := 56) (As := [.int (nI 3)]) (rest := []) dX12_substitute_31 gX12_substitute_X12_noTable rfl hd_X12_noTable (by decide +kernel) (by decide +kernel) rfl (Nat.le_of_ble_eq_true rfl) (by omega) rfl hc6 ?_
      refine sj_if_eq (tgt := 39) dX12_substitute_34 (by decide) (fun c7 => ?_) (fun c7 => ?_)
      · replace h := h.1 c7
        refine sj_aload_n dX12_substitute_39 (i := 0) rfl rfl ?_
        obtain ⟨σ8, hc8, h⟩ := h
        refine sj_callVv (M' := me_X12_looksAtTable) (b := 56) (As := []) (rest := []) dX12_substitute_40 gX12_substitute_X12_looksAtTable rfl hd_X12_looksAtTable (by decide +kernel) (by decide +kernel) rfl (Nat.le_of_ble_eq_true rfl) (by omega) rfl hc8 ?_
        refine sj_aload_n dX12_substitute_43 (i := 0) rfl rfl ?_
        refine sj_iload_n dX12_substitute_44 (i := 2) rfl rfl ?_
        obtain ⟨σ9, hc9, h⟩ := h
        refine sj_callVv (M' := me_X12_plans) (b := 56) (As := [.int x2]) (rest := []) dX12_substitute_45 gX12_substitute_X12_plans rfl hd_X12_plans (by decide +kernel) (by decide +kernel) rfl (Nat.le_of_ble_eq_true rfl) (by omega) rfl hc9 ?_
        refine sj_iconst (v := (nI 0)) dX12_substitute_48 (by decide +kernel) ?_
        refine sj_istore_n dX12_substitute_49 (i := 3) rfl (by decide) ?_
        refine sj_fg [2] ?_
        exact h
      · replace h := h.2 c7
        refine sj_fg [0, 1, 2] ?_
        exact t_X12_substitute_37 h
theorem c_X12_substitute {G : sj_G} (ok : sj_ok G) {R : sj_R} {x1 : Int32} {x2 : Int32} {σ : sj_S} (h : wp_X12_substitute_0 G R x1 x2 σ) : sj_C G 8 me_X12_substitute [.ref (sj_ad G 56), .int x1, .int x2] σ R :=
  sj_enter ok (by decide +kernel) rfl rfl (Nat.le_of_ble_eq_true rfl) (by simp [Value.category]) (t_X12_substitute_0 h)
def wp_X12_takes_21 (G : sj_G) (R : sj_R) (σ : sj_S) : Prop := R = (.ok (nI 0), σ)
set_option maxRecDepth 20000 in
theorem t_X12_takes_21 {G : sj_G} {R : sj_R} {σ : sj_S} (h : wp_X12_takes_21 G R σ) : sj_J G 8 me_X12_takes R 21 [.null, .null, .null, .null, .null] σ [] := by
  unfold wp_X12_takes_21 at h
  refine sj_iconst (v := (nI 0)) dX12_takes_21 (by decide +kernel) ?_
  subst h
  exact sj_ret dX12_takes_22 rfl rfl
def wp_X12_takes_31 (G : sj_G) (R : sj_R) (x1 : Int32) (x2 : Int32) (x3 : Int32) (σ : sj_S) : Prop := ((nI 20) ≤ x3 → R = (.ok x2, σ)) ∧ (¬ ((nI 20) ≤ x3) → ∃ σ2, sj_C G 7 me_X12_plans [.ref (sj_ad G 56), .int x3] σ (.ok 0, σ2) ∧ sj_J G 8 me_X12_takes R 45 [.ref (sj_ad G 56), .int x1, .int x2, .int x3, .int (nI 0)] σ2 [])
set_option maxRecDepth 20000 in
theorem t_X12_takes_31 {G : sj_G} {R : sj_R} {x1 : Int32} {x2 : Int32} {x3 : Int32} {σ : sj_S} (h : wp_X12_takes_31 G R x1 x2 x3 σ) : sj_J G 8 me_X12_takes R 31 [.ref (sj_ad G 56), .int x1, .int x2, .int x3, .null] σ [] := by
  unfold wp_X12_takes_31 at h
  refine sj_iload_n dX12_takes_31 (i := 3) rfl rfl ?_
  refine sj_bipush (v := (nI 20)) dX12_takes_32 (by decide +kernel) ?_
  refine sj_icmp_ge (tgt := 85) dX12_takes_34 (by decide) (fun c1 => ?_) (fun c1 => ?_)
  · replace h := h.1 c1
    refine sj_iload_n dX12_takes_85 (i := 2) rfl rfl ?_
    subst h
    exact sj_ret dX12_takes_86 rfl rfl
  · replace h := h.2 c1
    refine sj_aload_n dX12_takes_37 (i := 0) rfl rfl ?_
    refine sj_iload_n dX12_takes_38 (i := 3) rfl rfl ?_
    obtain ⟨σ2, hc2, h⟩ := h
    refine sj_callVv (M' := me_X12_plans) (b := 56) (As := [.int x3]) (rest := []) dX12_takes_39 gX12_takes_X12_plans rfl hd_X12_plans (by decide +kernel) (by decide +kernel) rfl (Nat.le_of_ble_eq_true rfl) (by omega) rfl hc2 ?_
    refine sj_iconst (v := (nI 0)) dX12_takes_42 (by decide +kernel) ?_
    refine sj_istore dX12_takes_43 (by decide) ?_
    exact h
def wp_X12_takes_71 (G : sj_G) (R : sj_R) (x1 : Int32) (x3 : Int32) (x4 : Int32) (s0 : Int32) (s1 : Int32) (σ : sj_S) : Prop := sj_J G 8 me_X12_takes R 45 [.ref (sj_ad G 56), .int x1, .int (s1 + s0), .int x3, .int (x4 + (nI 1))] σ []
set_option maxRecDepth 20000 in
theorem t_X12_takes_71 {G : sj_G} {R : sj_R} {x1 : Int32} {x3 : Int32} {x4 : Int32} {s0 : Int32} {s1 : Int32} {σ : sj_S} (h : wp_X12_takes_71 G R x1 x3 x4 s0 s1 σ) : sj_J G 8 me_X12_takes R 71 [.ref (sj_ad G 56), .int x1, .null, .int x3, .int x4] σ [.int s0, .int s1] := by
  unfold wp_X12_takes_71 at h
  refine sj_iadd dX12_takes_71 ?_
  refine sj_istore_n dX12_takes_72 (i := 2) rfl (by decide) ?_
  refine sj_iinc (v := (x4 + (nI 1))) dX12_takes_73 (by decide) rfl rfl ?_
  refine sj_goto (tgt := 45) dX12_takes_76 (by decide) ?_
  exact h
def wp_X12_takes_45 (G : sj_G) (R : sj_R) (x1 : Int32) (x2 : Int32) (x3 : Int32) (x4 : Int32) (σ : sj_S) : Prop := ((σ 56 15) ≤ x4 → sj_J G 8 me_X12_takes R 31 [.ref (sj_ad G 56), .int x1, .int x2, .int (x3 + (nI 1)), .null] σ []) ∧ (¬ ((σ 56 15) ≤ x4) → vp_in x4 9 ∧ (wp_X12_takes_71 G R x1 x3 x4 (if (σ 68 x4.toNatClampNeg) = x1 then (nI 1) else (nI 0)) x2 σ))
set_option maxRecDepth 20000 in
theorem t_X12_takes_45 {G : sj_G} {R : sj_R} {x1 : Int32} {x2 : Int32} {x3 : Int32} {x4 : Int32} {σ : sj_S} (h : wp_X12_takes_45 G R x1 x2 x3 x4 σ) : sj_J G 8 me_X12_takes R 45 [.ref (sj_ad G 56), .int x1, .int x2, .int x3, .int x4] σ [] := by
  unfold wp_X12_takes_45 at h
  refine sj_iload dX12_takes_45 rfl ?_
  refine sj_aload_n dX12_takes_47 (i := 0) rfl rfl ?_
  refine sj_get (a := 56) (k9 := 15) (v := .int (σ 56 15)) dX12_takes_48 (by decide +kernel) rfl ?_
  refine sj_icmp_ge (tgt := 79) dX12_takes_51 (by decide) (fun c1 => ?_) (fun c1 => ?_)
  · replace h := h.1 c1
    refine sj_iinc (v := (x3 + (nI 1))) dX12_takes_79 (by decide) rfl rfl ?_
    refine sj_goto (tgt := 31) dX12_takes_82 (by decide) ?_
    refine sj_fg [4] ?_
    exact h
  · replace h := h.2 c1
    refine sj_iload_n dX12_takes_54 (i := 2) rfl rfl ?_
    refine sj_aload_n dX12_takes_55 (i := 0) rfl rfl ?_
    refine sj_get (a := 56) (k9 := 14) (v := .ref (sj_ad G 68)) dX12_takes_56 (by decide +kernel) rfl ?_
    refine sj_iload dX12_takes_59 rfl ?_
    obtain ⟨b2, h⟩ := h
    refine sj_iald (a := 68) (j := x4.toNatClampNeg) (x := (σ 68 x4.toNatClampNeg)) dX12_takes_61 rfl (by decide +kernel) b2 rfl rfl ?_
    refine sj_iload_n dX12_takes_62 (i := 1) rfl rfl ?_
    refine sj_icmp_ne (tgt := 70) dX12_takes_63 (by decide) (fun c3 => ?_) (fun c3 => ?_)
    · refine sj_iconst (v := (nI 0)) dX12_takes_70 (by decide +kernel) ?_
      try simp only [if_neg c3] at h
      refine sj_fg [2] ?_
      exact t_X12_takes_71 h
    · refine sj_iconst (v := (nI 1)) dX12_takes_66 (by decide +kernel) ?_
      refine sj_goto (tgt := 71) dX12_takes_67 (by decide) ?_
      try simp only [if_pos c3] at h
      refine sj_fg [2] ?_
      exact t_X12_takes_71 h
def wp_X12_takes_0 (G : sj_G) (R : sj_R) (x1 : Int32) (σ : sj_S) : Prop := ∃ v1 σ1, sj_C G 3 me_X12_noTeacher [.ref (sj_ad G 56), .int x1] (sj_st σ 56 0 (nI 0)) (.ok v1, σ1) ∧ (¬ v1 = 0 → (wp_X12_takes_21 G R σ1)) ∧ (v1 = 0 → ∃ v3 σ3, sj_C G 3 me_X12_noTable [.ref (sj_ad G 56), .int (nI 2)] σ1 (.ok v3, σ3) ∧ (v3 = 0 → ∃ σ5, sj_C G 3 me_X12_looksAtTable [.ref (sj_ad G 56)] σ3 (.ok 0, σ5) ∧ sj_J G 8 me_X12_takes R 31 [.ref (sj_ad G 56), .int x1, .int (nI 0), .int (nI 0), .null] σ5 []) ∧ (¬ (v3 = 0) → (wp_X12_takes_21 G R σ3)))
set_option maxRecDepth 20000 in
theorem t_X12_takes_0 {G : sj_G} {R : sj_R} {x1 : Int32} {σ : sj_S} (h : wp_X12_takes_0 G R x1 σ) : sj_J G 8 me_X12_takes R 0 [.ref (sj_ad G 56), .int x1, .null, .null, .null] σ [] := by
  unfold wp_X12_takes_0 at h
  refine sj_aload_n dX12_takes_0 (i := 0) rfl rfl ?_
  refine sj_iconst (v := (nI 0)) dX12_takes_1 (by decide +kernel) ?_
  refine sj_put (a := 56) (k9 := 0) dX12_takes_2 (by decide +kernel) (by decide +kernel) rfl ?_
  refine sj_aload_n dX12_takes_5 (i := 0) rfl rfl ?_
  refine sj_iload_n dX12_takes_6 (i := 1) rfl rfl ?_
  obtain ⟨v1, σ1, hc1, h⟩ := h
  refine sj_callVi (M' := me_X12_noTeacher) (b := 56) (As := [.int x1]) (rest := []) dX12_takes_7 gX12_takes_X12_noTeacher rfl hd_X12_noTeacher (by decide +kernel) (by decide +kernel) rfl (Nat.le_of_ble_eq_true rfl) (by omega) rfl hc1 ?_
  refine sj_if_ne (tgt := 21) dX12_takes_10 (by decide) (fun c2 => ?_) (fun c2 => ?_)
  · replace h := h.1 c2
    refine sj_fg [0, 1] ?_
    exact t_X12_takes_21 h
  · replace h := h.2 c2
    refine sj_aload_n dX12_takes_13 (i := 0) rfl rfl ?_
    refine sj_iconst (v := (nI 2)) dX12_takes_14 (by decide +kernel) ?_
    obtain ⟨v3, σ3, hc3, h⟩ := h
    refine sj_callVi (M' := me_X12_noTable) (b := 56) (As := [.int (nI 2)]) (rest := []) dX12_takes_15 gX12_takes_X12_noTable rfl hd_X12_noTable (by decide +kernel) (by decide +kernel) rfl (Nat.le_of_ble_eq_true rfl) (by omega) rfl hc3 ?_
    refine sj_if_eq (tgt := 23) dX12_takes_18 (by decide) (fun c4 => ?_) (fun c4 => ?_)
    · replace h := h.1 c4
      refine sj_aload_n dX12_takes_23 (i := 0) rfl rfl ?_
      obtain ⟨σ5, hc5, h⟩ := h
      refine sj_callVv (M' := me_X12_looksAtTable) (b := 56) (As := []) (rest := []) dX12_takes_24 gX12_takes_X12_looksAtTable rfl hd_X12_looksAtTable (by decide +kernel) (by decide +kernel) rfl (Nat.le_of_ble_eq_true rfl) (by omega) rfl hc5 ?_
      refine sj_iconst (v := (nI 0)) dX12_takes_27 (by decide +kernel) ?_
      refine sj_istore_n dX12_takes_28 (i := 2) rfl (by decide) ?_
      refine sj_iconst (v := (nI 0)) dX12_takes_29 (by decide +kernel) ?_
      refine sj_istore_n dX12_takes_30 (i := 3) rfl (by decide) ?_
      exact h
    · replace h := h.2 c4
      refine sj_fg [0, 1] ?_
      exact t_X12_takes_21 h
theorem c_X12_takes {G : sj_G} (ok : sj_ok G) {R : sj_R} {x1 : Int32} {σ : sj_S} (h : wp_X12_takes_0 G R x1 σ) : sj_C G 8 me_X12_takes [.ref (sj_ad G 56), .int x1] σ R :=
  sj_enter ok (by decide +kernel) rfl rfl (Nat.le_of_ble_eq_true rfl) (by simp [Value.category]) (t_X12_takes_0 h)
def wp_X12_areApart_22 (G : sj_G) (R : sj_R) (s0 : Int32) (σ : sj_S) : Prop := R = (.ok s0, σ) ∧ (s0 = nI 0 ∨ s0 = nI 1)
set_option maxRecDepth 20000 in
theorem t_X12_areApart_22 {G : sj_G} {R : sj_R} {s0 : Int32} {σ : sj_S} (h : wp_X12_areApart_22 G R s0 σ) : sj_J G 2 me_X12_areApart R 22 [.null, .null, .null] σ [.int s0] := by
  unfold wp_X12_areApart_22 at h
  obtain ⟨h, hz⟩ := h
  subst h
  exact sj_ret dX12_areApart_22 rfl (sj_nb hz)
def wp_X12_areApart_0 (G : sj_G) (R : sj_R) (x1 : Int32) (x2 : Int32) (σ : sj_S) : Prop := vp_in ((nI 108) + x1) 128 ∧ (wp_X12_areApart_22 G R (if (((σ 57 ((nI 108) + x1).toNatClampNeg) >>> (x2 &&& 31)) &&& (nI 1)) = (nI 1) then (nI 1) else (nI 0)) σ)
set_option maxRecDepth 20000 in
theorem t_X12_areApart_0 {G : sj_G} {R : sj_R} {x1 : Int32} {x2 : Int32} {σ : sj_S} (h : wp_X12_areApart_0 G R x1 x2 σ) : sj_J G 2 me_X12_areApart R 0 [.ref (sj_ad G 56), .int x1, .int x2] σ [] := by
  unfold wp_X12_areApart_0 at h
  refine sj_aload_n dX12_areApart_0 (i := 0) rfl rfl ?_
  refine sj_get (a := 56) (k9 := 1) (v := .ref (sj_ad G 57)) dX12_areApart_1 (by decide +kernel) rfl ?_
  refine sj_bipush (v := (nI 108)) dX12_areApart_4 (by decide +kernel) ?_
  refine sj_iload_n dX12_areApart_6 (i := 1) rfl rfl ?_
  refine sj_iadd dX12_areApart_7 ?_
  obtain ⟨b1, h⟩ := h
  refine sj_iald (a := 57) (j := ((nI 108) + x1).toNatClampNeg) (x := (σ 57 ((nI 108) + x1).toNatClampNeg)) dX12_areApart_8 rfl (by decide +kernel) b1 rfl rfl ?_
  refine sj_iload_n dX12_areApart_9 (i := 2) rfl rfl ?_
  refine sj_ishr dX12_areApart_10 ?_
  refine sj_iconst (v := (nI 1)) dX12_areApart_11 (by decide +kernel) ?_
  refine sj_iand dX12_areApart_12 ?_
  refine sj_iconst (v := (nI 1)) dX12_areApart_13 (by decide +kernel) ?_
  refine sj_icmp_ne (tgt := 21) dX12_areApart_14 (by decide) (fun c2 => ?_) (fun c2 => ?_)
  · refine sj_iconst (v := (nI 0)) dX12_areApart_21 (by decide +kernel) ?_
    try simp only [if_neg c2] at h
    refine sj_fg [0, 1, 2] ?_
    exact t_X12_areApart_22 h
  · refine sj_iconst (v := (nI 1)) dX12_areApart_17 (by decide +kernel) ?_
    refine sj_goto (tgt := 22) dX12_areApart_18 (by decide) ?_
    try simp only [if_pos c2] at h
    refine sj_fg [0, 1, 2] ?_
    exact t_X12_areApart_22 h
theorem c_X12_areApart {G : sj_G} (ok : sj_ok G) {R : sj_R} {x1 : Int32} {x2 : Int32} {σ : sj_S} (h : wp_X12_areApart_0 G R x1 x2 σ) : sj_C G 2 me_X12_areApart [.ref (sj_ad G 56), .int x1, .int x2] σ R :=
  sj_enter ok (by decide +kernel) rfl rfl (Nat.le_of_ble_eq_true rfl) (by simp [Value.category]) (t_X12_areApart_0 h)
def wp_X12_isDayGood_33 (G : sj_G) (R : sj_R) (x1 : Int32) (x2 : Int32) (σ : sj_S) : Prop := sj_J G 3 me_X12_isDayGood R 2 [.ref (sj_ad G 56), .int x1, .int (x2 + (nI 1))] σ []
set_option maxRecDepth 20000 in
theorem t_X12_isDayGood_33 {G : sj_G} {R : sj_R} {x1 : Int32} {x2 : Int32} {σ : sj_S} (h : wp_X12_isDayGood_33 G R x1 x2 σ) : sj_J G 3 me_X12_isDayGood R 33 [.ref (sj_ad G 56), .int x1, .int x2] σ [] := by
  unfold wp_X12_isDayGood_33 at h
  refine sj_iinc (v := (x2 + (nI 1))) dX12_isDayGood_33 (by decide) rfl rfl ?_
  refine sj_goto (tgt := 2) dX12_isDayGood_36 (by decide) ?_
  exact h
def wp_X12_isDayGood_2 (G : sj_G) (R : sj_R) (x1 : Int32) (x2 : Int32) (σ : sj_S) : Prop := (x1 ≤ x2 → R = (.ok (nI 1), σ)) ∧ (¬ (x1 ≤ x2) → ∃ v2 σ2, sj_C G 2 me_X12_areApart [.ref (sj_ad G 56), .int x1, .int x2] σ (.ok v2, σ2) ∧ (v2 = 0 → (wp_X12_isDayGood_33 G R x1 x2 σ2)) ∧ (¬ (v2 = 0) → vp_in x2 8 ∧ vp_in x1 8 ∧ (¬ (σ2 69 x2.toNatClampNeg) = (σ2 69 x1.toNatClampNeg) → (wp_X12_isDayGood_33 G R x1 x2 σ2)) ∧ ((σ2 69 x2.toNatClampNeg) = (σ2 69 x1.toNatClampNeg) → R = (.ok (nI 0), σ2))))
set_option maxRecDepth 20000 in
theorem t_X12_isDayGood_2 {G : sj_G} {R : sj_R} {x1 : Int32} {x2 : Int32} {σ : sj_S} (h : wp_X12_isDayGood_2 G R x1 x2 σ) : sj_J G 3 me_X12_isDayGood R 2 [.ref (sj_ad G 56), .int x1, .int x2] σ [] := by
  unfold wp_X12_isDayGood_2 at h
  refine sj_iload_n dX12_isDayGood_2 (i := 2) rfl rfl ?_
  refine sj_iload_n dX12_isDayGood_3 (i := 1) rfl rfl ?_
  refine sj_icmp_ge (tgt := 39) dX12_isDayGood_4 (by decide) (fun c1 => ?_) (fun c1 => ?_)
  · replace h := h.1 c1
    refine sj_iconst (v := (nI 1)) dX12_isDayGood_39 (by decide +kernel) ?_
    subst h
    exact sj_ret dX12_isDayGood_40 rfl rfl
  · replace h := h.2 c1
    refine sj_aload_n dX12_isDayGood_7 (i := 0) rfl rfl ?_
    refine sj_iload_n dX12_isDayGood_8 (i := 1) rfl rfl ?_
    refine sj_iload_n dX12_isDayGood_9 (i := 2) rfl rfl ?_
    obtain ⟨v2, σ2, hc2, h⟩ := h
    refine sj_callVi (M' := me_X12_areApart) (b := 56) (As := [.int x1, .int x2]) (rest := []) dX12_isDayGood_10 gX12_isDayGood_X12_areApart rfl hd_X12_areApart (by decide +kernel) (by decide +kernel) rfl (Nat.le_of_ble_eq_true rfl) (by omega) rfl hc2 ?_
    refine sj_if_eq (tgt := 33) dX12_isDayGood_13 (by decide) (fun c3 => ?_) (fun c3 => ?_)
    · replace h := h.1 c3
      exact t_X12_isDayGood_33 h
    · replace h := h.2 c3
      refine sj_aload_n dX12_isDayGood_16 (i := 0) rfl rfl ?_
      refine sj_get (a := 56) (k9 := 17) (v := .ref (sj_ad G 69)) dX12_isDayGood_17 (by decide +kernel) rfl ?_
      refine sj_iload_n dX12_isDayGood_20 (i := 2) rfl rfl ?_
      obtain ⟨b4, h⟩ := h
      refine sj_iald (a := 69) (j := x2.toNatClampNeg) (x := (σ2 69 x2.toNatClampNeg)) dX12_isDayGood_21 rfl (by decide +kernel) b4 rfl rfl ?_
      refine sj_aload_n dX12_isDayGood_22 (i := 0) rfl rfl ?_
      refine sj_get (a := 56) (k9 := 17) (v := .ref (sj_ad G 69)) dX12_isDayGood_23 (by decide +kernel) rfl ?_
      refine sj_iload_n dX12_isDayGood_26 (i := 1) rfl rfl ?_
      obtain ⟨b5, h⟩ := h
      refine sj_iald (a := 69) (j := x1.toNatClampNeg) (x := (σ2 69 x1.toNatClampNeg)) dX12_isDayGood_27 rfl (by decide +kernel) b5 rfl rfl ?_
      refine sj_icmp_ne (tgt := 33) dX12_isDayGood_28 (by decide) (fun c6 => ?_) (fun c6 => ?_)
      · replace h := h.1 c6
        exact t_X12_isDayGood_33 h
      · replace h := h.2 c6
        refine sj_iconst (v := (nI 0)) dX12_isDayGood_31 (by decide +kernel) ?_
        subst h
        exact sj_ret dX12_isDayGood_32 rfl rfl
def wp_X12_isDayGood_0 (G : sj_G) (R : sj_R) (x1 : Int32) (σ : sj_S) : Prop := sj_J G 3 me_X12_isDayGood R 2 [.ref (sj_ad G 56), .int x1, .int (nI 0)] σ []
set_option maxRecDepth 20000 in
theorem t_X12_isDayGood_0 {G : sj_G} {R : sj_R} {x1 : Int32} {σ : sj_S} (h : wp_X12_isDayGood_0 G R x1 σ) : sj_J G 3 me_X12_isDayGood R 0 [.ref (sj_ad G 56), .int x1, .null] σ [] := by
  unfold wp_X12_isDayGood_0 at h
  refine sj_iconst (v := (nI 0)) dX12_isDayGood_0 (by decide +kernel) ?_
  refine sj_istore_n dX12_isDayGood_1 (i := 2) rfl (by decide) ?_
  exact h
theorem c_X12_isDayGood {G : sj_G} (ok : sj_ok G) {R : sj_R} {x1 : Int32} {σ : sj_S} (h : wp_X12_isDayGood_0 G R x1 σ) : sj_C G 3 me_X12_isDayGood [.ref (sj_ad G 56), .int x1] σ R :=
  sj_enter ok (by decide +kernel) rfl rfl (Nat.le_of_ble_eq_true rfl) (by simp [Value.category]) (t_X12_isDayGood_0 h)
def wp_X12_plansDays_9 (G : sj_G) (R : sj_R) (x1 : Int32) (x2 : Int32) (σ : sj_S) : Prop := ((nI 8) ≤ x2 → R = (.ok (nI 1), σ)) ∧ (¬ ((nI 8) ≤ x2) → vp_in x2 8 ∧ vp_in x2 8 ∧ sj_J G 4 me_X12_plansDays R 25 [.ref (sj_ad G 56), .int x1, .int x2] (sj_st σ 69 x2.toNatClampNeg ((σ 69 x2.toNatClampNeg) + (nI 1))) [])
set_option maxRecDepth 20000 in
theorem t_X12_plansDays_9 {G : sj_G} {R : sj_R} {x1 : Int32} {x2 : Int32} {σ : sj_S} (h : wp_X12_plansDays_9 G R x1 x2 σ) : sj_J G 4 me_X12_plansDays R 9 [.ref (sj_ad G 56), .int x1, .int x2] σ [] := by
  unfold wp_X12_plansDays_9 at h
  refine sj_iload_n dX12_plansDays_9 (i := 2) rfl rfl ?_
  refine sj_bipush (v := (nI 8)) dX12_plansDays_10 (by decide +kernel) ?_
  refine sj_icmp_ge (tgt := 97) dX12_plansDays_12 (by decide) (fun c1 => ?_) (fun c1 => ?_)
  · replace h := h.1 c1
    refine sj_iconst (v := (nI 1)) dX12_plansDays_97 (by decide +kernel) ?_
    subst h
    exact sj_ret dX12_plansDays_98 rfl rfl
  · replace h := h.2 c1
    refine sj_aload_n dX12_plansDays_15 (i := 0) rfl rfl ?_
    refine sj_get (a := 56) (k9 := 17) (v := .ref (sj_ad G 69)) dX12_plansDays_16 (by decide +kernel) rfl ?_
    refine sj_iload_n dX12_plansDays_19 (i := 2) rfl rfl ?_
    refine sj_dup2 dX12_plansDays_20 rfl rfl ?_
    obtain ⟨b2, h⟩ := h
    refine sj_iald (a := 69) (j := x2.toNatClampNeg) (x := (σ 69 x2.toNatClampNeg)) dX12_plansDays_21 rfl (by decide +kernel) b2 rfl rfl ?_
    refine sj_iconst (v := (nI 1)) dX12_plansDays_22 (by decide +kernel) ?_
    refine sj_iadd dX12_plansDays_23 ?_
    obtain ⟨b3, h⟩ := h
    refine sj_iast (a := 69) (j := x2.toNatClampNeg) dX12_plansDays_24 rfl (by decide +kernel) b3 rfl ?_
    exact h
def wp_X12_plansDays_56 (G : sj_G) (R : sj_R) (x1 : Int32) (x2 : Int32) (σ : sj_S) : Prop := vp_in x2 8 ∧ (x1 ≤ (σ 69 x2.toNatClampNeg) → (¬ x2 = 0 → sj_J G 4 me_X12_plansDays R 9 [.ref (sj_ad G 56), .int x1, .int (x2 + (-1))] σ []) ∧ (x2 = 0 → R = (.ok (nI 0), σ))) ∧ (¬ (x1 ≤ (σ 69 x2.toNatClampNeg)) → ((nI 8) ≤ (x2 + (nI 1)) → sj_J G 4 me_X12_plansDays R 9 [.ref (sj_ad G 56), .int x1, .int (x2 + (nI 1))] σ []) ∧ (¬ ((nI 8) ≤ (x2 + (nI 1))) → vp_in (x2 + (nI 1)) 8 ∧ sj_J G 4 me_X12_plansDays R 9 [.ref (sj_ad G 56), .int x1, .int (x2 + (nI 1))] (sj_st σ 69 (x2 + (nI 1)).toNatClampNeg (-1)) []))
set_option maxRecDepth 20000 in
theorem t_X12_plansDays_56 {G : sj_G} {R : sj_R} {x1 : Int32} {x2 : Int32} {σ : sj_S} (h : wp_X12_plansDays_56 G R x1 x2 σ) : sj_J G 4 me_X12_plansDays R 56 [.ref (sj_ad G 56), .int x1, .int x2] σ [] := by
  unfold wp_X12_plansDays_56 at h
  refine sj_aload_n dX12_plansDays_56 (i := 0) rfl rfl ?_
  refine sj_get (a := 56) (k9 := 17) (v := .ref (sj_ad G 69)) dX12_plansDays_57 (by decide +kernel) rfl ?_
  refine sj_iload_n dX12_plansDays_60 (i := 2) rfl rfl ?_
  obtain ⟨b1, h⟩ := h
  refine sj_iald (a := 69) (j := x2.toNatClampNeg) (x := (σ 69 x2.toNatClampNeg)) dX12_plansDays_61 rfl (by decide +kernel) b1 rfl rfl ?_
  refine sj_iload_n dX12_plansDays_62 (i := 1) rfl rfl ?_
  refine sj_icmp_ge (tgt := 85) dX12_plansDays_63 (by decide) (fun c2 => ?_) (fun c2 => ?_)
  · replace h := h.1 c2
    refine sj_iload_n dX12_plansDays_85 (i := 2) rfl rfl ?_
    refine sj_if_ne (tgt := 91) dX12_plansDays_86 (by decide) (fun c3 => ?_) (fun c3 => ?_)
    · replace h := h.1 c3
      refine sj_iinc (v := (x2 + (-1))) dX12_plansDays_91 (by decide) rfl rfl ?_
      refine sj_goto (tgt := 9) dX12_plansDays_94 (by decide) ?_
      exact h
    · replace h := h.2 c3
      refine sj_iconst (v := (nI 0)) dX12_plansDays_89 (by decide +kernel) ?_
      subst h
      exact sj_ret dX12_plansDays_90 rfl rfl
  · replace h := h.2 c2
    refine sj_iinc (v := (x2 + (nI 1))) dX12_plansDays_66 (by decide) rfl rfl ?_
    refine sj_iload_n dX12_plansDays_69 (i := 2) rfl rfl ?_
    refine sj_bipush (v := (nI 8)) dX12_plansDays_70 (by decide +kernel) ?_
    refine sj_icmp_ge (tgt := 9) dX12_plansDays_72 (by decide) (fun c4 => ?_) (fun c4 => ?_)
    · replace h := h.1 c4
      exact h
    · replace h := h.2 c4
      refine sj_aload_n dX12_plansDays_75 (i := 0) rfl rfl ?_
      refine sj_get (a := 56) (k9 := 17) (v := .ref (sj_ad G 69)) dX12_plansDays_76 (by decide +kernel) rfl ?_
      refine sj_iload_n dX12_plansDays_79 (i := 2) rfl rfl ?_
      refine sj_iconst (v := (-1)) dX12_plansDays_80 (by decide +kernel) ?_
      obtain ⟨b5, h⟩ := h
      refine sj_iast (a := 69) (j := (x2 + (nI 1)).toNatClampNeg) dX12_plansDays_81 rfl (by decide +kernel) b5 rfl ?_
      refine sj_goto (tgt := 9) dX12_plansDays_82 (by decide) ?_
      exact h
def wp_X12_plansDays_25 (G : sj_G) (R : sj_R) (x1 : Int32) (x2 : Int32) (σ : sj_S) : Prop := vp_in x2 8 ∧ (x1 ≤ (σ 69 x2.toNatClampNeg) → (wp_X12_plansDays_56 G R x1 x2 σ)) ∧ (¬ (x1 ≤ (σ 69 x2.toNatClampNeg)) → ∃ v4 σ4, sj_C G 3 me_X12_isDayGood [.ref (sj_ad G 56), .int x2] σ (.ok v4, σ4) ∧ (¬ v4 = 0 → (wp_X12_plansDays_56 G R x1 x2 σ4)) ∧ (v4 = 0 → vp_in x2 8 ∧ vp_in x2 8 ∧ sj_J G 4 me_X12_plansDays R 25 [.ref (sj_ad G 56), .int x1, .int x2] (sj_st σ4 69 x2.toNatClampNeg ((σ4 69 x2.toNatClampNeg) + (nI 1))) []))
set_option maxRecDepth 20000 in
theorem t_X12_plansDays_25 {G : sj_G} {R : sj_R} {x1 : Int32} {x2 : Int32} {σ : sj_S} (h : wp_X12_plansDays_25 G R x1 x2 σ) : sj_J G 4 me_X12_plansDays R 25 [.ref (sj_ad G 56), .int x1, .int x2] σ [] := by
  unfold wp_X12_plansDays_25 at h
  refine sj_aload_n dX12_plansDays_25 (i := 0) rfl rfl ?_
  refine sj_get (a := 56) (k9 := 17) (v := .ref (sj_ad G 69)) dX12_plansDays_26 (by decide +kernel) rfl ?_
  refine sj_iload_n dX12_plansDays_29 (i := 2) rfl rfl ?_
  obtain ⟨b1, h⟩ := h
  refine sj_iald (a := 69) (j := x2.toNatClampNeg) (x := (σ 69 x2.toNatClampNeg)) dX12_plansDays_30 rfl (by decide +kernel) b1 rfl rfl ?_
  refine sj_iload_n dX12_plansDays_31 (i := 1) rfl rfl ?_
  refine sj_icmp_ge (tgt := 56) dX12_plansDays_32 (by decide) (fun c3 => ?_) (fun c3 => ?_)
  · replace h := h.1 c3
    exact t_X12_plansDays_56 h
  · replace h := h.2 c3
    refine sj_aload_n dX12_plansDays_35 (i := 0) rfl rfl ?_
    refine sj_iload_n dX12_plansDays_36 (i := 2) rfl rfl ?_
    obtain ⟨v4, σ4, hc4, h⟩ := h
    refine sj_callVi (M' := me_X12_isDayGood) (b := 56) (As := [.int x2]) (rest := []) dX12_plansDays_37 gX12_plansDays_X12_isDayGood rfl hd_X12_isDayGood (by decide +kernel) (by decide +kernel) rfl (Nat.le_of_ble_eq_true rfl) (by omega) rfl hc4 ?_
    refine sj_if_ne (tgt := 56) dX12_plansDays_40 (by decide) (fun c8 => ?_) (fun c8 => ?_)
    · replace h := h.1 c8
      exact t_X12_plansDays_56 h
    · replace h := h.2 c8
      refine sj_aload_n dX12_plansDays_43 (i := 0) rfl rfl ?_
      refine sj_get (a := 56) (k9 := 17) (v := .ref (sj_ad G 69)) dX12_plansDays_44 (by decide +kernel) rfl ?_
      refine sj_iload_n dX12_plansDays_47 (i := 2) rfl rfl ?_
      refine sj_dup2 dX12_plansDays_48 rfl rfl ?_
      obtain ⟨b9, h⟩ := h
      refine sj_iald (a := 69) (j := x2.toNatClampNeg) (x := (σ4 69 x2.toNatClampNeg)) dX12_plansDays_49 rfl (by decide +kernel) b9 rfl rfl ?_
      refine sj_iconst (v := (nI 1)) dX12_plansDays_50 (by decide +kernel) ?_
      refine sj_iadd dX12_plansDays_51 ?_
      obtain ⟨b10, h⟩ := h
      refine sj_iast (a := 69) (j := x2.toNatClampNeg) dX12_plansDays_52 rfl (by decide +kernel) b10 rfl ?_
      refine sj_goto (tgt := 25) dX12_plansDays_53 (by decide) ?_
      exact h
def wp_X12_plansDays_0 (G : sj_G) (R : sj_R) (x1 : Int32) (σ : sj_S) : Prop := sj_J G 4 me_X12_plansDays R 9 [.ref (sj_ad G 56), .int x1, .int (nI 0)] (sj_st σ 69 0 (-1)) []
set_option maxRecDepth 20000 in
theorem t_X12_plansDays_0 {G : sj_G} {R : sj_R} {x1 : Int32} {σ : sj_S} (h : wp_X12_plansDays_0 G R x1 σ) : sj_J G 4 me_X12_plansDays R 0 [.ref (sj_ad G 56), .int x1, .null] σ [] := by
  unfold wp_X12_plansDays_0 at h
  refine sj_iconst (v := (nI 0)) dX12_plansDays_0 (by decide +kernel) ?_
  refine sj_istore_n dX12_plansDays_1 (i := 2) rfl (by decide) ?_
  refine sj_aload_n dX12_plansDays_2 (i := 0) rfl rfl ?_
  refine sj_get (a := 56) (k9 := 17) (v := .ref (sj_ad G 69)) dX12_plansDays_3 (by decide +kernel) rfl ?_
  refine sj_iconst (v := (nI 0)) dX12_plansDays_6 (by decide +kernel) ?_
  refine sj_iconst (v := (-1)) dX12_plansDays_7 (by decide +kernel) ?_
  refine sj_iast (a := 69) (j := 0) dX12_plansDays_8 rfl (by decide +kernel) (vp_in_nI (by decide) (by decide)) (nI_clamp (by decide)) ?_
  exact h
theorem c_X12_plansDays {G : sj_G} (ok : sj_ok G) {R : sj_R} {x1 : Int32} {σ : sj_S} (h : wp_X12_plansDays_0 G R x1 σ) : sj_C G 4 me_X12_plansDays [.ref (sj_ad G 56), .int x1] σ R :=
  sj_enter ok (by decide +kernel) rfl rfl (Nat.le_of_ble_eq_true rfl) (by simp [Value.category]) (t_X12_plansDays_0 h)
def wp_X12_fewest_2 (G : sj_G) (R : sj_R) (x1 : Int32) (σ : sj_S) : Prop := ∃ v1 σ1, sj_C G 4 me_X12_plansDays [.ref (sj_ad G 56), .int x1] σ (.ok v1, σ1) ∧ (¬ v1 = 0 → R = (.ok x1, σ1)) ∧ (v1 = 0 → sj_J G 5 me_X12_fewest R 2 [.ref (sj_ad G 56), .int (x1 + (nI 1))] σ1 [])
set_option maxRecDepth 20000 in
theorem t_X12_fewest_2 {G : sj_G} {R : sj_R} {x1 : Int32} {σ : sj_S} (h : wp_X12_fewest_2 G R x1 σ) : sj_J G 5 me_X12_fewest R 2 [.ref (sj_ad G 56), .int x1] σ [] := by
  unfold wp_X12_fewest_2 at h
  refine sj_aload_n dX12_fewest_2 (i := 0) rfl rfl ?_
  refine sj_iload_n dX12_fewest_3 (i := 1) rfl rfl ?_
  obtain ⟨v1, σ1, hc1, h⟩ := h
  refine sj_callVi (M' := me_X12_plansDays) (b := 56) (As := [.int x1]) (rest := []) dX12_fewest_4 gX12_fewest_X12_plansDays rfl hd_X12_plansDays (by decide +kernel) (by decide +kernel) rfl (Nat.le_of_ble_eq_true rfl) (by omega) rfl hc1 ?_
  refine sj_if_ne (tgt := 16) dX12_fewest_7 (by decide) (fun c2 => ?_) (fun c2 => ?_)
  · replace h := h.1 c2
    refine sj_iload_n dX12_fewest_16 (i := 1) rfl rfl ?_
    subst h
    exact sj_ret dX12_fewest_17 rfl rfl
  · replace h := h.2 c2
    refine sj_iinc (v := (x1 + (nI 1))) dX12_fewest_10 (by decide) rfl rfl ?_
    refine sj_goto (tgt := 2) dX12_fewest_13 (by decide) ?_
    exact h
def wp_X12_fewest_0 (G : sj_G) (R : sj_R) (σ : sj_S) : Prop := sj_J G 5 me_X12_fewest R 2 [.ref (sj_ad G 56), .int (nI 1)] σ []
set_option maxRecDepth 20000 in
theorem t_X12_fewest_0 {G : sj_G} {R : sj_R} {σ : sj_S} (h : wp_X12_fewest_0 G R σ) : sj_J G 5 me_X12_fewest R 0 [.ref (sj_ad G 56), .null] σ [] := by
  unfold wp_X12_fewest_0 at h
  refine sj_iconst (v := (nI 1)) dX12_fewest_0 (by decide +kernel) ?_
  refine sj_istore_n dX12_fewest_1 (i := 1) rfl (by decide) ?_
  exact h
theorem c_X12_fewest {G : sj_G} (ok : sj_ok G) {R : sj_R} {σ : sj_S} (h : wp_X12_fewest_0 G R σ) : sj_C G 5 me_X12_fewest [.ref (sj_ad G 56)] σ R :=
  sj_enter ok (by decide +kernel) rfl rfl (Nat.le_of_ble_eq_true rfl) (by simp [Value.category]) (t_X12_fewest_0 h)
def wp_X12_setApart_144 (G : sj_G) (R : sj_R) (x4 : Int32) (s0 : Int32) (s1 : Int32) (σ : sj_S) : Prop := vp_in s1 128 ∧ R = (.ok x4, (sj_st σ 57 s1.toNatClampNeg s0)) ∧ (x4 = nI 0 ∨ x4 = nI 1)
set_option maxRecDepth 20000 in
theorem t_X12_setApart_144 {G : sj_G} {R : sj_R} {x4 : Int32} {s0 : Int32} {s1 : Int32} {σ : sj_S} (h : wp_X12_setApart_144 G R x4 s0 s1 σ) : sj_J G 3 me_X12_setApart R 144 [.null, .null, .null, .null, .int x4] σ [.int s0, .int s1, .ref (sj_ad G 57)] := by
  unfold wp_X12_setApart_144 at h
  obtain ⟨b1, h⟩ := h
  refine sj_iast (a := 57) (j := s1.toNatClampNeg) dX12_setApart_144 rfl (by decide +kernel) b1 rfl ?_
  refine sj_iload dX12_setApart_145 rfl ?_
  obtain ⟨h, hz⟩ := h
  subst h
  exact sj_ret dX12_setApart_147 rfl (sj_nb hz)
def wp_X12_setApart_100 (G : sj_G) (R : sj_R) (x1 : Int32) (x2 : Int32) (x3 : Int32) (x4 : Int32) (s0 : Int32) (s1 : Int32) (σ : sj_S) : Prop := vp_in s1 128 ∧ ((x3 = 0) → vp_in ((nI 108) + x2) 128) ∧ ((¬ (x3 = 0)) → vp_in ((nI 108) + x2) 128) ∧ (wp_X12_setApart_144 G R x4 (if x3 = 0 then (((sj_st σ 57 s1.toNatClampNeg s0) 57 ((nI 108) + x2).toNatClampNeg) &&& (((nI 1) <<< (x1 &&& 31)) ^^^ (-1))) else (((sj_st σ 57 s1.toNatClampNeg s0) 57 ((nI 108) + x2).toNatClampNeg) ||| ((nI 1) <<< (x1 &&& 31)))) ((nI 108) + x2) (sj_st σ 57 s1.toNatClampNeg s0))
set_option maxRecDepth 20000 in
theorem t_X12_setApart_100 {G : sj_G} {R : sj_R} {x1 : Int32} {x2 : Int32} {x3 : Int32} {x4 : Int32} {s0 : Int32} {s1 : Int32} {σ : sj_S} (h : wp_X12_setApart_100 G R x1 x2 x3 x4 s0 s1 σ) : sj_J G 3 me_X12_setApart R 100 [.ref (sj_ad G 56), .int x1, .int x2, .int x3, .int x4] σ [.int s0, .int s1, .ref (sj_ad G 57)] := by
  unfold wp_X12_setApart_100 at h
  obtain ⟨b1, h⟩ := h
  refine sj_iast (a := 57) (j := s1.toNatClampNeg) dX12_setApart_100 rfl (by decide +kernel) b1 rfl ?_
  refine sj_aload_n dX12_setApart_101 (i := 0) rfl rfl ?_
  refine sj_get (a := 56) (k9 := 1) (v := .ref (sj_ad G 57)) dX12_setApart_102 (by decide +kernel) rfl ?_
  refine sj_bipush (v := (nI 108)) dX12_setApart_105 (by decide +kernel) ?_
  refine sj_iload_n dX12_setApart_107 (i := 2) rfl rfl ?_
  refine sj_iadd dX12_setApart_108 ?_
  refine sj_iload_n dX12_setApart_109 (i := 3) rfl rfl ?_
  obtain ⟨f5, f6, h⟩ := h
  refine sj_if_eq (tgt := 129) dX12_setApart_110 (by decide) (fun c2 => ?_) (fun c2 => ?_)
  · have b3 := f5 c2
    refine sj_aload_n dX12_setApart_129 (i := 0) rfl rfl ?_
    refine sj_get (a := 56) (k9 := 1) (v := .ref (sj_ad G 57)) dX12_setApart_130 (by decide +kernel) rfl ?_
    refine sj_bipush (v := (nI 108)) dX12_setApart_133 (by decide +kernel) ?_
    refine sj_iload_n dX12_setApart_135 (i := 2) rfl rfl ?_
    refine sj_iadd dX12_setApart_136 ?_
    refine sj_iald (a := 57) (j := ((nI 108) + x2).toNatClampNeg) (x := ((sj_st σ 57 s1.toNatClampNeg s0) 57 ((nI 108) + x2).toNatClampNeg)) dX12_setApart_137 rfl (by decide +kernel) b3 rfl rfl ?_
    refine sj_iconst (v := (nI 1)) dX12_setApart_138 (by decide +kernel) ?_
    refine sj_iload_n dX12_setApart_139 (i := 1) rfl rfl ?_
    refine sj_ishl dX12_setApart_140 ?_
    refine sj_iconst (v := (-1)) dX12_setApart_141 (by decide +kernel) ?_
    refine sj_ixor dX12_setApart_142 ?_
    refine sj_iand dX12_setApart_143 ?_
    try simp only [if_pos c2] at h
    refine sj_fg [0, 1, 2, 3] ?_
    exact t_X12_setApart_144 h
  · have b4 := f6 c2
    refine sj_aload_n dX12_setApart_113 (i := 0) rfl rfl ?_
    refine sj_get (a := 56) (k9 := 1) (v := .ref (sj_ad G 57)) dX12_setApart_114 (by decide +kernel) rfl ?_
    refine sj_bipush (v := (nI 108)) dX12_setApart_117 (by decide +kernel) ?_
    refine sj_iload_n dX12_setApart_119 (i := 2) rfl rfl ?_
    refine sj_iadd dX12_setApart_120 ?_
    refine sj_iald (a := 57) (j := ((nI 108) + x2).toNatClampNeg) (x := ((sj_st σ 57 s1.toNatClampNeg s0) 57 ((nI 108) + x2).toNatClampNeg)) dX12_setApart_121 rfl (by decide +kernel) b4 rfl rfl ?_
    refine sj_iconst (v := (nI 1)) dX12_setApart_122 (by decide +kernel) ?_
    refine sj_iload_n dX12_setApart_123 (i := 1) rfl rfl ?_
    refine sj_ishl dX12_setApart_124 ?_
    refine sj_ior dX12_setApart_125 ?_
    refine sj_goto (tgt := 144) dX12_setApart_126 (by decide) ?_
    try simp only [if_neg c2] at h
    refine sj_fg [0, 1, 2, 3] ?_
    exact t_X12_setApart_144 h
def wp_X12_setApart_36 (G : sj_G) (R : sj_R) (x1 : Int32) (x2 : Int32) (x3 : Int32) (s0 : Int32) (σ : sj_S) : Prop := ∃ v1 σ1, sj_C G 2 me_X12_fails [.ref (sj_ad G 56), .int s0, .int (nI 1)] σ (.ok v1, σ1) ∧ (v1 = 0 → ∃ σ3, sj_C G 2 me_X12_keeps [.ref (sj_ad G 56)] σ1 (.ok 0, σ3) ∧ ∃ v4 σ4, sj_C G 2 me_X12_areApart [.ref (sj_ad G 56), .int x1, .int x2] σ3 (.ok v4, σ4) ∧ ((x3 = 0) → vp_in ((nI 108) + x1) 128) ∧ ((¬ (x3 = 0)) → vp_in ((nI 108) + x1) 128) ∧ (wp_X12_setApart_100 G R x1 x2 x3 v4 (if x3 = 0 then ((σ4 57 ((nI 108) + x1).toNatClampNeg) &&& (((nI 1) <<< (x2 &&& 31)) ^^^ (-1))) else ((σ4 57 ((nI 108) + x1).toNatClampNeg) ||| ((nI 1) <<< (x2 &&& 31)))) ((nI 108) + x1) σ4)) ∧ (¬ (v1 = 0) → R = (.ok (nI 0), σ1))
set_option maxRecDepth 20000 in
theorem t_X12_setApart_36 {G : sj_G} {R : sj_R} {x1 : Int32} {x2 : Int32} {x3 : Int32} {s0 : Int32} {σ : sj_S} (h : wp_X12_setApart_36 G R x1 x2 x3 s0 σ) : sj_J G 3 me_X12_setApart R 36 [.ref (sj_ad G 56), .int x1, .int x2, .int x3, .null] σ [.int s0, .ref (sj_ad G 56)] := by
  unfold wp_X12_setApart_36 at h
  refine sj_iconst (v := (nI 1)) dX12_setApart_36 (by decide +kernel) ?_
  obtain ⟨v1, σ1, hc1, h⟩ := h
  refine sj_callVi (M' := me_X12_fails) (b := 56) (As := [.int s0, .int (nI 1)]) (rest := []) dX12_setApart_37 gX12_setApart_X12_fails rfl hd_X12_fails (by decide +kernel) (by decide +kernel) rfl (Nat.le_of_ble_eq_true rfl) (by omega) rfl hc1 ?_
  refine sj_if_eq (tgt := 45) dX12_setApart_40 (by decide) (fun c2 => ?_) (fun c2 => ?_)
  · replace h := h.1 c2
    refine sj_aload_n dX12_setApart_45 (i := 0) rfl rfl ?_
    obtain ⟨σ3, hc3, h⟩ := h
    refine sj_callVv (M' := me_X12_keeps) (b := 56) (As := []) (rest := []) dX12_setApart_46 gX12_setApart_X12_keeps rfl hd_X12_keeps (by decide +kernel) (by decide +kernel) rfl (Nat.le_of_ble_eq_true rfl) (by omega) rfl hc3 ?_
    refine sj_aload_n dX12_setApart_49 (i := 0) rfl rfl ?_
    refine sj_iload_n dX12_setApart_50 (i := 1) rfl rfl ?_
    refine sj_iload_n dX12_setApart_51 (i := 2) rfl rfl ?_
    obtain ⟨v4, σ4, hc4, h⟩ := h
    refine sj_callVi (M' := me_X12_areApart) (b := 56) (As := [.int x1, .int x2]) (rest := []) dX12_setApart_52 gX12_setApart_X12_areApart rfl hd_X12_areApart (by decide +kernel) (by decide +kernel) rfl (Nat.le_of_ble_eq_true rfl) (by omega) rfl hc4 ?_
    refine sj_istore dX12_setApart_55 (by decide) ?_
    refine sj_aload_n dX12_setApart_57 (i := 0) rfl rfl ?_
    refine sj_get (a := 56) (k9 := 1) (v := .ref (sj_ad G 57)) dX12_setApart_58 (by decide +kernel) rfl ?_
    refine sj_bipush (v := (nI 108)) dX12_setApart_61 (by decide +kernel) ?_
    refine sj_iload_n dX12_setApart_63 (i := 1) rfl rfl ?_
    refine sj_iadd dX12_setApart_64 ?_
    refine sj_iload_n dX12_setApart_65 (i := 3) rfl rfl ?_
    obtain ⟨f8, f9, h⟩ := h
    refine sj_if_eq (tgt := 85) dX12_setApart_66 (by decide) (fun c5 => ?_) (fun c5 => ?_)
    · have b6 := f8 c5
      refine sj_aload_n dX12_setApart_85 (i := 0) rfl rfl ?_
      refine sj_get (a := 56) (k9 := 1) (v := .ref (sj_ad G 57)) dX12_setApart_86 (by decide +kernel) rfl ?_
      refine sj_bipush (v := (nI 108)) dX12_setApart_89 (by decide +kernel) ?_
      refine sj_iload_n dX12_setApart_91 (i := 1) rfl rfl ?_
      refine sj_iadd dX12_setApart_92 ?_
      refine sj_iald (a := 57) (j := ((nI 108) + x1).toNatClampNeg) (x := (σ4 57 ((nI 108) + x1).toNatClampNeg)) dX12_setApart_93 rfl (by decide +kernel) b6 rfl rfl ?_
      refine sj_iconst (v := (nI 1)) dX12_setApart_94 (by decide +kernel) ?_
      refine sj_iload_n dX12_setApart_95 (i := 2) rfl rfl ?_
      refine sj_ishl dX12_setApart_96 ?_
      refine sj_iconst (v := (-1)) dX12_setApart_97 (by decide +kernel) ?_
      refine sj_ixor dX12_setApart_98 ?_
      refine sj_iand dX12_setApart_99 ?_
      try simp only [if_pos c5] at h
      exact t_X12_setApart_100 h
    · have b7 := f9 c5
      refine sj_aload_n dX12_setApart_69 (i := 0) rfl rfl ?_
      refine sj_get (a := 56) (k9 := 1) (v := .ref (sj_ad G 57)) dX12_setApart_70 (by decide +kernel) rfl ?_
      refine sj_bipush (v := (nI 108)) dX12_setApart_73 (by decide +kernel) ?_
      refine sj_iload_n dX12_setApart_75 (i := 1) rfl rfl ?_
      refine sj_iadd dX12_setApart_76 ?_
      refine sj_iald (a := 57) (j := ((nI 108) + x1).toNatClampNeg) (x := (σ4 57 ((nI 108) + x1).toNatClampNeg)) dX12_setApart_77 rfl (by decide +kernel) b7 rfl rfl ?_
      refine sj_iconst (v := (nI 1)) dX12_setApart_78 (by decide +kernel) ?_
      refine sj_iload_n dX12_setApart_79 (i := 2) rfl rfl ?_
      refine sj_ishl dX12_setApart_80 ?_
      refine sj_ior dX12_setApart_81 ?_
      refine sj_goto (tgt := 100) dX12_setApart_82 (by decide) ?_
      try simp only [if_neg c5] at h
      exact t_X12_setApart_100 h
  · replace h := h.2 c2
    refine sj_iconst (v := (nI 0)) dX12_setApart_43 (by decide +kernel) ?_
    subst h
    exact sj_ret dX12_setApart_44 rfl rfl
def wp_X12_setApart_35 (G : sj_G) (R : sj_R) (x1 : Int32) (x2 : Int32) (x3 : Int32) (σ : sj_S) : Prop := (wp_X12_setApart_36 G R x1 x2 x3 (nI 0) σ)
set_option maxRecDepth 20000 in
theorem t_X12_setApart_35 {G : sj_G} {R : sj_R} {x1 : Int32} {x2 : Int32} {x3 : Int32} {σ : sj_S} (h : wp_X12_setApart_35 G R x1 x2 x3 σ) : sj_J G 3 me_X12_setApart R 35 [.ref (sj_ad G 56), .int x1, .int x2, .int x3, .null] σ [.ref (sj_ad G 56)] := by
  unfold wp_X12_setApart_35 at h
  refine sj_iconst (v := (nI 0)) dX12_setApart_35 (by decide +kernel) ?_
  exact t_X12_setApart_36 h
def wp_X12_setApart_0 (G : sj_G) (R : sj_R) (x1 : Int32) (x2 : Int32) (x3 : Int32) (σ : sj_S) : Prop := ∃ v1 σ1, sj_C G 2 me_X12_in [.int x1, .int (nI 0), .int (nI 7)] (sj_st σ 56 0 (nI 0)) (.ok v1, σ1) ∧ (v1 = 0 → (wp_X12_setApart_35 G R x1 x2 x3 σ1)) ∧ (¬ (v1 = 0) → ∃ v4 σ4, sj_C G 2 me_X12_in [.int x2, .int (nI 0), .int (nI 7)] σ1 (.ok v4, σ4) ∧ (wp_X12_setApart_36 G R x1 x2 x3 (if v4 = 0 then (nI 0) else (if x1 = x2 then (nI 0) else (nI 1))) σ4))
set_option maxRecDepth 20000 in
theorem t_X12_setApart_0 {G : sj_G} {R : sj_R} {x1 : Int32} {x2 : Int32} {x3 : Int32} {σ : sj_S} (h : wp_X12_setApart_0 G R x1 x2 x3 σ) : sj_J G 3 me_X12_setApart R 0 [.ref (sj_ad G 56), .int x1, .int x2, .int x3, .null] σ [] := by
  unfold wp_X12_setApart_0 at h
  refine sj_aload_n dX12_setApart_0 (i := 0) rfl rfl ?_
  refine sj_iconst (v := (nI 0)) dX12_setApart_1 (by decide +kernel) ?_
  refine sj_put (a := 56) (k9 := 0) dX12_setApart_2 (by decide +kernel) (by decide +kernel) rfl ?_
  refine sj_aload_n dX12_setApart_5 (i := 0) rfl rfl ?_
  refine sj_iload_n dX12_setApart_6 (i := 1) rfl rfl ?_
  refine sj_iconst (v := (nI 0)) dX12_setApart_7 (by decide +kernel) ?_
  refine sj_bipush (v := (nI 7)) dX12_setApart_8 (by decide +kernel) ?_
  obtain ⟨v1, σ1, hc1, h⟩ := h
  refine sj_callSi (M' := me_X12_in) (As := [.int x1, .int (nI 0), .int (nI 7)]) (rest := [.ref (sj_ad G 56)]) dX12_setApart_10 gX12_setApart_X12_in rfl hd_X12_in (Nat.le_of_ble_eq_true rfl) (by omega) rfl hc1 ?_
  refine sj_if_eq (tgt := 35) dX12_setApart_13 (by decide) (fun c3 => ?_) (fun c3 => ?_)
  · replace h := h.1 c3
    exact t_X12_setApart_35 h
  · replace h := h.2 c3
    refine sj_iload_n dX12_setApart_16 (i := 2) rfl rfl ?_
    refine sj_iconst (v := (nI 0)) dX12_setApart_17 (by decide +kernel) ?_
    refine sj_bipush (v := (nI 7)) dX12_setApart_18 (by decide +kernel) ?_
    obtain ⟨v4, σ4, hc4, h⟩ := h
    refine sj_callSi (M' := me_X12_in) (As := [.int x2, .int (nI 0), .int (nI 7)]) (rest := [.ref (sj_ad G 56)]) dX12_setApart_20 gX12_setApart_X12_in rfl hd_X12_in (Nat.le_of_ble_eq_true rfl) (by omega) rfl hc4 ?_
    refine sj_if_eq (tgt := 35) dX12_setApart_23 (by decide) (fun c5 => ?_) (fun c5 => ?_)
    · refine sj_iconst (v := (nI 0)) dX12_setApart_35 (by decide +kernel) ?_
      try simp only [if_pos c5] at h
      exact t_X12_setApart_36 h
    · refine sj_iload_n dX12_setApart_26 (i := 1) rfl rfl ?_
      refine sj_iload_n dX12_setApart_27 (i := 2) rfl rfl ?_
      refine sj_icmp_eq (tgt := 35) dX12_setApart_28 (by decide) (fun c6 => ?_) (fun c6 => ?_)
      · refine sj_iconst (v := (nI 0)) dX12_setApart_35 (by decide +kernel) ?_
        try simp only [if_neg c5, if_pos c6] at h
        exact t_X12_setApart_36 h
      · refine sj_iconst (v := (nI 1)) dX12_setApart_31 (by decide +kernel) ?_
        refine sj_goto (tgt := 36) dX12_setApart_32 (by decide) ?_
        try simp only [if_neg c5, if_neg c6] at h
        exact t_X12_setApart_36 h
theorem c_X12_setApart {G : sj_G} (ok : sj_ok G) {R : sj_R} {x1 : Int32} {x2 : Int32} {x3 : Int32} {σ : sj_S} (h : wp_X12_setApart_0 G R x1 x2 x3 σ) : sj_C G 3 me_X12_setApart [.ref (sj_ad G 56), .int x1, .int x2, .int x3] σ R :=
  sj_enter ok (by decide +kernel) rfl rfl (Nat.le_of_ble_eq_true rfl) (by simp [Value.category]) (t_X12_setApart_0 h)
def wp_X12_daysNeeded_0 (G : sj_G) (R : sj_R) (σ : sj_S) : Prop := ∃ v1 σ1, sj_C G 5 me_X12_fewest [.ref (sj_ad G 56)] (sj_st σ 56 0 (nI 0)) (.ok v1, σ1) ∧ R = (.ok v1, σ1)
set_option maxRecDepth 20000 in
theorem t_X12_daysNeeded_0 {G : sj_G} {R : sj_R} {σ : sj_S} (h : wp_X12_daysNeeded_0 G R σ) : sj_J G 6 me_X12_daysNeeded R 0 [.ref (sj_ad G 56)] σ [] := by
  unfold wp_X12_daysNeeded_0 at h
  refine sj_aload_n dX12_daysNeeded_0 (i := 0) rfl rfl ?_
  refine sj_iconst (v := (nI 0)) dX12_daysNeeded_1 (by decide +kernel) ?_
  refine sj_put (a := 56) (k9 := 0) dX12_daysNeeded_2 (by decide +kernel) (by decide +kernel) rfl ?_
  refine sj_aload_n dX12_daysNeeded_5 (i := 0) rfl rfl ?_
  obtain ⟨v1, σ1, hc1, h⟩ := h
  refine sj_callVi (M' := me_X12_fewest) (b := 56) (As := []) (rest := []) dX12_daysNeeded_6 gX12_daysNeeded_X12_fewest rfl hd_X12_fewest (by decide +kernel) (by decide +kernel) rfl (Nat.le_of_ble_eq_true rfl) (by omega) rfl hc1 ?_
  subst h
  exact sj_ret dX12_daysNeeded_9 rfl rfl
theorem c_X12_daysNeeded {G : sj_G} (ok : sj_ok G) {R : sj_R} {σ : sj_S} (h : wp_X12_daysNeeded_0 G R σ) : sj_C G 6 me_X12_daysNeeded [.ref (sj_ad G 56)] σ R :=
  sj_enter ok (by decide +kernel) rfl rfl (Nat.le_of_ble_eq_true rfl) (by simp [Value.category]) (t_X12_daysNeeded_0 h)
def wp_X12_examDay_0 (G : sj_G) (R : sj_R) (x1 : Int32) (σ : sj_S) : Prop := ∃ v1 σ1, sj_C G 2 me_X12_in [.int x1, .int (nI 0), .int (nI 7)] (sj_st σ 56 0 (nI 0)) (.ok v1, σ1) ∧ ∃ v2 σ2, sj_C G 2 me_X12_fails [.ref (sj_ad G 56), .int v1, .int (nI 1)] σ1 (.ok v2, σ2) ∧ (v2 = 0 → ∃ v4 σ4, sj_C G 5 me_X12_fewest [.ref (sj_ad G 56)] σ2 (.ok v4, σ4) ∧ vp_in x1 8 ∧ R = (.ok (σ4 69 x1.toNatClampNeg), σ4)) ∧ (¬ (v2 = 0) → R = (.ok (nI 0), σ2))
set_option maxRecDepth 20000 in
theorem t_X12_examDay_0 {G : sj_G} {R : sj_R} {x1 : Int32} {σ : sj_S} (h : wp_X12_examDay_0 G R x1 σ) : sj_J G 6 me_X12_examDay R 0 [.ref (sj_ad G 56), .int x1, .null] σ [] := by
  unfold wp_X12_examDay_0 at h
  refine sj_aload_n dX12_examDay_0 (i := 0) rfl rfl ?_
  refine sj_iconst (v := (nI 0)) dX12_examDay_1 (by decide +kernel) ?_
  refine sj_put (a := 56) (k9 := 0) dX12_examDay_2 (by decide +kernel) (by decide +kernel) rfl ?_
  refine sj_aload_n dX12_examDay_5 (i := 0) rfl rfl ?_
  refine sj_iload_n dX12_examDay_6 (i := 1) rfl rfl ?_
  refine sj_iconst (v := (nI 0)) dX12_examDay_7 (by decide +kernel) ?_
  refine sj_bipush (v := (nI 7)) dX12_examDay_8 (by decide +kernel) ?_
  obtain ⟨v1, σ1, hc1, h⟩ := h
  refine sj_callSi (M' := me_X12_in) (As := [.int x1, .int (nI 0), .int (nI 7)]) (rest := [.ref (sj_ad G 56)]) dX12_examDay_10 gX12_examDay_X12_in rfl hd_X12_in (Nat.le_of_ble_eq_true rfl) (by omega) rfl hc1 ?_
  refine sj_iconst (v := (nI 1)) dX12_examDay_13 (by decide +kernel) ?_
  obtain ⟨v2, σ2, hc2, h⟩ := h
  refine sj_callVi (M' := me_X12_fails) (b := 56) (As := [.int v1, .int (nI 1)]) (rest := []) dX12_examDay_14 gX12_examDay_X12_fails rfl hd_X12_fails (by decide +kernel) (by decide +kernel) rfl (Nat.le_of_ble_eq_true rfl) (by omega) rfl hc2 ?_
  refine sj_if_eq (tgt := 22) dX12_examDay_17 (by decide) (fun c3 => ?_) (fun c3 => ?_)
  · replace h := h.1 c3
    refine sj_aload_n dX12_examDay_22 (i := 0) rfl rfl ?_
    obtain ⟨v4, σ4, hc4, h⟩ := h
    refine sj_callVi (M' := me_X12_fewest) (b := 56) (As := []) (rest := []) dX12_examDay_23 gX12_examDay_X12_fewest rfl hd_X12_fewest (by decide +kernel) (by decide +kernel) rfl (Nat.le_of_ble_eq_true rfl) (by omega) rfl hc4 ?_
    refine sj_istore_n dX12_examDay_26 (i := 2) rfl (by decide) ?_
    refine sj_aload_n dX12_examDay_27 (i := 0) rfl rfl ?_
    refine sj_get (a := 56) (k9 := 17) (v := .ref (sj_ad G 69)) dX12_examDay_28 (by decide +kernel) rfl ?_
    refine sj_iload_n dX12_examDay_31 (i := 1) rfl rfl ?_
    obtain ⟨b5, h⟩ := h
    refine sj_iald (a := 69) (j := x1.toNatClampNeg) (x := (σ4 69 x1.toNatClampNeg)) dX12_examDay_32 rfl (by decide +kernel) b5 rfl rfl ?_
    subst h
    exact sj_ret dX12_examDay_33 rfl rfl
  · replace h := h.2 c3
    refine sj_iconst (v := (nI 0)) dX12_examDay_20 (by decide +kernel) ?_
    subst h
    exact sj_ret dX12_examDay_21 rfl rfl
theorem c_X12_examDay {G : sj_G} (ok : sj_ok G) {R : sj_R} {x1 : Int32} {σ : sj_S} (h : wp_X12_examDay_0 G R x1 σ) : sj_C G 6 me_X12_examDay [.ref (sj_ad G 56), .int x1] σ R :=
  sj_enter ok (by decide +kernel) rfl rfl (Nat.le_of_ble_eq_true rfl) (by simp [Value.category]) (t_X12_examDay_0 h)
def wp_X12_group_11 (G : sj_G) (R : sj_R) (x1 : Int32) (x2 : Int32) (x3 : Int32) (σ : sj_S) : Prop := ((nI 256) ≤ x3 → R = (.ok x1, σ)) ∧ (¬ ((nI 256) ≤ x3) → sj_J G 3 me_X12_group R 27 [.ref (sj_ad G 56), .int x1, .int x2, .int x3, .int (nI 0), .int (nI 1), .int (nI 0), .null] σ [])
set_option maxRecDepth 20000 in
theorem t_X12_group_11 {G : sj_G} {R : sj_R} {x1 : Int32} {x2 : Int32} {x3 : Int32} {σ : sj_S} (h : wp_X12_group_11 G R x1 x2 x3 σ) : sj_J G 3 me_X12_group R 11 [.ref (sj_ad G 56), .int x1, .int x2, .int x3, .null, .null, .null, .null] σ [] := by
  unfold wp_X12_group_11 at h
  refine sj_iload_n dX12_group_11 (i := 3) rfl rfl ?_
  refine sj_sipush (v := (nI 256)) dX12_group_12 (by decide +kernel) ?_
  refine sj_icmp_ge (tgt := 126) dX12_group_15 (by decide) (fun c1 => ?_) (fun c1 => ?_)
  · replace h := h.1 c1
    refine sj_iload_n dX12_group_126 (i := 1) rfl rfl ?_
    subst h
    exact sj_ret dX12_group_127 rfl rfl
  · replace h := h.2 c1
    refine sj_iconst (v := (nI 0)) dX12_group_18 (by decide +kernel) ?_
    refine sj_istore dX12_group_19 (by decide) ?_
    refine sj_iconst (v := (nI 1)) dX12_group_21 (by decide +kernel) ?_
    refine sj_istore dX12_group_22 (by decide) ?_
    refine sj_iconst (v := (nI 0)) dX12_group_24 (by decide +kernel) ?_
    refine sj_istore dX12_group_25 (by decide) ?_
    exact h
def wp_X12_group_95 (G : sj_G) (R : sj_R) (x1 : Int32) (x2 : Int32) (x3 : Int32) (x4 : Int32) (x5 : Int32) (x6 : Int32) (σ : sj_S) : Prop := sj_J G 3 me_X12_group R 27 [.ref (sj_ad G 56), .int x1, .int x2, .int x3, .int x4, .int x5, .int (x6 + (nI 1)), .null] σ []
set_option maxRecDepth 20000 in
theorem t_X12_group_95 {G : sj_G} {R : sj_R} {x1 : Int32} {x2 : Int32} {x3 : Int32} {x4 : Int32} {x5 : Int32} {x6 : Int32} {σ : sj_S} (h : wp_X12_group_95 G R x1 x2 x3 x4 x5 x6 σ) : sj_J G 3 me_X12_group R 95 [.ref (sj_ad G 56), .int x1, .int x2, .int x3, .int x4, .int x5, .int x6, .null] σ [] := by
  unfold wp_X12_group_95 at h
  refine sj_iinc (v := (x6 + (nI 1))) dX12_group_95 (by decide) rfl rfl ?_
  refine sj_goto (tgt := 27) dX12_group_98 (by decide) ?_
  exact h
def wp_X12_group_120 (G : sj_G) (R : sj_R) (x1 : Int32) (x2 : Int32) (x3 : Int32) (σ : sj_S) : Prop := sj_J G 3 me_X12_group R 11 [.ref (sj_ad G 56), .int x1, .int x2, .int (x3 + (nI 1)), .null, .null, .null, .null] σ []
set_option maxRecDepth 20000 in
theorem t_X12_group_120 {G : sj_G} {R : sj_R} {x1 : Int32} {x2 : Int32} {x3 : Int32} {σ : sj_S} (h : wp_X12_group_120 G R x1 x2 x3 σ) : sj_J G 3 me_X12_group R 120 [.ref (sj_ad G 56), .int x1, .int x2, .int x3, .null, .null, .null, .null] σ [] := by
  unfold wp_X12_group_120 at h
  refine sj_iinc (v := (x3 + (nI 1))) dX12_group_120 (by decide) rfl rfl ?_
  refine sj_goto (tgt := 11) dX12_group_123 (by decide) ?_
  exact h
