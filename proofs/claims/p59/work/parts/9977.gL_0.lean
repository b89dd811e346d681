def wp_L_next_0 (G : sj_G) (R : sj_R) (x1 : Int32) (σ : sj_S) : Prop := ¬ x1 = 0 ∧ R = (.ok (((((σ 56 0) * (nI 1103515245)) + (nI 12345)).toUInt32 >>> ((nI 16).toUInt32 &&& Int32.toUInt32 31)).toInt32 - ((((σ 56 0) * (nI 1103515245)) + (nI 12345)).toUInt32 >>> ((nI 16).toUInt32 &&& Int32.toUInt32 31)).toInt32 / x1 * x1), (sj_st σ 56 0 (((σ 56 0) * (nI 1103515245)) + (nI 12345))))
set_option maxRecDepth 20000 in
theorem t_L_next_0 {G : sj_G} {R : sj_R} {x1 : Int32} {σ : sj_S} (h : wp_L_next_0 G R x1 σ) : sj_J G 2 me_L_next R 0 [.ref (sj_ad G 56), .int x1] σ [] := by
  unfold wp_L_next_0 at h
  refine sj_aload_n dL_next_0 (i := 0) rfl rfl ?_
  refine sj_aload_n dL_next_1 (i := 0) rfl rfl ?_
  refine sj_get (a := 56) (k9 := 0) (v := .int (σ 56 0)) dL_next_2 (by decide +kernel) rfl ?_
  refine sj_ldc (v := (nI 1103515245)) dL_next_5 (by decide +kernel) ?_
  refine sj_imul dL_next_7 ?_
  refine sj_sipush (v := (nI 12345)) dL_next_8 (by decide +kernel) ?_
  refine sj_iadd dL_next_11 ?_
  refine sj_put (a := 56) (k9 := 0) dL_next_12 (by decide +kernel) (by decide +kernel) rfl ?_
  refine sj_aload_n dL_next_15 (i := 0) rfl rfl ?_
  refine sj_get (a := 56) (k9 := 0) (v := .int (((σ 56 0) * (nI 1103515245)) + (nI 12345))) dL_next_16 (by decide +kernel) rfl ?_
  refine sj_bipush (v := (nI 16)) dL_next_19 (by decide +kernel) ?_
  refine sj_iushr dL_next_21 ?_
  refine sj_iload_n dL_next_22 (i := 1) rfl rfl ?_
  obtain ⟨b1, h⟩ := h
  refine sj_irem dL_next_23 b1 ?_
  subst h
  exact sj_ret dL_next_24 rfl rfl
theorem c_L_next {G : sj_G} (ok : sj_ok G) {R : sj_R} {x1 : Int32} {σ : sj_S} (h : wp_L_next_0 G R x1 σ) : sj_C G 2 me_L_next [.ref (sj_ad G 56), .int x1] σ R :=
  sj_enter ok (by decide +kernel) rfl rfl (Nat.le_of_ble_eq_true rfl) (by simp [Value.category]) (t_L_next_0 h)
def wp_L_isMade_2 (G : sj_G) (R : sj_R) (x2 : Int32) (σ : sj_S) : Prop := ((nI 3) ≤ x2 → sj_J G 12 me_L_isMade R 32 [.ref (sj_ad G 56), .ref (sj_ad G 0), .int (nI 0)] σ []) ∧ (¬ ((nI 3) ≤ x2) → vp_in x2 3 ∧ ∃ v3 σ3, sj_C G 11 me_X11_setRooms [.ref (sj_ad G 0), .int x2, .int (σ 67 x2.toNatClampNeg)] σ (.ok v3, σ3) ∧ (v3 = (nI 3) → sj_J G 12 me_L_isMade R 2 [.ref (sj_ad G 56), .ref (sj_ad G 0), .int (x2 + (nI 1))] σ3 []) ∧ (¬ (v3 = (nI 3)) → R = (.ok (nI 0), σ3)))
set_option maxRecDepth 20000 in
theorem t_L_isMade_2 {G : sj_G} {R : sj_R} {x2 : Int32} {σ : sj_S} (h : wp_L_isMade_2 G R x2 σ) : sj_J G 12 me_L_isMade R 2 [.ref (sj_ad G 56), .ref (sj_ad G 0), .int x2] σ [] := by
  unfold wp_L_isMade_2 at h
  refine sj_iload_n dL_isMade_2 (i := 2) rfl rfl ?_
  refine sj_iconst (v := (nI 3)) dL_isMade_3 (by decide +kernel) ?_
  refine sj_icmp_ge (tgt := 30) dL_isMade_4 (by decide) (fun c1 => ?_) (fun c1 => ?_)
  · replace h := h.1 c1
    refine sj_iconst (v := (nI 0)) dL_isMade_30 (by decide +kernel) ?_
    refine sj_istore_n dL_isMade_31 (i := 2) rfl (by decide) ?_
    exact h
  · replace h := h.2 c1
    refine sj_aload_n dL_isMade_7 (i := 1) rfl rfl ?_
    refine sj_iload_n dL_isMade_8 (i := 2) rfl rfl ?_
    refine sj_aload_n dL_isMade_9 (i := 0) rfl rfl ?_
    refine sj_get (a := 56) (k9 := 12) (v := .ref (sj_ad G 67)) dL_isMade_10 (by decide +kernel) rfl ?_
    refine sj_iload_n dL_isMade_13 (i := 2) rfl rfl ?_
    obtain ⟨b2, h⟩ := h
    refine sj_iald (a := 67) (j := x2.toNatClampNeg) (x := (σ 67 x2.toNatClampNeg)) dL_isMade_14 rfl (by decide +kernel) b2 rfl rfl ?_
    obtain ⟨v3, σ3, hc3, h⟩ := h
    refine sj_callVi (M' := me_X11_setRooms) (b := 0) (As := [.int x2, .int (σ 67 x2.toNatClampNeg)]) (rest := []) dL_isMade_15 gL_isMade_X11_setRooms rfl hd_X11_setRooms (by decide +kernel) (by decide +kernel) rfl (Nat.le_of_ble_eq_true rfl) (by omega) rfl hc3 ?_
    refine sj_iconst (v := (nI 3)) dL_isMade_18 (by decide +kernel) ?_
    refine sj_icmp_eq (tgt := 24) dL_isMade_19 (by decide) (fun c4 => ?_) (fun c4 => ?_)
    · replace h := h.1 c4
      refine sj_iinc (v := (x2 + (nI 1))) dL_isMade_24 (by decide) rfl rfl ?_
      refine sj_goto (tgt := 2) dL_isMade_27 (by decide) ?_
      exact h
    · replace h := h.2 c4
      refine sj_iconst (v := (nI 0)) dL_isMade_22 (by decide +kernel) ?_
      subst h
      exact sj_ret dL_isMade_23 rfl rfl
def wp_L_isMade_80 (G : sj_G) (R : sj_R) (x2 : Int32) (s0 : Int32) (s1 : Int32) (s2 : Int32) (s3 : Int32) (s4 : Int32) (σ : sj_S) : Prop := ∃ v1 σ1, sj_C G 11 me_X11_lesson [.ref (sj_ad G 0), .int s4, .int s3, .int s2, .int s1, .int s0] σ (.ok v1, σ1) ∧ (v1 = x2 → sj_J G 12 me_L_isMade R 32 [.ref (sj_ad G 56), .ref (sj_ad G 0), .int (x2 + (nI 1))] σ1 []) ∧ (¬ (v1 = x2) → R = (.ok (nI 0), σ1))
set_option maxRecDepth 20000 in
theorem t_L_isMade_80 {G : sj_G} {R : sj_R} {x2 : Int32} {s0 : Int32} {s1 : Int32} {s2 : Int32} {s3 : Int32} {s4 : Int32} {σ : sj_S} (h : wp_L_isMade_80 G R x2 s0 s1 s2 s3 s4 σ) : sj_J G 12 me_L_isMade R 80 [.ref (sj_ad G 56), .ref (sj_ad G 0), .int x2] σ [.int s0, .int s1, .int s2, .int s3, .int s4, .ref (sj_ad G 0)] := by
  unfold wp_L_isMade_80 at h
  obtain ⟨v1, σ1, hc1, h⟩ := h
  refine sj_callVi (M' := me_X11_lesson) (b := 0) (As := [.int s4, .int s3, .int s2, .int s1, .int s0]) (rest := []) dL_isMade_80 gL_isMade_X11_lesson rfl hd_X11_lesson (by decide +kernel) (by decide +kernel) rfl (Nat.le_of_ble_eq_true rfl) (by omega) rfl hc1 ?_
  refine sj_iload_n dL_isMade_83 (i := 2) rfl rfl ?_
  refine sj_icmp_eq (tgt := 89) dL_isMade_84 (by decide) (fun c2 => ?_) (fun c2 => ?_)
  · replace h := h.1 c2
    refine sj_iinc (v := (x2 + (nI 1))) dL_isMade_89 (by decide) rfl rfl ?_
    refine sj_goto (tgt := 32) dL_isMade_92 (by decide) ?_
    exact h
  · replace h := h.2 c2
    refine sj_iconst (v := (nI 0)) dL_isMade_87 (by decide +kernel) ?_
    subst h
    exact sj_ret dL_isMade_88 rfl rfl
def wp_L_isMade_111 (G : sj_G) (R : sj_R) (s0 : Int32) (σ : sj_S) : Prop := R = (.ok s0, σ) ∧ (s0 = nI 0 ∨ s0 = nI 1)
set_option maxRecDepth 20000 in
theorem t_L_isMade_111 {G : sj_G} {R : sj_R} {s0 : Int32} {σ : sj_S} (h : wp_L_isMade_111 G R s0 σ) : sj_J G 12 me_L_isMade R 111 [.null, .null, .null] σ [.int s0] := by
  unfold wp_L_isMade_111 at h
  obtain ⟨h, hz⟩ := h
  subst h
  exact sj_ret dL_isMade_111 rfl (sj_nb hz)
def wp_L_isMade_32 (G : sj_G) (R : sj_R) (x2 : Int32) (σ : sj_S) : Prop := ((σ 56 13) ≤ x2 → ∃ v2 σ2, sj_C G 3 me_X11_lessons [.ref (sj_ad G 0)] σ (.ok v2, σ2) ∧ (wp_L_isMade_111 G R (if v2 = (σ2 56 13) then (nI 1) else (nI 0)) σ2)) ∧ (¬ ((σ 56 13) ≤ x2) → vp_in x2 9 ∧ vp_in x2 9 ∧ vp_in x2 9 ∧ vp_in x2 9 ∧ vp_in x2 9 ∧ (wp_L_isMade_80 G R x2 (if (σ 61 x2.toNatClampNeg) = (nI 2) then (nI 1) else (nI 0)) (σ 60 x2.toNatClampNeg) (σ 59 x2.toNatClampNeg) (σ 58 x2.toNatClampNeg) (σ 57 x2.toNatClampNeg) σ))
set_option maxRecDepth 20000 in
theorem t_L_isMade_32 {G : sj_G} {R : sj_R} {x2 : Int32} {σ : sj_S} (h : wp_L_isMade_32 G R x2 σ) : sj_J G 12 me_L_isMade R 32 [.ref (sj_ad G 56), .ref (sj_ad G 0), .int x2] σ [] := by
  unfold wp_L_isMade_32 at h
  refine sj_iload_n dL_isMade_32 (i := 2) rfl rfl ?_
  refine sj_aload_n dL_isMade_33 (i := 0) rfl rfl ?_
  refine sj_get (a := 56) (k9 := 13) (v := .int (σ 56 13)) dL_isMade_34 (by decide +kernel) rfl ?_
  refine sj_icmp_ge (tgt := 95) dL_isMade_37 (by decide) (fun c1 => ?_) (fun c1 => ?_)
  · replace h := h.1 c1
    refine sj_aload_n dL_isMade_95 (i := 1) rfl rfl ?_
    obtain ⟨v2, σ2, hc2, h⟩ := h
    refine sj_callVi (M' := me_X11_lessons) (b := 0) (As := []) (rest := []) dL_isMade_96 gL_isMade_X11_lessons rfl hd_X11_lessons (by decide +kernel) (by decide +kernel) rfl (Nat.le_of_ble_eq_true rfl) (by omega) rfl hc2 ?_
    refine sj_aload_n dL_isMade_99 (i := 0) rfl rfl ?_
    refine sj_get (a := 56) (k9 := 13) (v := .int (σ2 56 13)) dL_isMade_100 (by decide +kernel) rfl ?_
    refine sj_icmp_ne (tgt := 110) dL_isMade_103 (by decide) (fun c3 => ?_) (fun c3 => ?_)
    · refine sj_iconst (v := (nI 0)) dL_isMade_110 (by decide +kernel) ?_
      try simp only [if_neg c3] at h
      refine sj_fg [0, 1, 2] ?_
      exact t_L_isMade_111 h
    · refine sj_iconst (v := (nI 1)) dL_isMade_106 (by decide +kernel) ?_
      refine sj_goto (tgt := 111) dL_isMade_107 (by decide) ?_
      try simp only [if_pos c3] at h
      refine sj_fg [0, 1, 2] ?_
      exact t_L_isMade_111 h
  · replace h := h.2 c1
    refine sj_aload_n dL_isMade_40 (i := 1) rfl rfl ?_
    refine sj_aload_n dL_isMade_41 (i := 0) rfl rfl ?_
    refine sj_get (a := 56) (k9 := 2) (v := .ref (sj_ad G 57)) dL_isMade_42 (by decide +kernel) rfl ?_
    refine sj_iload_n dL_isMade_45 (i := 2) rfl rfl ?_
    obtain ⟨b4, h⟩ := h
    refine sj_iald (a := 57) (j := x2.toNatClampNeg) (x := (σ 57 x2.toNatClampNeg)) dL_isMade_46 rfl (by decide +kernel) b4 rfl rfl ?_
    refine sj_aload_n dL_isMade_47 (i := 0) rfl rfl ?_
    refine sj_get (a := 56) (k9 := 3) (v := .ref (sj_ad G 58)) dL_isMade_48 (by decide +kernel) rfl ?_
    refine sj_iload_n dL_isMade_51 (i := 2) rfl rfl ?_
    obtain ⟨b5, h⟩ := h
    refine sj_iald (a := 58) (j := x2.toNatClampNeg) (x := (σ 58 x2.toNatClampNeg)) dL_isMade_52 rfl (by decide +kernel) b5 rfl rfl ?_
    refine sj_aload_n dL_isMade_53 (i := 0) rfl rfl ?_
    refine sj_get (a := 56) (k9 := 4) (v := .ref (sj_ad G 59)) dL_isMade_54 (by decide +kernel) rfl ?_
    refine sj_iload_n dL_isMade_57 (i := 2) rfl rfl ?_
    obtain ⟨b6, h⟩ := h
    refine sj_iald (a := 59) (j := x2.toNatClampNeg) (x := (σ 59 x2.toNatClampNeg)) dL_isMade_58 rfl (by decide +kernel) b6 rfl rfl ?_
    refine sj_aload_n dL_isMade_59 (i := 0) rfl rfl ?_
    refine sj_get (a := 56) (k9 := 5) (v := .ref (sj_ad G 60)) dL_isMade_60 (by decide +kernel) rfl ?_
    refine sj_iload_n dL_isMade_63 (i := 2) rfl rfl ?_
    obtain ⟨b7, h⟩ := h
    refine sj_iald (a := 60) (j := x2.toNatClampNeg) (x := (σ 60 x2.toNatClampNeg)) dL_isMade_64 rfl (by decide +kernel) b7 rfl rfl ?_
    refine sj_aload_n dL_isMade_65 (i := 0) rfl rfl ?_
    refine sj_get (a := 56) (k9 := 6) (v := .ref (sj_ad G 61)) dL_isMade_66 (by decide +kernel) rfl ?_
    refine sj_iload_n dL_isMade_69 (i := 2) rfl rfl ?_
    obtain ⟨b8, h⟩ := h
    refine sj_iald (a := 61) (j := x2.toNatClampNeg) (x := (σ 61 x2.toNatClampNeg)) dL_isMade_70 rfl (by decide +kernel) b8 rfl rfl ?_
    refine sj_iconst (v := (nI 2)) dL_isMade_71 (by decide +kernel) ?_
    refine sj_icmp_ne (tgt := 79) dL_isMade_72 (by decide) (fun c9 => ?_) (fun c9 => ?_)
    · refine sj_iconst (v := (nI 0)) dL_isMade_79 (by decide +kernel) ?_
      try simp only [if_neg c9] at h
      exact t_L_isMade_80 h
    · refine sj_iconst (v := (nI 1)) dL_isMade_75 (by decide +kernel) ?_
      refine sj_goto (tgt := 80) dL_isMade_76 (by decide) ?_
      try simp only [if_pos c9] at h
      exact t_L_isMade_80 h
def wp_L_isMade_0 (G : sj_G) (R : sj_R) (σ : sj_S) : Prop := sj_J G 12 me_L_isMade R 2 [.ref (sj_ad G 56), .ref (sj_ad G 0), .int (nI 0)] σ []
set_option maxRecDepth 20000 in
theorem t_L_isMade_0 {G : sj_G} {R : sj_R} {σ : sj_S} (h : wp_L_isMade_0 G R σ) : sj_J G 12 me_L_isMade R 0 [.ref (sj_ad G 56), .ref (sj_ad G 0), .null] σ [] := by
  unfold wp_L_isMade_0 at h
  refine sj_iconst (v := (nI 0)) dL_isMade_0 (by decide +kernel) ?_
  refine sj_istore_n dL_isMade_1 (i := 2) rfl (by decide) ?_
  exact h
theorem c_L_isMade {G : sj_G} (ok : sj_ok G) {R : sj_R} {σ : sj_S} (h : wp_L_isMade_0 G R σ) : sj_C G 12 me_L_isMade [.ref (sj_ad G 56), .ref (sj_ad G 0)] σ R :=
  sj_enter ok (by decide +kernel) rfl rfl (Nat.le_of_ble_eq_true rfl) (by simp [Value.category]) (t_L_isMade_0 h)
def wp_L_isDrawn_27 (G : sj_G) (R : sj_R) (s0 : Int32) (σ : sj_S) : Prop := ∃ v1 σ1, sj_C G 2 me_L_next [.ref (sj_ad G 56), .int (nI 4)] (sj_st σ 56 13 s0) (.ok v1, σ1) ∧ ∃ v2 σ2, sj_C G 2 me_L_next [.ref (sj_ad G 56), .int (nI 5)] σ1 (.ok v2, σ2) ∧ sj_J G 13 me_L_isDrawn R 48 [.ref (sj_ad G 56), .int ((nI 1) + v1), .int ((nI 1) + v2), .int (nI 0)] σ2 []
set_option maxRecDepth 20000 in
theorem t_L_isDrawn_27 {G : sj_G} {R : sj_R} {s0 : Int32} {σ : sj_S} (hO : sj_ad G 70 = sj_ad G 0) (h : wp_L_isDrawn_27 G R s0 σ) : sj_J G 13 me_L_isDrawn R 27 [.ref (sj_ad G 56), .null, .null, .null] σ [.int s0, .ref (sj_ad G 56)] := by
  unfold wp_L_isDrawn_27 at h
  refine sj_put (a := 56) (k9 := 13) dL_isDrawn_27 (by decide +kernel) (by decide +kernel) rfl ?_
  refine sj_iconst (v := (nI 1)) dL_isDrawn_30 (by decide +kernel) ?_
  refine sj_aload_n dL_isDrawn_31 (i := 0) rfl rfl ?_
  refine sj_iconst (v := (nI 4)) dL_isDrawn_32 (by decide +kernel) ?_
  obtain ⟨v1, σ1, hc1, h⟩ := h
  refine sj_callVi (M' := me_L_next) (b := 56) (As := [.int (nI 4)]) (rest := [.int (nI 1)]) dL_isDrawn_33 gL_isDrawn_L_next rfl hd_L_next (by decide +kernel) (by decide +kernel) rfl (Nat.le_of_ble_eq_true rfl) (by omega) rfl hc1 ?_
  refine sj_iadd dL_isDrawn_36 ?_
  refine sj_istore_n dL_isDrawn_37 (i := 1) rfl (by decide) ?_
  refine sj_iconst (v := (nI 1)) dL_isDrawn_38 (by decide +kernel) ?_
  refine sj_aload_n dL_isDrawn_39 (i := 0) rfl rfl ?_
  refine sj_iconst (v := (nI 5)) dL_isDrawn_40 (by decide +kernel) ?_
  obtain ⟨v2, σ2, hc2, h⟩ := h
  refine sj_callVi (M' := me_L_next) (b := 56) (As := [.int (nI 5)]) (rest := [.int (nI 1)]) dL_isDrawn_41 gL_isDrawn_L_next rfl hd_L_next (by decide +kernel) (by decide +kernel) rfl (Nat.le_of_ble_eq_true rfl) (by omega) rfl hc2 ?_
  refine sj_iadd dL_isDrawn_44 ?_
  refine sj_istore_n dL_isDrawn_45 (i := 2) rfl (by decide) ?_
  refine sj_iconst (v := (nI 0)) dL_isDrawn_46 (by decide +kernel) ?_
  refine sj_istore_n dL_isDrawn_47 (i := 3) rfl (by decide) ?_
  exact h
def wp_L_isDrawn_78 (G : sj_G) (R : sj_R) (x1 : Int32) (x2 : Int32) (x3 : Int32) (s0 : Int32) (s1 : Int32) (σ : sj_S) : Prop := vp_in s1 3 ∧ sj_J G 13 me_L_isDrawn R 48 [.ref (sj_ad G 56), .int x1, .int x2, .int (x3 + (nI 1))] (sj_st σ 67 s1.toNatClampNeg s0) []
set_option maxRecDepth 20000 in
theorem t_L_isDrawn_78 {G : sj_G} {R : sj_R} {x1 : Int32} {x2 : Int32} {x3 : Int32} {s0 : Int32} {s1 : Int32} {σ : sj_S} (hO : sj_ad G 70 = sj_ad G 0) (h : wp_L_isDrawn_78 G R x1 x2 x3 s0 s1 σ) : sj_J G 13 me_L_isDrawn R 78 [.ref (sj_ad G 56), .int x1, .int x2, .int x3] σ [.int s0, .int s1, .ref (sj_ad G 67)] := by
  unfold wp_L_isDrawn_78 at h
  obtain ⟨b1, h⟩ := h
  refine sj_iast (a := 67) (j := s1.toNatClampNeg) dL_isDrawn_78 rfl (by decide +kernel) b1 rfl ?_
  refine sj_iinc (v := (x3 + (nI 1))) dL_isDrawn_79 (by decide) rfl rfl ?_
  refine sj_goto (tgt := 48) dL_isDrawn_82 (by decide) ?_
  exact h
def wp_L_isDrawn_48 (G : sj_G) (R : sj_R) (x1 : Int32) (x2 : Int32) (x3 : Int32) (σ : sj_S) : Prop := ((nI 3) ≤ x3 → sj_J G 13 me_L_isDrawn R 87 [.ref (sj_ad G 56), .int x1, .int x2, .int (nI 0)] σ []) ∧ (¬ ((nI 3) ≤ x3) → ∃ v2 σ2, sj_C G 2 me_L_next [.ref (sj_ad G 56), .int (nI 6)] σ (.ok v2, σ2) ∧ (¬ v2 = 0 → ∃ v5 σ5, sj_C G 2 me_L_next [.ref (sj_ad G 56), .int (nI 3)] σ2 (.ok v5, σ5) ∧ (wp_L_isDrawn_78 G R x1 x2 x3 ((nI 1) + v5) x3 σ5)) ∧ (v2 = 0 → (wp_L_isDrawn_78 G R x1 x2 x3 (nI 0) x3 σ2)))
set_option maxRecDepth 20000 in
theorem t_L_isDrawn_48 {G : sj_G} {R : sj_R} {x1 : Int32} {x2 : Int32} {x3 : Int32} {σ : sj_S} (hO : sj_ad G 70 = sj_ad G 0) (h : wp_L_isDrawn_48 G R x1 x2 x3 σ) : sj_J G 13 me_L_isDrawn R 48 [.ref (sj_ad G 56), .int x1, .int x2, .int x3] σ [] := by
  unfold wp_L_isDrawn_48 at h
  refine sj_iload_n dL_isDrawn_48 (i := 3) rfl rfl ?_
  refine sj_iconst (v := (nI 3)) dL_isDrawn_49 (by decide +kernel) ?_
  refine sj_icmp_ge (tgt := 85) dL_isDrawn_50 (by decide) (fun c1 => ?_) (fun c1 => ?_)
  · replace h := h.1 c1
    refine sj_iconst (v := (nI 0)) dL_isDrawn_85 (by decide +kernel) ?_
    refine sj_istore_n dL_isDrawn_86 (i := 3) rfl (by decide) ?_
    exact h
  · replace h := h.2 c1
    refine sj_aload_n dL_isDrawn_53 (i := 0) rfl rfl ?_
    refine sj_get (a := 56) (k9 := 12) (v := .ref (sj_ad G 67)) dL_isDrawn_54 (by decide +kernel) rfl ?_
    refine sj_iload_n dL_isDrawn_57 (i := 3) rfl rfl ?_
    refine sj_aload_n dL_isDrawn_58 (i := 0) rfl rfl ?_
    refine sj_bipush (v := (nI 6)) dL_isDrawn_59 (by decide +kernel) ?_
    obtain ⟨v2, σ2, hc2, h⟩ := h
    refine sj_callVi (M' := me_L_next) (b := 56) (As := [.int (nI 6)]) (rest := [.int x3, .ref (sj_ad G 67)]) dL_isDrawn_61 gL_isDrawn_L_next rfl hd_L_next (by decide +kernel) (by decide +kernel) rfl (Nat.le_of_ble_eq_true rfl) (by omega) rfl hc2 ?_
    refine sj_if_ne (tgt := 71) dL_isDrawn_64 (by decide) (fun c4 => ?_) (fun c4 => ?_)
    · replace h := h.1 c4
      refine sj_iconst (v := (nI 1)) dL_isDrawn_71 (by decide +kernel) ?_
      refine sj_aload_n dL_isDrawn_72 (i := 0) rfl rfl ?_
      refine sj_iconst (v := (nI 3)) dL_isDrawn_73 (by decide +kernel) ?_
      obtain ⟨v5, σ5, hc5, h⟩ := h
      refine sj_callVi (M' := me_L_next) (b := 56) (As := [.int (nI 3)]) (rest := [.int (nI 1), .int x3, .ref (sj_ad G 67)]) dL_isDrawn_74 gL_isDrawn_L_next rfl hd_L_next (by decide +kernel) (by decide +kernel) rfl (Nat.le_of_ble_eq_true rfl) (by omega) rfl hc5 ?_
      refine sj_iadd dL_isDrawn_77 ?_
      exact t_L_isDrawn_78 hO h
    · replace h := h.2 c4
      refine sj_iconst (v := (nI 0)) dL_isDrawn_67 (by decide +kernel) ?_
      refine sj_goto (tgt := 78) dL_isDrawn_68 (by decide) ?_
      exact t_L_isDrawn_78 hO h
def wp_L_isDrawn_176 (G : sj_G) (R : sj_R) (x1 : Int32) (x2 : Int32) (x3 : Int32) (s0 : Int32) (s1 : Int32) (σ : sj_S) : Prop := vp_in s1 9 ∧ sj_J G 13 me_L_isDrawn R 87 [.ref (sj_ad G 56), .int x1, .int x2, .int (x3 + (nI 1))] (sj_st σ 61 s1.toNatClampNeg s0) []
set_option maxRecDepth 20000 in
theorem t_L_isDrawn_176 {G : sj_G} {R : sj_R} {x1 : Int32} {x2 : Int32} {x3 : Int32} {s0 : Int32} {s1 : Int32} {σ : sj_S} (hO : sj_ad G 70 = sj_ad G 0) (h : wp_L_isDrawn_176 G R x1 x2 x3 s0 s1 σ) : sj_J G 13 me_L_isDrawn R 176 [.ref (sj_ad G 56), .int x1, .int x2, .int x3] σ [.int s0, .int s1, .ref (sj_ad G 61)] := by
  unfold wp_L_isDrawn_176 at h
  obtain ⟨b1, h⟩ := h
  refine sj_iast (a := 61) (j := s1.toNatClampNeg) dL_isDrawn_176 rfl (by decide +kernel) b1 rfl ?_
  refine sj_iinc (v := (x3 + (nI 1))) dL_isDrawn_177 (by decide) rfl rfl ?_
  refine sj_goto (tgt := 87) dL_isDrawn_180 (by decide) ?_
  exact h
def wp_L_isDrawn_158 (G : sj_G) (R : sj_R) (x1 : Int32) (x2 : Int32) (x3 : Int32) (σ : sj_S) : Prop := ∃ v1 σ1, sj_C G 2 me_L_next [.ref (sj_ad G 56), .int (nI 3)] σ (.ok v1, σ1) ∧ (wp_L_isDrawn_176 G R x1 x2 x3 (if v1 = 0 then (nI 2) else (nI 1)) x3 σ1)
set_option maxRecDepth 20000 in
theorem t_L_isDrawn_158 {G : sj_G} {R : sj_R} {x1 : Int32} {x2 : Int32} {x3 : Int32} {σ : sj_S} (hO : sj_ad G 70 = sj_ad G 0) (h : wp_L_isDrawn_158 G R x1 x2 x3 σ) : sj_J G 13 me_L_isDrawn R 158 [.ref (sj_ad G 56), .int x1, .int x2, .int x3] σ [] := by
  unfold wp_L_isDrawn_158 at h
  refine sj_aload_n dL_isDrawn_158 (i := 0) rfl rfl ?_
  refine sj_get (a := 56) (k9 := 6) (v := .ref (sj_ad G 61)) dL_isDrawn_159 (by decide +kernel) rfl ?_
  refine sj_iload_n dL_isDrawn_162 (i := 3) rfl rfl ?_
  refine sj_aload_n dL_isDrawn_163 (i := 0) rfl rfl ?_
  refine sj_iconst (v := (nI 3)) dL_isDrawn_164 (by decide +kernel) ?_
  obtain ⟨v1, σ1, hc1, h⟩ := h
  refine sj_callVi (M' := me_L_next) (b := 56) (As := [.int (nI 3)]) (rest := [.int x3, .ref (sj_ad G 61)]) dL_isDrawn_165 gL_isDrawn_L_next rfl hd_L_next (by decide +kernel) (by decide +kernel) rfl (Nat.le_of_ble_eq_true rfl) (by omega) rfl hc1 ?_
  refine sj_if_ne (tgt := 175) dL_isDrawn_168 (by decide) (fun c2 => ?_) (fun c2 => ?_)
  · refine sj_iconst (v := (nI 1)) dL_isDrawn_175 (by decide +kernel) ?_
    try simp only [if_neg c2] at h
    exact t_L_isDrawn_176 hO h
  · refine sj_iconst (v := (nI 2)) dL_isDrawn_171 (by decide +kernel) ?_
    refine sj_goto (tgt := 176) dL_isDrawn_172 (by decide) ?_
    try simp only [if_pos c2] at h
    exact t_L_isDrawn_176 hO h
def wp_L_isDrawn_87 (G : sj_G) (R : sj_R) (x1 : Int32) (x2 : Int32) (x3 : Int32) (σ : sj_S) : Prop := ((σ 56 13) ≤ x3 → ∃ v2 σ2, sj_C G 12 me_L_isMade [.ref (sj_ad G 56), .ref (sj_ad G 0)] σ (.ok v2, σ2) ∧ (¬ v2 = 0 → ∃ v4 σ4, sj_C G 2 me_L_next [.ref (sj_ad G 56), .int (nI 12)] σ2 (.ok v4, σ4) ∧ sj_J G 13 me_L_isDrawn R 208 [.ref (sj_ad G 56), .int x1, .int x2, .int (nI 0)] (sj_st σ4 56 14 v4) []) ∧ (v2 = 0 → R = (.ok (nI 0), σ2))) ∧ (¬ ((σ 56 13) ≤ x3) → ∃ v5 σ5, sj_C G 2 me_L_next [.ref (sj_ad G 56), .int x1] σ (.ok v5, σ5) ∧ vp_in x3 9 ∧ ∃ v7 σ7, sj_C G 2 me_L_next [.ref (sj_ad G 56), .int x2] (sj_st σ5 57 x3.toNatClampNeg v5) (.ok v7, σ7) ∧ vp_in x3 9 ∧ ∃ v9 σ9, sj_C G 2 me_L_next [.ref (sj_ad G 56), .int (nI 6)] (sj_st σ7 58 x3.toNatClampNeg v7) (.ok v9, σ9) ∧ vp_in x3 9 ∧ ∃ v11 σ11, sj_C G 2 me_L_next [.ref (sj_ad G 56), .int (nI 5)] (sj_st σ9 59 x3.toNatClampNeg v9) (.ok v11, σ11) ∧ vp_in x3 9 ∧ vp_in x3 9 ∧ ((¬ (0 ≤ ((sj_st σ11 60 x3.toNatClampNeg (v11 - (nI 2))) 60 x3.toNatClampNeg))) → vp_in x3 9) ∧ (wp_L_isDrawn_158 G R x1 x2 x3 (if 0 ≤ ((sj_st σ11 60 x3.toNatClampNeg (v11 - (nI 2))) 60 x3.toNatClampNeg) then (sj_st σ11 60 x3.toNatClampNeg (v11 - (nI 2))) else (sj_st (sj_st σ11 60 x3.toNatClampNeg (v11 - (nI 2))) 60 x3.toNatClampNeg (-1)))))
set_option maxRecDepth 20000 in
theorem t_L_isDrawn_87 {G : sj_G} {R : sj_R} {x1 : Int32} {x2 : Int32} {x3 : Int32} {σ : sj_S} (hO : sj_ad G 70 = sj_ad G 0) (h : wp_L_isDrawn_87 G R x1 x2 x3 σ) : sj_J G 13 me_L_isDrawn R 87 [.ref (sj_ad G 56), .int x1, .int x2, .int x3] σ [] := by
  unfold wp_L_isDrawn_87 at h
  refine sj_iload_n dL_isDrawn_87 (i := 3) rfl rfl ?_
  refine sj_aload_n dL_isDrawn_88 (i := 0) rfl rfl ?_
  refine sj_get (a := 56) (k9 := 13) (v := .int (σ 56 13)) dL_isDrawn_89 (by decide +kernel) rfl ?_
  refine sj_icmp_ge (tgt := 183) dL_isDrawn_92 (by decide) (fun c1 => ?_) (fun c1 => ?_)
  · replace h := h.1 c1
    refine sj_aload_n dL_isDrawn_183 (i := 0) rfl rfl ?_
    refine sj_aload_n dL_isDrawn_184 (i := 0) rfl rfl ?_
    refine sj_getO hO (a := 56) (k9 := 1) dL_isDrawn_185 (by decide +kernel) rfl ?_
    obtain ⟨v2, σ2, hc2, h⟩ := h
    refine sj_callVi (M' := me_L_isMade) (b := 56) (As := [.ref (sj_ad G 0)]) (rest := []) dL_isDrawn_188 gL_isDrawn_L_isMade rfl hd_L_isMade (by decide +kernel) (by decide +kernel) rfl (Nat.le_of_ble_eq_true rfl) (by omega) rfl hc2 ?_
    refine sj_if_ne (tgt := 196) dL_isDrawn_191 (by decide) (fun c3 => ?_) (fun c3 => ?_)
    · replace h := h.1 c3
      refine sj_aload_n dL_isDrawn_196 (i := 0) rfl rfl ?_
      refine sj_aload_n dL_isDrawn_197 (i := 0) rfl rfl ?_
      refine sj_bipush (v := (nI 12)) dL_isDrawn_198 (by decide +kernel) ?_
      obtain ⟨v4, σ4, hc4, h⟩ := h
      refine sj_callVi (M' := me_L_next) (b := 56) (As := [.int (nI 12)]) (rest := [.ref (sj_ad G 56)]) dL_isDrawn_200 gL_isDrawn_L_next rfl hd_L_next (by decide +kernel) (by decide +kernel) rfl (Nat.le_of_ble_eq_true rfl) (by omega) rfl hc4 ?_
      refine sj_put (a := 56) (k9 := 14) dL_isDrawn_203 (by decide +kernel) (by decide +kernel) rfl ?_
      refine sj_iconst (v := (nI 0)) dL_isDrawn_206 (by decide +kernel) ?_
      refine sj_istore_n dL_isDrawn_207 (i := 3) rfl (by decide) ?_
      exact h
    · replace h := h.2 c3
      refine sj_iconst (v := (nI 0)) dL_isDrawn_194 (by decide +kernel) ?_
      subst h
      exact sj_ret dL_isDrawn_195 rfl rfl
  · replace h := h.2 c1
    refine sj_aload_n dL_isDrawn_95 (i := 0) rfl rfl ?_
    refine sj_get (a := 56) (k9 := 2) (v := .ref (sj_ad G 57)) dL_isDrawn_96 (by decide +kernel) rfl ?_
    refine sj_iload_n dL_isDrawn_99 (i := 3) rfl rfl ?_
    refine sj_aload_n dL_isDrawn_100 (i := 0) rfl rfl ?_
    refine sj_iload_n dL_isDrawn_101 (i := 1) rfl rfl ?_
    obtain ⟨v5, σ5, hc5, h⟩ := h
    refine sj_callVi (M' := me_L_next) (b := 56) (As := [.int x1]) (rest := [.int x3, .ref (sj_ad G 57)]) dL_isDrawn_102 gL_isDrawn_L_next rfl hd_L_next (by decide +kernel) (by decide +kernel) rfl (Nat.le_of_ble_eq_true rfl) (by omega) rfl hc5 ?_
    obtain ⟨b6, h⟩ := h
    refine sj_iast (a := 57) (j := x3.toNatClampNeg) dL_isDrawn_105 rfl (by decide +kernel) b6 rfl ?_
    refine sj_aload_n dL_isDrawn_106 (i := 0) rfl rfl ?_
    refine sj_get (a := 56) (k9 := 3) (v := .ref (sj_ad G 58)) dL_isDrawn_107 (by decide +kernel) rfl ?_
    refine sj_iload_n dL_isDrawn_110 (i := 3) rfl rfl ?_
    refine sj_aload_n dL_isDrawn_111 (i := 0) rfl rfl ?_
    refine sj_iload_n dL_isDrawn_112 (i := 2) rfl rfl ?_
    obtain ⟨v7, σ7, hc7, h⟩ := h
    refine sj_callVi (M' := me_L_next) (b := 56) (As := [.int x2]) (rest := [.int x3, .ref (sj_ad G 58)]) dL_isDrawn_113 gL_isDrawn_L_next rfl hd_L_next (by decide +kernel) (by decide +kernel) rfl (Nat.le_of_ble_eq_true rfl) (by omega) rfl hc7 ?_
    obtain ⟨b8, h⟩ := h
    refine sj_iast (a := 58) (j := x3.toNatClampNeg) dL_isDrawn_116 rfl (by decide +kernel) b8 rfl ?_
    refine sj_aload_n dL_isDrawn_117 (i := 0) rfl rfl ?_
    refine sj_get (a := 56) (k9 := 4) (v := .ref (sj_ad G 59)) dL_isDrawn_118 (by decide +kernel) rfl ?_
    refine sj_iload_n dL_isDrawn_121 (i := 3) rfl rfl ?_
    refine sj_aload_n dL_isDrawn_122 (i := 0) rfl rfl ?_
    refine sj_bipush (v := (nI 6)) dL_isDrawn_123 (by decide +kernel) ?_
    obtain ⟨v9, σ9, hc9, h⟩ := h
    refine sj_callVi (M' := me_L_next) (b := 56) (As := [.int (nI 6)]) (rest := [.int x3, .ref (sj_ad G 59)]) dL_isDrawn_125 gL_isDrawn_L_next rfl hd_L_next (by decide +kernel) (by decide +kernel) rfl (Nat.le_of_ble_eq_true rfl) (by omega) rfl hc9 ?_
    obtain ⟨b10, h⟩ := h
    refine sj_iast (a := 59) (j := x3.toNatClampNeg) dL_isDrawn_128 rfl (by decide +kernel) b10 rfl ?_
    refine sj_aload_n dL_isDrawn_129 (i := 0) rfl rfl ?_
    refine sj_get (a := 56) (k9 := 5) (v := .ref (sj_ad G 60)) dL_isDrawn_130 (by decide +kernel) rfl ?_
    refine sj_iload_n dL_isDrawn_133 (i := 3) rfl rfl ?_
    refine sj_aload_n dL_isDrawn_134 (i := 0) rfl rfl ?_
    refine sj_iconst (v := (nI 5)) dL_isDrawn_135 (by decide +kernel) ?_
    obtain ⟨v11, σ11, hc11, h⟩ := h
    refine sj_callVi (M' := me_L_next) (b := 56) (As := [.int (nI 5)]) (rest := [.int x3, .ref (sj_ad G 60)]) dL_isDrawn_136 gL_isDrawn_L_next rfl hd_L_next (by decide +kernel) (by decide +kernel) rfl (Nat.le_of_ble_eq_true rfl) (by omega) rfl hc11 ?_
    refine sj_iconst (v := (nI 2)) dL_isDrawn_139 (by decide +kernel) ?_
    refine sj_isub dL_isDrawn_140 ?_
    obtain ⟨b12, h⟩ := h
    refine sj_iast (a := 60) (j := x3.toNatClampNeg) dL_isDrawn_141 rfl (by decide +kernel) b12 rfl ?_
    refine sj_aload_n dL_isDrawn_142 (i := 0) rfl rfl ?_
    refine sj_get (a := 56) (k9 := 5) (v := .ref (sj_ad G 60)) dL_isDrawn_143 (by decide +kernel) rfl ?_
    refine sj_iload_n dL_isDrawn_146 (i := 3) rfl rfl ?_
    obtain ⟨b13, h⟩ := h
    refine sj_iald (a := 60) (j := x3.toNatClampNeg) (x := ((sj_st σ11 60 x3.toNatClampNeg (v11 - (nI 2))) 60 x3.toNatClampNeg)) dL_isDrawn_147 rfl (by decide +kernel) b13 rfl rfl ?_
    obtain ⟨f16, h⟩ := h
    refine sj_if_ge (tgt := 158) dL_isDrawn_148 (by decide) (fun c14 => ?_) (fun c14 => ?_)
    · try simp only [if_pos c14] at h
      exact t_L_isDrawn_158 hO h
    · have b15 := f16 c14
      refine sj_aload_n dL_isDrawn_151 (i := 0) rfl rfl ?_
      refine sj_get (a := 56) (k9 := 5) (v := .ref (sj_ad G 60)) dL_isDrawn_152 (by decide +kernel) rfl ?_
      refine sj_iload_n dL_isDrawn_155 (i := 3) rfl rfl ?_
      refine sj_iconst (v := (-1)) dL_isDrawn_156 (by decide +kernel) ?_
      refine sj_iast (a := 60) (j := x3.toNatClampNeg) dL_isDrawn_157 rfl (by decide +kernel) b15 rfl ?_
      try simp only [if_neg c14] at h
      exact t_L_isDrawn_158 hO h
def wp_L_isDrawn_394 (G : sj_G) (R : sj_R) (x1 : Int32) (x2 : Int32) (x3 : Int32) (s0 : Int32) (s1 : Int32) (σ : sj_S) : Prop := vp_in s1 12 ∧ vp_in x3 12 ∧ vp_in x3 12 ∧ vp_in x3 12 ∧ vp_in x3 12 ∧ ∃ v6 σ6, sj_C G 11 me_X11_wish [.ref (sj_ad G 0), .int (σ 63 x3.toNatClampNeg), .int (σ 64 x3.toNatClampNeg), .int (σ 65 x3.toNatClampNeg), .int ((sj_st σ 66 s1.toNatClampNeg s0) 66 x3.toNatClampNeg)] (sj_st σ 66 s1.toNatClampNeg s0) (.ok v6, σ6) ∧ (v6 = x3 → sj_J G 13 me_L_isDrawn R 208 [.ref (sj_ad G 56), .int x1, .int x2, .int (x3 + (nI 1))] σ6 []) ∧ (¬ (v6 = x3) → R = (.ok (nI 0), σ6))
set_option maxRecDepth 20000 in
theorem t_L_isDrawn_394 {G : sj_G} {R : sj_R} {x1 : Int32} {x2 : Int32} {x3 : Int32} {s0 : Int32} {s1 : Int32} {σ : sj_S} (hO : sj_ad G 70 = sj_ad G 0) (h : wp_L_isDrawn_394 G R x1 x2 x3 s0 s1 σ) : sj_J G 13 me_L_isDrawn R 394 [.ref (sj_ad G 56), .int x1, .int x2, .int x3] σ [.int s0, .int s1, .ref (sj_ad G 66)] := by
  unfold wp_L_isDrawn_394 at h
  obtain ⟨b1, h⟩ := h
  refine sj_iast (a := 66) (j := s1.toNatClampNeg) dL_isDrawn_394 rfl (by decide +kernel) b1 rfl ?_
  refine sj_aload_n dL_isDrawn_395 (i := 0) rfl rfl ?_
  refine sj_getO hO (a := 56) (k9 := 1) dL_isDrawn_396 (by decide +kernel) rfl ?_
  refine sj_aload_n dL_isDrawn_399 (i := 0) rfl rfl ?_
  refine sj_get (a := 56) (k9 := 8) (v := .ref (sj_ad G 63)) dL_isDrawn_400 (by decide +kernel) rfl ?_
  refine sj_iload_n dL_isDrawn_403 (i := 3) rfl rfl ?_
  obtain ⟨b2, h⟩ := h
  refine sj_iald (a := 63) (j := x3.toNatClampNeg) (x := (σ 63 x3.toNatClampNeg)) dL_isDrawn_404 rfl (by decide +kernel) b2 rfl rfl ?_
  refine sj_aload_n dL_isDrawn_405 (i := 0) rfl rfl ?_
  refine sj_get (a := 56) (k9 := 9) (v := .ref (sj_ad G 64)) dL_isDrawn_406 (by decide +kernel) rfl ?_
  refine sj_iload_n dL_isDrawn_409 (i := 3) rfl rfl ?_
  obtain ⟨b3, h⟩ := h
  refine sj_iald (a := 64) (j := x3.toNatClampNeg) (x := (σ 64 x3.toNatClampNeg)) dL_isDrawn_410 rfl (by decide +kernel) b3 rfl rfl ?_
  refine sj_aload_n dL_isDrawn_411 (i := 0) rfl rfl ?_
  refine sj_get (a := 56) (k9 := 10) (v := .ref (sj_ad G 65)) dL_isDrawn_412 (by decide +kernel) rfl ?_
  refine sj_iload_n dL_isDrawn_415 (i := 3) rfl rfl ?_
  obtain ⟨b4, h⟩ := h
  refine sj_iald (a := 65) (j := x3.toNatClampNeg) (x := (σ 65 x3.toNatClampNeg)) dL_isDrawn_416 rfl (by decide +kernel) b4 rfl rfl ?_
  refine sj_aload_n dL_isDrawn_417 (i := 0) rfl rfl ?_
  refine sj_get (a := 56) (k9 := 11) (v := .ref (sj_ad G 66)) dL_isDrawn_418 (by decide +kernel) rfl ?_
  refine sj_iload_n dL_isDrawn_421 (i := 3) rfl rfl ?_
  obtain ⟨b5, h⟩ := h
  refine sj_iald (a := 66) (j := x3.toNatClampNeg) (x := ((sj_st σ 66 s1.toNatClampNeg s0) 66 x3.toNatClampNeg)) dL_isDrawn_422 rfl (by decide +kernel) b5 rfl rfl ?_
  obtain ⟨v6, σ6, hc6, h⟩ := h
  refine sj_callVi (M' := me_X11_wish) (b := 0) (As := [.int (σ 63 x3.toNatClampNeg), .int (σ 64 x3.toNatClampNeg), .int (σ 65 x3.toNatClampNeg), .int ((sj_st σ 66 s1.toNatClampNeg s0) 66 x3.toNatClampNeg)]) (rest := []) dL_isDrawn_423 gL_isDrawn_X11_wish rfl hd_X11_wish (by decide +kernel) (by decide +kernel) rfl (Nat.le_of_ble_eq_true rfl) (by omega) rfl hc6 ?_
  refine sj_iload_n dL_isDrawn_426 (i := 3) rfl rfl ?_
  refine sj_icmp_eq (tgt := 432) dL_isDrawn_427 (by decide) (fun c7 => ?_) (fun c7 => ?_)
  · replace h := h.1 c7
    refine sj_iinc (v := (x3 + (nI 1))) dL_isDrawn_432 (by decide) rfl rfl ?_
    refine sj_goto (tgt := 208) dL_isDrawn_435 (by decide) ?_
    exact h
  · replace h := h.2 c7
    refine sj_iconst (v := (nI 0)) dL_isDrawn_430 (by decide +kernel) ?_
    subst h
    exact sj_ret dL_isDrawn_431 rfl rfl
def wp_L_isDrawn_368 (G : sj_G) (R : sj_R) (x1 : Int32) (x2 : Int32) (x3 : Int32) (s0 : Int32) (s1 : Int32) (σ : sj_S) : Prop := vp_in s1 12 ∧ ∃ v2 σ2, sj_C G 2 me_L_next [.ref (sj_ad G 56), .int (nI 2)] (sj_st σ 65 s1.toNatClampNeg s0) (.ok v2, σ2) ∧ (¬ v2 = 0 → ∃ v5 σ5, sj_C G 2 me_L_next [.ref (sj_ad G 56), .int (nI 9)] σ2 (.ok v5, σ5) ∧ (wp_L_isDrawn_394 G R x1 x2 x3 ((nI 1) + v5) x3 σ5)) ∧ (v2 = 0 → (wp_L_isDrawn_394 G R x1 x2 x3 (nI 0) x3 σ2))
set_option maxRecDepth 20000 in
theorem t_L_isDrawn_368 {G : sj_G} {R : sj_R} {x1 : Int32} {x2 : Int32} {x3 : Int32} {s0 : Int32} {s1 : Int32} {σ : sj_S} (hO : sj_ad G 70 = sj_ad G 0) (h : wp_L_isDrawn_368 G R x1 x2 x3 s0 s1 σ) : sj_J G 13 me_L_isDrawn R 368 [.ref (sj_ad G 56), .int x1, .int x2, .int x3] σ [.int s0, .int s1, .ref (sj_ad G 65)] := by
  unfold wp_L_isDrawn_368 at h
  obtain ⟨b1, h⟩ := h
  refine sj_iast (a := 65) (j := s1.toNatClampNeg) dL_isDrawn_368 rfl (by decide +kernel) b1 rfl ?_
  refine sj_aload_n dL_isDrawn_369 (i := 0) rfl rfl ?_
  refine sj_get (a := 56) (k9 := 11) (v := .ref (sj_ad G 66)) dL_isDrawn_370 (by decide +kernel) rfl ?_
  refine sj_iload_n dL_isDrawn_373 (i := 3) rfl rfl ?_
  refine sj_aload_n dL_isDrawn_374 (i := 0) rfl rfl ?_
  refine sj_iconst (v := (nI 2)) dL_isDrawn_375 (by decide +kernel) ?_
  obtain ⟨v2, σ2, hc2, h⟩ := h
  refine sj_callVi (M' := me_L_next) (b := 56) (As := [.int (nI 2)]) (rest := [.int x3, .ref (sj_ad G 66)]) dL_isDrawn_376 gL_isDrawn_L_next rfl hd_L_next (by decide +kernel) (by decide +kernel) rfl (Nat.le_of_ble_eq_true rfl) (by omega) rfl hc2 ?_
  refine sj_if_ne (tgt := 386) dL_isDrawn_379 (by decide) (fun c4 => ?_) (fun c4 => ?_)
  · replace h := h.1 c4
    refine sj_iconst (v := (nI 1)) dL_isDrawn_386 (by decide +kernel) ?_
    refine sj_aload_n dL_isDrawn_387 (i := 0) rfl rfl ?_
    refine sj_bipush (v := (nI 9)) dL_isDrawn_388 (by decide +kernel) ?_
    obtain ⟨v5, σ5, hc5, h⟩ := h
    refine sj_callVi (M' := me_L_next) (b := 56) (As := [.int (nI 9)]) (rest := [.int (nI 1), .int x3, .ref (sj_ad G 66)]) dL_isDrawn_390 gL_isDrawn_L_next rfl hd_L_next (by decide +kernel) (by decide +kernel) rfl (Nat.le_of_ble_eq_true rfl) (by omega) rfl hc5 ?_
    refine sj_iadd dL_isDrawn_393 ?_
    exact t_L_isDrawn_394 hO h
  · replace h := h.2 c4
    refine sj_iconst (v := (nI 0)) dL_isDrawn_382 (by decide +kernel) ?_
    refine sj_goto (tgt := 394) dL_isDrawn_383 (by decide) ?_
    exact t_L_isDrawn_394 hO h
def wp_L_isDrawn_365 (G : sj_G) (R : sj_R) (x1 : Int32) (x2 : Int32) (x3 : Int32) (s0 : Int32) (s2 : Int32) (σ : sj_S) : Prop := ∃ v1 σ1, sj_C G 2 me_L_next [.ref (sj_ad G 56), .int s0] σ (.ok v1, σ1) ∧ (wp_L_isDrawn_368 G R x1 x2 x3 v1 s2 σ1)
set_option maxRecDepth 20000 in
theorem t_L_isDrawn_365 {G : sj_G} {R : sj_R} {x1 : Int32} {x2 : Int32} {x3 : Int32} {s0 : Int32} {s2 : Int32} {σ : sj_S} (hO : sj_ad G 70 = sj_ad G 0) (h : wp_L_isDrawn_365 G R x1 x2 x3 s0 s2 σ) : sj_J G 13 me_L_isDrawn R 365 [.ref (sj_ad G 56), .int x1, .int x2, .int x3] σ [.int s0, .ref (sj_ad G 56), .int s2, .ref (sj_ad G 65)] := by
  unfold wp_L_isDrawn_365 at h
  obtain ⟨v1, σ1, hc1, h⟩ := h
  refine sj_callVi (M' := me_L_next) (b := 56) (As := [.int s0]) (rest := [.int s2, .ref (sj_ad G 65)]) dL_isDrawn_365 gL_isDrawn_L_next rfl hd_L_next (by decide +kernel) (by decide +kernel) rfl (Nat.le_of_ble_eq_true rfl) (by omega) rfl hc1 ?_
  exact t_L_isDrawn_368 hO h
def wp_L_isDrawn_288 (G : sj_G) (R : sj_R) (x1 : Int32) (x2 : Int32) (x3 : Int32) (s0 : Int32) (s1 : Int32) (σ : sj_S) : Prop := vp_in s1 12 ∧ vp_in x3 12 ∧ (¬ (σ 63 x3.toNatClampNeg) = (nI 2) → vp_in x3 12 ∧ ((σ 63 x3.toNatClampNeg) ≤ (nI 3) → ∃ v10 σ10, sj_C G 2 me_L_next [.ref (sj_ad G 56), .int (nI 2)] (sj_st σ 64 s1.toNatClampNeg s0) (.ok v10, σ10) ∧ (wp_L_isDrawn_365 G R x1 x2 x3 (if v10 = 0 then (nI 6) else (nI 20)) x3 σ10)) ∧ (¬ ((σ 63 x3.toNatClampNeg) ≤ (nI 3)) → vp_in x3 12 ∧ ∃ v13 σ13, sj_C G 2 me_L_next [.ref (sj_ad G 56), .int ((σ 56 13) - (nI 1))] (sj_st σ 64 s1.toNatClampNeg s0) (.ok v13, σ13) ∧ ¬ (σ13 56 13) = 0 ∧ (wp_L_isDrawn_368 G R x1 x2 x3 (((((sj_st σ 64 s1.toNatClampNeg s0) 64 x3.toNatClampNeg) + (nI 1)) + v13) - ((((sj_st σ 64 s1.toNatClampNeg s0) 64 x3.toNatClampNeg) + (nI 1)) + v13) / (σ13 56 13) * (σ13 56 13)) x3 σ13))) ∧ ((σ 63 x3.toNatClampNeg) = (nI 2) → ∃ v15 σ15, sj_C G 2 me_L_next [.ref (sj_ad G 56), .int (nI 3)] (sj_st σ 64 s1.toNatClampNeg s0) (.ok v15, σ15) ∧ (wp_L_isDrawn_368 G R x1 x2 x3 v15 x3 σ15))
set_option maxRecDepth 20000 in
theorem t_L_isDrawn_288 {G : sj_G} {R : sj_R} {x1 : Int32} {x2 : Int32} {x3 : Int32} {s0 : Int32} {s1 : Int32} {σ : sj_S} (hO : sj_ad G 70 = sj_ad G 0) (h : wp_L_isDrawn_288 G R x1 x2 x3 s0 s1 σ) : sj_J G 13 me_L_isDrawn R 288 [.ref (sj_ad G 56), .int x1, .int x2, .int x3] σ [.int s0, .int s1, .ref (sj_ad G 64)] := by
  unfold wp_L_isDrawn_288 at h
  obtain ⟨b1, h⟩ := h
  refine sj_iast (a := 64) (j := s1.toNatClampNeg) dL_isDrawn_288 rfl (by decide +kernel) b1 rfl ?_
  refine sj_aload_n dL_isDrawn_289 (i := 0) rfl rfl ?_
  refine sj_get (a := 56) (k9 := 10) (v := .ref (sj_ad G 65)) dL_isDrawn_290 (by decide +kernel) rfl ?_
  refine sj_iload_n dL_isDrawn_293 (i := 3) rfl rfl ?_
  refine sj_aload_n dL_isDrawn_294 (i := 0) rfl rfl ?_
  refine sj_get (a := 56) (k9 := 8) (v := .ref (sj_ad G 63)) dL_isDrawn_295 (by decide +kernel) rfl ?_
  refine sj_iload_n dL_isDrawn_298 (i := 3) rfl rfl ?_
  obtain ⟨b2, h⟩ := h
  refine sj_iald (a := 63) (j := x3.toNatClampNeg) (x := (σ 63 x3.toNatClampNeg)) dL_isDrawn_299 rfl (by decide +kernel) b2 rfl rfl ?_
  refine sj_iconst (v := (nI 2)) dL_isDrawn_300 (by decide +kernel) ?_
  refine sj_icmp_ne (tgt := 312) dL_isDrawn_301 (by decide) (fun c6 => ?_) (fun c6 => ?_)
  · replace h := h.1 c6
    refine sj_aload_n dL_isDrawn_312 (i := 0) rfl rfl ?_
    refine sj_get (a := 56) (k9 := 8) (v := .ref (sj_ad G 63)) dL_isDrawn_313 (by decide +kernel) rfl ?_
    refine sj_iload_n dL_isDrawn_316 (i := 3) rfl rfl ?_
    obtain ⟨b7, h⟩ := h
    refine sj_iald (a := 63) (j := x3.toNatClampNeg) (x := (σ 63 x3.toNatClampNeg)) dL_isDrawn_317 rfl (by decide +kernel) b7 rfl rfl ?_
    refine sj_iconst (v := (nI 3)) dL_isDrawn_318 (by decide +kernel) ?_
    refine sj_icmp_le (tgt := 349) dL_isDrawn_319 (by decide) (fun c9 => ?_) (fun c9 => ?_)
    · replace h := h.1 c9
      refine sj_aload_n dL_isDrawn_349 (i := 0) rfl rfl ?_
      refine sj_aload_n dL_isDrawn_350 (i := 0) rfl rfl ?_
      refine sj_iconst (v := (nI 2)) dL_isDrawn_351 (by decide +kernel) ?_
      obtain ⟨v10, σ10, hc10, h⟩ := h
      refine sj_callVi (M' := me_L_next) (b := 56) (As := [.int (nI 2)]) (rest := [.ref (sj_ad G 56), .int x3, .ref (sj_ad G 65)]) dL_isDrawn_352 gL_isDrawn_L_next rfl hd_L_next (by decide +kernel) (by decide +kernel) rfl (Nat.le_of_ble_eq_true rfl) (by omega) rfl hc10 ?_
      refine sj_if_ne (tgt := 363) dL_isDrawn_355 (by decide) (fun c11 => ?_) (fun c11 => ?_)
      · refine sj_bipush (v := (nI 20)) dL_isDrawn_363 (by decide +kernel) ?_
        try simp only [if_neg c11] at h
        exact t_L_isDrawn_365 hO h
      · refine sj_bipush (v := (nI 6)) dL_isDrawn_358 (by decide +kernel) ?_
        refine sj_goto (tgt := 365) dL_isDrawn_360 (by decide) ?_
        try simp only [if_pos c11] at h
        exact t_L_isDrawn_365 hO h
    · replace h := h.2 c9
      refine sj_aload_n dL_isDrawn_322 (i := 0) rfl rfl ?_
      refine sj_get (a := 56) (k9 := 9) (v := .ref (sj_ad G 64)) dL_isDrawn_323 (by decide +kernel) rfl ?_
      refine sj_iload_n dL_isDrawn_326 (i := 3) rfl rfl ?_
      obtain ⟨b12, h⟩ := h
      refine sj_iald (a := 64) (j := x3.toNatClampNeg) (x := ((sj_st σ 64 s1.toNatClampNeg s0) 64 x3.toNatClampNeg)) dL_isDrawn_327 rfl (by decide +kernel) b12 rfl rfl ?_
      refine sj_iconst (v := (nI 1)) dL_isDrawn_328 (by decide +kernel) ?_
      refine sj_iadd dL_isDrawn_329 ?_
      refine sj_aload_n dL_isDrawn_330 (i := 0) rfl rfl ?_
      refine sj_aload_n dL_isDrawn_331 (i := 0) rfl rfl ?_
      refine sj_get (a := 56) (k9 := 13) (v := .int (σ 56 13)) dL_isDrawn_332 (by decide +kernel) rfl ?_
      refine sj_iconst (v := (nI 1)) dL_isDrawn_335 (by decide +kernel) ?_
      refine sj_isub dL_isDrawn_336 ?_
      obtain ⟨v13, σ13, hc13, h⟩ := h
      refine sj_callVi (M' := me_L_next) (b := 56) (As := [.int ((σ 56 13) - (nI 1))]) (rest := [.int (((sj_st σ 64 s1.toNatClampNeg s0) 64 x3.toNatClampNeg) + (nI 1)), .int x3, .ref (sj_ad G 65)]) dL_isDrawn_337 gL_isDrawn_L_next rfl hd_L_next (by decide +kernel) (by decide +kernel) rfl (Nat.le_of_ble_eq_true rfl) (by omega) rfl hc13 ?_
      refine sj_iadd dL_isDrawn_340 ?_
      refine sj_aload_n dL_isDrawn_341 (i := 0) rfl rfl ?_
      refine sj_get (a := 56) (k9 := 13) (v := .int (σ13 56 13)) dL_isDrawn_342 (by decide +kernel) rfl ?_
      obtain ⟨b14, h⟩ := h
      refine sj_irem dL_isDrawn_345 b14 ?_
      refine sj_goto (tgt := 368) dL_isDrawn_346 (by decide) ?_
      exact t_L_isDrawn_368 hO h
  · replace h := h.2 c6
    refine sj_aload_n dL_isDrawn_304 (i := 0) rfl rfl ?_
    refine sj_iconst (v := (nI 3)) dL_isDrawn_305 (by decide +kernel) ?_
    obtain ⟨v15, σ15, hc15, h⟩ := h
    refine sj_callVi (M' := me_L_next) (b := 56) (As := [.int (nI 3)]) (rest := [.int x3, .ref (sj_ad G 65)]) dL_isDrawn_306 gL_isDrawn_L_next rfl hd_L_next (by decide +kernel) (by decide +kernel) rfl (Nat.le_of_ble_eq_true rfl) (by omega) rfl hc15 ?_
    refine sj_goto (tgt := 368) dL_isDrawn_309 (by decide) ?_
    exact t_L_isDrawn_368 hO h
def wp_L_isDrawn_236 (G : sj_G) (R : sj_R) (x1 : Int32) (x2 : Int32) (x3 : Int32) (s0 : Int32) (s2 : Int32) (σ : sj_S) : Prop := ∃ v1 σ1, sj_C G 2 me_L_next [.ref (sj_ad G 56), .int s0] σ (.ok v1, σ1) ∧ vp_in s2 12 ∧ vp_in x3 12 ∧ (¬ ((sj_st σ1 63 s2.toNatClampNeg v1) 63 x3.toNatClampNeg) = 0 → vp_in x3 12 ∧ (¬ ((sj_st σ1 63 s2.toNatClampNeg v1) 63 x3.toNatClampNeg) = (nI 1) → ∃ v11 σ11, sj_C G 2 me_L_next [.ref (sj_ad G 56), .int (σ1 56 13)] (sj_st σ1 63 s2.toNatClampNeg v1) (.ok v11, σ11) ∧ (wp_L_isDrawn_288 G R x1 x2 x3 v11 x3 σ11)) ∧ (((sj_st σ1 63 s2.toNatClampNeg v1) 63 x3.toNatClampNeg) = (nI 1) → ∃ v12 σ12, sj_C G 2 me_L_next [.ref (sj_ad G 56), .int x1] (sj_st σ1 63 s2.toNatClampNeg v1) (.ok v12, σ12) ∧ (wp_L_isDrawn_288 G R x1 x2 x3 v12 x3 σ12))) ∧ (((sj_st σ1 63 s2.toNatClampNeg v1) 63 x3.toNatClampNeg) = 0 → ∃ v13 σ13, sj_C G 2 me_L_next [.ref (sj_ad G 56), .int x2] (sj_st σ1 63 s2.toNatClampNeg v1) (.ok v13, σ13) ∧ (wp_L_isDrawn_288 G R x1 x2 x3 v13 x3 σ13))
set_option maxRecDepth 20000 in
theorem t_L_isDrawn_236 {G : sj_G} {R : sj_R} {x1 : Int32} {x2 : Int32} {x3 : Int32} {s0 : Int32} {s2 : Int32} {σ : sj_S} (hO : sj_ad G 70 = sj_ad G 0) (h : wp_L_isDrawn_236 G R x1 x2 x3 s0 s2 σ) : sj_J G 13 me_L_isDrawn R 236 [.ref (sj_ad G 56), .int x1, .int x2, .int x3] σ [.int s0, .ref (sj_ad G 56), .int s2, .ref (sj_ad G 63)] := by
  unfold wp_L_isDrawn_236 at h
  obtain ⟨v1, σ1, hc1, h⟩ := h
  refine sj_callVi (M' := me_L_next) (b := 56) (As := [.int s0]) (rest := [.int s2, .ref (sj_ad G 63)]) dL_isDrawn_236 gL_isDrawn_L_next rfl hd_L_next (by decide +kernel) (by decide +kernel) rfl (Nat.le_of_ble_eq_true rfl) (by omega) rfl hc1 ?_
  obtain ⟨b2, h⟩ := h
  refine sj_iast (a := 63) (j := s2.toNatClampNeg) dL_isDrawn_239 rfl (by decide +kernel) b2 rfl ?_
  refine sj_aload_n dL_isDrawn_240 (i := 0) rfl rfl ?_
  refine sj_get (a := 56) (k9 := 9) (v := .ref (sj_ad G 64)) dL_isDrawn_241 (by decide +kernel) rfl ?_
  refine sj_iload_n dL_isDrawn_244 (i := 3) rfl rfl ?_
  refine sj_aload_n dL_isDrawn_245 (i := 0) rfl rfl ?_
  refine sj_get (a := 56) (k9 := 8) (v := .ref (sj_ad G 63)) dL_isDrawn_246 (by decide +kernel) rfl ?_
  refine sj_iload_n dL_isDrawn_249 (i := 3) rfl rfl ?_
  obtain ⟨b3, h⟩ := h
  refine sj_iald (a := 63) (j := x3.toNatClampNeg) (x := ((sj_st σ1 63 s2.toNatClampNeg v1) 63 x3.toNatClampNeg)) dL_isDrawn_250 rfl (by decide +kernel) b3 rfl rfl ?_
  refine sj_if_ne (tgt := 262) dL_isDrawn_251 (by decide) (fun c7 => ?_) (fun c7 => ?_)
  · replace h := h.1 c7
    refine sj_aload_n dL_isDrawn_262 (i := 0) rfl rfl ?_
    refine sj_get (a := 56) (k9 := 8) (v := .ref (sj_ad G 63)) dL_isDrawn_263 (by decide +kernel) rfl ?_
    refine sj_iload_n dL_isDrawn_266 (i := 3) rfl rfl ?_
    obtain ⟨b8, h⟩ := h
    refine sj_iald (a := 63) (j := x3.toNatClampNeg) (x := ((sj_st σ1 63 s2.toNatClampNeg v1) 63 x3.toNatClampNeg)) dL_isDrawn_267 rfl (by decide +kernel) b8 rfl rfl ?_
    refine sj_iconst (v := (nI 1)) dL_isDrawn_268 (by decide +kernel) ?_
    refine sj_icmp_ne (tgt := 280) dL_isDrawn_269 (by decide) (fun c10 => ?_) (fun c10 => ?_)
    · replace h := h.1 c10
      refine sj_aload_n dL_isDrawn_280 (i := 0) rfl rfl ?_
      refine sj_aload_n dL_isDrawn_281 (i := 0) rfl rfl ?_
      refine sj_get (a := 56) (k9 := 13) (v := .int (σ1 56 13)) dL_isDrawn_282 (by decide +kernel) rfl ?_
      obtain ⟨v11, σ11, hc11, h⟩ := h
      refine sj_callVi (M' := me_L_next) (b := 56) (As := [.int (σ1 56 13)]) (rest := [.int x3, .ref (sj_ad G 64)]) dL_isDrawn_285 gL_isDrawn_L_next rfl hd_L_next (by decide +kernel) (by decide +kernel) rfl (Nat.le_of_ble_eq_true rfl) (by omega) rfl hc11 ?_
      exact t_L_isDrawn_288 hO h
    · replace h := h.2 c10
      refine sj_aload_n dL_isDrawn_272 (i := 0) rfl rfl ?_
      refine sj_iload_n dL_isDrawn_273 (i := 1) rfl rfl ?_
      obtain ⟨v12, σ12, hc12, h⟩ := h
      refine sj_callVi (M' := me_L_next) (b := 56) (As := [.int x1]) (rest := [.int x3, .ref (sj_ad G 64)]) dL_isDrawn_274 gL_isDrawn_L_next rfl hd_L_next (by decide +kernel) (by decide +kernel) rfl (Nat.le_of_ble_eq_true rfl) (by omega) rfl hc12 ?_
      refine sj_goto (tgt := 288) dL_isDrawn_277 (by decide) ?_
      exact t_L_isDrawn_288 hO h
  · replace h := h.2 c7
    refine sj_aload_n dL_isDrawn_254 (i := 0) rfl rfl ?_
    refine sj_iload_n dL_isDrawn_255 (i := 2) rfl rfl ?_
    obtain ⟨v13, σ13, hc13, h⟩ := h
    refine sj_callVi (M' := me_L_next) (b := 56) (As := [.int x2]) (rest := [.int x3, .ref (sj_ad G 64)]) dL_isDrawn_256 gL_isDrawn_L_next rfl hd_L_next (by decide +kernel) (by decide +kernel) rfl (Nat.le_of_ble_eq_true rfl) (by omega) rfl hc13 ?_
    refine sj_goto (tgt := 288) dL_isDrawn_259 (by decide) ?_
    exact t_L_isDrawn_288 hO h
def wp_L_isDrawn_457 (G : sj_G) (R : sj_R) (s0 : Int32) (σ : sj_S) : Prop := R = (.ok s0, σ) ∧ (s0 = nI 0 ∨ s0 = nI 1)
set_option maxRecDepth 20000 in
theorem t_L_isDrawn_457 {G : sj_G} {R : sj_R} {s0 : Int32} {σ : sj_S} (hO : sj_ad G 70 = sj_ad G 0) (h : wp_L_isDrawn_457 G R s0 σ) : sj_J G 13 me_L_isDrawn R 457 [.null, .null, .null, .null] σ [.int s0] := by
  unfold wp_L_isDrawn_457 at h
  obtain ⟨h, hz⟩ := h
  subst h
  exact sj_ret dL_isDrawn_457 rfl (sj_nb hz)
def wp_L_isDrawn_208 (G : sj_G) (R : sj_R) (x1 : Int32) (x2 : Int32) (x3 : Int32) (σ : sj_S) : Prop := ((σ 56 14) ≤ x3 → ∃ v2 σ2, sj_C G 3 me_X11_wishes [.ref (sj_ad G 0)] σ (.ok v2, σ2) ∧ (wp_L_isDrawn_457 G R (if v2 = (σ2 56 14) then (nI 1) else (nI 0)) σ2)) ∧ (¬ ((σ 56 14) ≤ x3) → (wp_L_isDrawn_236 G R x1 x2 x3 (if (σ 56 13) ≤ (nI 1) then (nI 4) else (nI 7)) x3 σ))
set_option maxRecDepth 20000 in
theorem t_L_isDrawn_208 {G : sj_G} {R : sj_R} {x1 : Int32} {x2 : Int32} {x3 : Int32} {σ : sj_S} (hO : sj_ad G 70 = sj_ad G 0) (h : wp_L_isDrawn_208 G R x1 x2 x3 σ) : sj_J G 13 me_L_isDrawn R 208 [.ref (sj_ad G 56), .int x1, .int x2, .int x3] σ [] := by
  unfold wp_L_isDrawn_208 at h
  refine sj_iload_n dL_isDrawn_208 (i := 3) rfl rfl ?_
  refine sj_aload_n dL_isDrawn_209 (i := 0) rfl rfl ?_
  refine sj_get (a := 56) (k9 := 14) (v := .int (σ 56 14)) dL_isDrawn_210 (by decide +kernel) rfl ?_
  refine sj_icmp_ge (tgt := 438) dL_isDrawn_213 (by decide) (fun c1 => ?_) (fun c1 => ?_)
  · replace h := h.1 c1
    refine sj_aload_n dL_isDrawn_438 (i := 0) rfl rfl ?_
    refine sj_getO hO (a := 56) (k9 := 1) dL_isDrawn_439 (by decide +kernel) rfl ?_
    obtain ⟨v2, σ2, hc2, h⟩ := h
    refine sj_callVi (M' := me_X11_wishes) (b := 0) (As := []) (rest := []) dL_isDrawn_442 gL_isDrawn_X11_wishes rfl hd_X11_wishes (by decide +kernel) (by decide +kernel) rfl (Nat.le_of_ble_eq_true rfl) (by omega) rfl hc2 ?_
    refine sj_aload_n dL_isDrawn_445 (i := 0) rfl rfl ?_
    refine sj_get (a := 56) (k9 := 14) (v := .int (σ2 56 14)) dL_isDrawn_446 (by decide +kernel) rfl ?_
    refine sj_icmp_ne (tgt := 456) dL_isDrawn_449 (by decide) (fun c3 => ?_) (fun c3 => ?_)
    · refine sj_iconst (v := (nI 0)) dL_isDrawn_456 (by decide +kernel) ?_
      try simp only [if_neg c3] at h
      refine sj_fg [0, 1, 2, 3] ?_
      exact t_L_isDrawn_457 hO h
    · refine sj_iconst (v := (nI 1)) dL_isDrawn_452 (by decide +kernel) ?_
      refine sj_goto (tgt := 457) dL_isDrawn_453 (by decide) ?_
      try simp only [if_pos c3] at h
      refine sj_fg [0, 1, 2, 3] ?_
      exact t_L_isDrawn_457 hO h
  · replace h := h.2 c1
    refine sj_aload_n dL_isDrawn_216 (i := 0) rfl rfl ?_
    refine sj_get (a := 56) (k9 := 8) (v := .ref (sj_ad G 63)) dL_isDrawn_217 (by decide +kernel) rfl ?_
    refine sj_iload_n dL_isDrawn_220 (i := 3) rfl rfl ?_
    refine sj_aload_n dL_isDrawn_221 (i := 0) rfl rfl ?_
    refine sj_aload_n dL_isDrawn_222 (i := 0) rfl rfl ?_
    refine sj_get (a := 56) (k9 := 13) (v := .int (σ 56 13)) dL_isDrawn_223 (by decide +kernel) rfl ?_
    refine sj_iconst (v := (nI 1)) dL_isDrawn_226 (by decide +kernel) ?_
    refine sj_icmp_le (tgt := 235) dL_isDrawn_227 (by decide) (fun c4 => ?_) (fun c4 => ?_)
    · refine sj_iconst (v := (nI 4)) dL_isDrawn_235 (by decide +kernel) ?_
      try simp only [if_pos c4] at h
      exact t_L_isDrawn_236 hO h
    · refine sj_bipush (v := (nI 7)) dL_isDrawn_230 (by decide +kernel) ?_
      refine sj_goto (tgt := 236) dL_isDrawn_232 (by decide) ?_
      try simp only [if_neg c4] at h
      exact t_L_isDrawn_236 hO h
def wp_L_isDrawn_0 (G : sj_G) (R : sj_R) (σ : sj_S) : Prop := ∃ v1 σ1, sj_C G 2 me_L_next [.ref (sj_ad G 56), .int (nI 4)] σ (.ok v1, σ1) ∧ (¬ v1 = 0 → ∃ v4 σ4, sj_C G 2 me_L_next [.ref (sj_ad G 56), .int (nI 3)] σ1 (.ok v4, σ4) ∧ (wp_L_isDrawn_27 G R ((nI 1) + v4) σ4)) ∧ (v1 = 0 → ∃ v5 σ5, sj_C G 2 me_L_next [.ref (sj_ad G 56), .int (nI 6)] σ1 (.ok v5, σ5) ∧ (wp_L_isDrawn_27 G R ((nI 4) + v5) σ5))
set_option maxRecDepth 20000 in
theorem t_L_isDrawn_0 {G : sj_G} {R : sj_R} {σ : sj_S} (hO : sj_ad G 70 = sj_ad G 0) (h : wp_L_isDrawn_0 G R σ) : sj_J G 13 me_L_isDrawn R 0 [.ref (sj_ad G 56), .null, .null, .null] σ [] := by
  unfold wp_L_isDrawn_0 at h
  refine sj_aload_n dL_isDrawn_0 (i := 0) rfl rfl ?_
  refine sj_aload_n dL_isDrawn_1 (i := 0) rfl rfl ?_
  refine sj_iconst (v := (nI 4)) dL_isDrawn_2 (by decide +kernel) ?_
  obtain ⟨v1, σ1, hc1, h⟩ := h
  refine sj_callVi (M' := me_L_next) (b := 56) (As := [.int (nI 4)]) (rest := [.ref (sj_ad G 56)]) dL_isDrawn_3 gL_isDrawn_L_next rfl hd_L_next (by decide +kernel) (by decide +kernel) rfl (Nat.le_of_ble_eq_true rfl) (by omega) rfl hc1 ?_
  refine sj_if_ne (tgt := 20) dL_isDrawn_6 (by decide) (fun c3 => ?_) (fun c3 => ?_)
  · replace h := h.1 c3
    refine sj_iconst (v := (nI 1)) dL_isDrawn_20 (by decide +kernel) ?_
    refine sj_aload_n dL_isDrawn_21 (i := 0) rfl rfl ?_
    refine sj_iconst (v := (nI 3)) dL_isDrawn_22 (by decide +kernel) ?_
    obtain ⟨v4, σ4, hc4, h⟩ := h
    refine sj_callVi (M' := me_L_next) (b := 56) (As := [.int (nI 3)]) (rest := [.int (nI 1), .ref (sj_ad G 56)]) dL_isDrawn_23 gL_isDrawn_L_next rfl hd_L_next (by decide +kernel) (by decide +kernel) rfl (Nat.le_of_ble_eq_true rfl) (by omega) rfl hc4 ?_
    refine sj_iadd dL_isDrawn_26 ?_
    exact t_L_isDrawn_27 hO h
  · replace h := h.2 c3
    refine sj_iconst (v := (nI 4)) dL_isDrawn_9 (by decide +kernel) ?_
    refine sj_aload_n dL_isDrawn_10 (i := 0) rfl rfl ?_
    refine sj_bipush (v := (nI 6)) dL_isDrawn_11 (by decide +kernel) ?_
    obtain ⟨v5, σ5, hc5, h⟩ := h
    refine sj_callVi (M' := me_L_next) (b := 56) (As := [.int (nI 6)]) (rest := [.int (nI 4), .ref (sj_ad G 56)]) dL_isDrawn_13 gL_isDrawn_L_next rfl hd_L_next (by decide +kernel) (by decide +kernel) rfl (Nat.le_of_ble_eq_true rfl) (by omega) rfl hc5 ?_
    refine sj_iadd dL_isDrawn_16 ?_
    refine sj_goto (tgt := 27) dL_isDrawn_17 (by decide) ?_
    exact t_L_isDrawn_27 hO h
theorem c_L_isDrawn {G : sj_G} (ok : sj_ok G) {R : sj_R} {σ : sj_S} (hO : sj_ad G 70 = sj_ad G 0) (h : wp_L_isDrawn_0 G R σ) : sj_C G 13 me_L_isDrawn [.ref (sj_ad G 56)] σ R :=
  sj_enter ok (by decide +kernel) rfl rfl (Nat.le_of_ble_eq_true rfl) (by simp [Value.category]) (t_L_isDrawn_0 hO h)
def wp_L_isOn_32 (G : sj_G) (R : sj_R) (s0 : Int32) (σ : sj_S) : Prop := R = (.ok s0, σ) ∧ (s0 = nI 0 ∨ s0 = nI 1)
set_option maxRecDepth 20000 in
theorem t_L_isOn_32 {G : sj_G} {R : sj_R} {s0 : Int32} {σ : sj_S} (h : wp_L_isOn_32 G R s0 σ) : sj_J G 2 me_L_isOn R 32 [.null, .null, .null] σ [.int s0] := by
  unfold wp_L_isOn_32 at h
  obtain ⟨h, hz⟩ := h
  subst h
  exact sj_ret dL_isOn_32 rfl (sj_nb hz)
def wp_L_isOn_0 (G : sj_G) (R : sj_R) (x1 : Int32) (x2 : Int32) (σ : sj_S) : Prop := vp_in x1 9 ∧ ((¬ (x2 < (σ 62 x1.toNatClampNeg))) → vp_in x1 9 ∧ vp_in x1 9) ∧ (wp_L_isOn_32 G R (if x2 < (σ 62 x1.toNatClampNeg) then (nI 0) else (if ((σ 62 x1.toNatClampNeg) + (σ 61 x1.toNatClampNeg)) ≤ x2 then (nI 0) else (nI 1))) σ)
set_option maxRecDepth 20000 in
theorem t_L_isOn_0 {G : sj_G} {R : sj_R} {x1 : Int32} {x2 : Int32} {σ : sj_S} (h : wp_L_isOn_0 G R x1 x2 σ) : sj_J G 2 me_L_isOn R 0 [.ref (sj_ad G 56), .int x1, .int x2] σ [] := by
  unfold wp_L_isOn_0 at h
  refine sj_iload_n dL_isOn_0 (i := 2) rfl rfl ?_
  refine sj_aload_n dL_isOn_1 (i := 0) rfl rfl ?_
  refine sj_get (a := 56) (k9 := 7) (v := .ref (sj_ad G 62)) dL_isOn_2 (by decide +kernel) rfl ?_
  refine sj_iload_n dL_isOn_5 (i := 1) rfl rfl ?_
  obtain ⟨b1, h⟩ := h
  refine sj_iald (a := 62) (j := x1.toNatClampNeg) (x := (σ 62 x1.toNatClampNeg)) dL_isOn_6 rfl (by decide +kernel) b1 rfl rfl ?_
  obtain ⟨f6, h⟩ := h
  refine sj_icmp_lt (tgt := 31) dL_isOn_7 (by decide) (fun c2 => ?_) (fun c2 => ?_)
  · refine sj_iconst (v := (nI 0)) dL_isOn_31 (by decide +kernel) ?_
    try simp only [if_pos c2] at h
    refine sj_fg [0, 1, 2] ?_
    exact t_L_isOn_32 h
  · obtain ⟨b3, b4⟩ := f6 c2
    refine sj_iload_n dL_isOn_10 (i := 2) rfl rfl ?_
    refine sj_aload_n dL_isOn_11 (i := 0) rfl rfl ?_
    refine sj_get (a := 56) (k9 := 7) (v := .ref (sj_ad G 62)) dL_isOn_12 (by decide +kernel) rfl ?_
    refine sj_iload_n dL_isOn_15 (i := 1) rfl rfl ?_
    refine sj_iald (a := 62) (j := x1.toNatClampNeg) (x := (σ 62 x1.toNatClampNeg)) dL_isOn_16 rfl (by decide +kernel) b3 rfl rfl ?_
    refine sj_aload_n dL_isOn_17 (i := 0) rfl rfl ?_
    refine sj_get (a := 56) (k9 := 6) (v := .ref (sj_ad G 61)) dL_isOn_18 (by decide +kernel) rfl ?_
    refine sj_iload_n dL_isOn_21 (i := 1) rfl rfl ?_
    refine sj_iald (a := 61) (j := x1.toNatClampNeg) (x := (σ 61 x1.toNatClampNeg)) dL_isOn_22 rfl (by decide +kernel) b4 rfl rfl ?_
    refine sj_iadd dL_isOn_23 ?_
    refine sj_icmp_ge (tgt := 31) dL_isOn_24 (by decide) (fun c5 => ?_) (fun c5 => ?_)
    · refine sj_iconst (v := (nI 0)) dL_isOn_31 (by decide +kernel) ?_
      try simp only [if_neg c2, if_pos c5] at h
      refine sj_fg [0, 1, 2] ?_
      exact t_L_isOn_32 h
    · refine sj_iconst (v := (nI 1)) dL_isOn_27 (by decide +kernel) ?_
      refine sj_goto (tgt := 32) dL_isOn_28 (by decide) ?_
      try simp only [if_neg c2, if_neg c5] at h
      refine sj_fg [0, 1, 2] ?_
      exact t_L_isOn_32 h
theorem c_L_isOn {G : sj_G} (ok : sj_ok G) {R : sj_R} {x1 : Int32} {x2 : Int32} {σ : sj_S} (h : wp_L_isOn_0 G R x1 x2 σ) : sj_C G 2 me_L_isOn [.ref (sj_ad G 56), .int x1, .int x2] σ R :=
  sj_enter ok (by decide +kernel) rfl rfl (Nat.le_of_ble_eq_true rfl) (by simp [Value.category]) (t_L_isOn_0 h)
def wp_L_holds_87 (G : sj_G) (R : sj_R) (σ : sj_S) : Prop := R = (.ok (nI 0), σ)
set_option maxRecDepth 20000 in
theorem t_L_holds_87 {G : sj_G} {R : sj_R} {σ : sj_S} (h : wp_L_holds_87 G R σ) : sj_J G 3 me_L_holds R 87 [.null, .null, .null, .null, .null] σ [] := by
  unfold wp_L_holds_87 at h
  refine sj_iconst (v := (nI 0)) dL_holds_87 (by decide +kernel) ?_
  subst h
  exact sj_ret dL_holds_88 rfl rfl
def wp_L_holds_89 (G : sj_G) (R : sj_R) (x1 : Int32) (x2 : Int32) (x3 : Int32) (x4 : Int32) (σ : sj_S) : Prop := sj_J G 3 me_L_holds R 17 [.ref (sj_ad G 56), .int x1, .int x2, .int x3, .int (x4 + (nI 1))] σ []
set_option maxRecDepth 20000 in
theorem t_L_holds_89 {G : sj_G} {R : sj_R} {x1 : Int32} {x2 : Int32} {x3 : Int32} {x4 : Int32} {σ : sj_S} (h : wp_L_holds_89 G R x1 x2 x3 x4 σ) : sj_J G 3 me_L_holds R 89 [.ref (sj_ad G 56), .int x1, .int x2, .int x3, .int x4] σ [] := by
  unfold wp_L_holds_89 at h
  refine sj_iinc (v := (x4 + (nI 1))) dL_holds_89 (by decide) rfl rfl ?_
  refine sj_goto (tgt := 17) dL_holds_92 (by decide) ?_
  exact h
def wp_L_holds_56 (G : sj_G) (R : sj_R) (x1 : Int32) (x2 : Int32) (x3 : Int32) (x4 : Int32) (σ : sj_S) : Prop := vp_in x1 12 ∧ (¬ (σ 63 x1.toNatClampNeg) = (nI 1) → (wp_L_holds_89 G R x1 x2 x3 x4 σ)) ∧ ((σ 63 x1.toNatClampNeg) = (nI 1) → vp_in x4 9 ∧ (¬ (σ 57 x4.toNatClampNeg) = x2 → (wp_L_holds_89 G R x1 x2 x3 x4 σ)) ∧ ((σ 57 x4.toNatClampNeg) = x2 → ∃ v5 σ5, sj_C G 2 me_L_isOn [.ref (sj_ad G 56), .int x4, .int x3] σ (.ok v5, σ5) ∧ (v5 = 0 → (wp_L_holds_89 G R x1 x2 x3 x4 σ5)) ∧ (¬ (v5 = 0) → (wp_L_holds_87 G R σ5))))
set_option maxRecDepth 20000 in
theorem t_L_holds_56 {G : sj_G} {R : sj_R} {x1 : Int32} {x2 : Int32} {x3 : Int32} {x4 : Int32} {σ : sj_S} (h : wp_L_holds_56 G R x1 x2 x3 x4 σ) : sj_J G 3 me_L_holds R 56 [.ref (sj_ad G 56), .int x1, .int x2, .int x3, .int x4] σ [] := by
  unfold wp_L_holds_56 at h
  refine sj_aload_n dL_holds_56 (i := 0) rfl rfl ?_
  refine sj_get (a := 56) (k9 := 8) (v := .ref (sj_ad G 63)) dL_holds_57 (by decide +kernel) rfl ?_
  refine sj_iload_n dL_holds_60 (i := 1) rfl rfl ?_
  obtain ⟨b1, h⟩ := h
  refine sj_iald (a := 63) (j := x1.toNatClampNeg) (x := (σ 63 x1.toNatClampNeg)) dL_holds_61 rfl (by decide +kernel) b1 rfl rfl ?_
  refine sj_iconst (v := (nI 1)) dL_holds_62 (by decide +kernel) ?_
  refine sj_icmp_ne (tgt := 89) dL_holds_63 (by decide) (fun c2 => ?_) (fun c2 => ?_)
  · replace h := h.1 c2
    exact t_L_holds_89 h
  · replace h := h.2 c2
    refine sj_aload_n dL_holds_66 (i := 0) rfl rfl ?_
    refine sj_get (a := 56) (k9 := 2) (v := .ref (sj_ad G 57)) dL_holds_67 (by decide +kernel) rfl ?_
    refine sj_iload dL_holds_70 rfl ?_
    obtain ⟨b3, h⟩ := h
    refine sj_iald (a := 57) (j := x4.toNatClampNeg) (x := (σ 57 x4.toNatClampNeg)) dL_holds_72 rfl (by decide +kernel) b3 rfl rfl ?_
    refine sj_iload_n dL_holds_73 (i := 2) rfl rfl ?_
    refine sj_icmp_ne (tgt := 89) dL_holds_74 (by decide) (fun c4 => ?_) (fun c4 => ?_)
    · replace h := h.1 c4
      exact t_L_holds_89 h
    · replace h := h.2 c4
      refine sj_aload_n dL_holds_77 (i := 0) rfl rfl ?_
      refine sj_iload dL_holds_78 rfl ?_
      refine sj_iload_n dL_holds_80 (i := 3) rfl rfl ?_
      obtain ⟨v5, σ5, hc5, h⟩ := h
      refine sj_callVi (M' := me_L_isOn) (b := 56) (As := [.int x4, .int x3]) (rest := []) dL_holds_81 gL_holds_L_isOn rfl hd_L_isOn (by decide +kernel) (by decide +kernel) rfl (Nat.le_of_ble_eq_true rfl) (by omega) rfl hc5 ?_
      refine sj_if_eq (tgt := 89) dL_holds_84 (by decide) (fun c6 => ?_) (fun c6 => ?_)
      · replace h := h.1 c6
        exact t_L_holds_89 h
      · replace h := h.2 c6
        refine sj_fg [0, 1, 2, 3, 4] ?_
        exact t_L_holds_87 h
def wp_L_holds_134 (G : sj_G) (R : sj_R) (s0 : Int32) (σ : sj_S) : Prop := R = (.ok s0, σ) ∧ (s0 = nI 0 ∨ s0 = nI 1)
set_option maxRecDepth 20000 in
theorem t_L_holds_134 {G : sj_G} {R : sj_R} {s0 : Int32} {σ : sj_S} (h : wp_L_holds_134 G R s0 σ) : sj_J G 3 me_L_holds R 134 [.null, .null, .null, .null, .null] σ [.int s0] := by
  unfold wp_L_holds_134 at h
  obtain ⟨h, hz⟩ := h
  subst h
  exact sj_ret dL_holds_134 rfl (sj_nb hz)
def wp_L_holds_160 (G : sj_G) (R : sj_R) (s0 : Int32) (σ : sj_S) : Prop := R = (.ok s0, σ) ∧ (s0 = nI 0 ∨ s0 = nI 1)
set_option maxRecDepth 20000 in
theorem t_L_holds_160 {G : sj_G} {R : sj_R} {s0 : Int32} {σ : sj_S} (h : wp_L_holds_160 G R s0 σ) : sj_J G 3 me_L_holds R 160 [.null, .null, .null, .null, .null] σ [.int s0] := by
  unfold wp_L_holds_160 at h
  obtain ⟨h, hz⟩ := h
  subst h
  exact sj_ret dL_holds_160 rfl (sj_nb hz)
def wp_L_holds_255 (G : sj_G) (R : sj_R) (s0 : Int32) (σ : sj_S) : Prop := R = (.ok s0, σ) ∧ (s0 = nI 0 ∨ s0 = nI 1)
set_option maxRecDepth 20000 in
theorem t_L_holds_255 {G : sj_G} {R : sj_R} {s0 : Int32} {σ : sj_S} (h : wp_L_holds_255 G R s0 σ) : sj_J G 3 me_L_holds R 255 [.null, .null, .null, .null, .null] σ [.int s0] := by
  unfold wp_L_holds_255 at h
  obtain ⟨h, hz⟩ := h
  subst h
  exact sj_ret dL_holds_255 rfl (sj_nb hz)
def wp_L_holds_17 (G : sj_G) (R : sj_R) (x1 : Int32) (x2 : Int32) (x3 : Int32) (x4 : Int32) (σ : sj_S) : Prop := ((σ 56 13) ≤ x4 → vp_in x1 12 ∧ ((nI 2) ≤ (σ 63 x1.toNatClampNeg) → vp_in x1 12 ∧ (¬ (σ 63 x1.toNatClampNeg) = (nI 2) → vp_in x1 12 ∧ (¬ (σ 63 x1.toNatClampNeg) = (nI 3) → vp_in x1 12 ∧ ((¬ ((σ 63 x1.toNatClampNeg) = (nI 4))) → vp_in x1 12) ∧ ((¬ ((σ 63 x1.toNatClampNeg) = (nI 4))) → (¬ ((σ 63 x1.toNatClampNeg) = (nI 5))) → vp_in x2 9 ∧ vp_in x3 9) ∧ ((¬ ((σ 63 x1.toNatClampNeg) = (nI 4))) → ((σ 63 x1.toNatClampNeg) = (nI 5)) → vp_in x2 9 ∧ vp_in x3 9) ∧ (((σ 63 x1.toNatClampNeg) = (nI 4)) → vp_in x2 9 ∧ vp_in x3 9) ∧ (wp_L_holds_255 G R (if (σ 63 x1.toNatClampNeg) = (nI 4) then (if ((σ 62 x2.toNatClampNeg) / (nI 4)) = ((σ 62 x3.toNatClampNeg) / (nI 4)) then (nI 1) else (nI 0)) else (if (σ 63 x1.toNatClampNeg) = (nI 5) then (if ((σ 62 x2.toNatClampNeg) / (nI 4)) = ((σ 62 x3.toNatClampNeg) / (nI 4)) then (nI 0) else (nI 1)) else (if (σ 62 x3.toNatClampNeg) ≤ (σ 62 x2.toNatClampNeg) then (nI 0) else (nI 1)))) σ)) ∧ ((σ 63 x1.toNatClampNeg) = (nI 3) → vp_in x2 9 ∧ (wp_L_holds_160 G R (if (σ 62 x2.toNatClampNeg) = x3 then (nI 1) else (nI 0)) σ))) ∧ ((σ 63 x1.toNatClampNeg) = (nI 2) → vp_in x2 9 ∧ (wp_L_holds_134 G R (if ((σ 62 x2.toNatClampNeg) / (nI 4)) = x3 then (nI 0) else (nI 1)) σ))) ∧ (¬ ((nI 2) ≤ (σ 63 x1.toNatClampNeg)) → R = (.ok (nI 1), σ))) ∧ (¬ ((σ 56 13) ≤ x4) → vp_in x1 12 ∧ (¬ (σ 63 x1.toNatClampNeg) = 0 → (wp_L_holds_56 G R x1 x2 x3 x4 σ)) ∧ ((σ 63 x1.toNatClampNeg) = 0 → vp_in x4 9 ∧ (¬ (σ 58 x4.toNatClampNeg) = x2 → (wp_L_holds_56 G R x1 x2 x3 x4 σ)) ∧ ((σ 58 x4.toNatClampNeg) = x2 → ∃ v33 σ33, sj_C G 2 me_L_isOn [.ref (sj_ad G 56), .int x4, .int x3] σ (.ok v33, σ33) ∧ (¬ v33 = 0 → (wp_L_holds_87 G R σ33)) ∧ (v33 = 0 → (wp_L_holds_56 G R x1 x2 x3 x4 σ33)))))
set_option maxRecDepth 20000 in
theorem t_L_holds_17 {G : sj_G} {R : sj_R} {x1 : Int32} {x2 : Int32} {x3 : Int32} {x4 : Int32} {σ : sj_S} (h : wp_L_holds_17 G R x1 x2 x3 x4 σ) : sj_J G 3 me_L_holds R 17 [.ref (sj_ad G 56), .int x1, .int x2, .int x3, .int x4] σ [] := by
  unfold wp_L_holds_17 at h
  refine sj_iload dL_holds_17 rfl ?_
  refine sj_aload_n dL_holds_19 (i := 0) rfl rfl ?_
  refine sj_get (a := 56) (k9 := 13) (v := .int (σ 56 13)) dL_holds_20 (by decide +kernel) rfl ?_
  refine sj_icmp_ge (tgt := 95) dL_holds_23 (by decide) (fun c1 => ?_) (fun c1 => ?_)
  · replace h := h.1 c1
    refine sj_aload_n dL_holds_95 (i := 0) rfl rfl ?_
    refine sj_get (a := 56) (k9 := 8) (v := .ref (sj_ad G 63)) dL_holds_96 (by decide +kernel) rfl ?_
    refine sj_iload_n dL_holds_99 (i := 1) rfl rfl ?_
    obtain ⟨b2, h⟩ := h
    refine sj_iald (a := 63) (j := x1.toNatClampNeg) (x := (σ 63 x1.toNatClampNeg)) dL_holds_100 rfl (by decide +kernel) b2 rfl rfl ?_
    refine sj_iconst (v := (nI 2)) dL_holds_101 (by decide +kernel) ?_
    refine sj_icmp_ge (tgt := 107) dL_holds_102 (by decide) (fun c3 => ?_) (fun c3 => ?_)
    · replace h := h.1 c3
      refine sj_aload_n dL_holds_107 (i := 0) rfl rfl ?_
      refine sj_get (a := 56) (k9 := 8) (v := .ref (sj_ad G 63)) dL_holds_108 (by decide +kernel) rfl ?_
      refine sj_iload_n dL_holds_111 (i := 1) rfl rfl ?_
      obtain ⟨b4, h⟩ := h
      refine sj_iald (a := 63) (j := x1.toNatClampNeg) (x := (σ 63 x1.toNatClampNeg)) dL_holds_112 rfl (by decide +kernel) b4 rfl rfl ?_
      refine sj_iconst (v := (nI 2)) dL_holds_113 (by decide +kernel) ?_
      refine sj_icmp_ne (tgt := 135) dL_holds_114 (by decide) (fun c5 => ?_) (fun c5 => ?_)
      · replace h := h.1 c5
        refine sj_aload_n dL_holds_135 (i := 0) rfl rfl ?_
        refine sj_get (a := 56) (k9 := 8) (v := .ref (sj_ad G 63)) dL_holds_136 (by decide +kernel) rfl ?_
        refine sj_iload_n dL_holds_139 (i := 1) rfl rfl ?_
        obtain ⟨b6, h⟩ := h
        refine sj_iald (a := 63) (j := x1.toNatClampNeg) (x := (σ 63 x1.toNatClampNeg)) dL_holds_140 rfl (by decide +kernel) b6 rfl rfl ?_
        refine sj_iconst (v := (nI 3)) dL_holds_141 (by decide +kernel) ?_
        refine sj_icmp_ne (tgt := 161) dL_holds_142 (by decide) (fun c7 => ?_) (fun c7 => ?_)
        · replace h := h.1 c7
          refine sj_aload_n dL_holds_161 (i := 0) rfl rfl ?_
          refine sj_get (a := 56) (k9 := 8) (v := .ref (sj_ad G 63)) dL_holds_162 (by decide +kernel) rfl ?_
          refine sj_iload_n dL_holds_165 (i := 1) rfl rfl ?_
          obtain ⟨b8, h⟩ := h
          refine sj_iald (a := 63) (j := x1.toNatClampNeg) (x := (σ 63 x1.toNatClampNeg)) dL_holds_166 rfl (by decide +kernel) b8 rfl rfl ?_
          refine sj_iconst (v := (nI 4)) dL_holds_167 (by decide +kernel) ?_
          obtain ⟨f21, f22, f23, f24, h⟩ := h
          refine sj_icmp_ne (tgt := 198) dL_holds_168 (by decide) (fun c9 => ?_) (fun c9 => ?_)
          · have b10 := f21 c9
            refine sj_aload_n dL_holds_198 (i := 0) rfl rfl ?_
            refine sj_get (a := 56) (k9 := 8) (v := .ref (sj_ad G 63)) dL_holds_199 (by decide +kernel) rfl ?_
            refine sj_iload_n dL_holds_202 (i := 1) rfl rfl ?_
            refine sj_iald (a := 63) (j := x1.toNatClampNeg) (x := (σ 63 x1.toNatClampNeg)) dL_holds_203 rfl (by decide +kernel) b10 rfl rfl ?_
            refine sj_iconst (v := (nI 5)) dL_holds_204 (by decide +kernel) ?_
            refine sj_icmp_ne (tgt := 235) dL_holds_205 (by decide) (fun c11 => ?_) (fun c11 => ?_)
            · obtain ⟨b12, b13⟩ := f22 c9 c11
              refine sj_aload_n dL_holds_235 (i := 0) rfl rfl ?_
              refine sj_get (a := 56) (k9 := 7) (v := .ref (sj_ad G 62)) dL_holds_236 (by decide +kernel) rfl ?_
              refine sj_iload_n dL_holds_239 (i := 2) rfl rfl ?_
              refine sj_iald (a := 62) (j := x2.toNatClampNeg) (x := (σ 62 x2.toNatClampNeg)) dL_holds_240 rfl (by decide +kernel) b12 rfl rfl ?_
              refine sj_aload_n dL_holds_241 (i := 0) rfl rfl ?_
              refine sj_get (a := 56) (k9 := 7) (v := .ref (sj_ad G 62)) dL_holds_242 (by decide +kernel) rfl ?_
              refine sj_iload_n dL_holds_245 (i := 3) rfl rfl ?_
              refine sj_iald (a := 62) (j := x3.toNatClampNeg) (x := (σ 62 x3.toNatClampNeg)) dL_holds_246 rfl (by decide +kernel) b13 rfl rfl ?_
              refine sj_icmp_ge (tgt := 254) dL_holds_247 (by decide) (fun c14 => ?_) (fun c14 => ?_)
              · refine sj_iconst (v := (nI 0)) dL_holds_254 (by decide +kernel) ?_
                try simp only [if_neg c9, if_neg c11, if_pos c14] at h
                refine sj_fg [0, 1, 2, 3, 4] ?_
                exact t_L_holds_255 h
              · refine sj_iconst (v := (nI 1)) dL_holds_250 (by decide +kernel) ?_
                refine sj_goto (tgt := 255) dL_holds_251 (by decide) ?_
                try simp only [if_neg c9, if_neg c11, if_neg c14] at h
                refine sj_fg [0, 1, 2, 3, 4] ?_
                exact t_L_holds_255 h
            · obtain ⟨b15, b16⟩ := f23 c9 c11
              refine sj_aload_n dL_holds_208 (i := 0) rfl rfl ?_
              refine sj_get (a := 56) (k9 := 7) (v := .ref (sj_ad G 62)) dL_holds_209 (by decide +kernel) rfl ?_
              refine sj_iload_n dL_holds_212 (i := 2) rfl rfl ?_
              refine sj_iald (a := 62) (j := x2.toNatClampNeg) (x := (σ 62 x2.toNatClampNeg)) dL_holds_213 rfl (by decide +kernel) b15 rfl rfl ?_
              refine sj_iconst (v := (nI 4)) dL_holds_214 (by decide +kernel) ?_
              refine sj_idiv dL_holds_215 (by decide +kernel) ?_
              refine sj_aload_n dL_holds_216 (i := 0) rfl rfl ?_
              refine sj_get (a := 56) (k9 := 7) (v := .ref (sj_ad G 62)) dL_holds_217 (by decide +kernel) rfl ?_
              refine sj_iload_n dL_holds_220 (i := 3) rfl rfl ?_
              refine sj_iald (a := 62) (j := x3.toNatClampNeg) (x := (σ 62 x3.toNatClampNeg)) dL_holds_221 rfl (by decide +kernel) b16 rfl rfl ?_
              refine sj_iconst (v := (nI 4)) dL_holds_222 (by decide +kernel) ?_
              refine sj_idiv dL_holds_223 (by decide +kernel) ?_
              refine sj_icmp_eq (tgt := 231) dL_holds_224 (by decide) (fun c17 => ?_) (fun c17 => ?_)
              · refine sj_iconst (v := (nI 0)) dL_holds_231 (by decide +kernel) ?_
                refine sj_goto (tgt := 255) dL_holds_232 (by decide) ?_
                try simp only [if_neg c9, if_pos c11, if_pos c17] at h
                refine sj_fg [0, 1, 2, 3, 4] ?_
                exact t_L_holds_255 h
              · refine sj_iconst (v := (nI 1)) dL_holds_227 (by decide +kernel) ?_
                refine sj_goto (tgt := 255) dL_holds_228 (by decide) ?_
                try simp only [if_neg c9, if_pos c11, if_neg c17] at h
                refine sj_fg [0, 1, 2, 3, 4] ?_
                exact t_L_holds_255 h
          · obtain ⟨b18, b19⟩ := f24 c9
            refine sj_aload_n dL_holds_171 (i := 0) rfl rfl ?_
            refine sj_get (a := 56) (k9 := 7) (v := .ref (sj_ad G 62)) dL_holds_172 (by decide +kernel) rfl ?_
            refine sj_iload_n dL_holds_175 (i := 2) rfl rfl ?_
            refine sj_iald (a := 62) (j := x2.toNatClampNeg) (x := (σ 62 x2.toNatClampNeg)) dL_holds_176 rfl (by decide +kernel) b18 rfl rfl ?_
            refine sj_iconst (v := (nI 4)) dL_holds_177 (by decide +kernel) ?_
            refine sj_idiv dL_holds_178 (by decide +kernel) ?_
            refine sj_aload_n dL_holds_179 (i := 0) rfl rfl ?_
            refine sj_get (a := 56) (k9 := 7) (v := .ref (sj_ad G 62)) dL_holds_180 (by decide +kernel) rfl ?_
            refine sj_iload_n dL_holds_183 (i := 3) rfl rfl ?_
            refine sj_iald (a := 62) (j := x3.toNatClampNeg) (x := (σ 62 x3.toNatClampNeg)) dL_holds_184 rfl (by decide +kernel) b19 rfl rfl ?_
            refine sj_iconst (v := (nI 4)) dL_holds_185 (by decide +kernel) ?_
            refine sj_idiv dL_holds_186 (by decide +kernel) ?_
            refine sj_icmp_ne (tgt := 194) dL_holds_187 (by decide) (fun c20 => ?_) (fun c20 => ?_)
            · refine sj_iconst (v := (nI 0)) dL_holds_194 (by decide +kernel) ?_
              refine sj_goto (tgt := 255) dL_holds_195 (by decide) ?_
              try simp only [if_pos c9, if_neg c20] at h
              refine sj_fg [0, 1, 2, 3, 4] ?_
              exact t_L_holds_255 h
            · refine sj_iconst (v := (nI 1)) dL_holds_190 (by decide +kernel) ?_
              refine sj_goto (tgt := 255) dL_holds_191 (by decide) ?_
              try simp only [if_pos c9, if_pos c20] at h
              refine sj_fg [0, 1, 2, 3, 4] ?_
              exact t_L_holds_255 h
        · replace h := h.2 c7
          refine sj_aload_n dL_holds_145 (i := 0) rfl rfl ?_
          refine sj_get (a := 56) (k9 := 7) (v := .ref (sj_ad G 62)) dL_holds_146 (by decide +kernel) rfl ?_
          refine sj_iload_n dL_holds_149 (i := 2) rfl rfl ?_
          obtain ⟨b25, h⟩ := h
          refine sj_iald (a := 62) (j := x2.toNatClampNeg) (x := (σ 62 x2.toNatClampNeg)) dL_holds_150 rfl (by decide +kernel) b25 rfl rfl ?_
          refine sj_iload_n dL_holds_151 (i := 3) rfl rfl ?_
          refine sj_icmp_ne (tgt := 159) dL_holds_152 (by decide) (fun c26 => ?_) (fun c26 => ?_)
          · refine sj_iconst (v := (nI 0)) dL_holds_159 (by decide +kernel) ?_
            try simp only [if_neg c26] at h
            refine sj_fg [0, 1, 2, 3, 4] ?_
            exact t_L_holds_160 h
          · refine sj_iconst (v := (nI 1)) dL_holds_155 (by decide +kernel) ?_
            refine sj_goto (tgt := 160) dL_holds_156 (by decide) ?_
            try simp only [if_pos c26] at h
            refine sj_fg [0, 1, 2, 3, 4] ?_
            exact t_L_holds_160 h
      · replace h := h.2 c5
        refine sj_aload_n dL_holds_117 (i := 0) rfl rfl ?_
        refine sj_get (a := 56) (k9 := 7) (v := .ref (sj_ad G 62)) dL_holds_118 (by decide +kernel) rfl ?_
        refine sj_iload_n dL_holds_121 (i := 2) rfl rfl ?_
        obtain ⟨b27, h⟩ := h
        refine sj_iald (a := 62) (j := x2.toNatClampNeg) (x := (σ 62 x2.toNatClampNeg)) dL_holds_122 rfl (by decide +kernel) b27 rfl rfl ?_
        refine sj_iconst (v := (nI 4)) dL_holds_123 (by decide +kernel) ?_
        refine sj_idiv dL_holds_124 (by decide +kernel) ?_
        refine sj_iload_n dL_holds_125 (i := 3) rfl rfl ?_
        refine sj_icmp_eq (tgt := 133) dL_holds_126 (by decide) (fun c28 => ?_) (fun c28 => ?_)
        · refine sj_iconst (v := (nI 0)) dL_holds_133 (by decide +kernel) ?_
          try simp only [if_pos c28] at h
          refine sj_fg [0, 1, 2, 3, 4] ?_
          exact t_L_holds_134 h
        · refine sj_iconst (v := (nI 1)) dL_holds_129 (by decide +kernel) ?_
          refine sj_goto (tgt := 134) dL_holds_130 (by decide) ?_
          try simp only [if_neg c28] at h
          refine sj_fg [0, 1, 2, 3, 4] ?_
          exact t_L_holds_134 h
    · replace h := h.2 c3
      refine sj_iconst (v := (nI 1)) dL_holds_105 (by decide +kernel) ?_
      subst h
      exact sj_ret dL_holds_106 rfl rfl
  · replace h := h.2 c1
    refine sj_aload_n dL_holds_26 (i := 0) rfl rfl ?_
    refine sj_get (a := 56) (k9 := 8) (v := .ref (sj_ad G 63)) dL_holds_27 (by decide +kernel) rfl ?_
    refine sj_iload_n dL_holds_30 (i := 1) rfl rfl ?_
    obtain ⟨b29, h⟩ := h
    refine sj_iald (a := 63) (j := x1.toNatClampNeg) (x := (σ 63 x1.toNatClampNeg)) dL_holds_31 rfl (by decide +kernel) b29 rfl rfl ?_
    refine sj_if_ne (tgt := 56) dL_holds_32 (by decide) (fun c30 => ?_) (fun c30 => ?_)
    · replace h := h.1 c30
      exact t_L_holds_56 h
    · replace h := h.2 c30
      refine sj_aload_n dL_holds_35 (i := 0) rfl rfl ?_
      refine sj_get (a := 56) (k9 := 3) (v := .ref (sj_ad G 58)) dL_holds_36 (by decide +kernel) rfl ?_
      refine sj_iload dL_holds_39 rfl ?_
      obtain ⟨b31, h⟩ := h
      refine sj_iald (a := 58) (j := x4.toNatClampNeg) (x := (σ 58 x4.toNatClampNeg)) dL_holds_41 rfl (by decide +kernel) b31 rfl rfl ?_
      refine sj_iload_n dL_holds_42 (i := 2) rfl rfl ?_
      refine sj_icmp_ne (tgt := 56) dL_holds_43 (by decide) (fun c32 => ?_) (fun c32 => ?_)
      · replace h := h.1 c32
        exact t_L_holds_56 h
      · replace h := h.2 c32
        refine sj_aload_n dL_holds_46 (i := 0) rfl rfl ?_
        refine sj_iload dL_holds_47 rfl ?_
        refine sj_iload_n dL_holds_49 (i := 3) rfl rfl ?_
        obtain ⟨v33, σ33, hc33, h⟩ := h
        refine sj_callVi (M' := me_L_isOn) (b := 56) (As := [.int x4, .int x3]) (rest := []) dL_holds_50 gL_holds_L_isOn rfl hd_L_isOn (by decide +kernel) (by decide +kernel) rfl (Nat.le_of_ble_eq_true rfl) (by omega) rfl hc33 ?_
        refine sj_if_ne (tgt := 87) dL_holds_53 (by decide) (fun c34 => ?_) (fun c34 => ?_)
        · replace h := h.1 c34
          refine sj_fg [0, 1, 2, 3, 4] ?_
          exact t_L_holds_87 h
        · replace h := h.2 c34
          exact t_L_holds_56 h
def wp_L_holds_0 (G : sj_G) (R : sj_R) (x1 : Int32) (σ : sj_S) : Prop := vp_in x1 12 ∧ vp_in x1 12 ∧ sj_J G 3 me_L_holds R 17 [.ref (sj_ad G 56), .int x1, .int (σ 64 x1.toNatClampNeg), .int (σ 65 x1.toNatClampNeg), .int (nI 0)] σ []
set_option maxRecDepth 20000 in
theorem t_L_holds_0 {G : sj_G} {R : sj_R} {x1 : Int32} {σ : sj_S} (h : wp_L_holds_0 G R x1 σ) : sj_J G 3 me_L_holds R 0 [.ref (sj_ad G 56), .int x1, .null, .null, .null] σ [] := by
  unfold wp_L_holds_0 at h
  refine sj_aload_n dL_holds_0 (i := 0) rfl rfl ?_
  refine sj_get (a := 56) (k9 := 9) (v := .ref (sj_ad G 64)) dL_holds_1 (by decide +kernel) rfl ?_
  refine sj_iload_n dL_holds_4 (i := 1) rfl rfl ?_
  obtain ⟨b1, h⟩ := h
  refine sj_iald (a := 64) (j := x1.toNatClampNeg) (x := (σ 64 x1.toNatClampNeg)) dL_holds_5 rfl (by decide +kernel) b1 rfl rfl ?_
  refine sj_istore_n dL_holds_6 (i := 2) rfl (by decide) ?_
  refine sj_aload_n dL_holds_7 (i := 0) rfl rfl ?_
  refine sj_get (a := 56) (k9 := 10) (v := .ref (sj_ad G 65)) dL_holds_8 (by decide +kernel) rfl ?_
  refine sj_iload_n dL_holds_11 (i := 1) rfl rfl ?_
  obtain ⟨b2, h⟩ := h
  refine sj_iald (a := 65) (j := x1.toNatClampNeg) (x := (σ 65 x1.toNatClampNeg)) dL_holds_12 rfl (by decide +kernel) b2 rfl rfl ?_
  refine sj_istore_n dL_holds_13 (i := 3) rfl (by decide) ?_
  refine sj_iconst (v := (nI 0)) dL_holds_14 (by decide +kernel) ?_
  refine sj_istore dL_holds_15 (by decide) ?_
  exact h
theorem c_L_holds {G : sj_G} (ok : sj_ok G) {R : sj_R} {x1 : Int32} {σ : sj_S} (h : wp_L_holds_0 G R x1 σ) : sj_C G 3 me_L_holds [.ref (sj_ad G 56), .int x1] σ R :=
  sj_enter ok (by decide +kernel) rfl rfl (Nat.le_of_ble_eq_true rfl) (by simp [Value.category]) (t_L_holds_0 h)
def wp_L_isRight_2 (G : sj_G) (R : sj_R) (x1 : Int32) (σ : sj_S) : Prop := ((σ 56 13) ≤ x1 → sj_J G 3 me_L_isRight R 189 [.ref (sj_ad G 56), .int (nI 0), .null, .null, .null] σ []) ∧ (¬ ((σ 56 13) ≤ x1) → vp_in x1 9 ∧ vp_in x1 9 ∧ ((((σ 62 x1.toNatClampNeg) - (σ 62 x1.toNatClampNeg) / (nI 4) * (nI 4)) + (σ 61 x1.toNatClampNeg)) ≤ (nI 4) → sj_J G 3 me_L_isRight R 33 [.ref (sj_ad G 56), .int x1, .int (nI 0), .null, .null] σ []) ∧ (¬ ((((σ 62 x1.toNatClampNeg) - (σ 62 x1.toNatClampNeg) / (nI 4) * (nI 4)) + (σ 61 x1.toNatClampNeg)) ≤ (nI 4)) → R = (.ok (nI 0), σ)))
set_option maxRecDepth 20000 in
theorem t_L_isRight_2 {G : sj_G} {R : sj_R} {x1 : Int32} {σ : sj_S} (h : wp_L_isRight_2 G R x1 σ) : sj_J G 3 me_L_isRight R 2 [.ref (sj_ad G 56), .int x1, .null, .null, .null] σ [] := by
  unfold wp_L_isRight_2 at h
  refine sj_iload_n dL_isRight_2 (i := 1) rfl rfl ?_
  refine sj_aload_n dL_isRight_3 (i := 0) rfl rfl ?_
  refine sj_get (a := 56) (k9 := 13) (v := .int (σ 56 13)) dL_isRight_4 (by decide +kernel) rfl ?_
  refine sj_icmp_ge (tgt := 187) dL_isRight_7 (by decide) (fun c1 => ?_) (fun c1 => ?_)
  · replace h := h.1 c1
    refine sj_iconst (v := (nI 0)) dL_isRight_187 (by decide +kernel) ?_
    refine sj_istore_n dL_isRight_188 (i := 1) rfl (by decide) ?_
    exact h
  · replace h := h.2 c1
    refine sj_aload_n dL_isRight_10 (i := 0) rfl rfl ?_
    refine sj_get (a := 56) (k9 := 7) (v := .ref (sj_ad G 62)) dL_isRight_11 (by decide +kernel) rfl ?_
    refine sj_iload_n dL_isRight_14 (i := 1) rfl rfl ?_
    obtain ⟨b2, h⟩ := h
    refine sj_iald (a := 62) (j := x1.toNatClampNeg) (x := (σ 62 x1.toNatClampNeg)) dL_isRight_15 rfl (by decide +kernel) b2 rfl rfl ?_
    refine sj_iconst (v := (nI 4)) dL_isRight_16 (by decide +kernel) ?_
    refine sj_irem dL_isRight_17 (by decide +kernel) ?_
    refine sj_aload_n dL_isRight_18 (i := 0) rfl rfl ?_
    refine sj_get (a := 56) (k9 := 6) (v := .ref (sj_ad G 61)) dL_isRight_19 (by decide +kernel) rfl ?_
    refine sj_iload_n dL_isRight_22 (i := 1) rfl rfl ?_
    obtain ⟨b3, h⟩ := h
    refine sj_iald (a := 61) (j := x1.toNatClampNeg) (x := (σ 61 x1.toNatClampNeg)) dL_isRight_23 rfl (by decide +kernel) b3 rfl rfl ?_
    refine sj_iadd dL_isRight_24 ?_
    refine sj_iconst (v := (nI 4)) dL_isRight_25 (by decide +kernel) ?_
    refine sj_icmp_le (tgt := 31) dL_isRight_26 (by decide) (fun c4 => ?_) (fun c4 => ?_)
    · replace h := h.1 c4
      refine sj_iconst (v := (nI 0)) dL_isRight_31 (by decide +kernel) ?_
      refine sj_istore_n dL_isRight_32 (i := 2) rfl (by decide) ?_
      exact h
    · replace h := h.2 c4
      refine sj_iconst (v := (nI 0)) dL_isRight_29 (by decide +kernel) ?_
      subst h
      exact sj_ret dL_isRight_30 rfl rfl
def wp_L_isRight_173 (G : sj_G) (R : sj_R) (σ : sj_S) : Prop := R = (.ok (nI 0), σ)
set_option maxRecDepth 20000 in
theorem t_L_isRight_173 {G : sj_G} {R : sj_R} {σ : sj_S} (h : wp_L_isRight_173 G R σ) : sj_J G 3 me_L_isRight R 173 [.null, .null, .null, .null, .null] σ [] := by
  unfold wp_L_isRight_173 at h
  refine sj_iconst (v := (nI 0)) dL_isRight_173 (by decide +kernel) ?_
  subst h
  exact sj_ret dL_isRight_174 rfl rfl
def wp_L_isRight_175 (G : sj_G) (R : sj_R) (x1 : Int32) (x2 : Int32) (σ : sj_S) : Prop := sj_J G 3 me_L_isRight R 33 [.ref (sj_ad G 56), .int x1, .int (x2 + (nI 1)), .null, .null] σ []
set_option maxRecDepth 20000 in
theorem t_L_isRight_175 {G : sj_G} {R : sj_R} {x1 : Int32} {x2 : Int32} {σ : sj_S} (h : wp_L_isRight_175 G R x1 x2 σ) : sj_J G 3 me_L_isRight R 175 [.ref (sj_ad G 56), .int x1, .int x2, .null, .null] σ [] := by
  unfold wp_L_isRight_175 at h
  refine sj_iinc (v := (x2 + (nI 1))) dL_isRight_175 (by decide) rfl rfl ?_
  refine sj_goto (tgt := 33) dL_isRight_178 (by decide) ?_
  exact h
def wp_L_isRight_134 (G : sj_G) (R : sj_R) (x1 : Int32) (x2 : Int32) (x4 : Int32) (σ : sj_S) : Prop := (x4 = 0 → (wp_L_isRight_175 G R x1 x2 σ)) ∧ (¬ (x4 = 0) → vp_in x1 9 ∧ vp_in x2 9 ∧ (¬ (σ 59 x1.toNatClampNeg) = (σ 59 x2.toNatClampNeg) → (wp_L_isRight_175 G R x1 x2 σ)) ∧ ((σ 59 x1.toNatClampNeg) = (σ 59 x2.toNatClampNeg) → vp_in x1 9 ∧ vp_in x2 9 ∧ (¬ ((σ 62 x1.toNatClampNeg) / (nI 4)) = ((σ 62 x2.toNatClampNeg) / (nI 4)) → (wp_L_isRight_175 G R x1 x2 σ)) ∧ (((σ 62 x1.toNatClampNeg) / (nI 4)) = ((σ 62 x2.toNatClampNeg) / (nI 4)) → (wp_L_isRight_173 G R σ))))
set_option maxRecDepth 20000 in
theorem t_L_isRight_134 {G : sj_G} {R : sj_R} {x1 : Int32} {x2 : Int32} {x4 : Int32} {σ : sj_S} (h : wp_L_isRight_134 G R x1 x2 x4 σ) : sj_J G 3 me_L_isRight R 134 [.ref (sj_ad G 56), .int x1, .int x2, .null, .int x4] σ [] := by
  unfold wp_L_isRight_134 at h
  refine sj_iload dL_isRight_134 rfl ?_
  refine sj_if_eq (tgt := 175) dL_isRight_136 (by decide) (fun c1 => ?_) (fun c1 => ?_)
  · replace h := h.1 c1
    refine sj_fg [4] ?_
    exact t_L_isRight_175 h
  · replace h := h.2 c1
    refine sj_aload_n dL_isRight_139 (i := 0) rfl rfl ?_
    refine sj_get (a := 56) (k9 := 4) (v := .ref (sj_ad G 59)) dL_isRight_140 (by decide +kernel) rfl ?_
    refine sj_iload_n dL_isRight_143 (i := 1) rfl rfl ?_
    obtain ⟨b2, h⟩ := h
    refine sj_iald (a := 59) (j := x1.toNatClampNeg) (x := (σ 59 x1.toNatClampNeg)) dL_isRight_144 rfl (by decide +kernel) b2 rfl rfl ?_
    refine sj_aload_n dL_isRight_145 (i := 0) rfl rfl ?_
    refine sj_get (a := 56) (k9 := 4) (v := .ref (sj_ad G 59)) dL_isRight_146 (by decide +kernel) rfl ?_
    refine sj_iload_n dL_isRight_149 (i := 2) rfl rfl ?_
    obtain ⟨b3, h⟩ := h
    refine sj_iald (a := 59) (j := x2.toNatClampNeg) (x := (σ 59 x2.toNatClampNeg)) dL_isRight_150 rfl (by decide +kernel) b3 rfl rfl ?_
    refine sj_icmp_ne (tgt := 175) dL_isRight_151 (by decide) (fun c4 => ?_) (fun c4 => ?_)
    · replace h := h.1 c4
      refine sj_fg [4] ?_
      exact t_L_isRight_175 h
    · replace h := h.2 c4
      refine sj_aload_n dL_isRight_154 (i := 0) rfl rfl ?_
      refine sj_get (a := 56) (k9 := 7) (v := .ref (sj_ad G 62)) dL_isRight_155 (by decide +kernel) rfl ?_
      refine sj_iload_n dL_isRight_158 (i := 1) rfl rfl ?_
      obtain ⟨b5, h⟩ := h
      refine sj_iald (a := 62) (j := x1.toNatClampNeg) (x := (σ 62 x1.toNatClampNeg)) dL_isRight_159 rfl (by decide +kernel) b5 rfl rfl ?_
      refine sj_iconst (v := (nI 4)) dL_isRight_160 (by decide +kernel) ?_
      refine sj_idiv dL_isRight_161 (by decide +kernel) ?_
      refine sj_aload_n dL_isRight_162 (i := 0) rfl rfl ?_
      refine sj_get (a := 56) (k9 := 7) (v := .ref (sj_ad G 62)) dL_isRight_163 (by decide +kernel) rfl ?_
      refine sj_iload_n dL_isRight_166 (i := 2) rfl rfl ?_
      obtain ⟨b6, h⟩ := h
      refine sj_iald (a := 62) (j := x2.toNatClampNeg) (x := (σ 62 x2.toNatClampNeg)) dL_isRight_167 rfl (by decide +kernel) b6 rfl rfl ?_
      refine sj_iconst (v := (nI 4)) dL_isRight_168 (by decide +kernel) ?_
      refine sj_idiv dL_isRight_169 (by decide +kernel) ?_
      refine sj_icmp_ne (tgt := 175) dL_isRight_170 (by decide) (fun c7 => ?_) (fun c7 => ?_)
      · replace h := h.1 c7
        refine sj_fg [4] ?_
        exact t_L_isRight_175 h
      · replace h := h.2 c7
        refine sj_fg [0, 1, 2, 4] ?_
        exact t_L_isRight_173 h
def wp_L_isRight_108 (G : sj_G) (R : sj_R) (x1 : Int32) (x2 : Int32) (x3 : Int32) (s0 : Int32) (σ : sj_S) : Prop := (x3 = 0 → (wp_L_isRight_134 G R x1 x2 s0 σ)) ∧ (¬ (x3 = 0) → (¬ s0 = 0 → (wp_L_isRight_173 G R σ)) ∧ (s0 = 0 → vp_in x1 9 ∧ vp_in x2 9 ∧ ((σ 58 x1.toNatClampNeg) = (σ 58 x2.toNatClampNeg) → (wp_L_isRight_173 G R σ)) ∧ (¬ ((σ 58 x1.toNatClampNeg) = (σ 58 x2.toNatClampNeg)) → (wp_L_isRight_134 G R x1 x2 s0 σ))))
set_option maxRecDepth 20000 in
theorem t_L_isRight_108 {G : sj_G} {R : sj_R} {x1 : Int32} {x2 : Int32} {x3 : Int32} {s0 : Int32} {σ : sj_S} (h : wp_L_isRight_108 G R x1 x2 x3 s0 σ) : sj_J G 3 me_L_isRight R 108 [.ref (sj_ad G 56), .int x1, .int x2, .int x3, .null] σ [.int s0] := by
  unfold wp_L_isRight_108 at h
  refine sj_istore dL_isRight_108 (by decide) ?_
  refine sj_iload_n dL_isRight_110 (i := 3) rfl rfl ?_
  refine sj_if_eq (tgt := 134) dL_isRight_111 (by decide) (fun c1 => ?_) (fun c1 => ?_)
  · replace h := h.1 c1
    refine sj_fg [3] ?_
    exact t_L_isRight_134 h
  · replace h := h.2 c1
    refine sj_iload dL_isRight_114 rfl ?_
    refine sj_if_ne (tgt := 173) dL_isRight_116 (by decide) (fun c2 => ?_) (fun c2 => ?_)
    · replace h := h.1 c2
      refine sj_fg [0, 1, 2, 3, 4] ?_
      exact t_L_isRight_173 h
    · replace h := h.2 c2
      refine sj_aload_n dL_isRight_119 (i := 0) rfl rfl ?_
      refine sj_get (a := 56) (k9 := 3) (v := .ref (sj_ad G 58)) dL_isRight_120 (by decide +kernel) rfl ?_
      refine sj_iload_n dL_isRight_123 (i := 1) rfl rfl ?_
      obtain ⟨b3, h⟩ := h
      refine sj_iald (a := 58) (j := x1.toNatClampNeg) (x := (σ 58 x1.toNatClampNeg)) dL_isRight_124 rfl (by decide +kernel) b3 rfl rfl ?_
      refine sj_aload_n dL_isRight_125 (i := 0) rfl rfl ?_
      refine sj_get (a := 56) (k9 := 3) (v := .ref (sj_ad G 58)) dL_isRight_126 (by decide +kernel) rfl ?_
      refine sj_iload_n dL_isRight_129 (i := 2) rfl rfl ?_
      obtain ⟨b4, h⟩ := h
      refine sj_iald (a := 58) (j := x2.toNatClampNeg) (x := (σ 58 x2.toNatClampNeg)) dL_isRight_130 rfl (by decide +kernel) b4 rfl rfl ?_
      refine sj_icmp_eq (tgt := 173) dL_isRight_131 (by decide) (fun c5 => ?_) (fun c5 => ?_)
      · replace h := h.1 c5
        refine sj_fg [0, 1, 2, 3, 4] ?_
        exact t_L_isRight_173 h
      · replace h := h.2 c5
        refine sj_fg [3] ?_
        exact t_L_isRight_134 h
def wp_L_isRight_87 (G : sj_G) (R : sj_R) (x1 : Int32) (x2 : Int32) (s0 : Int32) (σ : sj_S) : Prop := vp_in x1 9 ∧ vp_in x2 9 ∧ (wp_L_isRight_108 G R x1 x2 s0 (if (σ 57 x1.toNatClampNeg) = (σ 57 x2.toNatClampNeg) then (nI 1) else (nI 0)) σ)
set_option maxRecDepth 20000 in
theorem t_L_isRight_87 {G : sj_G} {R : sj_R} {x1 : Int32} {x2 : Int32} {s0 : Int32} {σ : sj_S} (h : wp_L_isRight_87 G R x1 x2 s0 σ) : sj_J G 3 me_L_isRight R 87 [.ref (sj_ad G 56), .int x1, .int x2, .null, .null] σ [.int s0] := by
  unfold wp_L_isRight_87 at h
  refine sj_istore_n dL_isRight_87 (i := 3) rfl (by decide) ?_
  refine sj_aload_n dL_isRight_88 (i := 0) rfl rfl ?_
  refine sj_get (a := 56) (k9 := 2) (v := .ref (sj_ad G 57)) dL_isRight_89 (by decide +kernel) rfl ?_
  refine sj_iload_n dL_isRight_92 (i := 1) rfl rfl ?_
  obtain ⟨b1, h⟩ := h
  refine sj_iald (a := 57) (j := x1.toNatClampNeg) (x := (σ 57 x1.toNatClampNeg)) dL_isRight_93 rfl (by decide +kernel) b1 rfl rfl ?_
  refine sj_aload_n dL_isRight_94 (i := 0) rfl rfl ?_
  refine sj_get (a := 56) (k9 := 2) (v := .ref (sj_ad G 57)) dL_isRight_95 (by decide +kernel) rfl ?_
  refine sj_iload_n dL_isRight_98 (i := 2) rfl rfl ?_
  obtain ⟨b2, h⟩ := h
  refine sj_iald (a := 57) (j := x2.toNatClampNeg) (x := (σ 57 x2.toNatClampNeg)) dL_isRight_99 rfl (by decide +kernel) b2 rfl rfl ?_
  refine sj_icmp_ne (tgt := 107) dL_isRight_100 (by decide) (fun c3 => ?_) (fun c3 => ?_)
  · refine sj_iconst (v := (nI 0)) dL_isRight_107 (by decide +kernel) ?_
    try simp only [if_neg c3] at h
    exact t_L_isRight_108 h
  · refine sj_iconst (v := (nI 1)) dL_isRight_103 (by decide +kernel) ?_
    refine sj_goto (tgt := 108) dL_isRight_104 (by decide) ?_
    try simp only [if_pos c3] at h
    exact t_L_isRight_108 h
def wp_L_isRight_33 (G : sj_G) (R : sj_R) (x1 : Int32) (x2 : Int32) (σ : sj_S) : Prop := (x1 ≤ x2 → sj_J G 3 me_L_isRight R 2 [.ref (sj_ad G 56), .int (x1 + (nI 1)), .null, .null, .null] σ []) ∧ (¬ (x1 ≤ x2) → vp_in x1 9 ∧ vp_in x2 9 ∧ vp_in x2 9 ∧ ((¬ (((σ 62 x2.toNatClampNeg) + (σ 61 x2.toNatClampNeg)) ≤ (σ 62 x1.toNatClampNeg))) → vp_in x2 9 ∧ vp_in x1 9 ∧ vp_in x1 9) ∧ (wp_L_isRight_87 G R x1 x2 (if ((σ 62 x2.toNatClampNeg) + (σ 61 x2.toNatClampNeg)) ≤ (σ 62 x1.toNatClampNeg) then (nI 0) else (if ((σ 62 x1.toNatClampNeg) + (σ 61 x1.toNatClampNeg)) ≤ (σ 62 x2.toNatClampNeg) then (nI 0) else (nI 1))) σ))
set_option maxRecDepth 20000 in
theorem t_L_isRight_33 {G : sj_G} {R : sj_R} {x1 : Int32} {x2 : Int32} {σ : sj_S} (h : wp_L_isRight_33 G R x1 x2 σ) : sj_J G 3 me_L_isRight R 33 [.ref (sj_ad G 56), .int x1, .int x2, .null, .null] σ [] := by
  unfold wp_L_isRight_33 at h
  refine sj_iload_n dL_isRight_33 (i := 2) rfl rfl ?_
  refine sj_iload_n dL_isRight_34 (i := 1) rfl rfl ?_
  refine sj_icmp_ge (tgt := 181) dL_isRight_35 (by decide) (fun c1 => ?_) (fun c1 => ?_)
  · replace h := h.1 c1
    refine sj_iinc (v := (x1 + (nI 1))) dL_isRight_181 (by decide) rfl rfl ?_
    refine sj_goto (tgt := 2) dL_isRight_184 (by decide) ?_
    refine sj_fg [2] ?_
    exact h
  · replace h := h.2 c1
    refine sj_aload_n dL_isRight_38 (i := 0) rfl rfl ?_
    refine sj_get (a := 56) (k9 := 7) (v := .ref (sj_ad G 62)) dL_isRight_39 (by decide +kernel) rfl ?_
    refine sj_iload_n dL_isRight_42 (i := 1) rfl rfl ?_
    obtain ⟨b2, h⟩ := h
    refine sj_iald (a := 62) (j := x1.toNatClampNeg) (x := (σ 62 x1.toNatClampNeg)) dL_isRight_43 rfl (by decide +kernel) b2 rfl rfl ?_
    refine sj_aload_n dL_isRight_44 (i := 0) rfl rfl ?_
    refine sj_get (a := 56) (k9 := 7) (v := .ref (sj_ad G 62)) dL_isRight_45 (by decide +kernel) rfl ?_
    refine sj_iload_n dL_isRight_48 (i := 2) rfl rfl ?_
    obtain ⟨b3, h⟩ := h
    refine sj_iald (a := 62) (j := x2.toNatClampNeg) (x := (σ 62 x2.toNatClampNeg)) dL_isRight_49 rfl (by decide +kernel) b3 rfl rfl ?_
    refine sj_aload_n dL_isRight_50 (i := 0) rfl rfl ?_
    refine sj_get (a := 56) (k9 := 6) (v := .ref (sj_ad G 61)) dL_isRight_51 (by decide +kernel) rfl ?_
    refine sj_iload_n dL_isRight_54 (i := 2) rfl rfl ?_
    obtain ⟨b4, h⟩ := h
    refine sj_iald (a := 61) (j := x2.toNatClampNeg) (x := (σ 61 x2.toNatClampNeg)) dL_isRight_55 rfl (by decide +kernel) b4 rfl rfl ?_
    refine sj_iadd dL_isRight_56 ?_
    obtain ⟨f10, h⟩ := h
    refine sj_icmp_ge (tgt := 86) dL_isRight_57 (by decide) (fun c5 => ?_) (fun c5 => ?_)
    · refine sj_iconst (v := (nI 0)) dL_isRight_86 (by decide +kernel) ?_
      try simp only [if_pos c5] at h
      exact t_L_isRight_87 h
    · obtain ⟨b6, b7, b8⟩ := f10 c5
      refine sj_aload_n dL_isRight_60 (i := 0) rfl rfl ?_
      refine sj_get (a := 56) (k9 := 7) (v := .ref (sj_ad G 62)) dL_isRight_61 (by decide +kernel) rfl ?_
      refine sj_iload_n dL_isRight_64 (i := 2) rfl rfl ?_
      refine sj_iald (a := 62) (j := x2.toNatClampNeg) (x := (σ 62 x2.toNatClampNeg)) dL_isRight_65 rfl (by decide +kernel) b6 rfl rfl ?_
      refine sj_aload_n dL_isRight_66 (i := 0) rfl rfl ?_
      refine sj_get (a := 56) (k9 := 7) (v := .ref (sj_ad G 62)) dL_isRight_67 (by decide +kernel) rfl ?_
      refine sj_iload_n dL_isRight_70 (i := 1) rfl rfl ?_
      refine sj_iald (a := 62) (j := x1.toNatClampNeg) (x := (σ 62 x1.toNatClampNeg)) dL_isRight_71 rfl (by decide +kernel) b7 rfl rfl ?_
      refine sj_aload_n dL_isRight_72 (i := 0) rfl rfl ?_
      refine sj_get (a := 56) (k9 := 6) (v := .ref (sj_ad G 61)) dL_isRight_73 (by decide +kernel) rfl ?_
      refine sj_iload_n dL_isRight_76 (i := 1) rfl rfl ?_
      refine sj_iald (a := 61) (j := x1.toNatClampNeg) (x := (σ 61 x1.toNatClampNeg)) dL_isRight_77 rfl (by decide +kernel) b8 rfl rfl ?_
      refine sj_iadd dL_isRight_78 ?_
      refine sj_icmp_ge (tgt := 86) dL_isRight_79 (by decide) (fun c9 => ?_) (fun c9 => ?_)
      · refine sj_iconst (v := (nI 0)) dL_isRight_86 (by decide +kernel) ?_
        try simp only [if_neg c5, if_pos c9] at h
        exact t_L_isRight_87 h
      · refine sj_iconst (v := (nI 1)) dL_isRight_82 (by decide +kernel) ?_
        refine sj_goto (tgt := 87) dL_isRight_83 (by decide) ?_
        try simp only [if_neg c5, if_neg c9] at h
        exact t_L_isRight_87 h
def wp_L_isRight_189 (G : sj_G) (R : sj_R) (x1 : Int32) (σ : sj_S) : Prop := ((nI 20) ≤ x1 → R = (.ok (nI 1), σ)) ∧ (¬ ((nI 20) ≤ x1) → sj_J G 3 me_L_isRight R 197 [.ref (sj_ad G 56), .int x1, .int (nI 0), .null, .null] σ [])
set_option maxRecDepth 20000 in
theorem t_L_isRight_189 {G : sj_G} {R : sj_R} {x1 : Int32} {σ : sj_S} (h : wp_L_isRight_189 G R x1 σ) : sj_J G 3 me_L_isRight R 189 [.ref (sj_ad G 56), .int x1, .null, .null, .null] σ [] := by
  unfold wp_L_isRight_189 at h
  refine sj_iload_n dL_isRight_189 (i := 1) rfl rfl ?_
  refine sj_bipush (v := (nI 20)) dL_isRight_190 (by decide +kernel) ?_
  refine sj_icmp_ge (tgt := 275) dL_isRight_192 (by decide) (fun c1 => ?_) (fun c1 => ?_)
  · replace h := h.1 c1
    refine sj_iconst (v := (nI 1)) dL_isRight_275 (by decide +kernel) ?_
    subst h
    exact sj_ret dL_isRight_276 rfl rfl
  · replace h := h.2 c1
    refine sj_iconst (v := (nI 0)) dL_isRight_195 (by decide +kernel) ?_
    refine sj_istore_n dL_isRight_196 (i := 2) rfl (by decide) ?_
    exact h
def wp_L_isRight_197 (G : sj_G) (R : sj_R) (x1 : Int32) (x2 : Int32) (σ : sj_S) : Prop := ((nI 3) ≤ x2 → sj_J G 3 me_L_isRight R 189 [.ref (sj_ad G 56), .int (x1 + (nI 1)), .null, .null, .null] σ []) ∧ (¬ ((nI 3) ≤ x2) → sj_J G 3 me_L_isRight R 207 [.ref (sj_ad G 56), .int x1, .int x2, .int (nI 0), .int (nI 0)] σ [])
set_option maxRecDepth 20000 in
theorem t_L_isRight_197 {G : sj_G} {R : sj_R} {x1 : Int32} {x2 : Int32} {σ : sj_S} (h : wp_L_isRight_197 G R x1 x2 σ) : sj_J G 3 me_L_isRight R 197 [.ref (sj_ad G 56), .int x1, .int x2, .null, .null] σ [] := by
  unfold wp_L_isRight_197 at h
  refine sj_iload_n dL_isRight_197 (i := 2) rfl rfl ?_
  refine sj_iconst (v := (nI 3)) dL_isRight_198 (by decide +kernel) ?_
  refine sj_icmp_ge (tgt := 269) dL_isRight_199 (by decide) (fun c1 => ?_) (fun c1 => ?_)
  · replace h := h.1 c1
    refine sj_iinc (v := (x1 + (nI 1))) dL_isRight_269 (by decide) rfl rfl ?_
    refine sj_goto (tgt := 189) dL_isRight_272 (by decide) ?_
    refine sj_fg [2] ?_
    exact h
  · replace h := h.2 c1
    refine sj_iconst (v := (nI 0)) dL_isRight_202 (by decide +kernel) ?_
    refine sj_istore_n dL_isRight_203 (i := 3) rfl (by decide) ?_
    refine sj_iconst (v := (nI 0)) dL_isRight_204 (by decide +kernel) ?_
    refine sj_istore dL_isRight_205 (by decide) ?_
    exact h
def wp_L_isRight_243 (G : sj_G) (R : sj_R) (x1 : Int32) (x2 : Int32) (x4 : Int32) (s0 : Int32) (s1 : Int32) (σ : sj_S) : Prop := sj_J G 3 me_L_isRight R 207 [.ref (sj_ad G 56), .int x1, .int x2, .int (s1 + s0), .int (x4 + (nI 1))] σ []
set_option maxRecDepth 20000 in
theorem t_L_isRight_243 {G : sj_G} {R : sj_R} {x1 : Int32} {x2 : Int32} {x4 : Int32} {s0 : Int32} {s1 : Int32} {σ : sj_S} (h : wp_L_isRight_243 G R x1 x2 x4 s0 s1 σ) : sj_J G 3 me_L_isRight R 243 [.ref (sj_ad G 56), .int x1, .int x2, .null, .int x4] σ [.int s0, .int s1] := by
  unfold wp_L_isRight_243 at h
  refine sj_iadd dL_isRight_243 ?_
  refine sj_istore_n dL_isRight_244 (i := 3) rfl (by decide) ?_
  refine sj_iinc (v := (x4 + (nI 1))) dL_isRight_245 (by decide) rfl rfl ?_
  refine sj_goto (tgt := 207) dL_isRight_248 (by decide) ?_
  exact h
def wp_L_isRight_242 (G : sj_G) (R : sj_R) (x1 : Int32) (x2 : Int32) (x4 : Int32) (s0 : Int32) (σ : sj_S) : Prop := (wp_L_isRight_243 G R x1 x2 x4 (nI 0) s0 σ)
set_option maxRecDepth 20000 in
theorem t_L_isRight_242 {G : sj_G} {R : sj_R} {x1 : Int32} {x2 : Int32} {x4 : Int32} {s0 : Int32} {σ : sj_S} (h : wp_L_isRight_242 G R x1 x2 x4 s0 σ) : sj_J G 3 me_L_isRight R 242 [.ref (sj_ad G 56), .int x1, .int x2, .null, .int x4] σ [.int s0] := by
  unfold wp_L_isRight_242 at h
  refine sj_iconst (v := (nI 0)) dL_isRight_242 (by decide +kernel) ?_
  exact t_L_isRight_243 h
def wp_L_isRight_207 (G : sj_G) (R : sj_R) (x1 : Int32) (x2 : Int32) (x3 : Int32) (x4 : Int32) (σ : sj_S) : Prop := ((σ 56 13) ≤ x4 → vp_in x2 3 ∧ (x3 ≤ (σ 67 x2.toNatClampNeg) → sj_J G 3 me_L_isRight R 197 [.ref (sj_ad G 56), .int x1, .int (x2 + (nI 1)), .null, .null] σ []) ∧ (¬ (x3 ≤ (σ 67 x2.toNatClampNeg)) → R = (.ok (nI 0), σ))) ∧ (¬ ((σ 56 13) ≤ x4) → vp_in x4 9 ∧ (¬ (σ 60 x4.toNatClampNeg) = x2 → (wp_L_isRight_242 G R x1 x2 x4 x3 σ)) ∧ ((σ 60 x4.toNatClampNeg) = x2 → ∃ v7 σ7, sj_C G 2 me_L_isOn [.ref (sj_ad G 56), .int x4, .int x1] σ (.ok v7, σ7) ∧ (wp_L_isRight_243 G R x1 x2 x4 (if v7 = 0 then (nI 0) else (nI 1)) x3 σ7)))
set_option maxRecDepth 20000 in
theorem t_L_isRight_207 {G : sj_G} {R : sj_R} {x1 : Int32} {x2 : Int32} {x3 : Int32} {x4 : Int32} {σ : sj_S} (h : wp_L_isRight_207 G R x1 x2 x3 x4 σ) : sj_J G 3 me_L_isRight R 207 [.ref (sj_ad G 56), .int x1, .int x2, .int x3, .int x4] σ [] := by
  unfold wp_L_isRight_207 at h
  refine sj_iload dL_isRight_207 rfl ?_
  refine sj_aload_n dL_isRight_209 (i := 0) rfl rfl ?_
  refine sj_get (a := 56) (k9 := 13) (v := .int (σ 56 13)) dL_isRight_210 (by decide +kernel) rfl ?_
  refine sj_icmp_ge (tgt := 251) dL_isRight_213 (by decide) (fun c1 => ?_) (fun c1 => ?_)
  · replace h := h.1 c1
    refine sj_iload_n dL_isRight_251 (i := 3) rfl rfl ?_
    refine sj_aload_n dL_isRight_252 (i := 0) rfl rfl ?_
    refine sj_get (a := 56) (k9 := 12) (v := .ref (sj_ad G 67)) dL_isRight_253 (by decide +kernel) rfl ?_
    refine sj_iload_n dL_isRight_256 (i := 2) rfl rfl ?_
    obtain ⟨b2, h⟩ := h
    refine sj_iald (a := 67) (j := x2.toNatClampNeg) (x := (σ 67 x2.toNatClampNeg)) dL_isRight_257 rfl (by decide +kernel) b2 rfl rfl ?_
    refine sj_icmp_le (tgt := 263) dL_isRight_258 (by decide) (fun c3 => ?_) (fun c3 => ?_)
    · replace h := h.1 c3
      refine sj_iinc (v := (x2 + (nI 1))) dL_isRight_263 (by decide) rfl rfl ?_
      refine sj_goto (tgt := 197) dL_isRight_266 (by decide) ?_
      refine sj_fg [3, 4] ?_
      exact h
    · replace h := h.2 c3
      refine sj_iconst (v := (nI 0)) dL_isRight_261 (by decide +kernel) ?_
      subst h
      exact sj_ret dL_isRight_262 rfl rfl
  · replace h := h.2 c1
    refine sj_iload_n dL_isRight_216 (i := 3) rfl rfl ?_
    refine sj_aload_n dL_isRight_217 (i := 0) rfl rfl ?_
    refine sj_get (a := 56) (k9 := 5) (v := .ref (sj_ad G 60)) dL_isRight_218 (by decide +kernel) rfl ?_
    refine sj_iload dL_isRight_221 rfl ?_
    obtain ⟨b4, h⟩ := h
    refine sj_iald (a := 60) (j := x4.toNatClampNeg) (x := (σ 60 x4.toNatClampNeg)) dL_isRight_223 rfl (by decide +kernel) b4 rfl rfl ?_
    refine sj_iload_n dL_isRight_224 (i := 2) rfl rfl ?_
    refine sj_icmp_ne (tgt := 242) dL_isRight_225 (by decide) (fun c6 => ?_) (fun c6 => ?_)
    · replace h := h.1 c6
      refine sj_fg [3] ?_
      exact t_L_isRight_242 h
    · replace h := h.2 c6
      refine sj_aload_n dL_isRight_228 (i := 0) rfl rfl ?_
      refine sj_iload dL_isRight_229 rfl ?_
      refine sj_iload_n dL_isRight_231 (i := 1) rfl rfl ?_
      obtain ⟨v7, σ7, hc7, h⟩ := h
      refine sj_callVi (M' := me_L_isOn) (b := 56) (As := [.int x4, .int x1]) (rest := [.int x3]) dL_isRight_232 gL_isRight_L_isOn rfl hd_L_isOn (by decide +kernel) (by decide +kernel) rfl (Nat.le_of_ble_eq_true rfl) (by omega) rfl hc7 ?_
      refine sj_if_eq (tgt := 242) dL_isRight_235 (by decide) (fun c8 => ?_) (fun c8 => ?_)
      · refine sj_iconst (v := (nI 0)) dL_isRight_242 (by decide +kernel) ?_
        try simp only [if_pos c8] at h
        refine sj_fg [3] ?_
        exact t_L_isRight_243 h
      · refine sj_iconst (v := (nI 1)) dL_isRight_238 (by decide +kernel) ?_
        refine sj_goto (tgt := 243) dL_isRight_239 (by decide) ?_
        try simp only [if_neg c8] at h
        refine sj_fg [3] ?_
        exact t_L_isRight_243 h
def wp_L_isRight_0 (G : sj_G) (R : sj_R) (σ : sj_S) : Prop := sj_J G 3 me_L_isRight R 2 [.ref (sj_ad G 56), .int (nI 0), .null, .null, .null] σ []
set_option maxRecDepth 20000 in
theorem t_L_isRight_0 {G : sj_G} {R : sj_R} {σ : sj_S} (h : wp_L_isRight_0 G R σ) : sj_J G 3 me_L_isRight R 0 [.ref (sj_ad G 56), .null, .null, .null, .null] σ [] := by
  unfold wp_L_isRight_0 at h
  refine sj_iconst (v := (nI 0)) dL_isRight_0 (by decide +kernel) ?_
  refine sj_istore_n dL_isRight_1 (i := 1) rfl (by decide) ?_
  exact h
theorem c_L_isRight {G : sj_G} (ok : sj_ok G) {R : sj_R} {σ : sj_S} (h : wp_L_isRight_0 G R σ) : sj_C G 3 me_L_isRight [.ref (sj_ad G 56)] σ R :=
  sj_enter ok (by decide +kernel) rfl rfl (Nat.le_of_ble_eq_true rfl) (by simp [Value.category]) (t_L_isRight_0 h)
def wp_L_isGood_38 (G : sj_G) (R : sj_R) (x1 : Int32) (σ : sj_S) : Prop := sj_J G 4 me_L_isGood R 11 [.ref (sj_ad G 56), .int (x1 + (nI 1))] σ []
set_option maxRecDepth 20000 in
theorem t_L_isGood_38 {G : sj_G} {R : sj_R} {x1 : Int32} {σ : sj_S} (h : wp_L_isGood_38 G R x1 σ) : sj_J G 4 me_L_isGood R 38 [.ref (sj_ad G 56), .int x1] σ [] := by
  unfold wp_L_isGood_38 at h
  refine sj_iinc (v := (x1 + (nI 1))) dL_isGood_38 (by decide) rfl rfl ?_
  refine sj_goto (tgt := 11) dL_isGood_41 (by decide) ?_
  exact h
def wp_L_isGood_11 (G : sj_G) (R : sj_R) (x1 : Int32) (σ : sj_S) : Prop := ((σ 56 14) ≤ x1 → R = (.ok (nI 1), σ)) ∧ (¬ ((σ 56 14) ≤ x1) → vp_in x1 12 ∧ (¬ (σ 66 x1.toNatClampNeg) = 0 → (wp_L_isGood_38 G R x1 σ)) ∧ ((σ 66 x1.toNatClampNeg) = 0 → ∃ v4 σ4, sj_C G 3 me_L_holds [.ref (sj_ad G 56), .int x1] σ (.ok v4, σ4) ∧ (¬ v4 = 0 → (wp_L_isGood_38 G R x1 σ4)) ∧ (v4 = 0 → R = (.ok (nI 0), σ4))))
set_option maxRecDepth 20000 in
theorem t_L_isGood_11 {G : sj_G} {R : sj_R} {x1 : Int32} {σ : sj_S} (h : wp_L_isGood_11 G R x1 σ) : sj_J G 4 me_L_isGood R 11 [.ref (sj_ad G 56), .int x1] σ [] := by
  unfold wp_L_isGood_11 at h
  refine sj_iload_n dL_isGood_11 (i := 1) rfl rfl ?_
  refine sj_aload_n dL_isGood_12 (i := 0) rfl rfl ?_
  refine sj_get (a := 56) (k9 := 14) (v := .int (σ 56 14)) dL_isGood_13 (by decide +kernel) rfl ?_
  refine sj_icmp_ge (tgt := 44) dL_isGood_16 (by decide) (fun c1 => ?_) (fun c1 => ?_)
  · replace h := h.1 c1
    refine sj_iconst (v := (nI 1)) dL_isGood_44 (by decide +kernel) ?_
    subst h
    exact sj_ret dL_isGood_45 rfl rfl
  · replace h := h.2 c1
    refine sj_aload_n dL_isGood_19 (i := 0) rfl rfl ?_
    refine sj_get (a := 56) (k9 := 11) (v := .ref (sj_ad G 66)) dL_isGood_20 (by decide +kernel) rfl ?_
    refine sj_iload_n dL_isGood_23 (i := 1) rfl rfl ?_
    obtain ⟨b2, h⟩ := h
    refine sj_iald (a := 66) (j := x1.toNatClampNeg) (x := (σ 66 x1.toNatClampNeg)) dL_isGood_24 rfl (by decide +kernel) b2 rfl rfl ?_
    refine sj_if_ne (tgt := 38) dL_isGood_25 (by decide) (fun c3 => ?_) (fun c3 => ?_)
    · replace h := h.1 c3
      exact t_L_isGood_38 h
    · replace h := h.2 c3
      refine sj_aload_n dL_isGood_28 (i := 0) rfl rfl ?_
      refine sj_iload_n dL_isGood_29 (i := 1) rfl rfl ?_
      obtain ⟨v4, σ4, hc4, h⟩ := h
      refine sj_callVi (M' := me_L_holds) (b := 56) (As := [.int x1]) (rest := []) dL_isGood_30 gL_isGood_L_holds rfl hd_L_holds (by decide +kernel) (by decide +kernel) rfl (Nat.le_of_ble_eq_true rfl) (by omega) rfl hc4 ?_
      refine sj_if_ne (tgt := 38) dL_isGood_33 (by decide) (fun c5 => ?_) (fun c5 => ?_)
      · replace h := h.1 c5
        exact t_L_isGood_38 h
      · replace h := h.2 c5
        refine sj_iconst (v := (nI 0)) dL_isGood_36 (by decide +kernel) ?_
        subst h
        exact sj_ret dL_isGood_37 rfl rfl
def wp_L_isGood_0 (G : sj_G) (R : sj_R) (σ : sj_S) : Prop := ∃ v1 σ1, sj_C G 3 me_L_isRight [.ref (sj_ad G 56)] σ (.ok v1, σ1) ∧ (¬ v1 = 0 → sj_J G 4 me_L_isGood R 11 [.ref (sj_ad G 56), .int (nI 0)] σ1 []) ∧ (v1 = 0 → R = (.ok (nI 0), σ1))
set_option maxRecDepth 20000 in
theorem t_L_isGood_0 {G : sj_G} {R : sj_R} {σ : sj_S} (h : wp_L_isGood_0 G R σ) : sj_J G 4 me_L_isGood R 0 [.ref (sj_ad G 56), .null] σ [] := by
  unfold wp_L_isGood_0 at h
  refine sj_aload_n dL_isGood_0 (i := 0) rfl rfl ?_
  obtain ⟨v1, σ1, hc1, h⟩ := h
  refine sj_callVi (M' := me_L_isRight) (b := 56) (As := []) (rest := []) dL_isGood_1 gL_isGood_L_isRight rfl hd_L_isRight (by decide +kernel) (by decide +kernel) rfl (Nat.le_of_ble_eq_true rfl) (by omega) rfl hc1 ?_
  refine sj_if_ne (tgt := 9) dL_isGood_4 (by decide) (fun c2 => ?_) (fun c2 => ?_)
  · replace h := h.1 c2
    refine sj_iconst (v := (nI 0)) dL_isGood_9 (by decide +kernel) ?_
    refine sj_istore_n dL_isGood_10 (i := 1) rfl (by decide) ?_
    exact h
  · replace h := h.2 c2
    refine sj_iconst (v := (nI 0)) dL_isGood_7 (by decide +kernel) ?_
    subst h
    exact sj_ret dL_isGood_8 rfl rfl
theorem c_L_isGood {G : sj_G} (ok : sj_ok G) {R : sj_R} {σ : sj_S} (h : wp_L_isGood_0 G R σ) : sj_C G 4 me_L_isGood [.ref (sj_ad G 56)] σ R :=
  sj_enter ok (by decide +kernel) rfl rfl (Nat.le_of_ble_eq_true rfl) (by simp [Value.category]) (t_L_isGood_0 h)
def wp_L_gaps_5 (G : sj_G) (R : sj_R) (x1 : Int32) (x2 : Int32) (x3 : Int32) (x4 : Int32) (σ : sj_S) : Prop := ((nI 5) ≤ x4 → R = (.ok x3, σ)) ∧ (¬ ((nI 5) ≤ x4) → sj_J G 3 me_L_gaps R 24 [.ref (sj_ad G 56), .int x1, .int x2, .int x3, .int x4, .int (nI 9), .int (-1), .int (nI 0), .int (nI 0), .null, .null] σ [])
set_option maxRecDepth 20000 in
theorem t_L_gaps_5 {G : sj_G} {R : sj_R} {x1 : Int32} {x2 : Int32} {x3 : Int32} {x4 : Int32} {σ : sj_S} (h : wp_L_gaps_5 G R x1 x2 x3 x4 σ) : sj_J G 3 me_L_gaps R 5 [.ref (sj_ad G 56), .int x1, .int x2, .int x3, .int x4, .null, .null, .null, .null, .null, .null] σ [] := by
  unfold wp_L_gaps_5 at h
  refine sj_iload dL_gaps_5 rfl ?_
  refine sj_iconst (v := (nI 5)) dL_gaps_7 (by decide +kernel) ?_
  refine sj_icmp_ge (tgt := 160) dL_gaps_8 (by decide) (fun c1 => ?_) (fun c1 => ?_)
  · replace h := h.1 c1
    refine sj_iload_n dL_gaps_160 (i := 3) rfl rfl ?_
    subst h
    exact sj_ret dL_gaps_161 rfl rfl
  · replace h := h.2 c1
    refine sj_bipush (v := (nI 9)) dL_gaps_11 (by decide +kernel) ?_
    refine sj_istore dL_gaps_13 (by decide) ?_
    refine sj_iconst (v := (-1)) dL_gaps_15 (by decide +kernel) ?_
    refine sj_istore dL_gaps_16 (by decide) ?_
    refine sj_iconst (v := (nI 0)) dL_gaps_18 (by decide +kernel) ?_
    refine sj_istore dL_gaps_19 (by decide) ?_
    refine sj_iconst (v := (nI 0)) dL_gaps_21 (by decide +kernel) ?_
    refine sj_istore dL_gaps_22 (by decide) ?_
    exact h
def wp_L_gaps_152 (G : sj_G) (R : sj_R) (x1 : Int32) (x2 : Int32) (x4 : Int32) (s0 : Int32) (s1 : Int32) (σ : sj_S) : Prop := sj_J G 3 me_L_gaps R 5 [.ref (sj_ad G 56), .int x1, .int x2, .int (s1 + s0), .int (x4 + (nI 1)), .null, .null, .null, .null, .null, .null] σ []
set_option maxRecDepth 20000 in
theorem t_L_gaps_152 {G : sj_G} {R : sj_R} {x1 : Int32} {x2 : Int32} {x4 : Int32} {s0 : Int32} {s1 : Int32} {σ : sj_S} (h : wp_L_gaps_152 G R x1 x2 x4 s0 s1 σ) : sj_J G 3 me_L_gaps R 152 [.ref (sj_ad G 56), .int x1, .int x2, .null, .int x4, .null, .null, .null, .null, .null, .null] σ [.int s0, .int s1] := by
  unfold wp_L_gaps_152 at h
  refine sj_iadd dL_gaps_152 ?_
  refine sj_istore_n dL_gaps_153 (i := 3) rfl (by decide) ?_
  refine sj_iinc (v := (x4 + (nI 1))) dL_gaps_154 (by decide) rfl rfl ?_
  refine sj_goto (tgt := 5) dL_gaps_157 (by decide) ?_
  exact h
def wp_L_gaps_24 (G : sj_G) (R : sj_R) (x1 : Int32) (x2 : Int32) (x3 : Int32) (x4 : Int32) (x5 : Int32) (x6 : Int32) (x7 : Int32) (x8 : Int32) (σ : sj_S) : Prop := ((nI 4) ≤ x8 → (wp_L_gaps_152 G R x1 x2 x4 (if 0 ≤ x6 then (((x6 - x5) + (nI 1)) - x7) else (nI 0)) x3 σ)) ∧ (¬ ((nI 4) ≤ x8) → sj_J G 3 me_L_gaps R 36 [.ref (sj_ad G 56), .int x1, .int x2, .int x3, .int x4, .int x5, .int x6, .int x7, .int x8, .int (nI 0), .int (nI 0)] σ [])
set_option maxRecDepth 20000 in
theorem t_L_gaps_24 {G : sj_G} {R : sj_R} {x1 : Int32} {x2 : Int32} {x3 : Int32} {x4 : Int32} {x5 : Int32} {x6 : Int32} {x7 : Int32} {x8 : Int32} {σ : sj_S} (h : wp_L_gaps_24 G R x1 x2 x3 x4 x5 x6 x7 x8 σ) : sj_J G 3 me_L_gaps R 24 [.ref (sj_ad G 56), .int x1, .int x2, .int x3, .int x4, .int x5, .int x6, .int x7, .int x8, .null, .null] σ [] := by
  unfold wp_L_gaps_24 at h
  refine sj_iload dL_gaps_24 rfl ?_
  refine sj_iconst (v := (nI 4)) dL_gaps_26 (by decide +kernel) ?_
  refine sj_icmp_ge (tgt := 132) dL_gaps_27 (by decide) (fun c1 => ?_) (fun c1 => ?_)
  · replace h := h.1 c1
    refine sj_iload_n dL_gaps_132 (i := 3) rfl rfl ?_
    refine sj_iload dL_gaps_133 rfl ?_
    refine sj_if_ge (tgt := 142) dL_gaps_135 (by decide) (fun c2 => ?_) (fun c2 => ?_)
    · refine sj_iload dL_gaps_142 rfl ?_
      refine sj_iload dL_gaps_144 rfl ?_
      refine sj_isub dL_gaps_146 ?_
      refine sj_iconst (v := (nI 1)) dL_gaps_147 (by decide +kernel) ?_
      refine sj_iadd dL_gaps_148 ?_
      refine sj_iload dL_gaps_149 rfl ?_
      refine sj_isub dL_gaps_151 ?_
      try simp only [if_pos c2] at h
      refine sj_fg [3, 5, 6, 7, 8] ?_
      exact t_L_gaps_152 h
    · refine sj_iconst (v := (nI 0)) dL_gaps_138 (by decide +kernel) ?_
      refine sj_goto (tgt := 152) dL_gaps_139 (by decide) ?_
      try simp only [if_neg c2] at h
      refine sj_fg [3, 5, 6, 7, 8] ?_
      exact t_L_gaps_152 h
  · replace h := h.2 c1
    refine sj_iconst (v := (nI 0)) dL_gaps_30 (by decide +kernel) ?_
    refine sj_istore dL_gaps_31 (by decide) ?_
    refine sj_iconst (v := (nI 0)) dL_gaps_33 (by decide +kernel) ?_
    refine sj_istore dL_gaps_34 (by decide) ?_
    exact h
def wp_L_gaps_93 (G : sj_G) (R : sj_R) (x1 : Int32) (x2 : Int32) (x3 : Int32) (x4 : Int32) (x5 : Int32) (x6 : Int32) (x7 : Int32) (x8 : Int32) (x10 : Int32) (s0 : Int32) (s1 : Int32) (σ : sj_S) : Prop := sj_J G 3 me_L_gaps R 36 [.ref (sj_ad G 56), .int x1, .int x2, .int x3, .int x4, .int x5, .int x6, .int x7, .int x8, .int (s1 ||| s0), .int (x10 + (nI 1))] σ []
set_option maxRecDepth 20000 in
theorem t_L_gaps_93 {G : sj_G} {R : sj_R} {x1 : Int32} {x2 : Int32} {x3 : Int32} {x4 : Int32} {x5 : Int32} {x6 : Int32} {x7 : Int32} {x8 : Int32} {x10 : Int32} {s0 : Int32} {s1 : Int32} {σ : sj_S} (h : wp_L_gaps_93 G R x1 x2 x3 x4 x5 x6 x7 x8 x10 s0 s1 σ) : sj_J G 3 me_L_gaps R 93 [.ref (sj_ad G 56), .int x1, .int x2, .int x3, .int x4, .int x5, .int x6, .int x7, .int x8, .null, .int x10] σ [.int s0, .int s1] := by
  unfold wp_L_gaps_93 at h
  refine sj_ior dL_gaps_93 ?_
  refine sj_istore dL_gaps_94 (by decide) ?_
  refine sj_iinc (v := (x10 + (nI 1))) dL_gaps_96 (by decide) rfl rfl ?_
  refine sj_goto (tgt := 36) dL_gaps_99 (by decide) ?_
  exact h
def wp_L_gaps_92 (G : sj_G) (R : sj_R) (x1 : Int32) (x2 : Int32) (x3 : Int32) (x4 : Int32) (x5 : Int32) (x6 : Int32) (x7 : Int32) (x8 : Int32) (x10 : Int32) (s0 : Int32) (σ : sj_S) : Prop := (wp_L_gaps_93 G R x1 x2 x3 x4 x5 x6 x7 x8 x10 (nI 0) s0 σ)
set_option maxRecDepth 20000 in
theorem t_L_gaps_92 {G : sj_G} {R : sj_R} {x1 : Int32} {x2 : Int32} {x3 : Int32} {x4 : Int32} {x5 : Int32} {x6 : Int32} {x7 : Int32} {x8 : Int32} {x10 : Int32} {s0 : Int32} {σ : sj_S} (h : wp_L_gaps_92 G R x1 x2 x3 x4 x5 x6 x7 x8 x10 s0 σ) : sj_J G 3 me_L_gaps R 92 [.ref (sj_ad G 56), .int x1, .int x2, .int x3, .int x4, .int x5, .int x6, .int x7, .int x8, .null, .int x10] σ [.int s0] := by
  unfold wp_L_gaps_92 at h
  refine sj_iconst (v := (nI 0)) dL_gaps_92 (by decide +kernel) ?_
  exact t_L_gaps_93 h
def wp_L_gaps_68 (G : sj_G) (R : sj_R) (x1 : Int32) (x2 : Int32) (x3 : Int32) (x4 : Int32) (x5 : Int32) (x6 : Int32) (x7 : Int32) (x8 : Int32) (x10 : Int32) (s0 : Int32) (s1 : Int32) (σ : sj_S) : Prop := (¬ s0 = x2 → (wp_L_gaps_92 G R x1 x2 x3 x4 x5 x6 x7 x8 x10 s1 σ)) ∧ (s0 = x2 → ∃ v3 σ3, sj_C G 2 me_L_isOn [.ref (sj_ad G 56), .int x10, .int (((nI 4) * x4) + x8)] σ (.ok v3, σ3) ∧ (wp_L_gaps_93 G R x1 x2 x3 x4 x5 x6 x7 x8 x10 (if v3 = 0 then (nI 0) else (nI 1)) s1 σ3))
set_option maxRecDepth 20000 in
theorem t_L_gaps_68 {G : sj_G} {R : sj_R} {x1 : Int32} {x2 : Int32} {x3 : Int32} {x4 : Int32} {x5 : Int32} {x6 : Int32} {x7 : Int32} {x8 : Int32} {x10 : Int32} {s0 : Int32} {s1 : Int32} {σ : sj_S} (h : wp_L_gaps_68 G R x1 x2 x3 x4 x5 x6 x7 x8 x10 s0 s1 σ) : sj_J G 3 me_L_gaps R 68 [.ref (sj_ad G 56), .int x1, .int x2, .int x3, .int x4, .int x5, .int x6, .int x7, .int x8, .null, .int x10] σ [.int s0, .int s1] := by
  unfold wp_L_gaps_68 at h
  refine sj_iload_n dL_gaps_68 (i := 2) rfl rfl ?_
  refine sj_icmp_ne (tgt := 92) dL_gaps_69 (by decide) (fun c2 => ?_) (fun c2 => ?_)
  · replace h := h.1 c2
    exact t_L_gaps_92 h
  · replace h := h.2 c2
    refine sj_aload_n dL_gaps_72 (i := 0) rfl rfl ?_
    refine sj_iload dL_gaps_73 rfl ?_
    refine sj_iconst (v := (nI 4)) dL_gaps_75 (by decide +kernel) ?_
    refine sj_iload dL_gaps_76 rfl ?_
    refine sj_imul dL_gaps_78 ?_
    refine sj_iload dL_gaps_79 rfl ?_
    refine sj_iadd dL_gaps_81 ?_
    obtain ⟨v3, σ3, hc3, h⟩ := h
    refine sj_callVi (M' := me_L_isOn) (b := 56) (As := [.int x10, .int (((nI 4) * x4) + x8)]) (rest := [.int s1]) dL_gaps_82 gL_gaps_L_isOn rfl hd_L_isOn (by decide +kernel) (by decide +kernel) rfl (Nat.le_of_ble_eq_true rfl) (by omega) rfl hc3 ?_
    refine sj_if_eq (tgt := 92) dL_gaps_85 (by decide) (fun c4 => ?_) (fun c4 => ?_)
    · refine sj_iconst (v := (nI 0)) dL_gaps_92 (by decide +kernel) ?_
      try simp only [if_pos c4] at h
      exact t_L_gaps_93 h
    · refine sj_iconst (v := (nI 1)) dL_gaps_88 (by decide +kernel) ?_
      refine sj_goto (tgt := 93) dL_gaps_89 (by decide) ?_
      try simp only [if_neg c4] at h
      exact t_L_gaps_93 h
def wp_L_gaps_126 (G : sj_G) (R : sj_R) (x1 : Int32) (x2 : Int32) (x3 : Int32) (x4 : Int32) (x5 : Int32) (x6 : Int32) (x7 : Int32) (x8 : Int32) (σ : sj_S) : Prop := sj_J G 3 me_L_gaps R 24 [.ref (sj_ad G 56), .int x1, .int x2, .int x3, .int x4, .int x5, .int x6, .int x7, .int (x8 + (nI 1)), .null, .null] σ []
set_option maxRecDepth 20000 in
theorem t_L_gaps_126 {G : sj_G} {R : sj_R} {x1 : Int32} {x2 : Int32} {x3 : Int32} {x4 : Int32} {x5 : Int32} {x6 : Int32} {x7 : Int32} {x8 : Int32} {σ : sj_S} (h : wp_L_gaps_126 G R x1 x2 x3 x4 x5 x6 x7 x8 σ) : sj_J G 3 me_L_gaps R 126 [.ref (sj_ad G 56), .int x1, .int x2, .int x3, .int x4, .int x5, .int x6, .int x7, .int x8, .null, .null] σ [] := by
  unfold wp_L_gaps_126 at h
  refine sj_iinc (v := (x8 + (nI 1))) dL_gaps_126 (by decide) rfl rfl ?_
  refine sj_goto (tgt := 24) dL_gaps_129 (by decide) ?_
  exact h
def wp_L_gaps_36 (G : sj_G) (R : sj_R) (x1 : Int32) (x2 : Int32) (x3 : Int32) (x4 : Int32) (x5 : Int32) (x6 : Int32) (x7 : Int32) (x8 : Int32) (x9 : Int32) (x10 : Int32) (σ : sj_S) : Prop := ((σ 56 13) ≤ x10 → (wp_L_gaps_126 G R x1 x2 x3 x4 (if x9 = 0 then x5 else (if x8 < x5 then x8 else x5)) (if x9 = 0 then x6 else x8) (if x9 = 0 then x7 else (x7 + (nI 1))) x8 σ)) ∧ (¬ ((σ 56 13) ≤ x10) → ((x1 = 0) → vp_in x10 9) ∧ ((¬ (x1 = 0)) → vp_in x10 9) ∧ (wp_L_gaps_68 G R x1 x2 x3 x4 x5 x6 x7 x8 x10 (if x1 = 0 then (σ 57 x10.toNatClampNeg) else (σ 58 x10.toNatClampNeg)) x9 σ))
set_option maxRecDepth 20000 in
theorem t_L_gaps_36 {G : sj_G} {R : sj_R} {x1 : Int32} {x2 : Int32} {x3 : Int32} {x4 : Int32} {x5 : Int32} {x6 : Int32} {x7 : Int32} {x8 : Int32} {x9 : Int32} {x10 : Int32} {σ : sj_S} (h : wp_L_gaps_36 G R x1 x2 x3 x4 x5 x6 x7 x8 x9 x10 σ) : sj_J G 3 me_L_gaps R 36 [.ref (sj_ad G 56), .int x1, .int x2, .int x3, .int x4, .int x5, .int x6, .int x7, .int x8, .int x9, .int x10] σ [] := by
  unfold wp_L_gaps_36 at h
  refine sj_iload dL_gaps_36 rfl ?_
  refine sj_aload_n dL_gaps_38 (i := 0) rfl rfl ?_
  refine sj_get (a := 56) (k9 := 13) (v := .int (σ 56 13)) dL_gaps_39 (by decide +kernel) rfl ?_
  refine sj_icmp_ge (tgt := 102) dL_gaps_42 (by decide) (fun c1 => ?_) (fun c1 => ?_)
  · replace h := h.1 c1
    refine sj_iload dL_gaps_102 rfl ?_
    refine sj_if_ne (tgt := 110) dL_gaps_104 (by decide) (fun c2 => ?_) (fun c2 => ?_)
    · refine sj_iload dL_gaps_110 rfl ?_
      refine sj_iload dL_gaps_112 rfl ?_
      refine sj_mmin dL_gaps_114 (by decide +kernel) (by omega) (Nat.le_of_ble_eq_true rfl) ?_
      refine sj_istore dL_gaps_117 (by decide) ?_
      refine sj_iload dL_gaps_119 rfl ?_
      refine sj_istore dL_gaps_121 (by decide) ?_
      refine sj_iinc (v := (x7 + (nI 1))) dL_gaps_123 (by decide) rfl rfl ?_
      try simp only [if_neg c2] at h
      refine sj_fg [9, 10] ?_
      exact t_L_gaps_126 h
    · refine sj_goto (tgt := 126) dL_gaps_107 (by decide) ?_
      try simp only [if_pos c2] at h
      refine sj_fg [9, 10] ?_
      exact t_L_gaps_126 h
  · replace h := h.2 c1
    refine sj_iload dL_gaps_45 rfl ?_
    refine sj_iload_n dL_gaps_47 (i := 1) rfl rfl ?_
    obtain ⟨f6, f7, h⟩ := h
    refine sj_if_eq (tgt := 61) dL_gaps_48 (by decide) (fun c3 => ?_) (fun c3 => ?_)
    · have b4 := f6 c3
      refine sj_aload_n dL_gaps_61 (i := 0) rfl rfl ?_
      refine sj_get (a := 56) (k9 := 2) (v := .ref (sj_ad G 57)) dL_gaps_62 (by decide +kernel) rfl ?_
      refine sj_iload dL_gaps_65 rfl ?_
      refine sj_iald (a := 57) (j := x10.toNatClampNeg) (x := (σ 57 x10.toNatClampNeg)) dL_gaps_67 rfl (by decide +kernel) b4 rfl rfl ?_
      try simp only [if_pos c3] at h
      refine sj_fg [9] ?_
      exact t_L_gaps_68 h
    · have b5 := f7 c3
      refine sj_aload_n dL_gaps_51 (i := 0) rfl rfl ?_
      refine sj_get (a := 56) (k9 := 3) (v := .ref (sj_ad G 58)) dL_gaps_52 (by decide +kernel) rfl ?_
      refine sj_iload dL_gaps_55 rfl ?_
      refine sj_iald (a := 58) (j := x10.toNatClampNeg) (x := (σ 58 x10.toNatClampNeg)) dL_gaps_57 rfl (by decide +kernel) b5 rfl rfl ?_
      refine sj_goto (tgt := 68) dL_gaps_58 (by decide) ?_
      try simp only [if_neg c3] at h
      refine sj_fg [9] ?_
      exact t_L_gaps_68 h
def wp_L_gaps_0 (G : sj_G) (R : sj_R) (x1 : Int32) (x2 : Int32) (σ : sj_S) : Prop := sj_J G 3 me_L_gaps R 5 [.ref (sj_ad G 56), .int x1, .int x2, .int (nI 0), .int (nI 0), .null, .null, .null, .null, .null, .null] σ []
set_option maxRecDepth 20000 in
theorem t_L_gaps_0 {G : sj_G} {R : sj_R} {x1 : Int32} {x2 : Int32} {σ : sj_S} (h : wp_L_gaps_0 G R x1 x2 σ) : sj_J G 3 me_L_gaps R 0 [.ref (sj_ad G 56), .int x1, .int x2, .null, .null, .null, .null, .null, .null, .null, .null] σ [] := by
  unfold wp_L_gaps_0 at h
  refine sj_iconst (v := (nI 0)) dL_gaps_0 (by decide +kernel) ?_
  refine sj_istore_n dL_gaps_1 (i := 3) rfl (by decide) ?_
  refine sj_iconst (v := (nI 0)) dL_gaps_2 (by decide +kernel) ?_
  refine sj_istore dL_gaps_3 (by decide) ?_
  exact h
theorem c_L_gaps {G : sj_G} (ok : sj_ok G) {R : sj_R} {x1 : Int32} {x2 : Int32} {σ : sj_S} (h : wp_L_gaps_0 G R x1 x2 σ) : sj_C G 3 me_L_gaps [.ref (sj_ad G 56), .int x1, .int x2] σ R :=
  sj_enter ok (by decide +kernel) rfl rfl (Nat.le_of_ble_eq_true rfl) (by simp [Value.category]) (t_L_gaps_0 h)
def wp_L_cost_4 (G : sj_G) (R : sj_R) (x1 : Int32) (x2 : Int32) (σ : sj_S) : Prop := ((nI 6) ≤ x2 → sj_J G 4 me_L_cost R 27 [.ref (sj_ad G 56), .int x1, .int (nI 0)] σ []) ∧ (¬ ((nI 6) ≤ x2) → ∃ v2 σ2, sj_C G 3 me_L_gaps [.ref (sj_ad G 56), .int (nI 1), .int x2] σ (.ok v2, σ2) ∧ sj_J G 4 me_L_cost R 4 [.ref (sj_ad G 56), .int (x1 + v2), .int (x2 + (nI 1))] σ2 [])
set_option maxRecDepth 20000 in
theorem t_L_cost_4 {G : sj_G} {R : sj_R} {x1 : Int32} {x2 : Int32} {σ : sj_S} (h : wp_L_cost_4 G R x1 x2 σ) : sj_J G 4 me_L_cost R 4 [.ref (sj_ad G 56), .int x1, .int x2] σ [] := by
  unfold wp_L_cost_4 at h
  refine sj_iload_n dL_cost_4 (i := 2) rfl rfl ?_
  refine sj_bipush (v := (nI 6)) dL_cost_5 (by decide +kernel) ?_
  refine sj_icmp_ge (tgt := 25) dL_cost_7 (by decide) (fun c1 => ?_) (fun c1 => ?_)
  · replace h := h.1 c1
    refine sj_iconst (v := (nI 0)) dL_cost_25 (by decide +kernel) ?_
    refine sj_istore_n dL_cost_26 (i := 2) rfl (by decide) ?_
    exact h
  · replace h := h.2 c1
    refine sj_iload_n dL_cost_10 (i := 1) rfl rfl ?_
    refine sj_aload_n dL_cost_11 (i := 0) rfl rfl ?_
    refine sj_iconst (v := (nI 1)) dL_cost_12 (by decide +kernel) ?_
    refine sj_iload_n dL_cost_13 (i := 2) rfl rfl ?_
    obtain ⟨v2, σ2, hc2, h⟩ := h
    refine sj_callVi (M' := me_L_gaps) (b := 56) (As := [.int (nI 1), .int x2]) (rest := [.int x1]) dL_cost_14 gL_cost_L_gaps rfl hd_L_gaps (by decide +kernel) (by decide +kernel) rfl (Nat.le_of_ble_eq_true rfl) (by omega) rfl hc2 ?_
    refine sj_iadd dL_cost_17 ?_
    refine sj_istore_n dL_cost_18 (i := 1) rfl (by decide) ?_
    refine sj_iinc (v := (x2 + (nI 1))) dL_cost_19 (by decide) rfl rfl ?_
    refine sj_goto (tgt := 4) dL_cost_22 (by decide) ?_
    exact h
def wp_L_cost_27 (G : sj_G) (R : sj_R) (x1 : Int32) (x2 : Int32) (σ : sj_S) : Prop := ((nI 4) ≤ x2 → sj_J G 4 me_L_cost R 49 [.ref (sj_ad G 56), .int x1, .int (nI 0)] σ []) ∧ (¬ ((nI 4) ≤ x2) → ∃ v2 σ2, sj_C G 3 me_L_gaps [.ref (sj_ad G 56), .int (nI 0), .int x2] σ (.ok v2, σ2) ∧ sj_J G 4 me_L_cost R 27 [.ref (sj_ad G 56), .int (x1 + v2), .int (x2 + (nI 1))] σ2 [])
set_option maxRecDepth 20000 in
theorem t_L_cost_27 {G : sj_G} {R : sj_R} {x1 : Int32} {x2 : Int32} {σ : sj_S} (h : wp_L_cost_27 G R x1 x2 σ) : sj_J G 4 me_L_cost R 27 [.ref (sj_ad G 56), .int x1, .int x2] σ [] := by
  unfold wp_L_cost_27 at h
  refine sj_iload_n dL_cost_27 (i := 2) rfl rfl ?_
  refine sj_iconst (v := (nI 4)) dL_cost_28 (by decide +kernel) ?_
  refine sj_icmp_ge (tgt := 47) dL_cost_29 (by decide) (fun c1 => ?_) (fun c1 => ?_)
  · replace h := h.1 c1
    refine sj_iconst (v := (nI 0)) dL_cost_47 (by decide +kernel) ?_
    refine sj_istore_n dL_cost_48 (i := 2) rfl (by decide) ?_
    exact h
  · replace h := h.2 c1
    refine sj_iload_n dL_cost_32 (i := 1) rfl rfl ?_
    refine sj_aload_n dL_cost_33 (i := 0) rfl rfl ?_
    refine sj_iconst (v := (nI 0)) dL_cost_34 (by decide +kernel) ?_
    refine sj_iload_n dL_cost_35 (i := 2) rfl rfl ?_
    obtain ⟨v2, σ2, hc2, h⟩ := h
    refine sj_callVi (M' := me_L_gaps) (b := 56) (As := [.int (nI 0), .int x2]) (rest := [.int x1]) dL_cost_36 gL_cost_L_gaps rfl hd_L_gaps (by decide +kernel) (by decide +kernel) rfl (Nat.le_of_ble_eq_true rfl) (by omega) rfl hc2 ?_
    refine sj_iadd dL_cost_39 ?_
    refine sj_istore_n dL_cost_40 (i := 1) rfl (by decide) ?_
    refine sj_iinc (v := (x2 + (nI 1))) dL_cost_41 (by decide) rfl rfl ?_
    refine sj_goto (tgt := 27) dL_cost_44 (by decide) ?_
    exact h
def wp_L_cost_85 (G : sj_G) (R : sj_R) (x2 : Int32) (s0 : Int32) (s1 : Int32) (σ : sj_S) : Prop := sj_J G 4 me_L_cost R 49 [.ref (sj_ad G 56), .int (s1 + s0), .int (x2 + (nI 1))] σ []
set_option maxRecDepth 20000 in
theorem t_L_cost_85 {G : sj_G} {R : sj_R} {x2 : Int32} {s0 : Int32} {s1 : Int32} {σ : sj_S} (h : wp_L_cost_85 G R x2 s0 s1 σ) : sj_J G 4 me_L_cost R 85 [.ref (sj_ad G 56), .null, .int x2] σ [.int s0, .int s1] := by
  unfold wp_L_cost_85 at h
  refine sj_iadd dL_cost_85 ?_
  refine sj_istore_n dL_cost_86 (i := 1) rfl (by decide) ?_
  refine sj_iinc (v := (x2 + (nI 1))) dL_cost_87 (by decide) rfl rfl ?_
  refine sj_goto (tgt := 49) dL_cost_90 (by decide) ?_
  exact h
def wp_L_cost_84 (G : sj_G) (R : sj_R) (x2 : Int32) (s0 : Int32) (σ : sj_S) : Prop := (wp_L_cost_85 G R x2 (nI 0) s0 σ)
set_option maxRecDepth 20000 in
theorem t_L_cost_84 {G : sj_G} {R : sj_R} {x2 : Int32} {s0 : Int32} {σ : sj_S} (h : wp_L_cost_84 G R x2 s0 σ) : sj_J G 4 me_L_cost R 84 [.ref (sj_ad G 56), .null, .int x2] σ [.int s0] := by
  unfold wp_L_cost_84 at h
  refine sj_iconst (v := (nI 0)) dL_cost_84 (by decide +kernel) ?_
  exact t_L_cost_85 h
def wp_L_cost_49 (G : sj_G) (R : sj_R) (x1 : Int32) (x2 : Int32) (σ : sj_S) : Prop := ((σ 56 14) ≤ x2 → R = (.ok x1, σ)) ∧ (¬ ((σ 56 14) ≤ x2) → vp_in x2 12 ∧ ((σ 66 x2.toNatClampNeg) ≤ 0 → (wp_L_cost_84 G R x2 x1 σ)) ∧ (¬ ((σ 66 x2.toNatClampNeg) ≤ 0) → ∃ v5 σ5, sj_C G 3 me_L_holds [.ref (sj_ad G 56), .int x2] σ (.ok v5, σ5) ∧ ((v5 = 0) → vp_in x2 12) ∧ (wp_L_cost_85 G R x2 (if v5 = 0 then (σ5 66 x2.toNatClampNeg) else (nI 0)) x1 σ5)))
set_option maxRecDepth 20000 in
theorem t_L_cost_49 {G : sj_G} {R : sj_R} {x1 : Int32} {x2 : Int32} {σ : sj_S} (h : wp_L_cost_49 G R x1 x2 σ) : sj_J G 4 me_L_cost R 49 [.ref (sj_ad G 56), .int x1, .int x2] σ [] := by
  unfold wp_L_cost_49 at h
  refine sj_iload_n dL_cost_49 (i := 2) rfl rfl ?_
  refine sj_aload_n dL_cost_50 (i := 0) rfl rfl ?_
  refine sj_get (a := 56) (k9 := 14) (v := .int (σ 56 14)) dL_cost_51 (by decide +kernel) rfl ?_
  refine sj_icmp_ge (tgt := 93) dL_cost_54 (by decide) (fun c1 => ?_) (fun c1 => ?_)
  · replace h := h.1 c1
    refine sj_iload_n dL_cost_93 (i := 1) rfl rfl ?_
    subst h
    exact sj_ret dL_cost_94 rfl rfl
  · replace h := h.2 c1
    refine sj_iload_n dL_cost_57 (i := 1) rfl rfl ?_
    refine sj_aload_n dL_cost_58 (i := 0) rfl rfl ?_
    refine sj_get (a := 56) (k9 := 11) (v := .ref (sj_ad G 66)) dL_cost_59 (by decide +kernel) rfl ?_
    refine sj_iload_n dL_cost_62 (i := 2) rfl rfl ?_
    obtain ⟨b2, h⟩ := h
    refine sj_iald (a := 66) (j := x2.toNatClampNeg) (x := (σ 66 x2.toNatClampNeg)) dL_cost_63 rfl (by decide +kernel) b2 rfl rfl ?_
    refine sj_if_le (tgt := 84) dL_cost_64 (by decide) (fun c4 => ?_) (fun c4 => ?_)
    · replace h := h.1 c4
      refine sj_fg [1] ?_
      exact t_L_cost_84 h
    · replace h := h.2 c4
      refine sj_aload_n dL_cost_67 (i := 0) rfl rfl ?_
      refine sj_iload_n dL_cost_68 (i := 2) rfl rfl ?_
      obtain ⟨v5, σ5, hc5, h⟩ := h
      refine sj_callVi (M' := me_L_holds) (b := 56) (As := [.int x2]) (rest := [.int x1]) dL_cost_69 gL_cost_L_holds rfl hd_L_holds (by decide +kernel) (by decide +kernel) rfl (Nat.le_of_ble_eq_true rfl) (by omega) rfl hc5 ?_
      obtain ⟨f8, h⟩ := h
      refine sj_if_ne (tgt := 84) dL_cost_72 (by decide) (fun c6 => ?_) (fun c6 => ?_)
      · refine sj_iconst (v := (nI 0)) dL_cost_84 (by decide +kernel) ?_
        try simp only [if_neg c6] at h
        refine sj_fg [1] ?_
        exact t_L_cost_85 h
      · have b7 := f8 c6
        refine sj_aload_n dL_cost_75 (i := 0) rfl rfl ?_
        refine sj_get (a := 56) (k9 := 11) (v := .ref (sj_ad G 66)) dL_cost_76 (by decide +kernel) rfl ?_
        refine sj_iload_n dL_cost_79 (i := 2) rfl rfl ?_
        refine sj_iald (a := 66) (j := x2.toNatClampNeg) (x := (σ5 66 x2.toNatClampNeg)) dL_cost_80 rfl (by decide +kernel) b7 rfl rfl ?_
        refine sj_goto (tgt := 85) dL_cost_81 (by decide) ?_
        try simp only [if_pos c6] at h
        refine sj_fg [1] ?_
        exact t_L_cost_85 h
def wp_L_cost_0 (G : sj_G) (R : sj_R) (σ : sj_S) : Prop := sj_J G 4 me_L_cost R 4 [.ref (sj_ad G 56), .int (nI 0), .int (nI 0)] σ []
set_option maxRecDepth 20000 in
theorem t_L_cost_0 {G : sj_G} {R : sj_R} {σ : sj_S} (h : wp_L_cost_0 G R σ) : sj_J G 4 me_L_cost R 0 [.ref (sj_ad G 56), .null, .null] σ [] := by
  unfold wp_L_cost_0 at h
  refine sj_iconst (v := (nI 0)) dL_cost_0 (by decide +kernel) ?_
  refine sj_istore_n dL_cost_1 (i := 1) rfl (by decide) ?_
  refine sj_iconst (v := (nI 0)) dL_cost_2 (by decide +kernel) ?_
  refine sj_istore_n dL_cost_3 (i := 2) rfl (by decide) ?_
  exact h
theorem c_L_cost {G : sj_G} (ok : sj_ok G) {R : sj_R} {σ : sj_S} (h : wp_L_cost_0 G R σ) : sj_C G 4 me_L_cost [.ref (sj_ad G 56)] σ R :=
  sj_enter ok (by decide +kernel) rfl rfl (Nat.le_of_ble_eq_true rfl) (by simp [Value.category]) (t_L_cost_0 h)
def wp_L_looks_2 (G : sj_G) (R : sj_R) (x1 : Int32) (σ : sj_S) : Prop := ((σ 56 13) ≤ x1 → R = (.ok 0, σ)) ∧ (¬ ((σ 56 13) ≤ x1) → ∃ v2 σ2, sj_C G 10 me_X11_slotOf [.ref (sj_ad G 0), .int x1] σ (.ok v2, σ2) ∧ vp_in x1 9 ∧ sj_J G 11 me_L_looks R 2 [.ref (sj_ad G 56), .int (x1 + (nI 1))] (sj_st σ2 62 x1.toNatClampNeg v2) [])
set_option maxRecDepth 20000 in
theorem t_L_looks_2 {G : sj_G} {R : sj_R} {x1 : Int32} {σ : sj_S} (hO : sj_ad G 70 = sj_ad G 0) (h : wp_L_looks_2 G R x1 σ) : sj_J G 11 me_L_looks R 2 [.ref (sj_ad G 56), .int x1] σ [] := by
  unfold wp_L_looks_2 at h
  refine sj_iload_n dL_looks_2 (i := 1) rfl rfl ?_
  refine sj_aload_n dL_looks_3 (i := 0) rfl rfl ?_
  refine sj_get (a := 56) (k9 := 13) (v := .int (σ 56 13)) dL_looks_4 (by decide +kernel) rfl ?_
  refine sj_icmp_ge (tgt := 30) dL_looks_7 (by decide) (fun c1 => ?_) (fun c1 => ?_)
  · replace h := h.1 c1
    subst h
    exact sj_vret dL_looks_30 rfl
  · replace h := h.2 c1
    refine sj_aload_n dL_looks_10 (i := 0) rfl rfl ?_
    refine sj_get (a := 56) (k9 := 7) (v := .ref (sj_ad G 62)) dL_looks_11 (by decide +kernel) rfl ?_
    refine sj_iload_n dL_looks_14 (i := 1) rfl rfl ?_
    refine sj_aload_n dL_looks_15 (i := 0) rfl rfl ?_
    refine sj_getO hO (a := 56) (k9 := 1) dL_looks_16 (by decide +kernel) rfl ?_
    refine sj_iload_n dL_looks_19 (i := 1) rfl rfl ?_
    obtain ⟨v2, σ2, hc2, h⟩ := h
    refine sj_callVi (M' := me_X11_slotOf) (b := 0) (As := [.int x1]) (rest := [.int x1, .ref (sj_ad G 62)]) dL_looks_20 gL_looks_X11_slotOf rfl hd_X11_slotOf (by decide +kernel) (by decide +kernel) rfl (Nat.le_of_ble_eq_true rfl) (by omega) rfl hc2 ?_
    obtain ⟨b3, h⟩ := h
    refine sj_iast (a := 62) (j := x1.toNatClampNeg) dL_looks_23 rfl (by decide +kernel) b3 rfl ?_
    refine sj_iinc (v := (x1 + (nI 1))) dL_looks_24 (by decide) rfl rfl ?_
    refine sj_goto (tgt := 2) dL_looks_27 (by decide) ?_
    exact h
def wp_L_looks_0 (G : sj_G) (R : sj_R) (σ : sj_S) : Prop := sj_J G 11 me_L_looks R 2 [.ref (sj_ad G 56), .int (nI 0)] σ []
set_option maxRecDepth 20000 in
theorem t_L_looks_0 {G : sj_G} {R : sj_R} {σ : sj_S} (hO : sj_ad G 70 = sj_ad G 0) (h : wp_L_looks_0 G R σ) : sj_J G 11 me_L_looks R 0 [.ref (sj_ad G 56), .null] σ [] := by
  unfold wp_L_looks_0 at h
  refine sj_iconst (v := (nI 0)) dL_looks_0 (by decide +kernel) ?_
  refine sj_istore_n dL_looks_1 (i := 1) rfl (by decide) ?_
  exact h
theorem c_L_looks {G : sj_G} (ok : sj_ok G) {R : sj_R} {σ : sj_S} (hO : sj_ad G 70 = sj_ad G 0) (h : wp_L_looks_0 G R σ) : sj_C G 11 me_L_looks [.ref (sj_ad G 56)] σ R :=
  sj_enter ok (by decide +kernel) rfl rfl (Nat.le_of_ble_eq_true rfl) (by simp [Value.category]) (t_L_looks_0 hO h)
def wp_L_tries_30 (G : sj_G) (R : sj_R) (s0 : Int32) (σ : sj_S) : Prop := sj_J G 5 me_L_tries R 33 [.ref (sj_ad G 56), .int s0, .int (nI 0), .null, .null] σ []
set_option maxRecDepth 20000 in
theorem t_L_tries_30 {G : sj_G} {R : sj_R} {s0 : Int32} {σ : sj_S} (h : wp_L_tries_30 G R s0 σ) : sj_J G 5 me_L_tries R 30 [.ref (sj_ad G 56), .null, .null, .null, .null] σ [.int s0] := by
  unfold wp_L_tries_30 at h
  refine sj_istore_n dL_tries_30 (i := 1) rfl (by decide) ?_
  refine sj_iconst (v := (nI 0)) dL_tries_31 (by decide +kernel) ?_
  refine sj_istore_n dL_tries_32 (i := 2) rfl (by decide) ?_
  exact h
def wp_L_tries_33 (G : sj_G) (R : sj_R) (x1 : Int32) (x2 : Int32) (σ : sj_S) : Prop := (x1 ≤ x2 → R = (.ok (nI 0), σ)) ∧ (¬ (x1 ≤ x2) → sj_J G 5 me_L_tries R 48 [.ref (sj_ad G 56), .int x1, .int x2, .int x2, .int ((σ 56 13) - (nI 1))] σ [])
set_option maxRecDepth 20000 in
theorem t_L_tries_33 {G : sj_G} {R : sj_R} {x1 : Int32} {x2 : Int32} {σ : sj_S} (h : wp_L_tries_33 G R x1 x2 σ) : sj_J G 5 me_L_tries R 33 [.ref (sj_ad G 56), .int x1, .int x2, .null, .null] σ [] := by
  unfold wp_L_tries_33 at h
  refine sj_iload_n dL_tries_33 (i := 2) rfl rfl ?_
  refine sj_iload_n dL_tries_34 (i := 1) rfl rfl ?_
  refine sj_icmp_ge (tgt := 90) dL_tries_35 (by decide) (fun c1 => ?_) (fun c1 => ?_)
  · replace h := h.1 c1
    refine sj_iconst (v := (nI 0)) dL_tries_90 (by decide +kernel) ?_
    subst h
    exact sj_ret dL_tries_91 rfl rfl
  · replace h := h.2 c1
    refine sj_iload_n dL_tries_38 (i := 2) rfl rfl ?_
    refine sj_istore_n dL_tries_39 (i := 3) rfl (by decide) ?_
    refine sj_aload_n dL_tries_40 (i := 0) rfl rfl ?_
    refine sj_get (a := 56) (k9 := 13) (v := .int (σ 56 13)) dL_tries_41 (by decide +kernel) rfl ?_
    refine sj_iconst (v := (nI 1)) dL_tries_44 (by decide +kernel) ?_
    refine sj_isub dL_tries_45 ?_
    refine sj_istore dL_tries_46 (by decide) ?_
    exact h
def wp_L_tries_48 (G : sj_G) (R : sj_R) (x1 : Int32) (x2 : Int32) (x3 : Int32) (x4 : Int32) (σ : sj_S) : Prop := (x4 < 0 → ∃ v2 σ2, sj_C G 4 me_L_isGood [.ref (sj_ad G 56)] σ (.ok v2, σ2) ∧ (v2 = 0 → sj_J G 5 me_L_tries R 33 [.ref (sj_ad G 56), .int x1, .int (x2 + (nI 1)), .null, .null] σ2 []) ∧ (¬ (v2 = 0) → R = (.ok (nI 1), σ2))) ∧ (¬ (x4 < 0) → vp_in x4 9 ∧ sj_J G 5 me_L_tries R 48 [.ref (sj_ad G 56), .int x1, .int x2, .int (x3 / (nI 20)), .int (x4 + (-1))] (sj_st σ 62 x4.toNatClampNeg (x3 - x3 / (nI 20) * (nI 20))) [])
set_option maxRecDepth 20000 in
theorem t_L_tries_48 {G : sj_G} {R : sj_R} {x1 : Int32} {x2 : Int32} {x3 : Int32} {x4 : Int32} {σ : sj_S} (h : wp_L_tries_48 G R x1 x2 x3 x4 σ) : sj_J G 5 me_L_tries R 48 [.ref (sj_ad G 56), .int x1, .int x2, .int x3, .int x4] σ [] := by
  unfold wp_L_tries_48 at h
  refine sj_iload dL_tries_48 rfl ?_
  refine sj_if_lt (tgt := 75) dL_tries_50 (by decide) (fun c1 => ?_) (fun c1 => ?_)
  · replace h := h.1 c1
    refine sj_aload_n dL_tries_75 (i := 0) rfl rfl ?_
    obtain ⟨v2, σ2, hc2, h⟩ := h
    refine sj_callVi (M' := me_L_isGood) (b := 56) (As := []) (rest := []) dL_tries_76 gL_tries_L_isGood rfl hd_L_isGood (by decide +kernel) (by decide +kernel) rfl (Nat.le_of_ble_eq_true rfl) (by omega) rfl hc2 ?_
    refine sj_if_eq (tgt := 84) dL_tries_79 (by decide) (fun c3 => ?_) (fun c3 => ?_)
    · replace h := h.1 c3
      refine sj_iinc (v := (x2 + (nI 1))) dL_tries_84 (by decide) rfl rfl ?_
      refine sj_goto (tgt := 33) dL_tries_87 (by decide) ?_
      refine sj_fg [3, 4] ?_
      exact h
    · replace h := h.2 c3
      refine sj_iconst (v := (nI 1)) dL_tries_82 (by decide +kernel) ?_
      subst h
      exact sj_ret dL_tries_83 rfl rfl
  · replace h := h.2 c1
    refine sj_aload_n dL_tries_53 (i := 0) rfl rfl ?_
    refine sj_get (a := 56) (k9 := 7) (v := .ref (sj_ad G 62)) dL_tries_54 (by decide +kernel) rfl ?_
    refine sj_iload dL_tries_57 rfl ?_
    refine sj_iload_n dL_tries_59 (i := 3) rfl rfl ?_
    refine sj_bipush (v := (nI 20)) dL_tries_60 (by decide +kernel) ?_
    refine sj_irem dL_tries_62 (by decide +kernel) ?_
    obtain ⟨b4, h⟩ := h
    refine sj_iast (a := 62) (j := x4.toNatClampNeg) dL_tries_63 rfl (by decide +kernel) b4 rfl ?_
    refine sj_iload_n dL_tries_64 (i := 3) rfl rfl ?_
    refine sj_bipush (v := (nI 20)) dL_tries_65 (by decide +kernel) ?_
    refine sj_idiv dL_tries_67 (by decide +kernel) ?_
    refine sj_istore_n dL_tries_68 (i := 3) rfl (by decide) ?_
    refine sj_iinc (v := (x4 + (-1))) dL_tries_69 (by decide) rfl rfl ?_
    refine sj_goto (tgt := 48) dL_tries_72 (by decide) ?_
    exact h
def wp_L_tries_0 (G : sj_G) (R : sj_R) (σ : sj_S) : Prop := (wp_L_tries_30 G R (if (σ 56 13) = (nI 1) then (nI 20) else (if (σ 56 13) = (nI 2) then (nI 400) else (nI 8000))) σ)
set_option maxRecDepth 20000 in
theorem t_L_tries_0 {G : sj_G} {R : sj_R} {σ : sj_S} (h : wp_L_tries_0 G R σ) : sj_J G 5 me_L_tries R 0 [.ref (sj_ad G 56), .null, .null, .null, .null] σ [] := by
  unfold wp_L_tries_0 at h
  refine sj_aload_n dL_tries_0 (i := 0) rfl rfl ?_
  refine sj_get (a := 56) (k9 := 13) (v := .int (σ 56 13)) dL_tries_1 (by decide +kernel) rfl ?_
  refine sj_iconst (v := (nI 1)) dL_tries_4 (by decide +kernel) ?_
  refine sj_icmp_ne (tgt := 13) dL_tries_5 (by decide) (fun c1 => ?_) (fun c1 => ?_)
  · refine sj_aload_n dL_tries_13 (i := 0) rfl rfl ?_
    refine sj_get (a := 56) (k9 := 13) (v := .int (σ 56 13)) dL_tries_14 (by decide +kernel) rfl ?_
    refine sj_iconst (v := (nI 2)) dL_tries_17 (by decide +kernel) ?_
    refine sj_icmp_ne (tgt := 27) dL_tries_18 (by decide) (fun c2 => ?_) (fun c2 => ?_)
    · refine sj_sipush (v := (nI 8000)) dL_tries_27 (by decide +kernel) ?_
      try simp only [if_neg c1, if_neg c2] at h
      exact t_L_tries_30 h
    · refine sj_sipush (v := (nI 400)) dL_tries_21 (by decide +kernel) ?_
      refine sj_goto (tgt := 30) dL_tries_24 (by decide) ?_
      try simp only [if_neg c1, if_pos c2] at h
      exact t_L_tries_30 h
  · refine sj_bipush (v := (nI 20)) dL_tries_8 (by decide +kernel) ?_
    refine sj_goto (tgt := 30) dL_tries_10 (by decide) ?_
    try simp only [if_pos c1] at h
    exact t_L_tries_30 h
theorem c_L_tries {G : sj_G} (ok : sj_ok G) {R : sj_R} {σ : sj_S} (h : wp_L_tries_0 G R σ) : sj_C G 5 me_L_tries [.ref (sj_ad G 56)] σ R :=
  sj_enter ok (by decide +kernel) rfl rfl (Nat.le_of_ble_eq_true rfl) (by simp [Value.category]) (t_L_tries_0 h)
def wp_L_isFound_52 (G : sj_G) (R : sj_R) (s0 : Int32) (σ : sj_S) : Prop := R = (.ok s0, σ) ∧ (s0 = nI 0 ∨ s0 = nI 1)
set_option maxRecDepth 20000 in
theorem t_L_isFound_52 {G : sj_G} {R : sj_R} {s0 : Int32} {σ : sj_S} (hO : sj_ad G 70 = sj_ad G 0) (h : wp_L_isFound_52 G R s0 σ) : sj_J G 125 me_L_isFound R 52 [.null, .null, .null] σ [.int s0] := by
  unfold wp_L_isFound_52 at h
  obtain ⟨h, hz⟩ := h
  subst h
  exact sj_ret dL_isFound_52 rfl (sj_nb hz)
def wp_L_isFound_51 (G : sj_G) (R : sj_R) (σ : sj_S) : Prop := (wp_L_isFound_52 G R (nI 0) σ)
set_option maxRecDepth 20000 in
theorem t_L_isFound_51 {G : sj_G} {R : sj_R} {σ : sj_S} (hO : sj_ad G 70 = sj_ad G 0) (h : wp_L_isFound_51 G R σ) : sj_J G 125 me_L_isFound R 51 [.null, .null, .null] σ [] := by
  unfold wp_L_isFound_51 at h
  refine sj_iconst (v := (nI 0)) dL_isFound_51 (by decide +kernel) ?_
  exact t_L_isFound_52 hO h
def wp_L_isFound_26 (G : sj_G) (R : sj_R) (x1 : Int32) (σ : sj_S) : Prop := (¬ x1 = 0 → sj_J G 125 me_L_isFound R 55 [.ref (sj_ad G 56), .null, .int (nI 0)] σ []) ∧ (x1 = 0 → ∃ v2 σ2, sj_C G 3 me_X11_checksum [.ref (sj_ad G 0)] σ (.ok v2, σ2) ∧ (¬ v2 = 0 → (wp_L_isFound_51 G R σ2)) ∧ (v2 = 0 → ∃ v5 σ5, sj_C G 124 me_L_isProved [.ref (sj_ad G 56)] σ2 (.ok v5, σ5) ∧ (wp_L_isFound_52 G R (if v5 = 0 then (nI 0) else (nI 1)) σ5)))
set_option maxRecDepth 20000 in
theorem t_L_isFound_26 {G : sj_G} {R : sj_R} {x1 : Int32} {σ : sj_S} (hO : sj_ad G 70 = sj_ad G 0) (h : wp_L_isFound_26 G R x1 σ) : sj_J G 125 me_L_isFound R 26 [.ref (sj_ad G 56), .int x1, .null] σ [] := by
  unfold wp_L_isFound_26 at h
  refine sj_iload_n dL_isFound_26 (i := 1) rfl rfl ?_
  refine sj_if_ne (tgt := 53) dL_isFound_27 (by decide) (fun c1 => ?_) (fun c1 => ?_)
  · replace h := h.1 c1
    refine sj_iconst (v := (nI 0)) dL_isFound_53 (by decide +kernel) ?_
    refine sj_istore_n dL_isFound_54 (i := 2) rfl (by decide) ?_
    refine sj_fg [1] ?_
    exact h
  · replace h := h.2 c1
    refine sj_aload_n dL_isFound_30 (i := 0) rfl rfl ?_
    refine sj_getO hO (a := 56) (k9 := 1) dL_isFound_31 (by decide +kernel) rfl ?_
    obtain ⟨v2, σ2, hc2, h⟩ := h
    refine sj_callVi (M' := me_X11_checksum) (b := 0) (As := []) (rest := []) dL_isFound_34 gL_isFound_X11_checksum rfl hd_X11_checksum (by decide +kernel) (by decide +kernel) rfl (Nat.le_of_ble_eq_true rfl) (by omega) rfl hc2 ?_
    refine sj_if_ne (tgt := 51) dL_isFound_37 (by decide) (fun c4 => ?_) (fun c4 => ?_)
    · replace h := h.1 c4
      refine sj_fg [0, 1] ?_
      exact t_L_isFound_51 hO h
    · replace h := h.2 c4
      refine sj_aload_n dL_isFound_40 (i := 0) rfl rfl ?_
      obtain ⟨v5, σ5, hc5, h⟩ := h
      refine sj_callVi (M' := me_L_isProved) (b := 56) (As := []) (rest := []) dL_isFound_41 gL_isFound_L_isProved rfl hd_L_isProved (by decide +kernel) (by decide +kernel) rfl (Nat.le_of_ble_eq_true rfl) (by omega) rfl hc5 ?_
      refine sj_if_eq (tgt := 51) dL_isFound_44 (by decide) (fun c6 => ?_) (fun c6 => ?_)
      · refine sj_iconst (v := (nI 0)) dL_isFound_51 (by decide +kernel) ?_
        try simp only [if_pos c6] at h
        refine sj_fg [0, 1] ?_
        exact t_L_isFound_52 hO h
      · refine sj_iconst (v := (nI 1)) dL_isFound_47 (by decide +kernel) ?_
        refine sj_goto (tgt := 52) dL_isFound_48 (by decide) ?_
        try simp only [if_neg c6] at h
        refine sj_fg [0, 1] ?_
        exact t_L_isFound_52 hO h
def wp_L_isFound_165 (G : sj_G) (R : sj_R) (s0 : Int32) (σ : sj_S) : Prop := R = (.ok s0, σ) ∧ (s0 = nI 0 ∨ s0 = nI 1)
set_option maxRecDepth 20000 in
theorem t_L_isFound_165 {G : sj_G} {R : sj_R} {s0 : Int32} {σ : sj_S} (hO : sj_ad G 70 = sj_ad G 0) (h : wp_L_isFound_165 G R s0 σ) : sj_J G 125 me_L_isFound R 165 [.null, .null, .null] σ [.int s0] := by
  unfold wp_L_isFound_165 at h
  obtain ⟨h, hz⟩ := h
  subst h
  exact sj_ret dL_isFound_165 rfl (sj_nb hz)
def wp_L_isFound_164 (G : sj_G) (R : sj_R) (σ : sj_S) : Prop := (wp_L_isFound_165 G R (nI 0) σ)
set_option maxRecDepth 20000 in
theorem t_L_isFound_164 {G : sj_G} {R : sj_R} {σ : sj_S} (hO : sj_ad G 70 = sj_ad G 0) (h : wp_L_isFound_164 G R σ) : sj_J G 125 me_L_isFound R 164 [.null, .null, .null] σ [] := by
  unfold wp_L_isFound_164 at h
  refine sj_iconst (v := (nI 0)) dL_isFound_164 (by decide +kernel) ?_
  exact t_L_isFound_165 hO h
def wp_L_isFound_96 (G : sj_G) (R : sj_R) (σ : sj_S) : Prop := ∃ σ1, sj_C G 11 me_L_looks [.ref (sj_ad G 56)] σ (.ok 0, σ1) ∧ ∃ v2 σ2, sj_C G 4 me_L_isGood [.ref (sj_ad G 56)] σ1 (.ok v2, σ2) ∧ (v2 = 0 → (wp_L_isFound_164 G R σ2)) ∧ (¬ (v2 = 0) → ∃ v5 σ5, sj_C G 2 me_X11_proof [.ref (sj_ad G 0)] σ2 (.ok v5, σ5) ∧ (¬ v5 = (-1) → (wp_L_isFound_164 G R σ5)) ∧ (v5 = (-1) → ∃ v8 σ8, sj_C G 10 me_X11_cost [.ref (sj_ad G 0)] σ5 (.ok v8, σ8) ∧ ∃ v9 σ9, sj_C G 4 me_L_cost [.ref (sj_ad G 56)] σ8 (.ok v9, σ9) ∧ (¬ v8 = v9 → (wp_L_isFound_164 G R σ9)) ∧ (v8 = v9 → ∃ v12 σ12, sj_C G 11 me_L_areRooms [.ref (sj_ad G 56)] σ9 (.ok v12, σ12) ∧ (v12 = 0 → (wp_L_isFound_164 G R σ12)) ∧ (¬ (v12 = 0) → ∃ v15 σ15, sj_C G 13 me_L_areChoices [.ref (sj_ad G 56)] σ12 (.ok v15, σ15) ∧ (v15 = 0 → (wp_L_isFound_164 G R σ15)) ∧ (¬ (v15 = 0) → ∃ v18 σ18, sj_C G 12 me_L_isImproved [.ref (sj_ad G 56)] σ15 (.ok v18, σ18) ∧ (v18 = 0 → (wp_L_isFound_164 G R σ18)) ∧ (¬ (v18 = 0) → ∃ v21 σ21, sj_C G 45 me_L_isTold [.ref (sj_ad G 56)] σ18 (.ok v21, σ21) ∧ (wp_L_isFound_165 G R (if v21 = 0 then (nI 0) else (nI 1)) σ21)))))))
set_option maxRecDepth 20000 in
theorem t_L_isFound_96 {G : sj_G} {R : sj_R} {σ : sj_S} (hO : sj_ad G 70 = sj_ad G 0) (h : wp_L_isFound_96 G R σ) : sj_J G 125 me_L_isFound R 96 [.ref (sj_ad G 56), .null, .null] σ [] := by
  unfold wp_L_isFound_96 at h
  refine sj_aload_n dL_isFound_96 (i := 0) rfl rfl ?_
  obtain ⟨σ1, hc1, h⟩ := h
  refine sj_callVv (M' := me_L_looks) (b := 56) (As := []) (rest := []) dL_isFound_97 gL_isFound_L_looks rfl hd_L_looks (by decide +kernel) (by decide +kernel) rfl (Nat.le_of_ble_eq_true rfl) (by omega) rfl hc1 ?_
  refine sj_aload_n dL_isFound_100 (i := 0) rfl rfl ?_
  obtain ⟨v2, σ2, hc2, h⟩ := h
  refine sj_callVi (M' := me_L_isGood) (b := 56) (As := []) (rest := []) dL_isFound_101 gL_isFound_L_isGood rfl hd_L_isGood (by decide +kernel) (by decide +kernel) rfl (Nat.le_of_ble_eq_true rfl) (by omega) rfl hc2 ?_
  refine sj_if_eq (tgt := 164) dL_isFound_104 (by decide) (fun c4 => ?_) (fun c4 => ?_)
  · replace h := h.1 c4
    refine sj_fg [0] ?_
    exact t_L_isFound_164 hO h
  · replace h := h.2 c4
    refine sj_aload_n dL_isFound_107 (i := 0) rfl rfl ?_
    refine sj_getO hO (a := 56) (k9 := 1) dL_isFound_108 (by decide +kernel) rfl ?_
    obtain ⟨v5, σ5, hc5, h⟩ := h
    refine sj_callVi (M' := me_X11_proof) (b := 0) (As := []) (rest := []) dL_isFound_111 gL_isFound_X11_proof rfl hd_X11_proof (by decide +kernel) (by decide +kernel) rfl (Nat.le_of_ble_eq_true rfl) (by omega) rfl hc5 ?_
    refine sj_iconst (v := (-1)) dL_isFound_114 (by decide +kernel) ?_
    refine sj_icmp_ne (tgt := 164) dL_isFound_115 (by decide) (fun c7 => ?_) (fun c7 => ?_)
    · replace h := h.1 c7
      refine sj_fg [0] ?_
      exact t_L_isFound_164 hO h
    · replace h := h.2 c7
      refine sj_aload_n dL_isFound_118 (i := 0) rfl rfl ?_
      refine sj_getO hO (a := 56) (k9 := 1) dL_isFound_119 (by decide +kernel) rfl ?_
      obtain ⟨v8, σ8, hc8, h⟩ := h
      refine sj_callVi (M' := me_X11_cost) (b := 0) (As := []) (rest := []) dL_isFound_122 gL_isFound_X11_cost rfl hd_X11_cost (by decide +kernel) (by decide +kernel) rfl (Nat.le_of_ble_eq_true rfl) (by omega) rfl hc8 ?_
      refine sj_aload_n dL_isFound_125 (i := 0) rfl rfl ?_
      obtain ⟨v9, σ9, hc9, h⟩ := h
      refine sj_callVi (M' := me_L_cost) (b := 56) (As := []) (rest := [.int v8]) dL_isFound_126 gL_isFound_L_cost rfl hd_L_cost (by decide +kernel) (by decide +kernel) rfl (Nat.le_of_ble_eq_true rfl) (by omega) rfl hc9 ?_
      refine sj_icmp_ne (tgt := 164) dL_isFound_129 (by decide) (fun c11 => ?_) (fun c11 => ?_)
      · replace h := h.1 c11
        refine sj_fg [0] ?_
        exact t_L_isFound_164 hO h
      · replace h := h.2 c11
        refine sj_aload_n dL_isFound_132 (i := 0) rfl rfl ?_
        obtain ⟨v12, σ12, hc12, h⟩ := h
        refine sj_callVi (M' := me_L_areRooms) (b := 56) (As := []) (rest := []) dL_isFound_133 gL_isFound_L_areRooms rfl hd_L_areRooms (by decide +kernel) (by decide +kernel) rfl (Nat.le_of_ble_eq_true rfl) (by omega) rfl hc12 ?_
        refine sj_if_eq (tgt := 164) dL_isFound_136 (by decide) (fun c14 => ?_) (fun c14 => ?_)
        · replace h := h.1 c14
          refine sj_fg [0] ?_
          exact t_L_isFound_164 hO h
        · replace h := h.2 c14
          refine sj_aload_n dL_isFound_139 (i := 0) rfl rfl ?_
          obtain ⟨v15, σ15, hc15, h⟩ := h
          refine sj_callVi (M' := me_L_areChoices) (b := 56) (As := []) (rest := []) dL_isFound_140 gL_isFound_L_areChoices rfl hd_L_areChoices (by decide +kernel) (by decide +kernel) rfl (Nat.le_of_ble_eq_true rfl) (by omega) rfl hc15 ?_
          refine sj_if_eq (tgt := 164) dL_isFound_143 (by decide) (fun c17 => ?_) (fun c17 => ?_)
          · replace h := h.1 c17
            refine sj_fg [0] ?_
            exact t_L_isFound_164 hO h
          · replace h := h.2 c17
            refine sj_aload_n dL_isFound_146 (i := 0) rfl rfl ?_
            obtain ⟨v18, σ18, hc18, h⟩ := h
            refine sj_callVi (M' := me_L_isImproved) (b := 56) (As := []) (rest := []) dL_isFound_147 gL_isFound_L_isImproved rfl hd_L_isImproved (by decide +kernel) (by decide +kernel) rfl (Nat.le_of_ble_eq_true rfl) (by omega) rfl hc18 ?_
            refine sj_if_eq (tgt := 164) dL_isFound_150 (by decide) (fun c20 => ?_) (fun c20 => ?_)
            · replace h := h.1 c20
              refine sj_fg [0] ?_
              exact t_L_isFound_164 hO h
            · replace h := h.2 c20
              refine sj_aload_n dL_isFound_153 (i := 0) rfl rfl ?_
              obtain ⟨v21, σ21, hc21, h⟩ := h
              refine sj_callVi (M' := me_L_isTold) (b := 56) (As := []) (rest := []) dL_isFound_154 gL_isFound_L_isTold rfl hd_L_isTold (by decide +kernel) (by decide +kernel) rfl (Nat.le_of_ble_eq_true rfl) (by omega) rfl hc21 ?_
              refine sj_if_eq (tgt := 164) dL_isFound_157 (by decide) (fun c22 => ?_) (fun c22 => ?_)
              · refine sj_iconst (v := (nI 0)) dL_isFound_164 (by decide +kernel) ?_
                try simp only [if_pos c22] at h
                refine sj_fg [0] ?_
                exact t_L_isFound_165 hO h
              · refine sj_iconst (v := (nI 1)) dL_isFound_160 (by decide +kernel) ?_
                refine sj_goto (tgt := 165) dL_isFound_161 (by decide) ?_
                try simp only [if_neg c22] at h
                refine sj_fg [0] ?_
                exact t_L_isFound_165 hO h
def wp_L_isFound_55 (G : sj_G) (R : sj_R) (x2 : Int32) (σ : sj_S) : Prop := ((σ 56 13) ≤ x2 → (wp_L_isFound_96 G R σ)) ∧ (¬ ((σ 56 13) ≤ x2) → ((nI 4) ≤ (σ 56 13) → (wp_L_isFound_96 G R σ)) ∧ (¬ ((nI 4) ≤ (σ 56 13)) → ∃ v3 σ3, sj_C G 10 me_X11_slotOf [.ref (sj_ad G 0), .int x2] σ (.ok v3, σ3) ∧ vp_in x2 9 ∧ (v3 = (σ3 62 x2.toNatClampNeg) → sj_J G 125 me_L_isFound R 55 [.ref (sj_ad G 56), .null, .int (x2 + (nI 1))] σ3 []) ∧ (¬ (v3 = (σ3 62 x2.toNatClampNeg)) → R = (.ok (nI 0), σ3))))
set_option maxRecDepth 20000 in
theorem t_L_isFound_55 {G : sj_G} {R : sj_R} {x2 : Int32} {σ : sj_S} (hO : sj_ad G 70 = sj_ad G 0) (h : wp_L_isFound_55 G R x2 σ) : sj_J G 125 me_L_isFound R 55 [.ref (sj_ad G 56), .null, .int x2] σ [] := by
  unfold wp_L_isFound_55 at h
  refine sj_iload_n dL_isFound_55 (i := 2) rfl rfl ?_
  refine sj_aload_n dL_isFound_56 (i := 0) rfl rfl ?_
  refine sj_get (a := 56) (k9 := 13) (v := .int (σ 56 13)) dL_isFound_57 (by decide +kernel) rfl ?_
  refine sj_icmp_ge (tgt := 96) dL_isFound_60 (by decide) (fun c1 => ?_) (fun c1 => ?_)
  · replace h := h.1 c1
    refine sj_fg [2] ?_
    exact t_L_isFound_96 hO h
  · replace h := h.2 c1
    refine sj_aload_n dL_isFound_63 (i := 0) rfl rfl ?_
    refine sj_get (a := 56) (k9 := 13) (v := .int (σ 56 13)) dL_isFound_64 (by decide +kernel) rfl ?_
    refine sj_iconst (v := (nI 4)) dL_isFound_67 (by decide +kernel) ?_
    refine sj_icmp_ge (tgt := 96) dL_isFound_68 (by decide) (fun c2 => ?_) (fun c2 => ?_)
    · replace h := h.1 c2
      refine sj_fg [2] ?_
      exact t_L_isFound_96 hO h
    · replace h := h.2 c2
      refine sj_aload_n dL_isFound_71 (i := 0) rfl rfl ?_
      refine sj_getO hO (a := 56) (k9 := 1) dL_isFound_72 (by decide +kernel) rfl ?_
      refine sj_iload_n dL_isFound_75 (i := 2) rfl rfl ?_
      obtain ⟨v3, σ3, hc3, h⟩ := h
      refine sj_callVi (M' := me_X11_slotOf) (b := 0) (As := [.int x2]) (rest := []) dL_isFound_76 gL_isFound_X11_slotOf rfl hd_X11_slotOf (by decide +kernel) (by decide +kernel) rfl (Nat.le_of_ble_eq_true rfl) (by omega) rfl hc3 ?_
      refine sj_aload_n dL_isFound_79 (i := 0) rfl rfl ?_
      refine sj_get (a := 56) (k9 := 7) (v := .ref (sj_ad G 62)) dL_isFound_80 (by decide +kernel) rfl ?_
      refine sj_iload_n dL_isFound_83 (i := 2) rfl rfl ?_
      obtain ⟨b4, h⟩ := h
      refine sj_iald (a := 62) (j := x2.toNatClampNeg) (x := (σ3 62 x2.toNatClampNeg)) dL_isFound_84 rfl (by decide +kernel) b4 rfl rfl ?_
      refine sj_icmp_eq (tgt := 90) dL_isFound_85 (by decide) (fun c5 => ?_) (fun c5 => ?_)
      · replace h := h.1 c5
        refine sj_iinc (v := (x2 + (nI 1))) dL_isFound_90 (by decide) rfl rfl ?_
        refine sj_goto (tgt := 55) dL_isFound_93 (by decide) ?_
        exact h
      · replace h := h.2 c5
        refine sj_iconst (v := (nI 0)) dL_isFound_88 (by decide +kernel) ?_
        subst h
        exact sj_ret dL_isFound_89 rfl rfl
def wp_L_isFound_0 (G : sj_G) (R : sj_R) (σ : sj_S) : Prop := ∃ v1 σ1, sj_C G 123 me_X11_find [.ref (sj_ad G 0)] σ (.ok v1, σ1) ∧ ((nI 4) ≤ (σ1 56 13) → (wp_L_isFound_26 G R v1 σ1)) ∧ (¬ ((nI 4) ≤ (σ1 56 13)) → ∃ v3 σ3, sj_C G 5 me_L_tries [.ref (sj_ad G 56)] σ1 (.ok v3, σ3) ∧ (v3 = v1 → (wp_L_isFound_26 G R v1 σ3)) ∧ (¬ (v3 = v1) → R = (.ok (nI 0), σ3)))
set_option maxRecDepth 20000 in
theorem t_L_isFound_0 {G : sj_G} {R : sj_R} {σ : sj_S} (hO : sj_ad G 70 = sj_ad G 0) (h : wp_L_isFound_0 G R σ) : sj_J G 125 me_L_isFound R 0 [.ref (sj_ad G 56), .null, .null] σ [] := by
  unfold wp_L_isFound_0 at h
  refine sj_aload_n dL_isFound_0 (i := 0) rfl rfl ?_
  refine sj_getO hO (a := 56) (k9 := 1) dL_isFound_1 (by decide +kernel) rfl ?_
  obtain ⟨v1, σ1, hc1, h⟩ := h
  refine sj_callVi (M' := me_X11_find) (b := 0) (As := []) (rest := []) dL_isFound_4 gL_isFound_X11_find rfl hd_X11_find (by decide +kernel) (by decide +kernel) rfl (Nat.le_of_ble_eq_true rfl) (by omega) rfl hc1 ?_
  refine sj_istore_n dL_isFound_7 (i := 1) rfl (by decide) ?_
  refine sj_aload_n dL_isFound_8 (i := 0) rfl rfl ?_
  refine sj_get (a := 56) (k9 := 13) (v := .int (σ1 56 13)) dL_isFound_9 (by decide +kernel) rfl ?_
  refine sj_iconst (v := (nI 4)) dL_isFound_12 (by decide +kernel) ?_
  refine sj_icmp_ge (tgt := 26) dL_isFound_13 (by decide) (fun c2 => ?_) (fun c2 => ?_)
  · replace h := h.1 c2
    exact t_L_isFound_26 hO h
  · replace h := h.2 c2
    refine sj_aload_n dL_isFound_16 (i := 0) rfl rfl ?_
    obtain ⟨v3, σ3, hc3, h⟩ := h
    refine sj_callVi (M' := me_L_tries) (b := 56) (As := []) (rest := []) dL_isFound_17 gL_isFound_L_tries rfl hd_L_tries (by decide +kernel) (by decide +kernel) rfl (Nat.le_of_ble_eq_true rfl) (by omega) rfl hc3 ?_
    refine sj_iload_n dL_isFound_20 (i := 1) rfl rfl ?_
    refine sj_icmp_eq (tgt := 26) dL_isFound_21 (by decide) (fun c4 => ?_) (fun c4 => ?_)
    · replace h := h.1 c4
      exact t_L_isFound_26 hO h
    · replace h := h.2 c4
      refine sj_iconst (v := (nI 0)) dL_isFound_24 (by decide +kernel) ?_
      subst h
      exact sj_ret dL_isFound_25 rfl rfl
theorem c_L_isFound {G : sj_G} (ok : sj_ok G) {R : sj_R} {σ : sj_S} (hO : sj_ad G 70 = sj_ad G 0) (h : wp_L_isFound_0 G R σ) : sj_C G 125 me_L_isFound [.ref (sj_ad G 56)] σ R :=
  sj_enter ok (by decide +kernel) rfl rfl (Nat.le_of_ble_eq_true rfl) (by simp [Value.category]) (t_L_isFound_0 hO h)
def wp_L_areRooms_56 (G : sj_G) (R : sj_R) (σ : sj_S) : Prop := R = (.ok (nI 0), σ)
set_option maxRecDepth 20000 in
theorem t_L_areRooms_56 {G : sj_G} {R : sj_R} {σ : sj_S} (hO : sj_ad G 70 = sj_ad G 0) (h : wp_L_areRooms_56 G R σ) : sj_J G 11 me_L_areRooms R 56 [.null, .null, .null, .null, .null] σ [] := by
  unfold wp_L_areRooms_56 at h
  refine sj_iconst (v := (nI 0)) dL_areRooms_56 (by decide +kernel) ?_
  subst h
  exact sj_ret dL_areRooms_57 rfl rfl
def wp_L_areRooms_58 (G : sj_G) (R : sj_R) (x1 : Int32) (x2 : Int32) (σ : sj_S) : Prop := sj_J G 11 me_L_areRooms R 60 [.ref (sj_ad G 56), .int x1, .int x2, .int (nI 0), .null] σ []
set_option maxRecDepth 20000 in
theorem t_L_areRooms_58 {G : sj_G} {R : sj_R} {x1 : Int32} {x2 : Int32} {σ : sj_S} (hO : sj_ad G 70 = sj_ad G 0) (h : wp_L_areRooms_58 G R x1 x2 σ) : sj_J G 11 me_L_areRooms R 58 [.ref (sj_ad G 56), .int x1, .int x2, .null, .null] σ [] := by
  unfold wp_L_areRooms_58 at h
  refine sj_iconst (v := (nI 0)) dL_areRooms_58 (by decide +kernel) ?_
  refine sj_istore_n dL_areRooms_59 (i := 3) rfl (by decide) ?_
  exact h
def wp_L_areRooms_2 (G : sj_G) (R : sj_R) (x1 : Int32) (σ : sj_S) : Prop := ((σ 56 13) ≤ x1 → R = (.ok (nI 1), σ)) ∧ (¬ ((σ 56 13) ≤ x1) → ∃ v2 σ2, sj_C G 10 me_X11_roomOf [.ref (sj_ad G 0), .int x1] σ (.ok v2, σ2) ∧ vp_in x1 9 ∧ (¬ (σ2 60 x1.toNatClampNeg) = (-1) → (v2 < 0 → (wp_L_areRooms_56 G R σ2)) ∧ (¬ (v2 < 0) → vp_in x1 9 ∧ vp_in (σ2 60 x1.toNatClampNeg) 3 ∧ (v2 < (σ2 67 (σ2 60 x1.toNatClampNeg).toNatClampNeg) → (wp_L_areRooms_58 G R x1 v2 σ2)) ∧ (¬ (v2 < (σ2 67 (σ2 60 x1.toNatClampNeg).toNatClampNeg)) → (wp_L_areRooms_56 G R σ2)))) ∧ ((σ2 60 x1.toNatClampNeg) = (-1) → (v2 = (-1) → (wp_L_areRooms_58 G R x1 v2 σ2)) ∧ (¬ (v2 = (-1)) → (wp_L_areRooms_56 G R σ2))))
set_option maxRecDepth 20000 in
theorem t_L_areRooms_2 {G : sj_G} {R : sj_R} {x1 : Int32} {σ : sj_S} (hO : sj_ad G 70 = sj_ad G 0) (h : wp_L_areRooms_2 G R x1 σ) : sj_J G 11 me_L_areRooms R 2 [.ref (sj_ad G 56), .int x1, .null, .null, .null] σ [] := by
  unfold wp_L_areRooms_2 at h
  refine sj_iload_n dL_areRooms_2 (i := 1) rfl rfl ?_
  refine sj_aload_n dL_areRooms_3 (i := 0) rfl rfl ?_
  refine sj_get (a := 56) (k9 := 13) (v := .int (σ 56 13)) dL_areRooms_4 (by decide +kernel) rfl ?_
  refine sj_icmp_ge (tgt := 172) dL_areRooms_7 (by decide) (fun c1 => ?_) (fun c1 => ?_)
  · replace h := h.1 c1
    refine sj_iconst (v := (nI 1)) dL_areRooms_172 (by decide +kernel) ?_
    subst h
    exact sj_ret dL_areRooms_173 rfl rfl
  · replace h := h.2 c1
    refine sj_aload_n dL_areRooms_10 (i := 0) rfl rfl ?_
    refine sj_getO hO (a := 56) (k9 := 1) dL_areRooms_11 (by decide +kernel) rfl ?_
    refine sj_iload_n dL_areRooms_14 (i := 1) rfl rfl ?_
    obtain ⟨v2, σ2, hc2, h⟩ := h
    refine sj_callVi (M' := me_X11_roomOf) (b := 0) (As := [.int x1]) (rest := []) dL_areRooms_15 gL_areRooms_X11_roomOf rfl hd_X11_roomOf (by decide +kernel) (by decide +kernel) rfl (Nat.le_of_ble_eq_true rfl) (by omega) rfl hc2 ?_
    refine sj_istore_n dL_areRooms_18 (i := 2) rfl (by decide) ?_
    refine sj_aload_n dL_areRooms_19 (i := 0) rfl rfl ?_
    refine sj_get (a := 56) (k9 := 5) (v := .ref (sj_ad G 60)) dL_areRooms_20 (by decide +kernel) rfl ?_
    refine sj_iload_n dL_areRooms_23 (i := 1) rfl rfl ?_
    obtain ⟨b3, h⟩ := h
    refine sj_iald (a := 60) (j := x1.toNatClampNeg) (x := (σ2 60 x1.toNatClampNeg)) dL_areRooms_24 rfl (by decide +kernel) b3 rfl rfl ?_
    refine sj_iconst (v := (-1)) dL_areRooms_25 (by decide +kernel) ?_
    refine sj_icmp_ne (tgt := 37) dL_areRooms_26 (by decide) (fun c4 => ?_) (fun c4 => ?_)
    · replace h := h.1 c4
      refine sj_iload_n dL_areRooms_37 (i := 2) rfl rfl ?_
      refine sj_if_lt (tgt := 56) dL_areRooms_38 (by decide) (fun c5 => ?_) (fun c5 => ?_)
      · replace h := h.1 c5
        refine sj_fg [0, 1, 2] ?_
        exact t_L_areRooms_56 hO h
      · replace h := h.2 c5
        refine sj_iload_n dL_areRooms_41 (i := 2) rfl rfl ?_
        refine sj_aload_n dL_areRooms_42 (i := 0) rfl rfl ?_
        refine sj_get (a := 56) (k9 := 12) (v := .ref (sj_ad G 67)) dL_areRooms_43 (by decide +kernel) rfl ?_
        refine sj_aload_n dL_areRooms_46 (i := 0) rfl rfl ?_
        refine sj_get (a := 56) (k9 := 5) (v := .ref (sj_ad G 60)) dL_areRooms_47 (by decide +kernel) rfl ?_
        refine sj_iload_n dL_areRooms_50 (i := 1) rfl rfl ?_
        obtain ⟨b6, h⟩ := h
        refine sj_iald (a := 60) (j := x1.toNatClampNeg) (x := (σ2 60 x1.toNatClampNeg)) dL_areRooms_51 rfl (by decide +kernel) b6 rfl rfl ?_
        obtain ⟨b7, h⟩ := h
        refine sj_iald (a := 67) (j := (σ2 60 x1.toNatClampNeg).toNatClampNeg) (x := (σ2 67 (σ2 60 x1.toNatClampNeg).toNatClampNeg)) dL_areRooms_52 rfl (by decide +kernel) b7 rfl rfl ?_
        refine sj_icmp_lt (tgt := 58) dL_areRooms_53 (by decide) (fun c8 => ?_) (fun c8 => ?_)
        · replace h := h.1 c8
          exact t_L_areRooms_58 hO h
        · replace h := h.2 c8
          refine sj_fg [0, 1, 2] ?_
          exact t_L_areRooms_56 hO h
    · replace h := h.2 c4
      refine sj_iload_n dL_areRooms_29 (i := 2) rfl rfl ?_
      refine sj_iconst (v := (-1)) dL_areRooms_30 (by decide +kernel) ?_
      refine sj_icmp_eq (tgt := 58) dL_areRooms_31 (by decide) (fun c9 => ?_) (fun c9 => ?_)
      · replace h := h.1 c9
        exact t_L_areRooms_58 hO h
      · replace h := h.2 c9
        refine sj_goto (tgt := 56) dL_areRooms_34 (by decide) ?_
        refine sj_fg [0, 1, 2] ?_
        exact t_L_areRooms_56 hO h
def wp_L_areRooms_160 (G : sj_G) (R : sj_R) (x1 : Int32) (x2 : Int32) (x3 : Int32) (σ : sj_S) : Prop := sj_J G 11 me_L_areRooms R 60 [.ref (sj_ad G 56), .int x1, .int x2, .int (x3 + (nI 1)), .null] σ []
set_option maxRecDepth 20000 in
theorem t_L_areRooms_160 {G : sj_G} {R : sj_R} {x1 : Int32} {x2 : Int32} {x3 : Int32} {σ : sj_S} (hO : sj_ad G 70 = sj_ad G 0) (h : wp_L_areRooms_160 G R x1 x2 x3 σ) : sj_J G 11 me_L_areRooms R 160 [.ref (sj_ad G 56), .int x1, .int x2, .int x3, .null] σ [] := by
  unfold wp_L_areRooms_160 at h
  refine sj_iinc (v := (x3 + (nI 1))) dL_areRooms_160 (by decide) rfl rfl ?_
  refine sj_goto (tgt := 60) dL_areRooms_163 (by decide) ?_
  exact h
def wp_L_areRooms_114 (G : sj_G) (R : sj_R) (x1 : Int32) (x2 : Int32) (x3 : Int32) (s0 : Int32) (σ : sj_S) : Prop := vp_in x1 9 ∧ ((σ 60 x1.toNatClampNeg) = (-1) → (wp_L_areRooms_160 G R x1 x2 x3 σ)) ∧ (¬ ((σ 60 x1.toNatClampNeg) = (-1)) → vp_in x3 9 ∧ vp_in x1 9 ∧ (¬ (σ 60 x3.toNatClampNeg) = (σ 60 x1.toNatClampNeg) → (wp_L_areRooms_160 G R x1 x2 x3 σ)) ∧ ((σ 60 x3.toNatClampNeg) = (σ 60 x1.toNatClampNeg) → (s0 = 0 → (wp_L_areRooms_160 G R x1 x2 x3 σ)) ∧ (¬ (s0 = 0) → ∃ v7 σ7, sj_C G 10 me_X11_roomOf [.ref (sj_ad G 0), .int x3] σ (.ok v7, σ7) ∧ (¬ v7 = x2 → (wp_L_areRooms_160 G R x1 x2 x3 σ7)) ∧ (v7 = x2 → R = (.ok (nI 0), σ7)))))
set_option maxRecDepth 20000 in
theorem t_L_areRooms_114 {G : sj_G} {R : sj_R} {x1 : Int32} {x2 : Int32} {x3 : Int32} {s0 : Int32} {σ : sj_S} (hO : sj_ad G 70 = sj_ad G 0) (h : wp_L_areRooms_114 G R x1 x2 x3 s0 σ) : sj_J G 11 me_L_areRooms R 114 [.ref (sj_ad G 56), .int x1, .int x2, .int x3, .null] σ [.int s0] := by
  unfold wp_L_areRooms_114 at h
  refine sj_istore dL_areRooms_114 (by decide) ?_
  refine sj_aload_n dL_areRooms_116 (i := 0) rfl rfl ?_
  refine sj_get (a := 56) (k9 := 5) (v := .ref (sj_ad G 60)) dL_areRooms_117 (by decide +kernel) rfl ?_
  refine sj_iload_n dL_areRooms_120 (i := 1) rfl rfl ?_
  obtain ⟨b1, h⟩ := h
  refine sj_iald (a := 60) (j := x1.toNatClampNeg) (x := (σ 60 x1.toNatClampNeg)) dL_areRooms_121 rfl (by decide +kernel) b1 rfl rfl ?_
  refine sj_iconst (v := (-1)) dL_areRooms_122 (by decide +kernel) ?_
  refine sj_icmp_eq (tgt := 160) dL_areRooms_123 (by decide) (fun c2 => ?_) (fun c2 => ?_)
  · replace h := h.1 c2
    refine sj_fg [4] ?_
    exact t_L_areRooms_160 hO h
  · replace h := h.2 c2
    refine sj_aload_n dL_areRooms_126 (i := 0) rfl rfl ?_
    refine sj_get (a := 56) (k9 := 5) (v := .ref (sj_ad G 60)) dL_areRooms_127 (by decide +kernel) rfl ?_
    refine sj_iload_n dL_areRooms_130 (i := 3) rfl rfl ?_
    obtain ⟨b3, h⟩ := h
    refine sj_iald (a := 60) (j := x3.toNatClampNeg) (x := (σ 60 x3.toNatClampNeg)) dL_areRooms_131 rfl (by decide +kernel) b3 rfl rfl ?_
    refine sj_aload_n dL_areRooms_132 (i := 0) rfl rfl ?_
    refine sj_get (a := 56) (k9 := 5) (v := .ref (sj_ad G 60)) dL_areRooms_133 (by decide +kernel) rfl ?_
    refine sj_iload_n dL_areRooms_136 (i := 1) rfl rfl ?_
    obtain ⟨b4, h⟩ := h
    refine sj_iald (a := 60) (j := x1.toNatClampNeg) (x := (σ 60 x1.toNatClampNeg)) dL_areRooms_137 rfl (by decide +kernel) b4 rfl rfl ?_
    refine sj_icmp_ne (tgt := 160) dL_areRooms_138 (by decide) (fun c5 => ?_) (fun c5 => ?_)
    · replace h := h.1 c5
      refine sj_fg [4] ?_
      exact t_L_areRooms_160 hO h
    · replace h := h.2 c5
      refine sj_iload dL_areRooms_141 rfl ?_
      refine sj_if_eq (tgt := 160) dL_areRooms_143 (by decide) (fun c6 => ?_) (fun c6 => ?_)
      · replace h := h.1 c6
        refine sj_fg [4] ?_
        exact t_L_areRooms_160 hO h
      · replace h := h.2 c6
        refine sj_aload_n dL_areRooms_146 (i := 0) rfl rfl ?_
        refine sj_getO hO (a := 56) (k9 := 1) dL_areRooms_147 (by decide +kernel) rfl ?_
        refine sj_iload_n dL_areRooms_150 (i := 3) rfl rfl ?_
        obtain ⟨v7, σ7, hc7, h⟩ := h
        refine sj_callVi (M' := me_X11_roomOf) (b := 0) (As := [.int x3]) (rest := []) dL_areRooms_151 gL_areRooms_X11_roomOf rfl hd_X11_roomOf (by decide +kernel) (by decide +kernel) rfl (Nat.le_of_ble_eq_true rfl) (by omega) rfl hc7 ?_
        refine sj_iload_n dL_areRooms_154 (i := 2) rfl rfl ?_
        refine sj_icmp_ne (tgt := 160) dL_areRooms_155 (by decide) (fun c8 => ?_) (fun c8 => ?_)
        · replace h := h.1 c8
          refine sj_fg [4] ?_
          exact t_L_areRooms_160 hO h
        · replace h := h.2 c8
          refine sj_iconst (v := (nI 0)) dL_areRooms_158 (by decide +kernel) ?_
          subst h
          exact sj_ret dL_areRooms_159 rfl rfl
def wp_L_areRooms_60 (G : sj_G) (R : sj_R) (x1 : Int32) (x2 : Int32) (x3 : Int32) (σ : sj_S) : Prop := (x1 ≤ x3 → sj_J G 11 me_L_areRooms R 2 [.ref (sj_ad G 56), .int (x1 + (nI 1)), .null, .null, .null] σ []) ∧ (¬ (x1 ≤ x3) → vp_in x1 9 ∧ vp_in x3 9 ∧ vp_in x3 9 ∧ ((¬ (((σ 62 x3.toNatClampNeg) + (σ 61 x3.toNatClampNeg)) ≤ (σ 62 x1.toNatClampNeg))) → vp_in x3 9 ∧ vp_in x1 9 ∧ vp_in x1 9) ∧ (wp_L_areRooms_114 G R x1 x2 x3 (if ((σ 62 x3.toNatClampNeg) + (σ 61 x3.toNatClampNeg)) ≤ (σ 62 x1.toNatClampNeg) then (nI 0) else (if ((σ 62 x1.toNatClampNeg) + (σ 61 x1.toNatClampNeg)) ≤ (σ 62 x3.toNatClampNeg) then (nI 0) else (nI 1))) σ))
set_option maxRecDepth 20000 in
theorem t_L_areRooms_60 {G : sj_G} {R : sj_R} {x1 : Int32} {x2 : Int32} {x3 : Int32} {σ : sj_S} (hO : sj_ad G 70 = sj_ad G 0) (h : wp_L_areRooms_60 G R x1 x2 x3 σ) : sj_J G 11 me_L_areRooms R 60 [.ref (sj_ad G 56), .int x1, .int x2, .int x3, .null] σ [] := by
  unfold wp_L_areRooms_60 at h
  refine sj_iload_n dL_areRooms_60 (i := 3) rfl rfl ?_
  refine sj_iload_n dL_areRooms_61 (i := 1) rfl rfl ?_
  refine sj_icmp_ge (tgt := 166) dL_areRooms_62 (by decide) (fun c1 => ?_) (fun c1 => ?_)
  · replace h := h.1 c1
    refine sj_iinc (v := (x1 + (nI 1))) dL_areRooms_166 (by decide) rfl rfl ?_
    refine sj_goto (tgt := 2) dL_areRooms_169 (by decide) ?_
    refine sj_fg [2, 3] ?_
    exact h
  · replace h := h.2 c1
    refine sj_aload_n dL_areRooms_65 (i := 0) rfl rfl ?_
    refine sj_get (a := 56) (k9 := 7) (v := .ref (sj_ad G 62)) dL_areRooms_66 (by decide +kernel) rfl ?_
    refine sj_iload_n dL_areRooms_69 (i := 1) rfl rfl ?_
    obtain ⟨b2, h⟩ := h
    refine sj_iald (a := 62) (j := x1.toNatClampNeg) (x := (σ 62 x1.toNatClampNeg)) dL_areRooms_70 rfl (by decide +kernel) b2 rfl rfl ?_
    refine sj_aload_n dL_areRooms_71 (i := 0) rfl rfl ?_
    refine sj_get (a := 56) (k9 := 7) (v := .ref (sj_ad G 62)) dL_areRooms_72 (by decide +kernel) rfl ?_
    refine sj_iload_n dL_areRooms_75 (i := 3) rfl rfl ?_
    obtain ⟨b3, h⟩ := h
    refine sj_iald (a := 62) (j := x3.toNatClampNeg) (x := (σ 62 x3.toNatClampNeg)) dL_areRooms_76 rfl (by decide +kernel) b3 rfl rfl ?_
    refine sj_aload_n dL_areRooms_77 (i := 0) rfl rfl ?_
    refine sj_get (a := 56) (k9 := 6) (v := .ref (sj_ad G 61)) dL_areRooms_78 (by decide +kernel) rfl ?_
    refine sj_iload_n dL_areRooms_81 (i := 3) rfl rfl ?_
    obtain ⟨b4, h⟩ := h
    refine sj_iald (a := 61) (j := x3.toNatClampNeg) (x := (σ 61 x3.toNatClampNeg)) dL_areRooms_82 rfl (by decide +kernel) b4 rfl rfl ?_
    refine sj_iadd dL_areRooms_83 ?_
    obtain ⟨f10, h⟩ := h
    refine sj_icmp_ge (tgt := 113) dL_areRooms_84 (by decide) (fun c5 => ?_) (fun c5 => ?_)
    · refine sj_iconst (v := (nI 0)) dL_areRooms_113 (by decide +kernel) ?_
      try simp only [if_pos c5] at h
      exact t_L_areRooms_114 hO h
    · obtain ⟨b6, b7, b8⟩ := f10 c5
      refine sj_aload_n dL_areRooms_87 (i := 0) rfl rfl ?_
      refine sj_get (a := 56) (k9 := 7) (v := .ref (sj_ad G 62)) dL_areRooms_88 (by decide +kernel) rfl ?_
      refine sj_iload_n dL_areRooms_91 (i := 3) rfl rfl ?_
      refine sj_iald (a := 62) (j := x3.toNatClampNeg) (x := (σ 62 x3.toNatClampNeg)) dL_areRooms_92 rfl (by decide +kernel) b6 rfl rfl ?_
      refine sj_aload_n dL_areRooms_93 (i := 0) rfl rfl ?_
      refine sj_get (a := 56) (k9 := 7) (v := .ref (sj_ad G 62)) dL_areRooms_94 (by decide +kernel) rfl ?_
      refine sj_iload_n dL_areRooms_97 (i := 1) rfl rfl ?_
      refine sj_iald (a := 62) (j := x1.toNatClampNeg) (x := (σ 62 x1.toNatClampNeg)) dL_areRooms_98 rfl (by decide +kernel) b7 rfl rfl ?_
      refine sj_aload_n dL_areRooms_99 (i := 0) rfl rfl ?_
      refine sj_get (a := 56) (k9 := 6) (v := .ref (sj_ad G 61)) dL_areRooms_100 (by decide +kernel) rfl ?_
      refine sj_iload_n dL_areRooms_103 (i := 1) rfl rfl ?_
      refine sj_iald (a := 61) (j := x1.toNatClampNeg) (x := (σ 61 x1.toNatClampNeg)) dL_areRooms_104 rfl (by decide +kernel) b8 rfl rfl ?_
      refine sj_iadd dL_areRooms_105 ?_
      refine sj_icmp_ge (tgt := 113) dL_areRooms_106 (by decide) (fun c9 => ?_) (fun c9 => ?_)
      · refine sj_iconst (v := (nI 0)) dL_areRooms_113 (by decide +kernel) ?_
        try simp only [if_neg c5, if_pos c9] at h
        exact t_L_areRooms_114 hO h
      · refine sj_iconst (v := (nI 1)) dL_areRooms_109 (by decide +kernel) ?_
        refine sj_goto (tgt := 114) dL_areRooms_110 (by decide) ?_
        try simp only [if_neg c5, if_neg c9] at h
        exact t_L_areRooms_114 hO h
def wp_L_areRooms_0 (G : sj_G) (R : sj_R) (σ : sj_S) : Prop := sj_J G 11 me_L_areRooms R 2 [.ref (sj_ad G 56), .int (nI 0), .null, .null, .null] σ []
set_option maxRecDepth 20000 in
theorem t_L_areRooms_0 {G : sj_G} {R : sj_R} {σ : sj_S} (hO : sj_ad G 70 = sj_ad G 0) (h : wp_L_areRooms_0 G R σ) : sj_J G 11 me_L_areRooms R 0 [.ref (sj_ad G 56), .null, .null, .null, .null] σ [] := by
  unfold wp_L_areRooms_0 at h
  refine sj_iconst (v := (nI 0)) dL_areRooms_0 (by decide +kernel) ?_
  refine sj_istore_n dL_areRooms_1 (i := 1) rfl (by decide) ?_
  exact h
theorem c_L_areRooms {G : sj_G} (ok : sj_ok G) {R : sj_R} {σ : sj_S} (hO : sj_ad G 70 = sj_ad G 0) (h : wp_L_areRooms_0 G R σ) : sj_C G 11 me_L_areRooms [.ref (sj_ad G 56)] σ R :=
  sj_enter ok (by decide +kernel) rfl rfl (Nat.le_of_ble_eq_true rfl) (by simp [Value.category]) (t_L_areRooms_0 hO h)
def wp_L_areChoices_55 (G : sj_G) (R : sj_R) (x1 : Int32) (x2 : Int32) (x4 : Int32) (s0 : Int32) (s1 : Int32) (σ : sj_S) : Prop := sj_J G 13 me_L_areChoices R 21 [.ref (sj_ad G 56), .int x1, .int x2, .int (s1 + s0), .int (x4 + (nI 1)), .null] σ []
set_option maxRecDepth 20000 in
theorem t_L_areChoices_55 {G : sj_G} {R : sj_R} {x1 : Int32} {x2 : Int32} {x4 : Int32} {s0 : Int32} {s1 : Int32} {σ : sj_S} (hO : sj_ad G 70 = sj_ad G 0) (h : wp_L_areChoices_55 G R x1 x2 x4 s0 s1 σ) : sj_J G 13 me_L_areChoices R 55 [.ref (sj_ad G 56), .int x1, .int x2, .null, .int x4, .null] σ [.int s0, .int s1] := by
  unfold wp_L_areChoices_55 at h
  refine sj_iadd dL_areChoices_55 ?_
  refine sj_istore_n dL_areChoices_56 (i := 3) rfl (by decide) ?_
  refine sj_iinc (v := (x4 + (nI 1))) dL_areChoices_57 (by decide) rfl rfl ?_
  refine sj_goto (tgt := 21) dL_areChoices_60 (by decide) ?_
  exact h
def wp_L_areChoices_54 (G : sj_G) (R : sj_R) (x1 : Int32) (x2 : Int32) (x4 : Int32) (s0 : Int32) (σ : sj_S) : Prop := (wp_L_areChoices_55 G R x1 x2 x4 (nI 0) s0 σ)
set_option maxRecDepth 20000 in
theorem t_L_areChoices_54 {G : sj_G} {R : sj_R} {x1 : Int32} {x2 : Int32} {x4 : Int32} {s0 : Int32} {σ : sj_S} (hO : sj_ad G 70 = sj_ad G 0) (h : wp_L_areChoices_54 G R x1 x2 x4 s0 σ) : sj_J G 13 me_L_areChoices R 54 [.ref (sj_ad G 56), .int x1, .int x2, .null, .int x4, .null] σ [.int s0] := by
  unfold wp_L_areChoices_54 at h
  refine sj_iconst (v := (nI 0)) dL_areChoices_54 (by decide +kernel) ?_
  exact t_L_areChoices_55 hO h
def wp_L_areChoices_21 (G : sj_G) (R : sj_R) (x1 : Int32) (x2 : Int32) (x3 : Int32) (x4 : Int32) (σ : sj_S) : Prop := ((nI 20) ≤ x4 → vp_in x1 9 ∧ sj_J G 13 me_L_areChoices R 73 [.ref (sj_ad G 56), .int x1, .null, .int x3, .int (nI 0), .null] (sj_st σ 62 x1.toNatClampNeg x2) []) ∧ (¬ ((nI 20) ≤ x4) → vp_in x1 9 ∧ (x4 = x2 → (wp_L_areChoices_54 G R x1 x2 x4 x3 (sj_st σ 62 x1.toNatClampNeg x4))) ∧ (¬ (x4 = x2) → ∃ v6 σ6, sj_C G 4 me_L_isGood [.ref (sj_ad G 56)] (sj_st σ 62 x1.toNatClampNeg x4) (.ok v6, σ6) ∧ (wp_L_areChoices_55 G R x1 x2 x4 (if v6 = 0 then (nI 0) else (nI 1)) x3 σ6)))
set_option maxRecDepth 20000 in
theorem t_L_areChoices_21 {G : sj_G} {R : sj_R} {x1 : Int32} {x2 : Int32} {x3 : Int32} {x4 : Int32} {σ : sj_S} (hO : sj_ad G 70 = sj_ad G 0) (h : wp_L_areChoices_21 G R x1 x2 x3 x4 σ) : sj_J G 13 me_L_areChoices R 21 [.ref (sj_ad G 56), .int x1, .int x2, .int x3, .int x4, .null] σ [] := by
  unfold wp_L_areChoices_21 at h
  refine sj_iload dL_areChoices_21 rfl ?_
  refine sj_bipush (v := (nI 20)) dL_areChoices_23 (by decide +kernel) ?_
  refine sj_icmp_ge (tgt := 63) dL_areChoices_25 (by decide) (fun c1 => ?_) (fun c1 => ?_)
  · replace h := h.1 c1
    refine sj_aload_n dL_areChoices_63 (i := 0) rfl rfl ?_
    refine sj_get (a := 56) (k9 := 7) (v := .ref (sj_ad G 62)) dL_areChoices_64 (by decide +kernel) rfl ?_
    refine sj_iload_n dL_areChoices_67 (i := 1) rfl rfl ?_
    refine sj_iload_n dL_areChoices_68 (i := 2) rfl rfl ?_
    obtain ⟨b2, h⟩ := h
    refine sj_iast (a := 62) (j := x1.toNatClampNeg) dL_areChoices_69 rfl (by decide +kernel) b2 rfl ?_
    refine sj_iconst (v := (nI 0)) dL_areChoices_70 (by decide +kernel) ?_
    refine sj_istore dL_areChoices_71 (by decide) ?_
    refine sj_fg [2] ?_
    exact h
  · replace h := h.2 c1
    refine sj_aload_n dL_areChoices_28 (i := 0) rfl rfl ?_
    refine sj_get (a := 56) (k9 := 7) (v := .ref (sj_ad G 62)) dL_areChoices_29 (by decide +kernel) rfl ?_
    refine sj_iload_n dL_areChoices_32 (i := 1) rfl rfl ?_
    refine sj_iload dL_areChoices_33 rfl ?_
    obtain ⟨b3, h⟩ := h
    refine sj_iast (a := 62) (j := x1.toNatClampNeg) dL_areChoices_35 rfl (by decide +kernel) b3 rfl ?_
    refine sj_iload_n dL_areChoices_36 (i := 3) rfl rfl ?_
    refine sj_iload dL_areChoices_37 rfl ?_
    refine sj_iload_n dL_areChoices_39 (i := 2) rfl rfl ?_
    refine sj_icmp_eq (tgt := 54) dL_areChoices_40 (by decide) (fun c5 => ?_) (fun c5 => ?_)
    · replace h := h.1 c5
      refine sj_fg [3] ?_
      exact t_L_areChoices_54 hO h
    · replace h := h.2 c5
      refine sj_aload_n dL_areChoices_43 (i := 0) rfl rfl ?_
      obtain ⟨v6, σ6, hc6, h⟩ := h
      refine sj_callVi (M' := me_L_isGood) (b := 56) (As := []) (rest := [.int x3]) dL_areChoices_44 gL_areChoices_L_isGood rfl hd_L_isGood (by decide +kernel) (by decide +kernel) rfl (Nat.le_of_ble_eq_true rfl) (by omega) rfl hc6 ?_
      refine sj_if_eq (tgt := 54) dL_areChoices_47 (by decide) (fun c7 => ?_) (fun c7 => ?_)
      · refine sj_iconst (v := (nI 0)) dL_areChoices_54 (by decide +kernel) ?_
        try simp only [if_pos c7] at h
        refine sj_fg [3] ?_
        exact t_L_areChoices_55 hO h
      · refine sj_iconst (v := (nI 1)) dL_areChoices_50 (by decide +kernel) ?_
        refine sj_goto (tgt := 55) dL_areChoices_51 (by decide) ?_
        try simp only [if_neg c7] at h
        refine sj_fg [3] ?_
        exact t_L_areChoices_55 hO h
def wp_L_areChoices_73 (G : sj_G) (R : sj_R) (x1 : Int32) (x3 : Int32) (x4 : Int32) (σ : sj_S) : Prop := ((σ 56 14) ≤ x4 → sj_J G 13 me_L_areChoices R 111 [.ref (sj_ad G 56), .int x1, .null, .int x3, .int (nI 0), .null] σ []) ∧ (¬ ((σ 56 14) ≤ x4) → ∃ v2 σ2, sj_C G 10 me_X11_holds [.ref (sj_ad G 0), .int x4] σ (.ok v2, σ2) ∧ ∃ v3 σ3, sj_C G 3 me_L_holds [.ref (sj_ad G 56), .int x4] σ2 (.ok v3, σ3) ∧ (v2 = v3 → sj_J G 13 me_L_areChoices R 73 [.ref (sj_ad G 56), .int x1, .null, .int x3, .int (x4 + (nI 1)), .null] σ3 []) ∧ (¬ (v2 = v3) → R = (.ok (nI 0), σ3)))
set_option maxRecDepth 20000 in
theorem t_L_areChoices_73 {G : sj_G} {R : sj_R} {x1 : Int32} {x3 : Int32} {x4 : Int32} {σ : sj_S} (hO : sj_ad G 70 = sj_ad G 0) (h : wp_L_areChoices_73 G R x1 x3 x4 σ) : sj_J G 13 me_L_areChoices R 73 [.ref (sj_ad G 56), .int x1, .null, .int x3, .int x4, .null] σ [] := by
  unfold wp_L_areChoices_73 at h
  refine sj_iload dL_areChoices_73 rfl ?_
  refine sj_aload_n dL_areChoices_75 (i := 0) rfl rfl ?_
  refine sj_get (a := 56) (k9 := 14) (v := .int (σ 56 14)) dL_areChoices_76 (by decide +kernel) rfl ?_
  refine sj_icmp_ge (tgt := 108) dL_areChoices_79 (by decide) (fun c1 => ?_) (fun c1 => ?_)
  · replace h := h.1 c1
    refine sj_iconst (v := (nI 0)) dL_areChoices_108 (by decide +kernel) ?_
    refine sj_istore dL_areChoices_109 (by decide) ?_
    exact h
  · replace h := h.2 c1
    refine sj_aload_n dL_areChoices_82 (i := 0) rfl rfl ?_
    refine sj_getO hO (a := 56) (k9 := 1) dL_areChoices_83 (by decide +kernel) rfl ?_
    refine sj_iload dL_areChoices_86 rfl ?_
    obtain ⟨v2, σ2, hc2, h⟩ := h
    refine sj_callVi (M' := me_X11_holds) (b := 0) (As := [.int x4]) (rest := []) dL_areChoices_88 gL_areChoices_X11_holds rfl hd_X11_holds (by decide +kernel) (by decide +kernel) rfl (Nat.le_of_ble_eq_true rfl) (by omega) rfl hc2 ?_
    refine sj_aload_n dL_areChoices_91 (i := 0) rfl rfl ?_
    refine sj_iload dL_areChoices_92 rfl ?_
    obtain ⟨v3, σ3, hc3, h⟩ := h
    refine sj_callVi (M' := me_L_holds) (b := 56) (As := [.int x4]) (rest := [.int v2]) dL_areChoices_94 gL_areChoices_L_holds rfl hd_L_holds (by decide +kernel) (by decide +kernel) rfl (Nat.le_of_ble_eq_true rfl) (by omega) rfl hc3 ?_
    refine sj_icmp_eq (tgt := 102) dL_areChoices_97 (by decide) (fun c4 => ?_) (fun c4 => ?_)
    · replace h := h.1 c4
      refine sj_iinc (v := (x4 + (nI 1))) dL_areChoices_102 (by decide) rfl rfl ?_
      refine sj_goto (tgt := 73) dL_areChoices_105 (by decide) ?_
      exact h
    · replace h := h.2 c4
      refine sj_iconst (v := (nI 0)) dL_areChoices_100 (by decide +kernel) ?_
      subst h
      exact sj_ret dL_areChoices_101 rfl rfl
def wp_L_areChoices_111 (G : sj_G) (R : sj_R) (x1 : Int32) (x3 : Int32) (x4 : Int32) (σ : sj_S) : Prop := ((nI 6) ≤ x4 → sj_J G 13 me_L_areChoices R 149 [.ref (sj_ad G 56), .int x1, .null, .int x3, .int (nI 0), .null] σ []) ∧ (¬ ((nI 6) ≤ x4) → ∃ v2 σ2, sj_C G 12 me_X11_gaps [.ref (sj_ad G 0), .int (nI 1), .int x4] σ (.ok v2, σ2) ∧ ∃ v3 σ3, sj_C G 3 me_L_gaps [.ref (sj_ad G 56), .int (nI 1), .int x4] σ2 (.ok v3, σ3) ∧ (v2 = v3 → sj_J G 13 me_L_areChoices R 111 [.ref (sj_ad G 56), .int x1, .null, .int x3, .int (x4 + (nI 1)), .null] σ3 []) ∧ (¬ (v2 = v3) → R = (.ok (nI 0), σ3)))
set_option maxRecDepth 20000 in
theorem t_L_areChoices_111 {G : sj_G} {R : sj_R} {x1 : Int32} {x3 : Int32} {x4 : Int32} {σ : sj_S} (hO : sj_ad G 70 = sj_ad G 0) (h : wp_L_areChoices_111 G R x1 x3 x4 σ) : sj_J G 13 me_L_areChoices R 111 [.ref (sj_ad G 56), .int x1, .null, .int x3, .int x4, .null] σ [] := by
  unfold wp_L_areChoices_111 at h
  refine sj_iload dL_areChoices_111 rfl ?_
  refine sj_bipush (v := (nI 6)) dL_areChoices_113 (by decide +kernel) ?_
  refine sj_icmp_ge (tgt := 146) dL_areChoices_115 (by decide) (fun c1 => ?_) (fun c1 => ?_)
  · replace h := h.1 c1
    refine sj_iconst (v := (nI 0)) dL_areChoices_146 (by decide +kernel) ?_
    refine sj_istore dL_areChoices_147 (by decide) ?_
    exact h
  · replace h := h.2 c1
    refine sj_aload_n dL_areChoices_118 (i := 0) rfl rfl ?_
    refine sj_getO hO (a := 56) (k9 := 1) dL_areChoices_119 (by decide +kernel) rfl ?_
    refine sj_iconst (v := (nI 1)) dL_areChoices_122 (by decide +kernel) ?_
    refine sj_iload dL_areChoices_123 rfl ?_
    obtain ⟨v2, σ2, hc2, h⟩ := h
    refine sj_callVi (M' := me_X11_gaps) (b := 0) (As := [.int (nI 1), .int x4]) (rest := []) dL_areChoices_125 gL_areChoices_X11_gaps rfl hd_X11_gaps (by decide +kernel) (by decide +kernel) rfl (Nat.le_of_ble_eq_true rfl) (by omega) rfl hc2 ?_
    refine sj_aload_n dL_areChoices_128 (i := 0) rfl rfl ?_
    refine sj_iconst (v := (nI 1)) dL_areChoices_129 (by decide +kernel) ?_
    refine sj_iload dL_areChoices_130 rfl ?_
    obtain ⟨v3, σ3, hc3, h⟩ := h
    refine sj_callVi (M' := me_L_gaps) (b := 56) (As := [.int (nI 1), .int x4]) (rest := [.int v2]) dL_areChoices_132 gL_areChoices_L_gaps rfl hd_L_gaps (by decide +kernel) (by decide +kernel) rfl (Nat.le_of_ble_eq_true rfl) (by omega) rfl hc3 ?_
    refine sj_icmp_eq (tgt := 140) dL_areChoices_135 (by decide) (fun c4 => ?_) (fun c4 => ?_)
    · replace h := h.1 c4
      refine sj_iinc (v := (x4 + (nI 1))) dL_areChoices_140 (by decide) rfl rfl ?_
      refine sj_goto (tgt := 111) dL_areChoices_143 (by decide) ?_
      exact h
    · replace h := h.2 c4
      refine sj_iconst (v := (nI 0)) dL_areChoices_138 (by decide +kernel) ?_
      subst h
      exact sj_ret dL_areChoices_139 rfl rfl
def wp_L_areChoices_226 (G : sj_G) (R : sj_R) (σ : sj_S) : Prop := R = (.ok (nI 0), σ)
set_option maxRecDepth 20000 in
theorem t_L_areChoices_226 {G : sj_G} {R : sj_R} {σ : sj_S} (hO : sj_ad G 70 = sj_ad G 0) (h : wp_L_areChoices_226 G R σ) : sj_J G 13 me_L_areChoices R 226 [.null, .null, .null, .null, .null, .null] σ [] := by
  unfold wp_L_areChoices_226 at h
  refine sj_iconst (v := (nI 0)) dL_areChoices_226 (by decide +kernel) ?_
  subst h
  exact sj_ret dL_areChoices_227 rfl rfl
def wp_L_areChoices_228 (G : sj_G) (R : sj_R) (x1 : Int32) (x3 : Int32) (x4 : Int32) (σ : sj_S) : Prop := sj_J G 13 me_L_areChoices R 149 [.ref (sj_ad G 56), .int x1, .null, .int x3, .int (x4 + (nI 1)), .null] σ []
set_option maxRecDepth 20000 in
theorem t_L_areChoices_228 {G : sj_G} {R : sj_R} {x1 : Int32} {x3 : Int32} {x4 : Int32} {σ : sj_S} (hO : sj_ad G 70 = sj_ad G 0) (h : wp_L_areChoices_228 G R x1 x3 x4 σ) : sj_J G 13 me_L_areChoices R 228 [.ref (sj_ad G 56), .int x1, .null, .int x3, .int x4, .null] σ [] := by
  unfold wp_L_areChoices_228 at h
  refine sj_iinc (v := (x4 + (nI 1))) dL_areChoices_228 (by decide) rfl rfl ?_
  refine sj_goto (tgt := 149) dL_areChoices_231 (by decide) ?_
  exact h
def wp_L_areChoices_251 (G : sj_G) (R : sj_R) (s0 : Int32) (σ : sj_S) : Prop := R = (.ok s0, σ) ∧ (s0 = nI 0 ∨ s0 = nI 1)
set_option maxRecDepth 20000 in
theorem t_L_areChoices_251 {G : sj_G} {R : sj_R} {s0 : Int32} {σ : sj_S} (hO : sj_ad G 70 = sj_ad G 0) (h : wp_L_areChoices_251 G R s0 σ) : sj_J G 13 me_L_areChoices R 251 [.null, .null, .null, .null, .null, .null] σ [.int s0] := by
  unfold wp_L_areChoices_251 at h
  obtain ⟨h, hz⟩ := h
  subst h
  exact sj_ret dL_areChoices_251 rfl (sj_nb hz)
def wp_L_areChoices_149 (G : sj_G) (R : sj_R) (x1 : Int32) (x3 : Int32) (x4 : Int32) (σ : sj_S) : Prop := ((nI 20) ≤ x4 → ∃ v2 σ2, sj_C G 10 me_X11_choices [.ref (sj_ad G 0), .int x1] σ (.ok v2, σ2) ∧ (wp_L_areChoices_251 G R (if v2 = x3 then (nI 1) else (nI 0)) σ2)) ∧ (¬ ((nI 20) ≤ x4) → vp_in x1 9 ∧ ∃ v5 σ5, sj_C G 12 me_X11_lessonAt [.ref (sj_ad G 0), .int (nI 0), .int (σ 57 x1.toNatClampNeg), .int x4] σ (.ok v5, σ5) ∧ ∃ v6 σ6, sj_C G 2 me_L_isOn [.ref (sj_ad G 56), .int x1, .int x4] σ5 (.ok v6, σ6) ∧ (v6 = 0 → (v5 = (-1) → (wp_L_areChoices_228 G R x1 x3 x4 σ6)) ∧ (¬ (v5 = (-1)) → vp_in v5 9 ∧ vp_in x1 9 ∧ (¬ (σ6 57 v5.toNatClampNeg) = (σ6 57 x1.toNatClampNeg) → (wp_L_areChoices_226 G R σ6)) ∧ ((σ6 57 v5.toNatClampNeg) = (σ6 57 x1.toNatClampNeg) → ∃ v12 σ12, sj_C G 2 me_L_isOn [.ref (sj_ad G 56), .int v5, .int x4] σ6 (.ok v12, σ12) ∧ (¬ v12 = 0 → (wp_L_areChoices_228 G R x1 x3 x4 σ12)) ∧ (v12 = 0 → (wp_L_areChoices_226 G R σ12))))) ∧ (¬ (v6 = 0) → (v5 = x1 → (wp_L_areChoices_228 G R x1 x3 x4 σ6)) ∧ (¬ (v5 = x1) → (wp_L_areChoices_226 G R σ6))))
set_option maxRecDepth 20000 in
theorem t_L_areChoices_149 {G : sj_G} {R : sj_R} {x1 : Int32} {x3 : Int32} {x4 : Int32} {σ : sj_S} (hO : sj_ad G 70 = sj_ad G 0) (h : wp_L_areChoices_149 G R x1 x3 x4 σ) : sj_J G 13 me_L_areChoices R 149 [.ref (sj_ad G 56), .int x1, .null, .int x3, .int x4, .null] σ [] := by
  unfold wp_L_areChoices_149 at h
  refine sj_iload dL_areChoices_149 rfl ?_
  refine sj_bipush (v := (nI 20)) dL_areChoices_151 (by decide +kernel) ?_
  refine sj_icmp_ge (tgt := 234) dL_areChoices_153 (by decide) (fun c1 => ?_) (fun c1 => ?_)
  · replace h := h.1 c1
    refine sj_aload_n dL_areChoices_234 (i := 0) rfl rfl ?_
    refine sj_getO hO (a := 56) (k9 := 1) dL_areChoices_235 (by decide +kernel) rfl ?_
    refine sj_iload_n dL_areChoices_238 (i := 1) rfl rfl ?_
    obtain ⟨v2, σ2, hc2, h⟩ := h
    refine sj_callVi (M' := me_X11_choices) (b := 0) (As := [.int x1]) (rest := []) dL_areChoices_239 gL_areChoices_X11_choices rfl hd_X11_choices (by decide +kernel) (by decide +kernel) rfl (Nat.le_of_ble_eq_true rfl) (by omega) rfl hc2 ?_
    refine sj_iload_n dL_areChoices_242 (i := 3) rfl rfl ?_
    refine sj_icmp_ne (tgt := 250) dL_areChoices_243 (by decide) (fun c3 => ?_) (fun c3 => ?_)
    · refine sj_iconst (v := (nI 0)) dL_areChoices_250 (by decide +kernel) ?_
      try simp only [if_neg c3] at h
      refine sj_fg [0, 1, 3, 4] ?_
      exact t_L_areChoices_251 hO h
    · refine sj_iconst (v := (nI 1)) dL_areChoices_246 (by decide +kernel) ?_
      refine sj_goto (tgt := 251) dL_areChoices_247 (by decide) ?_
      try simp only [if_pos c3] at h
      refine sj_fg [0, 1, 3, 4] ?_
      exact t_L_areChoices_251 hO h
  · replace h := h.2 c1
    refine sj_aload_n dL_areChoices_156 (i := 0) rfl rfl ?_
    refine sj_getO hO (a := 56) (k9 := 1) dL_areChoices_157 (by decide +kernel) rfl ?_
    refine sj_iconst (v := (nI 0)) dL_areChoices_160 (by decide +kernel) ?_
    refine sj_aload_n dL_areChoices_161 (i := 0) rfl rfl ?_
    refine sj_get (a := 56) (k9 := 2) (v := .ref (sj_ad G 57)) dL_areChoices_162 (by decide +kernel) rfl ?_
    refine sj_iload_n dL_areChoices_165 (i := 1) rfl rfl ?_
    obtain ⟨b4, h⟩ := h
    refine sj_iald (a := 57) (j := x1.toNatClampNeg) (x := (σ 57 x1.toNatClampNeg)) dL_areChoices_166 rfl (by decide +kernel) b4 rfl rfl ?_
    refine sj_iload dL_areChoices_167 rfl ?_
    obtain ⟨v5, σ5, hc5, h⟩ := h
    refine sj_callVi (M' := me_X11_lessonAt) (b := 0) (As := [.int (nI 0), .int (σ 57 x1.toNatClampNeg), .int x4]) (rest := []) dL_areChoices_169 gL_areChoices_X11_lessonAt rfl hd_X11_lessonAt (by decide +kernel) (by decide +kernel) rfl (Nat.le_of_ble_eq_true rfl) (by omega) rfl hc5 ?_
    refine sj_istore dL_areChoices_172 (by decide) ?_
    refine sj_aload_n dL_areChoices_174 (i := 0) rfl rfl ?_
    refine sj_iload_n dL_areChoices_175 (i := 1) rfl rfl ?_
    refine sj_iload dL_areChoices_176 rfl ?_
    obtain ⟨v6, σ6, hc6, h⟩ := h
    refine sj_callVi (M' := me_L_isOn) (b := 56) (As := [.int x1, .int x4]) (rest := []) dL_areChoices_178 gL_areChoices_L_isOn rfl hd_L_isOn (by decide +kernel) (by decide +kernel) rfl (Nat.le_of_ble_eq_true rfl) (by omega) rfl hc6 ?_
    refine sj_if_eq (tgt := 193) dL_areChoices_181 (by decide) (fun c7 => ?_) (fun c7 => ?_)
    · replace h := h.1 c7
      refine sj_iload dL_areChoices_193 rfl ?_
      refine sj_iconst (v := (-1)) dL_areChoices_195 (by decide +kernel) ?_
      refine sj_icmp_eq (tgt := 228) dL_areChoices_196 (by decide) (fun c8 => ?_) (fun c8 => ?_)
      · replace h := h.1 c8
        refine sj_fg [5] ?_
        exact t_L_areChoices_228 hO h
      · replace h := h.2 c8
        refine sj_aload_n dL_areChoices_199 (i := 0) rfl rfl ?_
        refine sj_get (a := 56) (k9 := 2) (v := .ref (sj_ad G 57)) dL_areChoices_200 (by decide +kernel) rfl ?_
        refine sj_iload dL_areChoices_203 rfl ?_
        obtain ⟨b9, h⟩ := h
        refine sj_iald (a := 57) (j := v5.toNatClampNeg) (x := (σ6 57 v5.toNatClampNeg)) dL_areChoices_205 rfl (by decide +kernel) b9 rfl rfl ?_
        refine sj_aload_n dL_areChoices_206 (i := 0) rfl rfl ?_
        refine sj_get (a := 56) (k9 := 2) (v := .ref (sj_ad G 57)) dL_areChoices_207 (by decide +kernel) rfl ?_
        refine sj_iload_n dL_areChoices_210 (i := 1) rfl rfl ?_
        obtain ⟨b10, h⟩ := h
        refine sj_iald (a := 57) (j := x1.toNatClampNeg) (x := (σ6 57 x1.toNatClampNeg)) dL_areChoices_211 rfl (by decide +kernel) b10 rfl rfl ?_
        refine sj_icmp_ne (tgt := 226) dL_areChoices_212 (by decide) (fun c11 => ?_) (fun c11 => ?_)
        · replace h := h.1 c11
          refine sj_fg [0, 1, 3, 4, 5] ?_
          exact t_L_areChoices_226 hO h
        · replace h := h.2 c11
          refine sj_aload_n dL_areChoices_215 (i := 0) rfl rfl ?_
          refine sj_iload dL_areChoices_216 rfl ?_
          refine sj_iload dL_areChoices_218 rfl ?_
          obtain ⟨v12, σ12, hc12, h⟩ := h
          refine sj_callVi (M' := me_L_isOn) (b := 56) (As := [.int v5, .int x4]) (rest := []) dL_areChoices_220 gL_areChoices_L_isOn rfl hd_L_isOn (by decide +kernel) (by decide +kernel) rfl (Nat.le_of_ble_eq_true rfl) (by omega) rfl hc12 ?_
          refine sj_if_ne (tgt := 228) dL_areChoices_223 (by decide) (fun c13 => ?_) (fun c13 => ?_)
          · replace h := h.1 c13
            refine sj_fg [5] ?_
            exact t_L_areChoices_228 hO h
          · replace h := h.2 c13
            refine sj_fg [0, 1, 3, 4, 5] ?_
            exact t_L_areChoices_226 hO h
    · replace h := h.2 c7
      refine sj_iload dL_areChoices_184 rfl ?_
      refine sj_iload_n dL_areChoices_186 (i := 1) rfl rfl ?_
      refine sj_icmp_eq (tgt := 228) dL_areChoices_187 (by decide) (fun c14 => ?_) (fun c14 => ?_)
      · replace h := h.1 c14
        refine sj_fg [5] ?_
        exact t_L_areChoices_228 hO h
      · replace h := h.2 c14
        refine sj_goto (tgt := 226) dL_areChoices_190 (by decide) ?_
        refine sj_fg [0, 1, 3, 4, 5] ?_
        exact t_L_areChoices_226 hO h
def wp_L_areChoices_0 (G : sj_G) (R : sj_R) (σ : sj_S) : Prop := ∃ v1 σ1, sj_C G 2 me_L_next [.ref (sj_ad G 56), .int (σ 56 13)] σ (.ok v1, σ1) ∧ vp_in v1 9 ∧ sj_J G 13 me_L_areChoices R 21 [.ref (sj_ad G 56), .int v1, .int (σ1 62 v1.toNatClampNeg), .int (nI 0), .int (nI 0), .null] σ1 []
set_option maxRecDepth 20000 in
theorem t_L_areChoices_0 {G : sj_G} {R : sj_R} {σ : sj_S} (hO : sj_ad G 70 = sj_ad G 0) (h : wp_L_areChoices_0 G R σ) : sj_J G 13 me_L_areChoices R 0 [.ref (sj_ad G 56), .null, .null, .null, .null, .null] σ [] := by
  unfold wp_L_areChoices_0 at h
  refine sj_aload_n dL_areChoices_0 (i := 0) rfl rfl ?_
  refine sj_aload_n dL_areChoices_1 (i := 0) rfl rfl ?_
  refine sj_get (a := 56) (k9 := 13) (v := .int (σ 56 13)) dL_areChoices_2 (by decide +kernel) rfl ?_
  obtain ⟨v1, σ1, hc1, h⟩ := h
  refine sj_callVi (M' := me_L_next) (b := 56) (As := [.int (σ 56 13)]) (rest := []) dL_areChoices_5 gL_areChoices_L_next rfl hd_L_next (by decide +kernel) (by decide +kernel) rfl (Nat.le_of_ble_eq_true rfl) (by omega) rfl hc1 ?_
  refine sj_istore_n dL_areChoices_8 (i := 1) rfl (by decide) ?_
  refine sj_aload_n dL_areChoices_9 (i := 0) rfl rfl ?_
  refine sj_get (a := 56) (k9 := 7) (v := .ref (sj_ad G 62)) dL_areChoices_10 (by decide +kernel) rfl ?_
  refine sj_iload_n dL_areChoices_13 (i := 1) rfl rfl ?_
  obtain ⟨b2, h⟩ := h
  refine sj_iald (a := 62) (j := v1.toNatClampNeg) (x := (σ1 62 v1.toNatClampNeg)) dL_areChoices_14 rfl (by decide +kernel) b2 rfl rfl ?_
  refine sj_istore_n dL_areChoices_15 (i := 2) rfl (by decide) ?_
  refine sj_iconst (v := (nI 0)) dL_areChoices_16 (by decide +kernel) ?_
  refine sj_istore_n dL_areChoices_17 (i := 3) rfl (by decide) ?_
  refine sj_iconst (v := (nI 0)) dL_areChoices_18 (by decide +kernel) ?_
  refine sj_istore dL_areChoices_19 (by decide) ?_
  exact h
theorem c_L_areChoices {G : sj_G} (ok : sj_ok G) {R : sj_R} {σ : sj_S} (hO : sj_ad G 70 = sj_ad G 0) (h : wp_L_areChoices_0 G R σ) : sj_C G 13 me_L_areChoices [.ref (sj_ad G 56)] σ R :=
  sj_enter ok (by decide +kernel) rfl rfl (Nat.le_of_ble_eq_true rfl) (by simp [Value.category]) (t_L_areChoices_0 hO h)
def wp_L_isImproved_2 (G : sj_G) (R : sj_R) (x1 : Int32) (σ : sj_S) : Prop := ((nI 6) ≤ x1 → R = (.ok (nI 1), σ)) ∧ (¬ ((nI 6) ≤ x1) → ∃ v2 σ2, sj_C G 4 me_L_cost [.ref (sj_ad G 56)] σ (.ok v2, σ2) ∧ sj_J G 12 me_L_isImproved R 18 [.ref (sj_ad G 56), .int x1, .int v2, .int v2, .int (nI 0), .null, .null, .null] σ2 [])
set_option maxRecDepth 20000 in
theorem t_L_isImproved_2 {G : sj_G} {R : sj_R} {x1 : Int32} {σ : sj_S} (hO : sj_ad G 70 = sj_ad G 0) (h : wp_L_isImproved_2 G R x1 σ) : sj_J G 12 me_L_isImproved R 2 [.ref (sj_ad G 56), .int x1, .null, .null, .null, .null, .null, .null] σ [] := by
  unfold wp_L_isImproved_2 at h
  refine sj_iload_n dL_isImproved_2 (i := 1) rfl rfl ?_
  refine sj_bipush (v := (nI 6)) dL_isImproved_3 (by decide +kernel) ?_
  refine sj_icmp_ge (tgt := 258) dL_isImproved_5 (by decide) (fun c1 => ?_) (fun c1 => ?_)
  · replace h := h.1 c1
    refine sj_iconst (v := (nI 1)) dL_isImproved_258 (by decide +kernel) ?_
    subst h
    exact sj_ret dL_isImproved_259 rfl rfl
  · replace h := h.2 c1
    refine sj_aload_n dL_isImproved_8 (i := 0) rfl rfl ?_
    obtain ⟨v2, σ2, hc2, h⟩ := h
    refine sj_callVi (M' := me_L_cost) (b := 56) (As := []) (rest := []) dL_isImproved_9 gL_isImproved_L_cost rfl hd_L_cost (by decide +kernel) (by decide +kernel) rfl (Nat.le_of_ble_eq_true rfl) (by omega) rfl hc2 ?_
    refine sj_istore_n dL_isImproved_12 (i := 2) rfl (by decide) ?_
    refine sj_iload_n dL_isImproved_13 (i := 2) rfl rfl ?_
    refine sj_istore_n dL_isImproved_14 (i := 3) rfl (by decide) ?_
    refine sj_iconst (v := (nI 0)) dL_isImproved_15 (by decide +kernel) ?_
    refine sj_istore dL_isImproved_16 (by decide) ?_
    exact h
def wp_L_isImproved_227 (G : sj_G) (R : sj_R) (σ : sj_S) : Prop := R = (.ok (nI 0), σ)
set_option maxRecDepth 20000 in
theorem t_L_isImproved_227 {G : sj_G} {R : sj_R} {σ : sj_S} (hO : sj_ad G 70 = sj_ad G 0) (h : wp_L_isImproved_227 G R σ) : sj_J G 12 me_L_isImproved R 227 [.null, .null, .null, .null, .null, .null, .null, .null] σ [] := by
  unfold wp_L_isImproved_227 at h
  refine sj_iconst (v := (nI 0)) dL_isImproved_227 (by decide +kernel) ?_
  subst h
  exact sj_ret dL_isImproved_228 rfl rfl
def wp_L_isImproved_251 (G : sj_G) (R : sj_R) (s0 : Int32) (σ : sj_S) : Prop := R = (.ok s0, σ) ∧ (s0 = nI 0 ∨ s0 = nI 1)
set_option maxRecDepth 20000 in
theorem t_L_isImproved_251 {G : sj_G} {R : sj_R} {s0 : Int32} {σ : sj_S} (hO : sj_ad G 70 = sj_ad G 0) (h : wp_L_isImproved_251 G R s0 σ) : sj_J G 12 me_L_isImproved R 251 [.null, .null, .null, .null, .null, .null, .null, .null] σ [.int s0] := by
  unfold wp_L_isImproved_251 at h
  obtain ⟨h, hz⟩ := h
  subst h
  exact sj_ret dL_isImproved_251 rfl (sj_nb hz)
def wp_L_isImproved_18 (G : sj_G) (R : sj_R) (x1 : Int32) (x2 : Int32) (x3 : Int32) (x4 : Int32) (σ : sj_S) : Prop := ((σ 56 13) ≤ x4 → ∃ v2 σ2, sj_C G 3 me_X11_checksum [.ref (sj_ad G 0)] σ (.ok v2, σ2) ∧ ∃ v3 σ3, sj_C G 10 me_X11_improve [.ref (sj_ad G 0)] σ2 (.ok v3, σ3) ∧ (v3 = (x2 - x3) → ∃ σ5, sj_C G 11 me_L_looks [.ref (sj_ad G 56)] σ3 (.ok 0, σ5) ∧ ∃ v6 σ6, sj_C G 4 me_L_isGood [.ref (sj_ad G 56)] σ5 (.ok v6, σ6) ∧ (v6 = 0 → (wp_L_isImproved_227 G R σ6)) ∧ (¬ (v6 = 0) → ∃ v8 σ8, sj_C G 4 me_L_cost [.ref (sj_ad G 56)] σ6 (.ok v8, σ8) ∧ (¬ v8 = x3 → (wp_L_isImproved_227 G R σ8)) ∧ (v8 = x3 → ∃ v10 σ10, sj_C G 10 me_X11_cost [.ref (sj_ad G 0)] σ8 (.ok v10, σ10) ∧ (v10 = x3 → (¬ v3 = 0 → sj_J G 12 me_L_isImproved R 2 [.ref (sj_ad G 56), .int (x1 + (nI 1)), .null, .null, .null, .null, .null, .null] σ10 []) ∧ (v3 = 0 → ∃ v13 σ13, sj_C G 3 me_X11_checksum [.ref (sj_ad G 0)] σ10 (.ok v13, σ13) ∧ (wp_L_isImproved_251 G R (if v13 = v2 then (nI 1) else (nI 0)) σ13))) ∧ (¬ (v10 = x3) → (wp_L_isImproved_227 G R σ10))))) ∧ (¬ (v3 = (x2 - x3)) → R = (.ok (nI 0), σ3))) ∧ (¬ ((σ 56 13) ≤ x4) → vp_in x4 9 ∧ sj_J G 12 me_L_isImproved R 39 [.ref (sj_ad G 56), .int x1, .int x2, .int x3, .int x4, .int (σ 62 x4.toNatClampNeg), .int (nI 0), .null] σ [])
set_option maxRecDepth 20000 in
theorem t_L_isImproved_18 {G : sj_G} {R : sj_R} {x1 : Int32} {x2 : Int32} {x3 : Int32} {x4 : Int32} {σ : sj_S} (hO : sj_ad G 70 = sj_ad G 0) (h : wp_L_isImproved_18 G R x1 x2 x3 x4 σ) : sj_J G 12 me_L_isImproved R 18 [.ref (sj_ad G 56), .int x1, .int x2, .int x3, .int x4, .null, .null, .null] σ [] := by
  unfold wp_L_isImproved_18 at h
  refine sj_iload dL_isImproved_18 rfl ?_
  refine sj_aload_n dL_isImproved_20 (i := 0) rfl rfl ?_
  refine sj_get (a := 56) (k9 := 13) (v := .int (σ 56 13)) dL_isImproved_21 (by decide +kernel) rfl ?_
  refine sj_icmp_ge (tgt := 169) dL_isImproved_24 (by decide) (fun c1 => ?_) (fun c1 => ?_)
  · replace h := h.1 c1
    refine sj_aload_n dL_isImproved_169 (i := 0) rfl rfl ?_
    refine sj_getO hO (a := 56) (k9 := 1) dL_isImproved_170 (by decide +kernel) rfl ?_
    obtain ⟨v2, σ2, hc2, h⟩ := h
    refine sj_callVi (M' := me_X11_checksum) (b := 0) (As := []) (rest := []) dL_isImproved_173 gL_isImproved_X11_checksum rfl hd_X11_checksum (by decide +kernel) (by decide +kernel) rfl (Nat.le_of_ble_eq_true rfl) (by omega) rfl hc2 ?_
    refine sj_istore dL_isImproved_176 (by decide) ?_
    refine sj_aload_n dL_isImproved_178 (i := 0) rfl rfl ?_
    refine sj_getO hO (a := 56) (k9 := 1) dL_isImproved_179 (by decide +kernel) rfl ?_
    obtain ⟨v3, σ3, hc3, h⟩ := h
    refine sj_callVi (M' := me_X11_improve) (b := 0) (As := []) (rest := []) dL_isImproved_182 gL_isImproved_X11_improve rfl hd_X11_improve (by decide +kernel) (by decide +kernel) rfl (Nat.le_of_ble_eq_true rfl) (by omega) rfl hc3 ?_
    refine sj_istore dL_isImproved_185 (by decide) ?_
    refine sj_iload dL_isImproved_187 rfl ?_
    refine sj_iload_n dL_isImproved_189 (i := 2) rfl rfl ?_
    refine sj_iload_n dL_isImproved_190 (i := 3) rfl rfl ?_
    refine sj_isub dL_isImproved_191 ?_
    refine sj_icmp_eq (tgt := 197) dL_isImproved_192 (by decide) (fun c4 => ?_) (fun c4 => ?_)
    · replace h := h.1 c4
      refine sj_aload_n dL_isImproved_197 (i := 0) rfl rfl ?_
      obtain ⟨σ5, hc5, h⟩ := h
      refine sj_callVv (M' := me_L_looks) (b := 56) (As := []) (rest := []) dL_isImproved_198 gL_isImproved_L_looks rfl hd_L_looks (by decide +kernel) (by decide +kernel) rfl (Nat.le_of_ble_eq_true rfl) (by omega) rfl hc5 ?_
      refine sj_aload_n dL_isImproved_201 (i := 0) rfl rfl ?_
      obtain ⟨v6, σ6, hc6, h⟩ := h
      refine sj_callVi (M' := me_L_isGood) (b := 56) (As := []) (rest := []) dL_isImproved_202 gL_isImproved_L_isGood rfl hd_L_isGood (by decide +kernel) (by decide +kernel) rfl (Nat.le_of_ble_eq_true rfl) (by omega) rfl hc6 ?_
      refine sj_if_eq (tgt := 227) dL_isImproved_205 (by decide) (fun c7 => ?_) (fun c7 => ?_)
      · replace h := h.1 c7
        refine sj_fg [0, 1, 2, 3, 4, 5] ?_
        exact t_L_isImproved_227 hO h
      · replace h := h.2 c7
        refine sj_aload_n dL_isImproved_208 (i := 0) rfl rfl ?_
        obtain ⟨v8, σ8, hc8, h⟩ := h
        refine sj_callVi (M' := me_L_cost) (b := 56) (As := []) (rest := []) dL_isImproved_209 gL_isImproved_L_cost rfl hd_L_cost (by decide +kernel) (by decide +kernel) rfl (Nat.le_of_ble_eq_true rfl) (by omega) rfl hc8 ?_
        refine sj_iload_n dL_isImproved_212 (i := 3) rfl rfl ?_
        refine sj_icmp_ne (tgt := 227) dL_isImproved_213 (by decide) (fun c9 => ?_) (fun c9 => ?_)
        · replace h := h.1 c9
          refine sj_fg [0, 1, 2, 3, 4, 5] ?_
          exact t_L_isImproved_227 hO h
        · replace h := h.2 c9
          refine sj_aload_n dL_isImproved_216 (i := 0) rfl rfl ?_
          refine sj_getO hO (a := 56) (k9 := 1) dL_isImproved_217 (by decide +kernel) rfl ?_
          obtain ⟨v10, σ10, hc10, h⟩ := h
          refine sj_callVi (M' := me_X11_cost) (b := 0) (As := []) (rest := []) dL_isImproved_220 gL_isImproved_X11_cost rfl hd_X11_cost (by decide +kernel) (by decide +kernel) rfl (Nat.le_of_ble_eq_true rfl) (by omega) rfl hc10 ?_
          refine sj_iload_n dL_isImproved_223 (i := 3) rfl rfl ?_
          refine sj_icmp_eq (tgt := 229) dL_isImproved_224 (by decide) (fun c11 => ?_) (fun c11 => ?_)
          · replace h := h.1 c11
            refine sj_iload dL_isImproved_229 rfl ?_
            refine sj_if_ne (tgt := 252) dL_isImproved_231 (by decide) (fun c12 => ?_) (fun c12 => ?_)
            · replace h := h.1 c12
              refine sj_iinc (v := (x1 + (nI 1))) dL_isImproved_252 (by decide) rfl rfl ?_
              refine sj_goto (tgt := 2) dL_isImproved_255 (by decide) ?_
              refine sj_fg [2, 3, 4, 5] ?_
              exact h
            · replace h := h.2 c12
              refine sj_aload_n dL_isImproved_234 (i := 0) rfl rfl ?_
              refine sj_getO hO (a := 56) (k9 := 1) dL_isImproved_235 (by decide +kernel) rfl ?_
              obtain ⟨v13, σ13, hc13, h⟩ := h
              refine sj_callVi (M' := me_X11_checksum) (b := 0) (As := []) (rest := []) dL_isImproved_238 gL_isImproved_X11_checksum rfl hd_X11_checksum (by decide +kernel) (by decide +kernel) rfl (Nat.le_of_ble_eq_true rfl) (by omega) rfl hc13 ?_
              refine sj_iload dL_isImproved_241 rfl ?_
              refine sj_icmp_ne (tgt := 250) dL_isImproved_243 (by decide) (fun c14 => ?_) (fun c14 => ?_)
              · refine sj_iconst (v := (nI 0)) dL_isImproved_250 (by decide +kernel) ?_
                try simp only [if_neg c14] at h
                refine sj_fg [0, 1, 2, 3, 4, 5] ?_
                exact t_L_isImproved_251 hO h
              · refine sj_iconst (v := (nI 1)) dL_isImproved_246 (by decide +kernel) ?_
                refine sj_goto (tgt := 251) dL_isImproved_247 (by decide) ?_
                try simp only [if_pos c14] at h
                refine sj_fg [0, 1, 2, 3, 4, 5] ?_
                exact t_L_isImproved_251 hO h
          · replace h := h.2 c11
            refine sj_fg [0, 1, 2, 3, 4, 5] ?_
            exact t_L_isImproved_227 hO h
    · replace h := h.2 c4
      refine sj_iconst (v := (nI 0)) dL_isImproved_195 (by decide +kernel) ?_
      subst h
      exact sj_ret dL_isImproved_196 rfl rfl
  · replace h := h.2 c1
    refine sj_aload_n dL_isImproved_27 (i := 0) rfl rfl ?_
    refine sj_get (a := 56) (k9 := 7) (v := .ref (sj_ad G 62)) dL_isImproved_28 (by decide +kernel) rfl ?_
    refine sj_iload dL_isImproved_31 rfl ?_
    obtain ⟨b15, h⟩ := h
    refine sj_iald (a := 62) (j := x4.toNatClampNeg) (x := (σ 62 x4.toNatClampNeg)) dL_isImproved_33 rfl (by decide +kernel) b15 rfl rfl ?_
    refine sj_istore dL_isImproved_34 (by decide) ?_
    refine sj_iconst (v := (nI 0)) dL_isImproved_36 (by decide +kernel) ?_
    refine sj_istore dL_isImproved_37 (by decide) ?_
    exact h
def wp_L_isImproved_71 (G : sj_G) (R : sj_R) (x1 : Int32) (x2 : Int32) (x3 : Int32) (x4 : Int32) (x5 : Int32) (x6 : Int32) (σ : sj_S) : Prop := sj_J G 12 me_L_isImproved R 39 [.ref (sj_ad G 56), .int x1, .int x2, .int x3, .int x4, .int x5, .int (x6 + (nI 1)), .null] σ []
set_option maxRecDepth 20000 in
theorem t_L_isImproved_71 {G : sj_G} {R : sj_R} {x1 : Int32} {x2 : Int32} {x3 : Int32} {x4 : Int32} {x5 : Int32} {x6 : Int32} {σ : sj_S} (hO : sj_ad G 70 = sj_ad G 0) (h : wp_L_isImproved_71 G R x1 x2 x3 x4 x5 x6 σ) : sj_J G 12 me_L_isImproved R 71 [.ref (sj_ad G 56), .int x1, .int x2, .int x3, .int x4, .int x5, .int x6, .null] σ [] := by
  unfold wp_L_isImproved_71 at h
  refine sj_iinc (v := (x6 + (nI 1))) dL_isImproved_71 (by decide) rfl rfl ?_
  refine sj_goto (tgt := 39) dL_isImproved_74 (by decide) ?_
  exact h
def wp_L_isImproved_39 (G : sj_G) (R : sj_R) (x1 : Int32) (x2 : Int32) (x3 : Int32) (x4 : Int32) (x5 : Int32) (x6 : Int32) (σ : sj_S) : Prop := ((nI 20) ≤ x6 → vp_in x4 9 ∧ sj_J G 12 me_L_isImproved R 89 [.ref (sj_ad G 56), .int x1, .int x2, .int x3, .int x4, .int x5, .int (nI 0), .null] (sj_st σ 62 x4.toNatClampNeg x5) []) ∧ (¬ ((nI 20) ≤ x6) → vp_in x4 9 ∧ ∃ v4 σ4, sj_C G 4 me_L_isGood [.ref (sj_ad G 56)] (sj_st σ 62 x4.toNatClampNeg x6) (.ok v4, σ4) ∧ (v4 = 0 → (wp_L_isImproved_71 G R x1 x2 x3 x4 x5 x6 σ4)) ∧ (¬ (v4 = 0) → ∃ v7 σ7, sj_C G 4 me_L_cost [.ref (sj_ad G 56)] σ4 (.ok v7, σ7) ∧ (wp_L_isImproved_71 G R x1 x2 (if v7 < x3 then v7 else x3) x4 x5 x6 σ7)))
set_option maxRecDepth 20000 in
theorem t_L_isImproved_39 {G : sj_G} {R : sj_R} {x1 : Int32} {x2 : Int32} {x3 : Int32} {x4 : Int32} {x5 : Int32} {x6 : Int32} {σ : sj_S} (hO : sj_ad G 70 = sj_ad G 0) (h : wp_L_isImproved_39 G R x1 x2 x3 x4 x5 x6 σ) : sj_J G 12 me_L_isImproved R 39 [.ref (sj_ad G 56), .int x1, .int x2, .int x3, .int x4, .int x5, .int x6, .null] σ [] := by
  unfold wp_L_isImproved_39 at h
  refine sj_iload dL_isImproved_39 rfl ?_
  refine sj_bipush (v := (nI 20)) dL_isImproved_41 (by decide +kernel) ?_
  refine sj_icmp_ge (tgt := 77) dL_isImproved_43 (by decide) (fun c1 => ?_) (fun c1 => ?_)
  · replace h := h.1 c1
    refine sj_aload_n dL_isImproved_77 (i := 0) rfl rfl ?_
    refine sj_get (a := 56) (k9 := 7) (v := .ref (sj_ad G 62)) dL_isImproved_78 (by decide +kernel) rfl ?_
    refine sj_iload dL_isImproved_81 rfl ?_
    refine sj_iload dL_isImproved_83 rfl ?_
    obtain ⟨b2, h⟩ := h
    refine sj_iast (a := 62) (j := x4.toNatClampNeg) dL_isImproved_85 rfl (by decide +kernel) b2 rfl ?_
    refine sj_iconst (v := (nI 0)) dL_isImproved_86 (by decide +kernel) ?_
    refine sj_istore dL_isImproved_87 (by decide) ?_
    exact h
  · replace h := h.2 c1
    refine sj_aload_n dL_isImproved_46 (i := 0) rfl rfl ?_
    refine sj_get (a := 56) (k9 := 7) (v := .ref (sj_ad G 62)) dL_isImproved_47 (by decide +kernel) rfl ?_
    refine sj_iload dL_isImproved_50 rfl ?_
    refine sj_iload dL_isImproved_52 rfl ?_
    obtain ⟨b3, h⟩ := h
    refine sj_iast (a := 62) (j := x4.toNatClampNeg) dL_isImproved_54 rfl (by decide +kernel) b3 rfl ?_
    refine sj_aload_n dL_isImproved_55 (i := 0) rfl rfl ?_
    obtain ⟨v4, σ4, hc4, h⟩ := h
    refine sj_callVi (M' := me_L_isGood) (b := 56) (As := []) (rest := []) dL_isImproved_56 gL_isImproved_L_isGood rfl hd_L_isGood (by decide +kernel) (by decide +kernel) rfl (Nat.le_of_ble_eq_true rfl) (by omega) rfl hc4 ?_
    refine sj_if_eq (tgt := 71) dL_isImproved_59 (by decide) (fun c6 => ?_) (fun c6 => ?_)
    · replace h := h.1 c6
      exact t_L_isImproved_71 hO h
    · replace h := h.2 c6
      refine sj_iload_n dL_isImproved_62 (i := 3) rfl rfl ?_
      refine sj_aload_n dL_isImproved_63 (i := 0) rfl rfl ?_
      obtain ⟨v7, σ7, hc7, h⟩ := h
      refine sj_callVi (M' := me_L_cost) (b := 56) (As := []) (rest := [.int x3]) dL_isImproved_64 gL_isImproved_L_cost rfl hd_L_cost (by decide +kernel) (by decide +kernel) rfl (Nat.le_of_ble_eq_true rfl) (by omega) rfl hc7 ?_
      refine sj_mmin dL_isImproved_67 (by decide +kernel) (by omega) (Nat.le_of_ble_eq_true rfl) ?_
      refine sj_istore_n dL_isImproved_70 (i := 3) rfl (by decide) ?_
      exact t_L_isImproved_71 hO h
def wp_L_isImproved_139 (G : sj_G) (R : sj_R) (x1 : Int32) (x2 : Int32) (x3 : Int32) (x4 : Int32) (x5 : Int32) (x6 : Int32) (x7 : Int32) (σ : sj_S) : Prop := vp_in x6 9 ∧ vp_in x4 9 ∧ sj_J G 12 me_L_isImproved R 89 [.ref (sj_ad G 56), .int x1, .int x2, .int x3, .int x4, .int x5, .int (x6 + (nI 1)), .null] (sj_st (sj_st σ 62 x6.toNatClampNeg x7) 62 x4.toNatClampNeg x5) []
set_option maxRecDepth 20000 in
theorem t_L_isImproved_139 {G : sj_G} {R : sj_R} {x1 : Int32} {x2 : Int32} {x3 : Int32} {x4 : Int32} {x5 : Int32} {x6 : Int32} {x7 : Int32} {σ : sj_S} (hO : sj_ad G 70 = sj_ad G 0) (h : wp_L_isImproved_139 G R x1 x2 x3 x4 x5 x6 x7 σ) : sj_J G 12 me_L_isImproved R 139 [.ref (sj_ad G 56), .int x1, .int x2, .int x3, .int x4, .int x5, .int x6, .int x7] σ [] := by
  unfold wp_L_isImproved_139 at h
  refine sj_aload_n dL_isImproved_139 (i := 0) rfl rfl ?_
  refine sj_get (a := 56) (k9 := 7) (v := .ref (sj_ad G 62)) dL_isImproved_140 (by decide +kernel) rfl ?_
  refine sj_iload dL_isImproved_143 rfl ?_
  refine sj_iload dL_isImproved_145 rfl ?_
  obtain ⟨b1, h⟩ := h
  refine sj_iast (a := 62) (j := x6.toNatClampNeg) dL_isImproved_147 rfl (by decide +kernel) b1 rfl ?_
  refine sj_aload_n dL_isImproved_148 (i := 0) rfl rfl ?_
  refine sj_get (a := 56) (k9 := 7) (v := .ref (sj_ad G 62)) dL_isImproved_149 (by decide +kernel) rfl ?_
  refine sj_iload dL_isImproved_152 rfl ?_
  refine sj_iload dL_isImproved_154 rfl ?_
  obtain ⟨b2, h⟩ := h
  refine sj_iast (a := 62) (j := x4.toNatClampNeg) dL_isImproved_156 rfl (by decide +kernel) b2 rfl ?_
  refine sj_iinc (v := (x6 + (nI 1))) dL_isImproved_157 (by decide) rfl rfl ?_
  refine sj_goto (tgt := 89) dL_isImproved_160 (by decide) ?_
  refine sj_fg [7] ?_
  exact h
def wp_L_isImproved_89 (G : sj_G) (R : sj_R) (x1 : Int32) (x2 : Int32) (x3 : Int32) (x4 : Int32) (x5 : Int32) (x6 : Int32) (σ : sj_S) : Prop := (x4 ≤ x6 → sj_J G 12 me_L_isImproved R 18 [.ref (sj_ad G 56), .int x1, .int x2, .int x3, .int (x4 + (nI 1)), .null, .null, .null] σ []) ∧ (¬ (x4 ≤ x6) → vp_in x6 9 ∧ vp_in x6 9 ∧ vp_in x4 9 ∧ ∃ v5 σ5, sj_C G 4 me_L_isGood [.ref (sj_ad G 56)] (sj_st (sj_st σ 62 x6.toNatClampNeg x5) 62 x4.toNatClampNeg (σ 62 x6.toNatClampNeg)) (.ok v5, σ5) ∧ (v5 = 0 → (wp_L_isImproved_139 G R x1 x2 x3 x4 x5 x6 (σ 62 x6.toNatClampNeg) σ5)) ∧ (¬ (v5 = 0) → ∃ v8 σ8, sj_C G 4 me_L_cost [.ref (sj_ad G 56)] σ5 (.ok v8, σ8) ∧ (wp_L_isImproved_139 G R x1 x2 (if v8 < x3 then v8 else x3) x4 x5 x6 (σ 62 x6.toNatClampNeg) σ8)))
set_option maxRecDepth 20000 in
theorem t_L_isImproved_89 {G : sj_G} {R : sj_R} {x1 : Int32} {x2 : Int32} {x3 : Int32} {x4 : Int32} {x5 : Int32} {x6 : Int32} {σ : sj_S} (hO : sj_ad G 70 = sj_ad G 0) (h : wp_L_isImproved_89 G R x1 x2 x3 x4 x5 x6 σ) : sj_J G 12 me_L_isImproved R 89 [.ref (sj_ad G 56), .int x1, .int x2, .int x3, .int x4, .int x5, .int x6, .null] σ [] := by
  unfold wp_L_isImproved_89 at h
  refine sj_iload dL_isImproved_89 rfl ?_
  refine sj_iload dL_isImproved_91 rfl ?_
  refine sj_icmp_ge (tgt := 163) dL_isImproved_93 (by decide) (fun c1 => ?_) (fun c1 => ?_)
  · replace h := h.1 c1
    refine sj_iinc (v := (x4 + (nI 1))) dL_isImproved_163 (by decide) rfl rfl ?_
    refine sj_goto (tgt := 18) dL_isImproved_166 (by decide) ?_
    refine sj_fg [5, 6] ?_
    exact h
  · replace h := h.2 c1
    refine sj_aload_n dL_isImproved_96 (i := 0) rfl rfl ?_
    refine sj_get (a := 56) (k9 := 7) (v := .ref (sj_ad G 62)) dL_isImproved_97 (by decide +kernel) rfl ?_
    refine sj_iload dL_isImproved_100 rfl ?_
    obtain ⟨b2, h⟩ := h
    refine sj_iald (a := 62) (j := x6.toNatClampNeg) (x := (σ 62 x6.toNatClampNeg)) dL_isImproved_102 rfl (by decide +kernel) b2 rfl rfl ?_
    refine sj_istore dL_isImproved_103 (by decide) ?_
    refine sj_aload_n dL_isImproved_105 (i := 0) rfl rfl ?_
    refine sj_get (a := 56) (k9 := 7) (v := .ref (sj_ad G 62)) dL_isImproved_106 (by decide +kernel) rfl ?_
    refine sj_iload dL_isImproved_109 rfl ?_
    refine sj_iload dL_isImproved_111 rfl ?_
    obtain ⟨b3, h⟩ := h
    refine sj_iast (a := 62) (j := x6.toNatClampNeg) dL_isImproved_113 rfl (by decide +kernel) b3 rfl ?_
    refine sj_aload_n dL_isImproved_114 (i := 0) rfl rfl ?_
    refine sj_get (a := 56) (k9 := 7) (v := .ref (sj_ad G 62)) dL_isImproved_115 (by decide +kernel) rfl ?_
    refine sj_iload dL_isImproved_118 rfl ?_
    refine sj_iload dL_isImproved_120 rfl ?_
    obtain ⟨b4, h⟩ := h
    refine sj_iast (a := 62) (j := x4.toNatClampNeg) dL_isImproved_122 rfl (by decide +kernel) b4 rfl ?_
    refine sj_aload_n dL_isImproved_123 (i := 0) rfl rfl ?_
    obtain ⟨v5, σ5, hc5, h⟩ := h
    refine sj_callVi (M' := me_L_isGood) (b := 56) (As := []) (rest := []) dL_isImproved_124 gL_isImproved_L_isGood rfl hd_L_isGood (by decide +kernel) (by decide +kernel) rfl (Nat.le_of_ble_eq_true rfl) (by omega) rfl hc5 ?_
    refine sj_if_eq (tgt := 139) dL_isImproved_127 (by decide) (fun c7 => ?_) (fun c7 => ?_)
    · replace h := h.1 c7
      exact t_L_isImproved_139 hO h
    · replace h := h.2 c7
      refine sj_iload_n dL_isImproved_130 (i := 3) rfl rfl ?_
      refine sj_aload_n dL_isImproved_131 (i := 0) rfl rfl ?_
      obtain ⟨v8, σ8, hc8, h⟩ := h
      refine sj_callVi (M' := me_L_cost) (b := 56) (As := []) (rest := [.int x3]) dL_isImproved_132 gL_isImproved_L_cost rfl hd_L_cost (by decide +kernel) (by decide +kernel) rfl (Nat.le_of_ble_eq_true rfl) (by omega) rfl hc8 ?_
      refine sj_mmin dL_isImproved_135 (by decide +kernel) (by omega) (Nat.le_of_ble_eq_true rfl) ?_
      refine sj_istore_n dL_isImproved_138 (i := 3) rfl (by decide) ?_
      exact t_L_isImproved_139 hO h
def wp_L_isImproved_0 (G : sj_G) (R : sj_R) (σ : sj_S) : Prop := sj_J G 12 me_L_isImproved R 2 [.ref (sj_ad G 56), .int (nI 0), .null, .null, .null, .null, .null, .null] σ []
set_option maxRecDepth 20000 in
theorem t_L_isImproved_0 {G : sj_G} {R : sj_R} {σ : sj_S} (hO : sj_ad G 70 = sj_ad G 0) (h : wp_L_isImproved_0 G R σ) : sj_J G 12 me_L_isImproved R 0 [.ref (sj_ad G 56), .null, .null, .null, .null, .null, .null, .null] σ [] := by
  unfold wp_L_isImproved_0 at h
  refine sj_iconst (v := (nI 0)) dL_isImproved_0 (by decide +kernel) ?_
  refine sj_istore_n dL_isImproved_1 (i := 1) rfl (by decide) ?_
  exact h
theorem c_L_isImproved {G : sj_G} (ok : sj_ok G) {R : sj_R} {σ : sj_S} (hO : sj_ad G 70 = sj_ad G 0) (h : wp_L_isImproved_0 G R σ) : sj_C G 12 me_L_isImproved [.ref (sj_ad G 56)] σ R :=
  sj_enter ok (by decide +kernel) rfl rfl (Nat.le_of_ble_eq_true rfl) (by simp [Value.category]) (t_L_isImproved_0 hO h)
def wp_L_isTold_60 (G : sj_G) (R : sj_R) (x1 : Int32) (x2 : Int32) (x3 : Int32) (s0 : Int32) (s1 : Int32) (σ : sj_S) : Prop := ∃ v1 σ1, sj_C G 9 me_X11_append [.ref (sj_ad G 0), .int s1, .int s0, .int (nI 0), .int (nI 0), .int (nI 0)] σ (.ok v1, σ1) ∧ ((nI 1) ≤ v1 → sj_J G 45 me_L_isTold R 30 [.ref (sj_ad G 56), .int x1, .int x2, .int (x3 + (nI 1)), .null] σ1 []) ∧ (¬ ((nI 1) ≤ v1) → R = (.ok (nI 0), σ1))
set_option maxRecDepth 20000 in
theorem t_L_isTold_60 {G : sj_G} {R : sj_R} {x1 : Int32} {x2 : Int32} {x3 : Int32} {s0 : Int32} {s1 : Int32} {σ : sj_S} (hO : sj_ad G 70 = sj_ad G 0) (h : wp_L_isTold_60 G R x1 x2 x3 s0 s1 σ) : sj_J G 45 me_L_isTold R 60 [.ref (sj_ad G 56), .int x1, .int x2, .int x3, .null] σ [.int s0, .int s1, .ref (sj_ad G 0)] := by
  unfold wp_L_isTold_60 at h
  refine sj_iconst (v := (nI 0)) dL_isTold_60 (by decide +kernel) ?_
  refine sj_iconst (v := (nI 0)) dL_isTold_61 (by decide +kernel) ?_
  refine sj_iconst (v := (nI 0)) dL_isTold_62 (by decide +kernel) ?_
  obtain ⟨v1, σ1, hc1, h⟩ := h
  refine sj_callVi (M' := me_X11_append) (b := 0) (As := [.int s1, .int s0, .int (nI 0), .int (nI 0), .int (nI 0)]) (rest := []) dL_isTold_63 gL_isTold_X11_append rfl hd_X11_append (by decide +kernel) (by decide +kernel) rfl (Nat.le_of_ble_eq_true rfl) (by omega) rfl hc1 ?_
  refine sj_iconst (v := (nI 1)) dL_isTold_66 (by decide +kernel) ?_
  refine sj_icmp_ge (tgt := 72) dL_isTold_67 (by decide) (fun c2 => ?_) (fun c2 => ?_)
  · replace h := h.1 c2
    refine sj_iinc (v := (x3 + (nI 1))) dL_isTold_72 (by decide) rfl rfl ?_
    refine sj_goto (tgt := 30) dL_isTold_75 (by decide) ?_
    exact h
  · replace h := h.2 c2
    refine sj_iconst (v := (nI 0)) dL_isTold_70 (by decide +kernel) ?_
    subst h
    exact sj_ret dL_isTold_71 rfl rfl
def wp_L_isTold_135 (G : sj_G) (R : sj_R) (σ : sj_S) : Prop := R = (.ok (nI 0), σ)
set_option maxRecDepth 20000 in
theorem t_L_isTold_135 {G : sj_G} {R : sj_R} {σ : sj_S} (hO : sj_ad G 70 = sj_ad G 0) (h : wp_L_isTold_135 G R σ) : sj_J G 45 me_L_isTold R 135 [.null, .null, .null, .null, .null] σ [] := by
  unfold wp_L_isTold_135 at h
  refine sj_iconst (v := (nI 0)) dL_isTold_135 (by decide +kernel) ?_
  subst h
  exact sj_ret dL_isTold_136 rfl rfl
def wp_L_isTold_30 (G : sj_G) (R : sj_R) (x1 : Int32) (x2 : Int32) (x3 : Int32) (σ : sj_S) : Prop := (x2 ≤ x3 → ∃ v2 σ2, sj_C G 11 me_X11_read [.ref (sj_ad G 0)] σ (.ok v2, σ2) ∧ ∃ v3 σ3, sj_C G 4 me_L_cost [.ref (sj_ad G 56)] σ2 (.ok v3, σ3) ∧ (¬ v2 = v3 → (wp_L_isTold_135 G R σ3)) ∧ (v2 = v3 → ∃ v5 σ5, sj_C G 3 me_X11_checksum [.ref (sj_ad G 0)] σ3 (.ok v5, σ5) ∧ (¬ v5 = x1 → (wp_L_isTold_135 G R σ5)) ∧ (v5 = x1 → ∃ v7 σ7, sj_C G 2 me_X11_errorPosition [.ref (sj_ad G 0)] σ5 (.ok v7, σ7) ∧ (¬ v7 = (-1) → (wp_L_isTold_135 G R σ7)) ∧ (v7 = (-1) → ∃ v9 σ9, sj_C G 3 me_X11_undo [.ref (sj_ad G 0)] σ7 (.ok v9, σ9) ∧ (v9 < 0 → (wp_L_isTold_135 G R σ9)) ∧ (¬ (v9 < 0) → ∃ v11 σ11, sj_C G 3 me_X11_checksum [.ref (sj_ad G 0)] σ9 (.ok v11, σ11) ∧ (v11 = x1 → sj_J G 45 me_L_isTold R 143 [.ref (sj_ad G 56), .int x1, .null, .int (nI 17), .int (nI 0)] σ11 []) ∧ (¬ (v11 = x1) → (wp_L_isTold_135 G R σ11))))))) ∧ (¬ (x2 ≤ x3) → ∃ v13 σ13, sj_C G 9 me_X11_writtenAt [.ref (sj_ad G 0), .int x3] σ (.ok v13, σ13) ∧ (wp_L_isTold_60 G R x1 x2 x3 (if (x3 - x3 / (nI 4) * (nI 4)) = (nI 3) then (nI 32) else (nI 0)) v13 σ13))
set_option maxRecDepth 20000 in
theorem t_L_isTold_30 {G : sj_G} {R : sj_R} {x1 : Int32} {x2 : Int32} {x3 : Int32} {σ : sj_S} (hO : sj_ad G 70 = sj_ad G 0) (h : wp_L_isTold_30 G R x1 x2 x3 σ) : sj_J G 45 me_L_isTold R 30 [.ref (sj_ad G 56), .int x1, .int x2, .int x3, .null] σ [] := by
  unfold wp_L_isTold_30 at h
  refine sj_iload_n dL_isTold_30 (i := 3) rfl rfl ?_
  refine sj_iload_n dL_isTold_31 (i := 2) rfl rfl ?_
  refine sj_icmp_ge (tgt := 78) dL_isTold_32 (by decide) (fun c1 => ?_) (fun c1 => ?_)
  · replace h := h.1 c1
    refine sj_aload_n dL_isTold_78 (i := 0) rfl rfl ?_
    refine sj_getO hO (a := 56) (k9 := 1) dL_isTold_79 (by decide +kernel) rfl ?_
    obtain ⟨v2, σ2, hc2, h⟩ := h
    refine sj_callVi (M' := me_X11_read) (b := 0) (As := []) (rest := []) dL_isTold_82 gL_isTold_X11_read rfl hd_X11_read (by decide +kernel) (by decide +kernel) rfl (Nat.le_of_ble_eq_true rfl) (by omega) rfl hc2 ?_
    refine sj_aload_n dL_isTold_85 (i := 0) rfl rfl ?_
    obtain ⟨v3, σ3, hc3, h⟩ := h
    refine sj_callVi (M' := me_L_cost) (b := 56) (As := []) (rest := [.int v2]) dL_isTold_86 gL_isTold_L_cost rfl hd_L_cost (by decide +kernel) (by decide +kernel) rfl (Nat.le_of_ble_eq_true rfl) (by omega) rfl hc3 ?_
    refine sj_icmp_ne (tgt := 135) dL_isTold_89 (by decide) (fun c4 => ?_) (fun c4 => ?_)
    · replace h := h.1 c4
      refine sj_fg [0, 1, 2, 3] ?_
      exact t_L_isTold_135 hO h
    · replace h := h.2 c4
      refine sj_aload_n dL_isTold_92 (i := 0) rfl rfl ?_
      refine sj_getO hO (a := 56) (k9 := 1) dL_isTold_93 (by decide +kernel) rfl ?_
      obtain ⟨v5, σ5, hc5, h⟩ := h
      refine sj_callVi (M' := me_X11_checksum) (b := 0) (As := []) (rest := []) dL_isTold_96 gL_isTold_X11_checksum rfl hd_X11_checksum (by decide +kernel) (by decide +kernel) rfl (Nat.le_of_ble_eq_true rfl) (by omega) rfl hc5 ?_
      refine sj_iload_n dL_isTold_99 (i := 1) rfl rfl ?_
      refine sj_icmp_ne (tgt := 135) dL_isTold_100 (by decide) (fun c6 => ?_) (fun c6 => ?_)
      · replace h := h.1 c6
        refine sj_fg [0, 1, 2, 3] ?_
        exact t_L_isTold_135 hO h
      · replace h := h.2 c6
        refine sj_aload_n dL_isTold_103 (i := 0) rfl rfl ?_
        refine sj_getO hO (a := 56) (k9 := 1) dL_isTold_104 (by decide +kernel) rfl ?_
        obtain ⟨v7, σ7, hc7, h⟩ := h
        refine sj_callVi (M' := me_X11_errorPosition) (b := 0) (As := []) (rest := []) dL_isTold_107 gL_isTold_X11_errorPosition rfl hd_X11_errorPosition (by decide +kernel) (by decide +kernel) rfl (Nat.le_of_ble_eq_true rfl) (by omega) rfl hc7 ?_
        refine sj_iconst (v := (-1)) dL_isTold_110 (by decide +kernel) ?_
        refine sj_icmp_ne (tgt := 135) dL_isTold_111 (by decide) (fun c8 => ?_) (fun c8 => ?_)
        · replace h := h.1 c8
          refine sj_fg [0, 1, 2, 3] ?_
          exact t_L_isTold_135 hO h
        · replace h := h.2 c8
          refine sj_aload_n dL_isTold_114 (i := 0) rfl rfl ?_
          refine sj_getO hO (a := 56) (k9 := 1) dL_isTold_115 (by decide +kernel) rfl ?_
          obtain ⟨v9, σ9, hc9, h⟩ := h
          refine sj_callVi (M' := me_X11_undo) (b := 0) (As := []) (rest := []) dL_isTold_118 gL_isTold_X11_undo rfl hd_X11_undo (by decide +kernel) (by decide +kernel) rfl (Nat.le_of_ble_eq_true rfl) (by omega) rfl hc9 ?_
          refine sj_if_lt (tgt := 135) dL_isTold_121 (by decide) (fun c10 => ?_) (fun c10 => ?_)
          · replace h := h.1 c10
            refine sj_fg [0, 1, 2, 3] ?_
            exact t_L_isTold_135 hO h
          · replace h := h.2 c10
            refine sj_aload_n dL_isTold_124 (i := 0) rfl rfl ?_
            refine sj_getO hO (a := 56) (k9 := 1) dL_isTold_125 (by decide +kernel) rfl ?_
            obtain ⟨v11, σ11, hc11, h⟩ := h
            refine sj_callVi (M' := me_X11_checksum) (b := 0) (As := []) (rest := []) dL_isTold_128 gL_isTold_X11_checksum rfl hd_X11_checksum (by decide +kernel) (by decide +kernel) rfl (Nat.le_of_ble_eq_true rfl) (by omega) rfl hc11 ?_
            refine sj_iload_n dL_isTold_131 (i := 1) rfl rfl ?_
            refine sj_icmp_eq (tgt := 137) dL_isTold_132 (by decide) (fun c12 => ?_) (fun c12 => ?_)
            · replace h := h.1 c12
              refine sj_bipush (v := (nI 17)) dL_isTold_137 (by decide +kernel) ?_
              refine sj_istore_n dL_isTold_139 (i := 3) rfl (by decide) ?_
              refine sj_iconst (v := (nI 0)) dL_isTold_140 (by decide +kernel) ?_
              refine sj_istore dL_isTold_141 (by decide) ?_
              refine sj_fg [2] ?_
              exact h
            · replace h := h.2 c12
              refine sj_fg [0, 1, 2, 3] ?_
              exact t_L_isTold_135 hO h
  · replace h := h.2 c1
    refine sj_aload_n dL_isTold_35 (i := 0) rfl rfl ?_
    refine sj_getO hO (a := 56) (k9 := 1) dL_isTold_36 (by decide +kernel) rfl ?_
    refine sj_aload_n dL_isTold_39 (i := 0) rfl rfl ?_
    refine sj_getO hO (a := 56) (k9 := 1) dL_isTold_40 (by decide +kernel) rfl ?_
    refine sj_iload_n dL_isTold_43 (i := 3) rfl rfl ?_
    obtain ⟨v13, σ13, hc13, h⟩ := h
    refine sj_callVi (M' := me_X11_writtenAt) (b := 0) (As := [.int x3]) (rest := [.ref (sj_ad G 0)]) dL_isTold_44 gL_isTold_X11_writtenAt rfl hd_X11_writtenAt (by decide +kernel) (by decide +kernel) rfl (Nat.le_of_ble_eq_true rfl) (by omega) rfl hc13 ?_
    refine sj_iload_n dL_isTold_47 (i := 3) rfl rfl ?_
    refine sj_iconst (v := (nI 4)) dL_isTold_48 (by decide +kernel) ?_
    refine sj_irem dL_isTold_49 (by decide +kernel) ?_
    refine sj_iconst (v := (nI 3)) dL_isTold_50 (by decide +kernel) ?_
    refine sj_icmp_ne (tgt := 59) dL_isTold_51 (by decide) (fun c14 => ?_) (fun c14 => ?_)
    · refine sj_iconst (v := (nI 0)) dL_isTold_59 (by decide +kernel) ?_
      try simp only [if_neg c14] at h
      exact t_L_isTold_60 hO h
    · refine sj_bipush (v := (nI 32)) dL_isTold_54 (by decide +kernel) ?_
      refine sj_goto (tgt := 60) dL_isTold_56 (by decide) ?_
      try simp only [if_pos c14] at h
      exact t_L_isTold_60 hO h
def wp_L_isTold_188 (G : sj_G) (R : sj_R) (s0 : Int32) (σ : sj_S) : Prop := R = (.ok s0, σ) ∧ (s0 = nI 0 ∨ s0 = nI 1)
set_option maxRecDepth 20000 in
theorem t_L_isTold_188 {G : sj_G} {R : sj_R} {s0 : Int32} {σ : sj_S} (hO : sj_ad G 70 = sj_ad G 0) (h : wp_L_isTold_188 G R s0 σ) : sj_J G 45 me_L_isTold R 188 [.null, .null, .null, .null, .null] σ [.int s0] := by
  unfold wp_L_isTold_188 at h
  obtain ⟨h, hz⟩ := h
  subst h
  exact sj_ret dL_isTold_188 rfl (sj_nb hz)
def wp_L_isTold_187 (G : sj_G) (R : sj_R) (σ : sj_S) : Prop := (wp_L_isTold_188 G R (nI 0) σ)
set_option maxRecDepth 20000 in
theorem t_L_isTold_187 {G : sj_G} {R : sj_R} {σ : sj_S} (hO : sj_ad G 70 = sj_ad G 0) (h : wp_L_isTold_187 G R σ) : sj_J G 45 me_L_isTold R 187 [.null, .null, .null, .null, .null] σ [] := by
  unfold wp_L_isTold_187 at h
  refine sj_iconst (v := (nI 0)) dL_isTold_187 (by decide +kernel) ?_
  exact t_L_isTold_188 hO h
def wp_L_isTold_143 (G : sj_G) (R : sj_R) (x1 : Int32) (x3 : Int32) (x4 : Int32) (σ : sj_S) : Prop := ((σ 56 13) ≤ x4 → (¬ x3 = x1 → (wp_L_isTold_187 G R σ)) ∧ (x3 = x1 → ∃ v4 σ4, sj_C G 44 me_L_areTaken [.ref (sj_ad G 56)] σ (.ok v4, σ4) ∧ (wp_L_isTold_188 G R (if v4 = 0 then (nI 0) else (nI 1)) σ4))) ∧ (¬ ((σ 56 13) ≤ x4) → vp_in x4 9 ∧ sj_J G 45 me_L_isTold R 143 [.ref (sj_ad G 56), .int x1, .null, .int (((nI 31) * x3) + (σ 62 x4.toNatClampNeg)), .int (x4 + (nI 1))] σ [])
set_option maxRecDepth 20000 in
theorem t_L_isTold_143 {G : sj_G} {R : sj_R} {x1 : Int32} {x3 : Int32} {x4 : Int32} {σ : sj_S} (hO : sj_ad G 70 = sj_ad G 0) (h : wp_L_isTold_143 G R x1 x3 x4 σ) : sj_J G 45 me_L_isTold R 143 [.ref (sj_ad G 56), .int x1, .null, .int x3, .int x4] σ [] := by
  unfold wp_L_isTold_143 at h
  refine sj_iload dL_isTold_143 rfl ?_
  refine sj_aload_n dL_isTold_145 (i := 0) rfl rfl ?_
  refine sj_get (a := 56) (k9 := 13) (v := .int (σ 56 13)) dL_isTold_146 (by decide +kernel) rfl ?_
  refine sj_icmp_ge (tgt := 171) dL_isTold_149 (by decide) (fun c1 => ?_) (fun c1 => ?_)
  · replace h := h.1 c1
    refine sj_iload_n dL_isTold_171 (i := 3) rfl rfl ?_
    refine sj_iload_n dL_isTold_172 (i := 1) rfl rfl ?_
    refine sj_icmp_ne (tgt := 187) dL_isTold_173 (by decide) (fun c3 => ?_) (fun c3 => ?_)
    · replace h := h.1 c3
      refine sj_fg [0, 1, 3, 4] ?_
      exact t_L_isTold_187 hO h
    · replace h := h.2 c3
      refine sj_aload_n dL_isTold_176 (i := 0) rfl rfl ?_
      obtain ⟨v4, σ4, hc4, h⟩ := h
      refine sj_callVi (M' := me_L_areTaken) (b := 56) (As := []) (rest := []) dL_isTold_177 gL_isTold_L_areTaken rfl hd_L_areTaken (by decide +kernel) (by decide +kernel) rfl (Nat.le_of_ble_eq_true rfl) (by omega) rfl hc4 ?_
      refine sj_if_eq (tgt := 187) dL_isTold_180 (by decide) (fun c5 => ?_) (fun c5 => ?_)
      · refine sj_iconst (v := (nI 0)) dL_isTold_187 (by decide +kernel) ?_
        try simp only [if_pos c5] at h
        refine sj_fg [0, 1, 3, 4] ?_
        exact t_L_isTold_188 hO h
      · refine sj_iconst (v := (nI 1)) dL_isTold_183 (by decide +kernel) ?_
        refine sj_goto (tgt := 188) dL_isTold_184 (by decide) ?_
        try simp only [if_neg c5] at h
        refine sj_fg [0, 1, 3, 4] ?_
        exact t_L_isTold_188 hO h
  · replace h := h.2 c1
    refine sj_bipush (v := (nI 31)) dL_isTold_152 (by decide +kernel) ?_
    refine sj_iload_n dL_isTold_154 (i := 3) rfl rfl ?_
    refine sj_imul dL_isTold_155 ?_
    refine sj_aload_n dL_isTold_156 (i := 0) rfl rfl ?_
    refine sj_get (a := 56) (k9 := 7) (v := .ref (sj_ad G 62)) dL_isTold_157 (by decide +kernel) rfl ?_
    refine sj_iload dL_isTold_160 rfl ?_
    obtain ⟨b6, h⟩ := h
    refine sj_iald (a := 62) (j := x4.toNatClampNeg) (x := (σ 62 x4.toNatClampNeg)) dL_isTold_162 rfl (by decide +kernel) b6 rfl rfl ?_
    refine sj_iadd dL_isTold_163 ?_
    refine sj_istore_n dL_isTold_164 (i := 3) rfl (by decide) ?_
    refine sj_iinc (v := (x4 + (nI 1))) dL_isTold_165 (by decide) rfl rfl ?_
    refine sj_goto (tgt := 143) dL_isTold_168 (by decide) ?_
    exact h
def wp_L_isTold_0 (G : sj_G) (R : sj_R) (σ : sj_S) : Prop := ∃ v1 σ1, sj_C G 3 me_X11_checksum [.ref (sj_ad G 0)] σ (.ok v1, σ1) ∧ ∃ v2 σ2, sj_C G 10 me_X11_write [.ref (sj_ad G 0)] σ1 (.ok v2, σ2) ∧ (v2 = ((nI 4) * (σ2 56 13)) → sj_J G 45 me_L_isTold R 30 [.ref (sj_ad G 56), .int v1, .int v2, .int (nI 0), .null] σ2 []) ∧ (¬ (v2 = ((nI 4) * (σ2 56 13))) → R = (.ok (nI 0), σ2))
set_option maxRecDepth 20000 in
theorem t_L_isTold_0 {G : sj_G} {R : sj_R} {σ : sj_S} (hO : sj_ad G 70 = sj_ad G 0) (h : wp_L_isTold_0 G R σ) : sj_J G 45 me_L_isTold R 0 [.ref (sj_ad G 56), .null, .null, .null, .null] σ [] := by
  unfold wp_L_isTold_0 at h
  refine sj_aload_n dL_isTold_0 (i := 0) rfl rfl ?_
  refine sj_getO hO (a := 56) (k9 := 1) dL_isTold_1 (by decide +kernel) rfl ?_
  obtain ⟨v1, σ1, hc1, h⟩ := h
  refine sj_callVi (M' := me_X11_checksum) (b := 0) (As := []) (rest := []) dL_isTold_4 gL_isTold_X11_checksum rfl hd_X11_checksum (by decide +kernel) (by decide +kernel) rfl (Nat.le_of_ble_eq_true rfl) (by omega) rfl hc1 ?_
  refine sj_istore_n dL_isTold_7 (i := 1) rfl (by decide) ?_
  refine sj_aload_n dL_isTold_8 (i := 0) rfl rfl ?_
  refine sj_getO hO (a := 56) (k9 := 1) dL_isTold_9 (by decide +kernel) rfl ?_
  obtain ⟨v2, σ2, hc2, h⟩ := h
  refine sj_callVi (M' := me_X11_write) (b := 0) (As := []) (rest := []) dL_isTold_12 gL_isTold_X11_write rfl hd_X11_write (by decide +kernel) (by decide +kernel) rfl (Nat.le_of_ble_eq_true rfl) (by omega) rfl hc2 ?_
  refine sj_istore_n dL_isTold_15 (i := 2) rfl (by decide) ?_
  refine sj_iload_n dL_isTold_16 (i := 2) rfl rfl ?_
  refine sj_iconst (v := (nI 4)) dL_isTold_17 (by decide +kernel) ?_
  refine sj_aload_n dL_isTold_18 (i := 0) rfl rfl ?_
  refine sj_get (a := 56) (k9 := 13) (v := .int (σ2 56 13)) dL_isTold_19 (by decide +kernel) rfl ?_
  refine sj_imul dL_isTold_22 ?_
  refine sj_icmp_eq (tgt := 28) dL_isTold_23 (by decide) (fun c3 => ?_) (fun c3 => ?_)
  · replace h := h.1 c3
    refine sj_iconst (v := (nI 0)) dL_isTold_28 (by decide +kernel) ?_
    refine sj_istore_n dL_isTold_29 (i := 3) rfl (by decide) ?_
    exact h
  · replace h := h.2 c3
    refine sj_iconst (v := (nI 0)) dL_isTold_26 (by decide +kernel) ?_
    subst h
    exact sj_ret dL_isTold_27 rfl rfl
theorem c_L_isTold {G : sj_G} (ok : sj_ok G) {R : sj_R} {σ : sj_S} (hO : sj_ad G 70 = sj_ad G 0) (h : wp_L_isTold_0 G R σ) : sj_C G 45 me_L_isTold [.ref (sj_ad G 56)] σ R :=
  sj_enter ok (by decide +kernel) rfl rfl (Nat.le_of_ble_eq_true rfl) (by simp [Value.category]) (t_L_isTold_0 hO h)
def wp_L_canTake_48 (G : sj_G) (R : sj_R) (x1 : Int32) (x2 : Int32) (x3 : Int32) (σ : sj_S) : Prop := sj_J G 3 me_L_canTake R 19 [.ref (sj_ad G 56), .int x1, .int x2, .int (x3 + (nI 1))] σ []
set_option maxRecDepth 20000 in
theorem t_L_canTake_48 {G : sj_G} {R : sj_R} {x1 : Int32} {x2 : Int32} {x3 : Int32} {σ : sj_S} (h : wp_L_canTake_48 G R x1 x2 x3 σ) : sj_J G 3 me_L_canTake R 48 [.ref (sj_ad G 56), .int x1, .int x2, .int x3] σ [] := by
  unfold wp_L_canTake_48 at h
  refine sj_iinc (v := (x3 + (nI 1))) dL_canTake_48 (by decide) rfl rfl ?_
  refine sj_goto (tgt := 19) dL_canTake_51 (by decide) ?_
  exact h
def wp_L_canTake_19 (G : sj_G) (R : sj_R) (x1 : Int32) (x2 : Int32) (x3 : Int32) (σ : sj_S) : Prop := ((σ 56 13) ≤ x3 → R = (.ok (nI 1), σ)) ∧ (¬ ((σ 56 13) ≤ x3) → vp_in x3 9 ∧ (¬ (σ 58 x3.toNatClampNeg) = x1 → (wp_L_canTake_48 G R x1 x2 x3 σ)) ∧ ((σ 58 x3.toNatClampNeg) = x1 → ∃ v4 σ4, sj_C G 2 me_L_isOn [.ref (sj_ad G 56), .int x3, .int x2] σ (.ok v4, σ4) ∧ (v4 = 0 → (wp_L_canTake_48 G R x1 x2 x3 σ4)) ∧ (¬ (v4 = 0) → R = (.ok (nI 0), σ4))))
set_option maxRecDepth 20000 in
theorem t_L_canTake_19 {G : sj_G} {R : sj_R} {x1 : Int32} {x2 : Int32} {x3 : Int32} {σ : sj_S} (h : wp_L_canTake_19 G R x1 x2 x3 σ) : sj_J G 3 me_L_canTake R 19 [.ref (sj_ad G 56), .int x1, .int x2, .int x3] σ [] := by
  unfold wp_L_canTake_19 at h
  refine sj_iload_n dL_canTake_19 (i := 3) rfl rfl ?_
  refine sj_aload_n dL_canTake_20 (i := 0) rfl rfl ?_
  refine sj_get (a := 56) (k9 := 13) (v := .int (σ 56 13)) dL_canTake_21 (by decide +kernel) rfl ?_
  refine sj_icmp_ge (tgt := 54) dL_canTake_24 (by decide) (fun c1 => ?_) (fun c1 => ?_)
  · replace h := h.1 c1
    refine sj_iconst (v := (nI 1)) dL_canTake_54 (by decide +kernel) ?_
    subst h
    exact sj_ret dL_canTake_55 rfl rfl
  · replace h := h.2 c1
    refine sj_aload_n dL_canTake_27 (i := 0) rfl rfl ?_
    refine sj_get (a := 56) (k9 := 3) (v := .ref (sj_ad G 58)) dL_canTake_28 (by decide +kernel) rfl ?_
    refine sj_iload_n dL_canTake_31 (i := 3) rfl rfl ?_
    obtain ⟨b2, h⟩ := h
    refine sj_iald (a := 58) (j := x3.toNatClampNeg) (x := (σ 58 x3.toNatClampNeg)) dL_canTake_32 rfl (by decide +kernel) b2 rfl rfl ?_
    refine sj_iload_n dL_canTake_33 (i := 1) rfl rfl ?_
    refine sj_icmp_ne (tgt := 48) dL_canTake_34 (by decide) (fun c3 => ?_) (fun c3 => ?_)
    · replace h := h.1 c3
      exact t_L_canTake_48 h
    · replace h := h.2 c3
      refine sj_aload_n dL_canTake_37 (i := 0) rfl rfl ?_
      refine sj_iload_n dL_canTake_38 (i := 3) rfl rfl ?_
      refine sj_iload_n dL_canTake_39 (i := 2) rfl rfl ?_
      obtain ⟨v4, σ4, hc4, h⟩ := h
      refine sj_callVi (M' := me_L_isOn) (b := 56) (As := [.int x3, .int x2]) (rest := []) dL_canTake_40 gL_canTake_L_isOn rfl hd_L_isOn (by decide +kernel) (by decide +kernel) rfl (Nat.le_of_ble_eq_true rfl) (by omega) rfl hc4 ?_
      refine sj_if_eq (tgt := 48) dL_canTake_43 (by decide) (fun c5 => ?_) (fun c5 => ?_)
      · replace h := h.1 c5
        exact t_L_canTake_48 h
      · replace h := h.2 c5
        refine sj_iconst (v := (nI 0)) dL_canTake_46 (by decide +kernel) ?_
        subst h
        exact sj_ret dL_canTake_47 rfl rfl
def wp_L_canTake_0 (G : sj_G) (R : sj_R) (x1 : Int32) (x2 : Int32) (σ : sj_S) : Prop := vp_in (((nI 5) * x1) + (x2 / (nI 4))) 30 ∧ ((σ 68 (((nI 5) * x1) + (x2 / (nI 4))).toNatClampNeg) = 0 → sj_J G 3 me_L_canTake R 19 [.ref (sj_ad G 56), .int x1, .int x2, .int (nI 0)] σ []) ∧ (¬ ((σ 68 (((nI 5) * x1) + (x2 / (nI 4))).toNatClampNeg) = 0) → R = (.ok (nI 0), σ))
set_option maxRecDepth 20000 in
theorem t_L_canTake_0 {G : sj_G} {R : sj_R} {x1 : Int32} {x2 : Int32} {σ : sj_S} (h : wp_L_canTake_0 G R x1 x2 σ) : sj_J G 3 me_L_canTake R 0 [.ref (sj_ad G 56), .int x1, .int x2, .null] σ [] := by
  unfold wp_L_canTake_0 at h
  refine sj_aload_n dL_canTake_0 (i := 0) rfl rfl ?_
  refine sj_get (a := 56) (k9 := 15) (v := .ref (sj_ad G 68)) dL_canTake_1 (by decide +kernel) rfl ?_
  refine sj_iconst (v := (nI 5)) dL_canTake_4 (by decide +kernel) ?_
  refine sj_iload_n dL_canTake_5 (i := 1) rfl rfl ?_
  refine sj_imul dL_canTake_6 ?_
  refine sj_iload_n dL_canTake_7 (i := 2) rfl rfl ?_
  refine sj_iconst (v := (nI 4)) dL_canTake_8 (by decide +kernel) ?_
  refine sj_idiv dL_canTake_9 (by decide +kernel) ?_
  refine sj_iadd dL_canTake_10 ?_
  obtain ⟨b1, h⟩ := h
  refine sj_zald (a := 68) (j := (((nI 5) * x1) + (x2 / (nI 4))).toNatClampNeg) (x := (σ 68 (((nI 5) * x1) + (x2 / (nI 4))).toNatClampNeg)) dL_canTake_11 rfl (by decide +kernel) b1 rfl rfl ?_
  refine sj_if_eq (tgt := 17) dL_canTake_12 (by decide) (fun c2 => ?_) (fun c2 => ?_)
  · replace h := h.1 c2
    refine sj_iconst (v := (nI 0)) dL_canTake_17 (by decide +kernel) ?_
    refine sj_istore_n dL_canTake_18 (i := 3) rfl (by decide) ?_
    exact h
  · replace h := h.2 c2
    refine sj_iconst (v := (nI 0)) dL_canTake_15 (by decide +kernel) ?_
    subst h
    exact sj_ret dL_canTake_16 rfl rfl
theorem c_L_canTake {G : sj_G} (ok : sj_ok G) {R : sj_R} {x1 : Int32} {x2 : Int32} {σ : sj_S} (h : wp_L_canTake_0 G R x1 x2 σ) : sj_C G 3 me_L_canTake [.ref (sj_ad G 56), .int x1, .int x2] σ R :=
  sj_enter ok (by decide +kernel) rfl rfl (Nat.le_of_ble_eq_true rfl) (by simp [Value.category]) (t_L_canTake_0 h)
def wp_L_mostOf_50 (G : sj_G) (R : sj_R) (d dd : Nat) (x4 : Int32) (σ : sj_S) : Prop := R = (.ok x4, σ)
set_option maxRecDepth 20000 in
theorem t_L_mostOf_50 {G : sj_G} {R : sj_R} {d dd : Nat} {x4 : Int32} {σ : sj_S} (hdd : dd + 1 ≤ d) (h10 : 10 ≤ d) (h : wp_L_mostOf_50 G R d dd x4 σ) : sj_J G d me_L_mostOf R 50 [.null, .null, .null, .null, .int x4, .null] σ [] := by
  unfold wp_L_mostOf_50 at h
  refine sj_iload dL_mostOf_50 rfl ?_
  subst h
  exact sj_ret dL_mostOf_52 rfl rfl
def wp_L_mostOf_105 (G : sj_G) (R : sj_R) (d dd : Nat) (x1 : Int32) (x2 : Int32) (x3 : Int32) (x4 : Int32) (x5 : Int32) (σ : sj_S) : Prop := sj_J G d me_L_mostOf R 56 [.ref (sj_ad G 56), .int x1, .int x2, .int x3, .int x4, .int (x5 + (nI 1))] σ []
set_option maxRecDepth 20000 in
theorem t_L_mostOf_105 {G : sj_G} {R : sj_R} {d dd : Nat} {x1 : Int32} {x2 : Int32} {x3 : Int32} {x4 : Int32} {x5 : Int32} {σ : sj_S} (hdd : dd + 1 ≤ d) (h10 : 10 ≤ d) (h : wp_L_mostOf_105 G R d dd x1 x2 x3 x4 x5 σ) : sj_J G d me_L_mostOf R 105 [.ref (sj_ad G 56), .int x1, .int x2, .int x3, .int x4, .int x5] σ [] := by
  unfold wp_L_mostOf_105 at h
  refine sj_iinc (v := (x5 + (nI 1))) dL_mostOf_105 (by decide) rfl rfl ?_
  refine sj_goto (tgt := 56) dL_mostOf_108 (by decide) ?_
  exact h
def wp_L_mostOf_56 (G : sj_G) (R : sj_R) (d dd : Nat) (x1 : Int32) (x2 : Int32) (x3 : Int32) (x4 : Int32) (x5 : Int32) (σ : sj_S) : Prop := ((nI 6) ≤ x5 → R = (.ok x4, σ)) ∧ (¬ ((nI 6) ≤ x5) → (¬ ((x3 >>> (x5 &&& 31)) &&& (nI 1)) = 0 → (wp_L_mostOf_105 G R d dd x1 x2 x3 x4 x5 σ)) ∧ (((x3 >>> (x5 &&& 31)) &&& (nI 1)) = 0 → ∃ v4 σ4, sj_C G 3 me_L_canTake [.ref (sj_ad G 56), .int x5, .int x1] σ (.ok v4, σ4) ∧ (v4 = 0 → (wp_L_mostOf_105 G R d dd x1 x2 x3 x4 x5 σ4)) ∧ (¬ (v4 = 0) → ∃ v7 σ7, sj_C G dd me_L_mostOf [.ref (sj_ad G 56), .int x1, .int (x2 + (nI 1)), .int (x3 ||| ((nI 1) <<< (x5 &&& 31)))] σ4 (.ok v7, σ7) ∧ (wp_L_mostOf_105 G R d dd x1 x2 x3 (if x4 < ((nI 1) + v7) then ((nI 1) + v7) else x4) x5 σ7))))
set_option maxRecDepth 20000 in
theorem t_L_mostOf_56 {G : sj_G} {R : sj_R} {d dd : Nat} {x1 : Int32} {x2 : Int32} {x3 : Int32} {x4 : Int32} {x5 : Int32} {σ : sj_S} (hdd : dd + 1 ≤ d) (h10 : 10 ≤ d) (h : wp_L_mostOf_56 G R d dd x1 x2 x3 x4 x5 σ) : sj_J G d me_L_mostOf R 56 [.ref (sj_ad G 56), .int x1, .int x2, .int x3, .int x4, .int x5] σ [] := by
  unfold wp_L_mostOf_56 at h
  refine sj_iload dL_mostOf_56 rfl ?_
  refine sj_bipush (v := (nI 6)) dL_mostOf_58 (by decide +kernel) ?_
  refine sj_icmp_ge (tgt := 111) dL_mostOf_60 (by decide) (fun c1 => ?_) (fun c1 => ?_)
  · replace h := h.1 c1
    refine sj_iload dL_mostOf_111 rfl ?_
    subst h
    exact sj_ret dL_mostOf_113 rfl rfl
  · replace h := h.2 c1
    refine sj_iload_n dL_mostOf_63 (i := 3) rfl rfl ?_
    refine sj_iload dL_mostOf_64 rfl ?_
    refine sj_ishr dL_mostOf_66 ?_
    refine sj_iconst (v := (nI 1)) dL_mostOf_67 (by decide +kernel) ?_
    refine sj_iand dL_mostOf_68 ?_
    refine sj_if_ne (tgt := 105) dL_mostOf_69 (by decide) (fun c3 => ?_) (fun c3 => ?_)
    · replace h := h.1 c3
      exact t_L_mostOf_105 hdd h10 h
    · replace h := h.2 c3
      refine sj_aload_n dL_mostOf_72 (i := 0) rfl rfl ?_
      refine sj_iload dL_mostOf_73 rfl ?_
      refine sj_iload_n dL_mostOf_75 (i := 1) rfl rfl ?_
      obtain ⟨v4, σ4, hc4, h⟩ := h
      refine sj_callVi (M' := me_L_canTake) (b := 56) (As := [.int x5, .int x1]) (rest := []) dL_mostOf_76 gL_mostOf_L_canTake rfl hd_L_canTake (by decide +kernel) (by decide +kernel) rfl (Nat.le_of_ble_eq_true rfl) (by omega) rfl hc4 ?_
      refine sj_if_eq (tgt := 105) dL_mostOf_79 (by decide) (fun c6 => ?_) (fun c6 => ?_)
      · replace h := h.1 c6
        exact t_L_mostOf_105 hdd h10 h
      · replace h := h.2 c6
        refine sj_iload dL_mostOf_82 rfl ?_
        refine sj_iconst (v := (nI 1)) dL_mostOf_84 (by decide +kernel) ?_
        refine sj_aload_n dL_mostOf_85 (i := 0) rfl rfl ?_
        refine sj_iload_n dL_mostOf_86 (i := 1) rfl rfl ?_
        refine sj_iload_n dL_mostOf_87 (i := 2) rfl rfl ?_
        refine sj_iconst (v := (nI 1)) dL_mostOf_88 (by decide +kernel) ?_
        refine sj_iadd dL_mostOf_89 ?_
        refine sj_iload_n dL_mostOf_90 (i := 3) rfl rfl ?_
        refine sj_iconst (v := (nI 1)) dL_mostOf_91 (by decide +kernel) ?_
        refine sj_iload dL_mostOf_92 rfl ?_
        refine sj_ishl dL_mostOf_94 ?_
        refine sj_ior dL_mostOf_95 ?_
        obtain ⟨v7, σ7, hc7, h⟩ := h
        refine sj_callVi (M' := me_L_mostOf) (b := 56) (As := [.int x1, .int (x2 + (nI 1)), .int (x3 ||| ((nI 1) <<< (x5 &&& 31)))]) (rest := [.int (nI 1), .int x4]) dL_mostOf_96 gL_mostOf_L_mostOf rfl hd_L_mostOf (by decide +kernel) (by decide +kernel) rfl (Nat.le_of_ble_eq_true rfl) (by omega) rfl hc7 ?_
        refine sj_iadd dL_mostOf_99 ?_
        refine sj_mmax dL_mostOf_100 (by decide +kernel) (by omega) (Nat.le_of_ble_eq_true rfl) ?_
        refine sj_istore dL_mostOf_103 (by decide) ?_
        exact t_L_mostOf_105 hdd h10 h
def wp_L_mostOf_0 (G : sj_G) (R : sj_R) (d dd : Nat) (x1 : Int32) (x2 : Int32) (x3 : Int32) (σ : sj_S) : Prop := (¬ x2 = (σ 56 13) → ∃ v2 σ2, sj_C G dd me_L_mostOf [.ref (sj_ad G 56), .int x1, .int (x2 + (nI 1)), .int x3] σ (.ok v2, σ2) ∧ ∃ v3 σ3, sj_C G 2 me_L_isOn [.ref (sj_ad G 56), .int x2, .int x1] σ2 (.ok v3, σ3) ∧ (v3 = 0 → (wp_L_mostOf_50 G R d dd v2 σ3)) ∧ (¬ (v3 = 0) → vp_in x2 9 ∧ vp_in (((nI 5) * (σ3 58 x2.toNatClampNeg)) + (x1 / (nI 4))) 30 ∧ (¬ (σ3 68 (((nI 5) * (σ3 58 x2.toNatClampNeg)) + (x1 / (nI 4))).toNatClampNeg) = 0 → sj_J G d me_L_mostOf R 56 [.ref (sj_ad G 56), .int x1, .int x2, .int x3, .int v2, .int (nI 0)] σ3 []) ∧ ((σ3 68 (((nI 5) * (σ3 58 x2.toNatClampNeg)) + (x1 / (nI 4))).toNatClampNeg) = 0 → (wp_L_mostOf_50 G R d dd v2 σ3)))) ∧ (x2 = (σ 56 13) → R = (.ok (nI 0), σ))
set_option maxRecDepth 20000 in
theorem t_L_mostOf_0 {G : sj_G} {R : sj_R} {d dd : Nat} {x1 : Int32} {x2 : Int32} {x3 : Int32} {σ : sj_S} (hdd : dd + 1 ≤ d) (h10 : 10 ≤ d) (h : wp_L_mostOf_0 G R d dd x1 x2 x3 σ) : sj_J G d me_L_mostOf R 0 [.ref (sj_ad G 56), .int x1, .int x2, .int x3, .null, .null] σ [] := by
  unfold wp_L_mostOf_0 at h
  refine sj_iload_n dL_mostOf_0 (i := 2) rfl rfl ?_
  refine sj_aload_n dL_mostOf_1 (i := 0) rfl rfl ?_
  refine sj_get (a := 56) (k9 := 13) (v := .int (σ 56 13)) dL_mostOf_2 (by decide +kernel) rfl ?_
  refine sj_icmp_ne (tgt := 10) dL_mostOf_5 (by decide) (fun c1 => ?_) (fun c1 => ?_)
  · replace h := h.1 c1
    refine sj_aload_n dL_mostOf_10 (i := 0) rfl rfl ?_
    refine sj_iload_n dL_mostOf_11 (i := 1) rfl rfl ?_
    refine sj_iload_n dL_mostOf_12 (i := 2) rfl rfl ?_
    refine sj_iconst (v := (nI 1)) dL_mostOf_13 (by decide +kernel) ?_
    refine sj_iadd dL_mostOf_14 ?_
    refine sj_iload_n dL_mostOf_15 (i := 3) rfl rfl ?_
    obtain ⟨v2, σ2, hc2, h⟩ := h
    refine sj_callVi (M' := me_L_mostOf) (b := 56) (As := [.int x1, .int (x2 + (nI 1)), .int x3]) (rest := []) dL_mostOf_16 gL_mostOf_L_mostOf rfl hd_L_mostOf (by decide +kernel) (by decide +kernel) rfl (Nat.le_of_ble_eq_true rfl) (by omega) rfl hc2 ?_
    refine sj_istore dL_mostOf_19 (by decide) ?_
    refine sj_aload_n dL_mostOf_21 (i := 0) rfl rfl ?_
    refine sj_iload_n dL_mostOf_22 (i := 2) rfl rfl ?_
    refine sj_iload_n dL_mostOf_23 (i := 1) rfl rfl ?_
    obtain ⟨v3, σ3, hc3, h⟩ := h
    refine sj_callVi (M' := me_L_isOn) (b := 56) (As := [.int x2, .int x1]) (rest := []) dL_mostOf_24 gL_mostOf_L_isOn rfl hd_L_isOn (by decide +kernel) (by decide +kernel) rfl (Nat.le_of_ble_eq_true rfl) (by omega) rfl hc3 ?_
    refine sj_if_eq (tgt := 50) dL_mostOf_27 (by decide) (fun c4 => ?_) (fun c4 => ?_)
    · replace h := h.1 c4
      refine sj_fg [0, 1, 2, 3] ?_
      exact t_L_mostOf_50 hdd h10 h
    · replace h := h.2 c4
      refine sj_aload_n dL_mostOf_30 (i := 0) rfl rfl ?_
      refine sj_get (a := 56) (k9 := 15) (v := .ref (sj_ad G 68)) dL_mostOf_31 (by decide +kernel) rfl ?_
      refine sj_iconst (v := (nI 5)) dL_mostOf_34 (by decide +kernel) ?_
      refine sj_aload_n dL_mostOf_35 (i := 0) rfl rfl ?_
      refine sj_get (a := 56) (k9 := 3) (v := .ref (sj_ad G 58)) dL_mostOf_36 (by decide +kernel) rfl ?_
      refine sj_iload_n dL_mostOf_39 (i := 2) rfl rfl ?_
      obtain ⟨b5, h⟩ := h
      refine sj_iald (a := 58) (j := x2.toNatClampNeg) (x := (σ3 58 x2.toNatClampNeg)) dL_mostOf_40 rfl (by decide +kernel) b5 rfl rfl ?_
      refine sj_imul dL_mostOf_41 ?_
      refine sj_iload_n dL_mostOf_42 (i := 1) rfl rfl ?_
      refine sj_iconst (v := (nI 4)) dL_mostOf_43 (by decide +kernel) ?_
      refine sj_idiv dL_mostOf_44 (by decide +kernel) ?_
      refine sj_iadd dL_mostOf_45 ?_
      obtain ⟨b6, h⟩ := h
      refine sj_zald (a := 68) (j := (((nI 5) * (σ3 58 x2.toNatClampNeg)) + (x1 / (nI 4))).toNatClampNeg) (x := (σ3 68 (((nI 5) * (σ3 58 x2.toNatClampNeg)) + (x1 / (nI 4))).toNatClampNeg)) dL_mostOf_46 rfl (by decide +kernel) b6 rfl rfl ?_
      refine sj_if_ne (tgt := 53) dL_mostOf_47 (by decide) (fun c7 => ?_) (fun c7 => ?_)
      · replace h := h.1 c7
        refine sj_iconst (v := (nI 0)) dL_mostOf_53 (by decide +kernel) ?_
        refine sj_istore dL_mostOf_54 (by decide) ?_
        exact h
      · replace h := h.2 c7
        refine sj_fg [0, 1, 2, 3] ?_
        exact t_L_mostOf_50 hdd h10 h
  · replace h := h.2 c1
    refine sj_iconst (v := (nI 0)) dL_mostOf_8 (by decide +kernel) ?_
    subst h
    exact sj_ret dL_mostOf_9 rfl rfl
theorem c_L_mostOf {G : sj_G} (ok : sj_ok G) {R : sj_R} {d dd : Nat} {x1 : Int32} {x2 : Int32} {x3 : Int32} {σ : sj_S} (hdd : dd + 1 ≤ d) (h10 : 10 ≤ d) (h : wp_L_mostOf_0 G R d dd x1 x2 x3 σ) : sj_C G d me_L_mostOf [.ref (sj_ad G 56), .int x1, .int x2, .int x3] σ R :=
  sj_enter ok (by decide +kernel) rfl rfl (Nat.le_of_ble_eq_true rfl) (by simp [Value.category]) (t_L_mostOf_0 hdd h10 h)
def wp_L_areTaken_2 (G : sj_G) (R : sj_R) (x1 : Int32) (σ : sj_S) : Prop := ((nI 6) ≤ x1 → sj_J G 44 me_L_areTaken R 78 [.ref (sj_ad G 56), .int (nI 0), .int (nI 0), .null, .null, .null, .null, .null, .null, .null, .null] σ []) ∧ (¬ ((nI 6) ≤ x1) → sj_J G 44 me_L_areTaken R 10 [.ref (sj_ad G 56), .int x1, .int (nI 0), .null, .null, .null, .null, .null, .null, .null, .null] σ [])
set_option maxRecDepth 20000 in
theorem t_L_areTaken_2 {G : sj_G} {R : sj_R} {x1 : Int32} {σ : sj_S} (hO : sj_ad G 70 = sj_ad G 0) (h : wp_L_areTaken_2 G R x1 σ) : sj_J G 44 me_L_areTaken R 2 [.ref (sj_ad G 56), .int x1, .null, .null, .null, .null, .null, .null, .null, .null, .null] σ [] := by
  unfold wp_L_areTaken_2 at h
  refine sj_iload_n dL_areTaken_2 (i := 1) rfl rfl ?_
  refine sj_bipush (v := (nI 6)) dL_areTaken_3 (by decide +kernel) ?_
  refine sj_icmp_ge (tgt := 74) dL_areTaken_5 (by decide) (fun c1 => ?_) (fun c1 => ?_)
  · replace h := h.1 c1
    refine sj_iconst (v := (nI 0)) dL_areTaken_74 (by decide +kernel) ?_
    refine sj_istore_n dL_areTaken_75 (i := 1) rfl (by decide) ?_
    refine sj_iconst (v := (nI 0)) dL_areTaken_76 (by decide +kernel) ?_
    refine sj_istore_n dL_areTaken_77 (i := 2) rfl (by decide) ?_
    exact h
  · replace h := h.2 c1
    refine sj_iconst (v := (nI 0)) dL_areTaken_8 (by decide +kernel) ?_
    refine sj_istore_n dL_areTaken_9 (i := 2) rfl (by decide) ?_
    exact h
def wp_L_areTaken_37 (G : sj_G) (R : sj_R) (x1 : Int32) (x2 : Int32) (s0 : Int32) (s1 : Int32) (σ : sj_S) : Prop := vp_in s1 30 ∧ vp_nar .boolean s0 = s0 ∧ vp_in (((nI 5) * x1) + x2) 30 ∧ ∃ v4 σ4, sj_C G 11 me_X11_setIll [.ref (sj_ad G 0), .int x1, .int x2, .int ((sj_st σ 68 s1.toNatClampNeg s0) 68 (((nI 5) * x1) + x2).toNatClampNeg)] (sj_st σ 68 s1.toNatClampNeg s0) (.ok v4, σ4) ∧ (v4 = 0 → sj_J G 44 me_L_areTaken R 10 [.ref (sj_ad G 56), .int x1, .int (x2 + (nI 1)), .null, .null, .null, .null, .null, .null, .null, .null] σ4 []) ∧ (¬ (v4 = 0) → R = (.ok (nI 0), σ4))
set_option maxRecDepth 20000 in
theorem t_L_areTaken_37 {G : sj_G} {R : sj_R} {x1 : Int32} {x2 : Int32} {s0 : Int32} {s1 : Int32} {σ : sj_S} (hO : sj_ad G 70 = sj_ad G 0) (h : wp_L_areTaken_37 G R x1 x2 s0 s1 σ) : sj_J G 44 me_L_areTaken R 37 [.ref (sj_ad G 56), .int x1, .int x2, .null, .null, .null, .null, .null, .null, .null, .null] σ [.int s0, .int s1, .ref (sj_ad G 68)] := by
  unfold wp_L_areTaken_37 at h
  obtain ⟨b1, b2, h⟩ := h
  refine sj_zast (a := 68) (j := s1.toNatClampNeg) dL_areTaken_37 rfl (by decide +kernel) b1 rfl b2 ?_
  refine sj_aload_n dL_areTaken_38 (i := 0) rfl rfl ?_
  refine sj_getO hO (a := 56) (k9 := 1) dL_areTaken_39 (by decide +kernel) rfl ?_
  refine sj_iload_n dL_areTaken_42 (i := 1) rfl rfl ?_
  refine sj_iload_n dL_areTaken_43 (i := 2) rfl rfl ?_
  refine sj_aload_n dL_areTaken_44 (i := 0) rfl rfl ?_
  refine sj_get (a := 56) (k9 := 15) (v := .ref (sj_ad G 68)) dL_areTaken_45 (by decide +kernel) rfl ?_
  refine sj_iconst (v := (nI 5)) dL_areTaken_48 (by decide +kernel) ?_
  refine sj_iload_n dL_areTaken_49 (i := 1) rfl rfl ?_
  refine sj_imul dL_areTaken_50 ?_
  refine sj_iload_n dL_areTaken_51 (i := 2) rfl rfl ?_
  refine sj_iadd dL_areTaken_52 ?_
  obtain ⟨b3, h⟩ := h
  refine sj_zald (a := 68) (j := (((nI 5) * x1) + x2).toNatClampNeg) (x := ((sj_st σ 68 s1.toNatClampNeg s0) 68 (((nI 5) * x1) + x2).toNatClampNeg)) dL_areTaken_53 rfl (by decide +kernel) b3 rfl rfl ?_
  obtain ⟨v4, σ4, hc4, h⟩ := h
  refine sj_callVi (M' := me_X11_setIll) (b := 0) (As := [.int x1, .int x2, .int ((sj_st σ 68 s1.toNatClampNeg s0) 68 (((nI 5) * x1) + x2).toNatClampNeg)]) (rest := []) dL_areTaken_54 gL_areTaken_X11_setIll rfl hd_X11_setIll (by decide +kernel) (by decide +kernel) rfl (Nat.le_of_ble_eq_true rfl) (by omega) rfl hc4 ?_
  refine sj_if_eq (tgt := 62) dL_areTaken_57 (by decide) (fun c5 => ?_) (fun c5 => ?_)
  · replace h := h.1 c5
    refine sj_iinc (v := (x2 + (nI 1))) dL_areTaken_62 (by decide) rfl rfl ?_
    refine sj_goto (tgt := 10) dL_areTaken_65 (by decide) ?_
    exact h
  · replace h := h.2 c5
    refine sj_iconst (v := (nI 0)) dL_areTaken_60 (by decide +kernel) ?_
    subst h
    exact sj_ret dL_areTaken_61 rfl rfl
def wp_L_areTaken_10 (G : sj_G) (R : sj_R) (x1 : Int32) (x2 : Int32) (σ : sj_S) : Prop := ((nI 5) ≤ x2 → sj_J G 44 me_L_areTaken R 2 [.ref (sj_ad G 56), .int (x1 + (nI 1)), .null, .null, .null, .null, .null, .null, .null, .null, .null] σ []) ∧ (¬ ((nI 5) ≤ x2) → ∃ v2 σ2, sj_C G 2 me_L_next [.ref (sj_ad G 56), .int (nI 3)] σ (.ok v2, σ2) ∧ (wp_L_areTaken_37 G R x1 x2 (if v2 = 0 then (nI 1) else (nI 0)) (((nI 5) * x1) + x2) σ2))
set_option maxRecDepth 20000 in
theorem t_L_areTaken_10 {G : sj_G} {R : sj_R} {x1 : Int32} {x2 : Int32} {σ : sj_S} (hO : sj_ad G 70 = sj_ad G 0) (h : wp_L_areTaken_10 G R x1 x2 σ) : sj_J G 44 me_L_areTaken R 10 [.ref (sj_ad G 56), .int x1, .int x2, .null, .null, .null, .null, .null, .null, .null, .null] σ [] := by
  unfold wp_L_areTaken_10 at h
  refine sj_iload_n dL_areTaken_10 (i := 2) rfl rfl ?_
  refine sj_iconst (v := (nI 5)) dL_areTaken_11 (by decide +kernel) ?_
  refine sj_icmp_ge (tgt := 68) dL_areTaken_12 (by decide) (fun c1 => ?_) (fun c1 => ?_)
  · replace h := h.1 c1
    refine sj_iinc (v := (x1 + (nI 1))) dL_areTaken_68 (by decide) rfl rfl ?_
    refine sj_goto (tgt := 2) dL_areTaken_71 (by decide) ?_
    refine sj_fg [2] ?_
    exact h
  · replace h := h.2 c1
    refine sj_aload_n dL_areTaken_15 (i := 0) rfl rfl ?_
    refine sj_get (a := 56) (k9 := 15) (v := .ref (sj_ad G 68)) dL_areTaken_16 (by decide +kernel) rfl ?_
    refine sj_iconst (v := (nI 5)) dL_areTaken_19 (by decide +kernel) ?_
    refine sj_iload_n dL_areTaken_20 (i := 1) rfl rfl ?_
    refine sj_imul dL_areTaken_21 ?_
    refine sj_iload_n dL_areTaken_22 (i := 2) rfl rfl ?_
    refine sj_iadd dL_areTaken_23 ?_
    refine sj_aload_n dL_areTaken_24 (i := 0) rfl rfl ?_
    refine sj_iconst (v := (nI 3)) dL_areTaken_25 (by decide +kernel) ?_
    obtain ⟨v2, σ2, hc2, h⟩ := h
    refine sj_callVi (M' := me_L_next) (b := 56) (As := [.int (nI 3)]) (rest := [.int (((nI 5) * x1) + x2), .ref (sj_ad G 68)]) dL_areTaken_26 gL_areTaken_L_next rfl hd_L_next (by decide +kernel) (by decide +kernel) rfl (Nat.le_of_ble_eq_true rfl) (by omega) rfl hc2 ?_
    refine sj_if_ne (tgt := 36) dL_areTaken_29 (by decide) (fun c3 => ?_) (fun c3 => ?_)
    · refine sj_iconst (v := (nI 0)) dL_areTaken_36 (by decide +kernel) ?_
      try simp only [if_neg c3] at h
      exact t_L_areTaken_37 hO h
    · refine sj_iconst (v := (nI 1)) dL_areTaken_32 (by decide +kernel) ?_
      refine sj_goto (tgt := 37) dL_areTaken_33 (by decide) ?_
      try simp only [if_pos c3] at h
      exact t_L_areTaken_37 hO h
def wp_L_areTaken_78 (G : sj_G) (R : sj_R) (x1 : Int32) (x2 : Int32) (σ : sj_S) : Prop := ((nI 5) ≤ x2 → sj_J G 44 me_L_areTaken R 324 [.ref (sj_ad G 56), .int x1, .int (nI 0), .null, .null, .null, .null, .null, .null, .null, .null] σ []) ∧ (¬ ((nI 5) ≤ x2) → sj_J G 44 me_L_areTaken R 93 [.ref (sj_ad G 56), .int x1, .int x2, .int (nI 0), .int (nI 0), .int ((nI 4) * x2), .null, .null, .null, .null, .null] σ [])
set_option maxRecDepth 20000 in
theorem t_L_areTaken_78 {G : sj_G} {R : sj_R} {x1 : Int32} {x2 : Int32} {σ : sj_S} (hO : sj_ad G 70 = sj_ad G 0) (h : wp_L_areTaken_78 G R x1 x2 σ) : sj_J G 44 me_L_areTaken R 78 [.ref (sj_ad G 56), .int x1, .int x2, .null, .null, .null, .null, .null, .null, .null, .null] σ [] := by
  unfold wp_L_areTaken_78 at h
  refine sj_iload_n dL_areTaken_78 (i := 2) rfl rfl ?_
  refine sj_iconst (v := (nI 5)) dL_areTaken_79 (by decide +kernel) ?_
  refine sj_icmp_ge (tgt := 322) dL_areTaken_80 (by decide) (fun c1 => ?_) (fun c1 => ?_)
  · replace h := h.1 c1
    refine sj_iconst (v := (nI 0)) dL_areTaken_322 (by decide +kernel) ?_
    refine sj_istore_n dL_areTaken_323 (i := 2) rfl (by decide) ?_
    exact h
  · replace h := h.2 c1
    refine sj_iconst (v := (nI 0)) dL_areTaken_83 (by decide +kernel) ?_
    refine sj_istore_n dL_areTaken_84 (i := 3) rfl (by decide) ?_
    refine sj_iconst (v := (nI 0)) dL_areTaken_85 (by decide +kernel) ?_
    refine sj_istore dL_areTaken_86 (by decide) ?_
    refine sj_iconst (v := (nI 4)) dL_areTaken_88 (by decide +kernel) ?_
    refine sj_iload_n dL_areTaken_89 (i := 2) rfl rfl ?_
    refine sj_imul dL_areTaken_90 ?_
    refine sj_istore dL_areTaken_91 (by decide) ?_
    exact h
def wp_L_areTaken_314 (G : sj_G) (R : sj_R) (σ : sj_S) : Prop := R = (.ok (nI 0), σ)
set_option maxRecDepth 20000 in
theorem t_L_areTaken_314 {G : sj_G} {R : sj_R} {σ : sj_S} (hO : sj_ad G 70 = sj_ad G 0) (h : wp_L_areTaken_314 G R σ) : sj_J G 44 me_L_areTaken R 314 [.null, .null, .null, .null, .null, .null, .null, .null, .null, .null, .null] σ [] := by
  unfold wp_L_areTaken_314 at h
  refine sj_iconst (v := (nI 0)) dL_areTaken_314 (by decide +kernel) ?_
  subst h
  exact sj_ret dL_areTaken_315 rfl rfl
def wp_L_areTaken_93 (G : sj_G) (R : sj_R) (x1 : Int32) (x2 : Int32) (x3 : Int32) (x4 : Int32) (x5 : Int32) (σ : sj_S) : Prop := ((((nI 4) * x2) + (nI 4)) ≤ x5 → ∃ v2 σ2, sj_C G 43 me_X11_ill [.ref (sj_ad G 0), .int x2, .int (nI 0)] σ (.ok v2, σ2) ∧ (¬ v2 = x3 → (wp_L_areTaken_314 G R σ2)) ∧ (v2 = x3 → ∃ v4 σ4, sj_C G 43 me_X11_ill [.ref (sj_ad G 0), .int x2, .int (nI 1)] σ2 (.ok v4, σ4) ∧ (v4 = x4 → sj_J G 44 me_L_areTaken R 78 [.ref (sj_ad G 56), .int x1, .int (x2 + (nI 1)), .null, .null, .null, .null, .null, .null, .null, .null] σ4 []) ∧ (¬ (v4 = x4) → (wp_L_areTaken_314 G R σ4)))) ∧ (¬ ((((nI 4) * x2) + (nI 4)) ≤ x5) → sj_J G 44 me_L_areTaken R 112 [.ref (sj_ad G 56), .int x1, .int x2, .int x3, .int x4, .int x5, .int (nI 0), .int (nI 0), .int (nI 0), .null, .null] σ [])
set_option maxRecDepth 20000 in
theorem t_L_areTaken_93 {G : sj_G} {R : sj_R} {x1 : Int32} {x2 : Int32} {x3 : Int32} {x4 : Int32} {x5 : Int32} {σ : sj_S} (hO : sj_ad G 70 = sj_ad G 0) (h : wp_L_areTaken_93 G R x1 x2 x3 x4 x5 σ) : sj_J G 44 me_L_areTaken R 93 [.ref (sj_ad G 56), .int x1, .int x2, .int x3, .int x4, .int x5, .null, .null, .null, .null, .null] σ [] := by
  unfold wp_L_areTaken_93 at h
  refine sj_iload dL_areTaken_93 rfl ?_
  refine sj_iconst (v := (nI 4)) dL_areTaken_95 (by decide +kernel) ?_
  refine sj_iload_n dL_areTaken_96 (i := 2) rfl rfl ?_
  refine sj_imul dL_areTaken_97 ?_
  refine sj_iconst (v := (nI 4)) dL_areTaken_98 (by decide +kernel) ?_
  refine sj_iadd dL_areTaken_99 ?_
  refine sj_icmp_ge (tgt := 287) dL_areTaken_100 (by decide) (fun c1 => ?_) (fun c1 => ?_)
  · replace h := h.1 c1
    refine sj_aload_n dL_areTaken_287 (i := 0) rfl rfl ?_
    refine sj_getO hO (a := 56) (k9 := 1) dL_areTaken_288 (by decide +kernel) rfl ?_
    refine sj_iload_n dL_areTaken_291 (i := 2) rfl rfl ?_
    refine sj_iconst (v := (nI 0)) dL_areTaken_292 (by decide +kernel) ?_
    obtain ⟨v2, σ2, hc2, h⟩ := h
    refine sj_callVi (M' := me_X11_ill) (b := 0) (As := [.int x2, .int (nI 0)]) (rest := []) dL_areTaken_293 gL_areTaken_X11_ill rfl hd_X11_ill (by decide +kernel) (by decide +kernel) rfl (Nat.le_of_ble_eq_true rfl) (by omega) rfl hc2 ?_
    refine sj_iload_n dL_areTaken_296 (i := 3) rfl rfl ?_
    refine sj_icmp_ne (tgt := 314) dL_areTaken_297 (by decide) (fun c3 => ?_) (fun c3 => ?_)
    · replace h := h.1 c3
      refine sj_fg [0, 1, 2, 3, 4, 5] ?_
      exact t_L_areTaken_314 hO h
    · replace h := h.2 c3
      refine sj_aload_n dL_areTaken_300 (i := 0) rfl rfl ?_
      refine sj_getO hO (a := 56) (k9 := 1) dL_areTaken_301 (by decide +kernel) rfl ?_
      refine sj_iload_n dL_areTaken_304 (i := 2) rfl rfl ?_
      refine sj_iconst (v := (nI 1)) dL_areTaken_305 (by decide +kernel) ?_
      obtain ⟨v4, σ4, hc4, h⟩ := h
      refine sj_callVi (M' := me_X11_ill) (b := 0) (As := [.int x2, .int (nI 1)]) (rest := []) dL_areTaken_306 gL_areTaken_X11_ill rfl hd_X11_ill (by decide +kernel) (by decide +kernel) rfl (Nat.le_of_ble_eq_true rfl) (by omega) rfl hc4 ?_
      refine sj_iload dL_areTaken_309 rfl ?_
      refine sj_icmp_eq (tgt := 316) dL_areTaken_311 (by decide) (fun c5 => ?_) (fun c5 => ?_)
      · replace h := h.1 c5
        refine sj_iinc (v := (x2 + (nI 1))) dL_areTaken_316 (by decide) rfl rfl ?_
        refine sj_goto (tgt := 78) dL_areTaken_319 (by decide) ?_
        refine sj_fg [3, 4, 5] ?_
        exact h
      · replace h := h.2 c5
        refine sj_fg [0, 1, 2, 3, 4, 5] ?_
        exact t_L_areTaken_314 hO h
  · replace h := h.2 c1
    refine sj_iconst (v := (nI 0)) dL_areTaken_103 (by decide +kernel) ?_
    refine sj_istore dL_areTaken_104 (by decide) ?_
    refine sj_iconst (v := (nI 0)) dL_areTaken_106 (by decide +kernel) ?_
    refine sj_istore dL_areTaken_107 (by decide) ?_
    refine sj_iconst (v := (nI 0)) dL_areTaken_109 (by decide +kernel) ?_
    refine sj_istore dL_areTaken_110 (by decide) ?_
    exact h
def wp_L_areTaken_241 (G : sj_G) (R : sj_R) (σ : sj_S) : Prop := R = (.ok (nI 0), σ)
set_option maxRecDepth 20000 in
theorem t_L_areTaken_241 {G : sj_G} {R : sj_R} {σ : sj_S} (hO : sj_ad G 70 = sj_ad G 0) (h : wp_L_areTaken_241 G R σ) : sj_J G 44 me_L_areTaken R 241 [.null, .null, .null, .null, .null, .null, .null, .null, .null, .null, .null] σ [] := by
  unfold wp_L_areTaken_241 at h
  refine sj_iconst (v := (nI 0)) dL_areTaken_241 (by decide +kernel) ?_
  subst h
  exact sj_ret dL_areTaken_242 rfl rfl
def wp_L_areTaken_255 (G : sj_G) (R : sj_R) (x1 : Int32) (x2 : Int32) (x3 : Int32) (x4 : Int32) (x5 : Int32) (x6 : Int32) (x7 : Int32) (x8 : Int32) (σ : sj_S) : Prop := sj_J G 44 me_L_areTaken R 112 [.ref (sj_ad G 56), .int x1, .int x2, .int x3, .int x4, .int x5, .int x6, .int x7, .int (x8 + (nI 1)), .null, .null] σ []
set_option maxRecDepth 20000 in
theorem t_L_areTaken_255 {G : sj_G} {R : sj_R} {x1 : Int32} {x2 : Int32} {x3 : Int32} {x4 : Int32} {x5 : Int32} {x6 : Int32} {x7 : Int32} {x8 : Int32} {σ : sj_S} (hO : sj_ad G 70 = sj_ad G 0) (h : wp_L_areTaken_255 G R x1 x2 x3 x4 x5 x6 x7 x8 σ) : sj_J G 44 me_L_areTaken R 255 [.ref (sj_ad G 56), .int x1, .int x2, .int x3, .int x4, .int x5, .int x6, .int x7, .int x8, .null, .null] σ [] := by
  unfold wp_L_areTaken_255 at h
  refine sj_iinc (v := (x8 + (nI 1))) dL_areTaken_255 (by decide) rfl rfl ?_
  refine sj_goto (tgt := 112) dL_areTaken_258 (by decide) ?_
  exact h
def wp_L_areTaken_202 (G : sj_G) (R : sj_R) (x1 : Int32) (x2 : Int32) (x3 : Int32) (x5 : Int32) (x6 : Int32) (x7 : Int32) (x8 : Int32) (x9 : Int32) (x10 : Int32) (s0 : Int32) (s1 : Int32) (σ : sj_S) : Prop := (¬ x9 = (-1) → (x10 = 0 → (wp_L_areTaken_241 G R σ)) ∧ (¬ (x10 = 0) → ∃ v3 σ3, sj_C G 3 me_L_canTake [.ref (sj_ad G 56), .int x9, .int x5] σ (.ok v3, σ3) ∧ (v3 = 0 → (wp_L_areTaken_241 G R σ3)) ∧ (¬ (v3 = 0) → (¬ ((x6 >>> (x9 &&& 31)) &&& (nI 1)) = (nI 1) → (wp_L_areTaken_255 G R x1 x2 x3 (s1 + s0) x5 (x6 ||| ((nI 1) <<< (x9 &&& 31))) (x7 + (nI 1)) x8 σ3)) ∧ (((x6 >>> (x9 &&& 31)) &&& (nI 1)) = (nI 1) → (wp_L_areTaken_241 G R σ3))))) ∧ (x9 = (-1) → (wp_L_areTaken_255 G R x1 x2 x3 (s1 + s0) x5 x6 x7 x8 σ))
set_option maxRecDepth 20000 in
theorem t_L_areTaken_202 {G : sj_G} {R : sj_R} {x1 : Int32} {x2 : Int32} {x3 : Int32} {x5 : Int32} {x6 : Int32} {x7 : Int32} {x8 : Int32} {x9 : Int32} {x10 : Int32} {s0 : Int32} {s1 : Int32} {σ : sj_S} (hO : sj_ad G 70 = sj_ad G 0) (h : wp_L_areTaken_202 G R x1 x2 x3 x5 x6 x7 x8 x9 x10 s0 s1 σ) : sj_J G 44 me_L_areTaken R 202 [.ref (sj_ad G 56), .int x1, .int x2, .int x3, .null, .int x5, .int x6, .int x7, .int x8, .int x9, .int x10] σ [.int s0, .int s1] := by
  unfold wp_L_areTaken_202 at h
  refine sj_iadd dL_areTaken_202 ?_
  refine sj_istore dL_areTaken_203 (by decide) ?_
  refine sj_iload dL_areTaken_205 rfl ?_
  refine sj_iconst (v := (-1)) dL_areTaken_207 (by decide +kernel) ?_
  refine sj_icmp_ne (tgt := 214) dL_areTaken_208 (by decide) (fun c1 => ?_) (fun c1 => ?_)
  · replace h := h.1 c1
    refine sj_iload dL_areTaken_214 rfl ?_
    refine sj_if_eq (tgt := 241) dL_areTaken_216 (by decide) (fun c2 => ?_) (fun c2 => ?_)
    · replace h := h.1 c2
      refine sj_fg [0, 1, 2, 3, 4, 5, 6, 7, 8, 9, 10] ?_
      exact t_L_areTaken_241 hO h
    · replace h := h.2 c2
      refine sj_aload_n dL_areTaken_219 (i := 0) rfl rfl ?_
      refine sj_iload dL_areTaken_220 rfl ?_
      refine sj_iload dL_areTaken_222 rfl ?_
      obtain ⟨v3, σ3, hc3, h⟩ := h
      refine sj_callVi (M' := me_L_canTake) (b := 56) (As := [.int x9, .int x5]) (rest := []) dL_areTaken_224 gL_areTaken_L_canTake rfl hd_L_canTake (by decide +kernel) (by decide +kernel) rfl (Nat.le_of_ble_eq_true rfl) (by omega) rfl hc3 ?_
      refine sj_if_eq (tgt := 241) dL_areTaken_227 (by decide) (fun c4 => ?_) (fun c4 => ?_)
      · replace h := h.1 c4
        refine sj_fg [0, 1, 2, 3, 4, 5, 6, 7, 8, 9, 10] ?_
        exact t_L_areTaken_241 hO h
      · replace h := h.2 c4
        refine sj_iload dL_areTaken_230 rfl ?_
        refine sj_iload dL_areTaken_232 rfl ?_
        refine sj_ishr dL_areTaken_234 ?_
        refine sj_iconst (v := (nI 1)) dL_areTaken_235 (by decide +kernel) ?_
        refine sj_iand dL_areTaken_236 ?_
        refine sj_iconst (v := (nI 1)) dL_areTaken_237 (by decide +kernel) ?_
        refine sj_icmp_ne (tgt := 243) dL_areTaken_238 (by decide) (fun c5 => ?_) (fun c5 => ?_)
        · replace h := h.1 c5
          refine sj_iload dL_areTaken_243 rfl ?_
          refine sj_iconst (v := (nI 1)) dL_areTaken_245 (by decide +kernel) ?_
          refine sj_iload dL_areTaken_246 rfl ?_
          refine sj_ishl dL_areTaken_248 ?_
          refine sj_ior dL_areTaken_249 ?_
          refine sj_istore dL_areTaken_250 (by decide) ?_
          refine sj_iinc (v := (x7 + (nI 1))) dL_areTaken_252 (by decide) rfl rfl ?_
          refine sj_fg [9, 10] ?_
          exact t_L_areTaken_255 hO h
        · replace h := h.2 c5
          refine sj_fg [0, 1, 2, 3, 4, 5, 6, 7, 8, 9, 10] ?_
          exact t_L_areTaken_241 hO h
  · replace h := h.2 c1
    refine sj_goto (tgt := 255) dL_areTaken_211 (by decide) ?_
    refine sj_fg [9, 10] ?_
    exact t_L_areTaken_255 hO h
def wp_L_areTaken_182 (G : sj_G) (R : sj_R) (x1 : Int32) (x2 : Int32) (x4 : Int32) (x5 : Int32) (x6 : Int32) (x7 : Int32) (x8 : Int32) (x9 : Int32) (x10 : Int32) (s0 : Int32) (s1 : Int32) (σ : sj_S) : Prop := (wp_L_areTaken_202 G R x1 x2 (s1 + s0) x5 x6 x7 x8 x9 x10 (if x10 = 0 then (nI 0) else (if x9 = (-1) then (nI 1) else (nI 0))) x4 σ)
set_option maxRecDepth 20000 in
theorem t_L_areTaken_182 {G : sj_G} {R : sj_R} {x1 : Int32} {x2 : Int32} {x4 : Int32} {x5 : Int32} {x6 : Int32} {x7 : Int32} {x8 : Int32} {x9 : Int32} {x10 : Int32} {s0 : Int32} {s1 : Int32} {σ : sj_S} (hO : sj_ad G 70 = sj_ad G 0) (h : wp_L_areTaken_182 G R x1 x2 x4 x5 x6 x7 x8 x9 x10 s0 s1 σ) : sj_J G 44 me_L_areTaken R 182 [.ref (sj_ad G 56), .int x1, .int x2, .null, .int x4, .int x5, .int x6, .int x7, .int x8, .int x9, .int x10] σ [.int s0, .int s1] := by
  unfold wp_L_areTaken_182 at h
  refine sj_iadd dL_areTaken_182 ?_
  refine sj_istore_n dL_areTaken_183 (i := 3) rfl (by decide) ?_
  refine sj_iload dL_areTaken_184 rfl ?_
  refine sj_iload dL_areTaken_186 rfl ?_
  refine sj_if_eq (tgt := 201) dL_areTaken_188 (by decide) (fun c1 => ?_) (fun c1 => ?_)
  · refine sj_iconst (v := (nI 0)) dL_areTaken_201 (by decide +kernel) ?_
    try simp only [if_pos c1] at h
    refine sj_fg [4] ?_
    exact t_L_areTaken_202 hO h
  · refine sj_iload dL_areTaken_191 rfl ?_
    refine sj_iconst (v := (-1)) dL_areTaken_193 (by decide +kernel) ?_
    refine sj_icmp_ne (tgt := 201) dL_areTaken_194 (by decide) (fun c2 => ?_) (fun c2 => ?_)
    · refine sj_iconst (v := (nI 0)) dL_areTaken_201 (by decide +kernel) ?_
      try simp only [if_neg c1, if_neg c2] at h
      refine sj_fg [4] ?_
      exact t_L_areTaken_202 hO h
    · refine sj_iconst (v := (nI 1)) dL_areTaken_197 (by decide +kernel) ?_
      refine sj_goto (tgt := 202) dL_areTaken_198 (by decide) ?_
      try simp only [if_neg c1, if_pos c2] at h
      refine sj_fg [4] ?_
      exact t_L_areTaken_202 hO h
def wp_L_areTaken_169 (G : sj_G) (R : sj_R) (x1 : Int32) (x2 : Int32) (x3 : Int32) (x4 : Int32) (x5 : Int32) (x6 : Int32) (x7 : Int32) (x8 : Int32) (x9 : Int32) (s0 : Int32) (σ : sj_S) : Prop := (wp_L_areTaken_182 G R x1 x2 x4 x5 x6 x7 x8 x9 s0 (if s0 = 0 then (nI 0) else (nI 1)) x3 σ)
set_option maxRecDepth 20000 in
theorem t_L_areTaken_169 {G : sj_G} {R : sj_R} {x1 : Int32} {x2 : Int32} {x3 : Int32} {x4 : Int32} {x5 : Int32} {x6 : Int32} {x7 : Int32} {x8 : Int32} {x9 : Int32} {s0 : Int32} {σ : sj_S} (hO : sj_ad G 70 = sj_ad G 0) (h : wp_L_areTaken_169 G R x1 x2 x3 x4 x5 x6 x7 x8 x9 s0 σ) : sj_J G 44 me_L_areTaken R 169 [.ref (sj_ad G 56), .int x1, .int x2, .int x3, .int x4, .int x5, .int x6, .int x7, .int x8, .int x9, .null] σ [.int s0] := by
  unfold wp_L_areTaken_169 at h
  refine sj_istore dL_areTaken_169 (by decide) ?_
  refine sj_iload_n dL_areTaken_171 (i := 3) rfl rfl ?_
  refine sj_iload dL_areTaken_172 rfl ?_
  refine sj_if_eq (tgt := 181) dL_areTaken_174 (by decide) (fun c1 => ?_) (fun c1 => ?_)
  · refine sj_iconst (v := (nI 0)) dL_areTaken_181 (by decide +kernel) ?_
    try simp only [if_pos c1] at h
    refine sj_fg [3] ?_
    exact t_L_areTaken_182 hO h
  · refine sj_iconst (v := (nI 1)) dL_areTaken_177 (by decide +kernel) ?_
    refine sj_goto (tgt := 182) dL_areTaken_178 (by decide) ?_
    try simp only [if_neg c1] at h
    refine sj_fg [3] ?_
    exact t_L_areTaken_182 hO h
def wp_L_areTaken_112 (G : sj_G) (R : sj_R) (x1 : Int32) (x2 : Int32) (x3 : Int32) (x4 : Int32) (x5 : Int32) (x6 : Int32) (x7 : Int32) (x8 : Int32) (σ : sj_S) : Prop := ((σ 56 13) ≤ x8 → ∃ v2 σ2, sj_C G 30 me_L_mostOf [.ref (sj_ad G 56), .int x5, .int (nI 0), .int (nI 0)] σ (.ok v2, σ2) ∧ (x7 = v2 → sj_J G 44 me_L_areTaken R 93 [.ref (sj_ad G 56), .int (x1 + x7), .int x2, .int x3, .int x4, .int (x5 + (nI 1)), .null, .null, .null, .null, .null] σ2 []) ∧ (¬ (x7 = v2) → R = (.ok (nI 0), σ2))) ∧ (¬ ((σ 56 13) ≤ x8) → ∃ v4 σ4, sj_C G 43 me_X11_substitute [.ref (sj_ad G 0), .int x8, .int x5] σ (.ok v4, σ4) ∧ ∃ v5 σ5, sj_C G 2 me_L_isOn [.ref (sj_ad G 56), .int x8, .int x5] σ4 (.ok v5, σ5) ∧ ((¬ (v5 = 0)) → vp_in x8 9 ∧ vp_in (((nI 5) * (σ5 58 x8.toNatClampNeg)) + x2) 30) ∧ (wp_L_areTaken_169 G R x1 x2 x3 x4 x5 x6 x7 x8 v4 (if v5 = 0 then (nI 0) else (if (σ5 68 (((nI 5) * (σ5 58 x8.toNatClampNeg)) + x2).toNatClampNeg) = 0 then (nI 0) else (nI 1))) σ5))
set_option maxRecDepth 20000 in
theorem t_L_areTaken_112 {G : sj_G} {R : sj_R} {x1 : Int32} {x2 : Int32} {x3 : Int32} {x4 : Int32} {x5 : Int32} {x6 : Int32} {x7 : Int32} {x8 : Int32} {σ : sj_S} (hO : sj_ad G 70 = sj_ad G 0) (h : wp_L_areTaken_112 G R x1 x2 x3 x4 x5 x6 x7 x8 σ) : sj_J G 44 me_L_areTaken R 112 [.ref (sj_ad G 56), .int x1, .int x2, .int x3, .int x4, .int x5, .int x6, .int x7, .int x8, .null, .null] σ [] := by
  unfold wp_L_areTaken_112 at h
  refine sj_iload dL_areTaken_112 rfl ?_
  refine sj_aload_n dL_areTaken_114 (i := 0) rfl rfl ?_
  refine sj_get (a := 56) (k9 := 13) (v := .int (σ 56 13)) dL_areTaken_115 (by decide +kernel) rfl ?_
  refine sj_icmp_ge (tgt := 261) dL_areTaken_118 (by decide) (fun c1 => ?_) (fun c1 => ?_)
  · replace h := h.1 c1
    refine sj_iload dL_areTaken_261 rfl ?_
    refine sj_aload_n dL_areTaken_263 (i := 0) rfl rfl ?_
    refine sj_iload dL_areTaken_264 rfl ?_
    refine sj_iconst (v := (nI 0)) dL_areTaken_266 (by decide +kernel) ?_
    refine sj_iconst (v := (nI 0)) dL_areTaken_267 (by decide +kernel) ?_
    obtain ⟨v2, σ2, hc2, h⟩ := h
    refine sj_callVi (M' := me_L_mostOf) (b := 56) (As := [.int x5, .int (nI 0), .int (nI 0)]) (rest := [.int x7]) dL_areTaken_268 gL_areTaken_L_mostOf rfl hd_L_mostOf (by decide +kernel) (by decide +kernel) rfl (Nat.le_of_ble_eq_true rfl) (by omega) rfl hc2 ?_
    refine sj_icmp_eq (tgt := 276) dL_areTaken_271 (by decide) (fun c3 => ?_) (fun c3 => ?_)
    · replace h := h.1 c3
      refine sj_iload_n dL_areTaken_276 (i := 1) rfl rfl ?_
      refine sj_iload dL_areTaken_277 rfl ?_
      refine sj_iadd dL_areTaken_279 ?_
      refine sj_istore_n dL_areTaken_280 (i := 1) rfl (by decide) ?_
      refine sj_iinc (v := (x5 + (nI 1))) dL_areTaken_281 (by decide) rfl rfl ?_
      refine sj_goto (tgt := 93) dL_areTaken_284 (by decide) ?_
      refine sj_fg [6, 7, 8] ?_
      exact h
    · replace h := h.2 c3
      refine sj_iconst (v := (nI 0)) dL_areTaken_274 (by decide +kernel) ?_
      subst h
      exact sj_ret dL_areTaken_275 rfl rfl
  · replace h := h.2 c1
    refine sj_aload_n dL_areTaken_121 (i := 0) rfl rfl ?_
    refine sj_getO hO (a := 56) (k9 := 1) dL_areTaken_122 (by decide +kernel) rfl ?_
    refine sj_iload dL_areTaken_125 rfl ?_
    refine sj_iload dL_areTaken_127 rfl ?_
    obtain ⟨v4, σ4, hc4, h⟩ := h
    refine sj_callVi (M' := me_X11_substitute) (b := 0) (As := [.int x8, .int x5]) (rest := []) dL_areTaken_129 gL_areTaken_X11_substitute rfl hd_X11_substitute (by decide +kernel) (by decide +kernel) rfl (Nat.le_of_ble_eq_true rfl) (by omega) rfl hc4 ?_
    refine sj_istore dL_areTaken_132 (by decide) ?_
    refine sj_aload_n dL_areTaken_134 (i := 0) rfl rfl ?_
    refine sj_iload dL_areTaken_135 rfl ?_
    refine sj_iload dL_areTaken_137 rfl ?_
    obtain ⟨v5, σ5, hc5, h⟩ := h
    refine sj_callVi (M' := me_L_isOn) (b := 56) (As := [.int x8, .int x5]) (rest := []) dL_areTaken_139 gL_areTaken_L_isOn rfl hd_L_isOn (by decide +kernel) (by decide +kernel) rfl (Nat.le_of_ble_eq_true rfl) (by omega) rfl hc5 ?_
    obtain ⟨f10, h⟩ := h
    refine sj_if_eq (tgt := 168) dL_areTaken_142 (by decide) (fun c6 => ?_) (fun c6 => ?_)
    · refine sj_iconst (v := (nI 0)) dL_areTaken_168 (by decide +kernel) ?_
      try simp only [if_pos c6] at h
      exact t_L_areTaken_169 hO h
    · obtain ⟨b7, b8⟩ := f10 c6
      refine sj_aload_n dL_areTaken_145 (i := 0) rfl rfl ?_
      refine sj_get (a := 56) (k9 := 15) (v := .ref (sj_ad G 68)) dL_areTaken_146 (by decide +kernel) rfl ?_
      refine sj_iconst (v := (nI 5)) dL_areTaken_149 (by decide +kernel) ?_
      refine sj_aload_n dL_areTaken_150 (i := 0) rfl rfl ?_
      refine sj_get (a := 56) (k9 := 3) (v := .ref (sj_ad G 58)) dL_areTaken_151 (by decide +kernel) rfl ?_
      refine sj_iload dL_areTaken_154 rfl ?_
      refine sj_iald (a := 58) (j := x8.toNatClampNeg) (x := (σ5 58 x8.toNatClampNeg)) dL_areTaken_156 rfl (by decide +kernel) b7 rfl rfl ?_
      refine sj_imul dL_areTaken_157 ?_
      refine sj_iload_n dL_areTaken_158 (i := 2) rfl rfl ?_
      refine sj_iadd dL_areTaken_159 ?_
      refine sj_zald (a := 68) (j := (((nI 5) * (σ5 58 x8.toNatClampNeg)) + x2).toNatClampNeg) (x := (σ5 68 (((nI 5) * (σ5 58 x8.toNatClampNeg)) + x2).toNatClampNeg)) dL_areTaken_160 rfl (by decide +kernel) b8 rfl rfl ?_
      refine sj_if_eq (tgt := 168) dL_areTaken_161 (by decide) (fun c9 => ?_) (fun c9 => ?_)
      · refine sj_iconst (v := (nI 0)) dL_areTaken_168 (by decide +kernel) ?_
        try simp only [if_neg c6, if_pos c9] at h
        exact t_L_areTaken_169 hO h
      · refine sj_iconst (v := (nI 1)) dL_areTaken_164 (by decide +kernel) ?_
        refine sj_goto (tgt := 169) dL_areTaken_165 (by decide) ?_
        try simp only [if_neg c6, if_neg c9] at h
        exact t_L_areTaken_169 hO h
def wp_L_areTaken_356 (G : sj_G) (R : sj_R) (s0 : Int32) (σ : sj_S) : Prop := R = (.ok s0, σ) ∧ (s0 = nI 0 ∨ s0 = nI 1)
set_option maxRecDepth 20000 in
theorem t_L_areTaken_356 {G : sj_G} {R : sj_R} {s0 : Int32} {σ : sj_S} (hO : sj_ad G 70 = sj_ad G 0) (h : wp_L_areTaken_356 G R s0 σ) : sj_J G 44 me_L_areTaken R 356 [.null, .null, .null, .null, .null, .null, .null, .null, .null, .null, .null] σ [.int s0] := by
  unfold wp_L_areTaken_356 at h
  obtain ⟨h, hz⟩ := h
  subst h
  exact sj_ret dL_areTaken_356 rfl (sj_nb hz)
def wp_L_areTaken_324 (G : sj_G) (R : sj_R) (x1 : Int32) (x2 : Int32) (σ : sj_S) : Prop := ((nI 6) ≤ x2 → (wp_L_areTaken_356 G R (if x1 = 0 then (nI 1) else (nI 0)) σ)) ∧ (¬ ((nI 6) ≤ x2) → ∃ v3 σ3, sj_C G 43 me_X11_takes [.ref (sj_ad G 0), .int x2] σ (.ok v3, σ3) ∧ sj_J G 44 me_L_areTaken R 324 [.ref (sj_ad G 56), .int (x1 - v3), .int (x2 + (nI 1)), .null, .null, .null, .null, .null, .null, .null, .null] σ3 [])
set_option maxRecDepth 20000 in
theorem t_L_areTaken_324 {G : sj_G} {R : sj_R} {x1 : Int32} {x2 : Int32} {σ : sj_S} (hO : sj_ad G 70 = sj_ad G 0) (h : wp_L_areTaken_324 G R x1 x2 σ) : sj_J G 44 me_L_areTaken R 324 [.ref (sj_ad G 56), .int x1, .int x2, .null, .null, .null, .null, .null, .null, .null, .null] σ [] := by
  unfold wp_L_areTaken_324 at h
  refine sj_iload_n dL_areTaken_324 (i := 2) rfl rfl ?_
  refine sj_bipush (v := (nI 6)) dL_areTaken_325 (by decide +kernel) ?_
  refine sj_icmp_ge (tgt := 347) dL_areTaken_327 (by decide) (fun c1 => ?_) (fun c1 => ?_)
  · replace h := h.1 c1
    refine sj_iload_n dL_areTaken_347 (i := 1) rfl rfl ?_
    refine sj_if_ne (tgt := 355) dL_areTaken_348 (by decide) (fun c2 => ?_) (fun c2 => ?_)
    · refine sj_iconst (v := (nI 0)) dL_areTaken_355 (by decide +kernel) ?_
      try simp only [if_neg c2] at h
      refine sj_fg [0, 1, 2] ?_
      exact t_L_areTaken_356 hO h
    · refine sj_iconst (v := (nI 1)) dL_areTaken_351 (by decide +kernel) ?_
      refine sj_goto (tgt := 356) dL_areTaken_352 (by decide) ?_
      try simp only [if_pos c2] at h
      refine sj_fg [0, 1, 2] ?_
      exact t_L_areTaken_356 hO h
  · replace h := h.2 c1
    refine sj_iload_n dL_areTaken_330 (i := 1) rfl rfl ?_
    refine sj_aload_n dL_areTaken_331 (i := 0) rfl rfl ?_
    refine sj_getO hO (a := 56) (k9 := 1) dL_areTaken_332 (by decide +kernel) rfl ?_
    refine sj_iload_n dL_areTaken_335 (i := 2) rfl rfl ?_
    obtain ⟨v3, σ3, hc3, h⟩ := h
    refine sj_callVi (M' := me_X11_takes) (b := 0) (As := [.int x2]) (rest := [.int x1]) dL_areTaken_336 gL_areTaken_X11_takes rfl hd_X11_takes (by decide +kernel) (by decide +kernel) rfl (Nat.le_of_ble_eq_true rfl) (by omega) rfl hc3 ?_
    refine sj_isub dL_areTaken_339 ?_
    refine sj_istore_n dL_areTaken_340 (i := 1) rfl (by decide) ?_
    refine sj_iinc (v := (x2 + (nI 1))) dL_areTaken_341 (by decide) rfl rfl ?_
    refine sj_goto (tgt := 324) dL_areTaken_344 (by decide) ?_
    exact h
def wp_L_areTaken_0 (G : sj_G) (R : sj_R) (σ : sj_S) : Prop := sj_J G 44 me_L_areTaken R 2 [.ref (sj_ad G 56), .int (nI 0), .null, .null, .null, .null, .null, .null, .null, .null, .null] σ []
set_option maxRecDepth 20000 in
theorem t_L_areTaken_0 {G : sj_G} {R : sj_R} {σ : sj_S} (hO : sj_ad G 70 = sj_ad G 0) (h : wp_L_areTaken_0 G R σ) : sj_J G 44 me_L_areTaken R 0 [.ref (sj_ad G 56), .null, .null, .null, .null, .null, .null, .null, .null, .null, .null] σ [] := by
  unfold wp_L_areTaken_0 at h
  refine sj_iconst (v := (nI 0)) dL_areTaken_0 (by decide +kernel) ?_
  refine sj_istore_n dL_areTaken_1 (i := 1) rfl (by decide) ?_
  exact h
theorem c_L_areTaken {G : sj_G} (ok : sj_ok G) {R : sj_R} {σ : sj_S} (hO : sj_ad G 70 = sj_ad G 0) (h : wp_L_areTaken_0 G R σ) : sj_C G 44 me_L_areTaken [.ref (sj_ad G 56)] σ R :=
  sj_enter ok (by decide +kernel) rfl rfl (Nat.le_of_ble_eq_true rfl) (by simp [Value.category]) (t_L_areTaken_0 hO h)
def wp_L_areColours_4 (G : sj_G) (R : sj_R) (x1 : Int32) (x2 : Int32) (σ : sj_S) : Prop := ((σ 56 13) ≤ x2 → sj_J G 11 me_L_areColours R 164 [.ref (sj_ad G 56), .int x1, .int (nI 0), .null, .null, .null] σ []) ∧ (¬ ((σ 56 13) ≤ x2) → sj_J G 11 me_L_areColours R 20 [.ref (sj_ad G 56), .int x1, .int x2, .int (nI 0), .int (nI 0), .int (nI 0)] σ [])
set_option maxRecDepth 20000 in
theorem t_L_areColours_4 {G : sj_G} {R : sj_R} {x1 : Int32} {x2 : Int32} {σ : sj_S} (hO : sj_ad G 70 = sj_ad G 0) (h : wp_L_areColours_4 G R x1 x2 σ) : sj_J G 11 me_L_areColours R 4 [.ref (sj_ad G 56), .int x1, .int x2, .null, .null, .null] σ [] := by
  unfold wp_L_areColours_4 at h
  refine sj_iload_n dL_areColours_4 (i := 2) rfl rfl ?_
  refine sj_aload_n dL_areColours_5 (i := 0) rfl rfl ?_
  refine sj_get (a := 56) (k9 := 13) (v := .int (σ 56 13)) dL_areColours_6 (by decide +kernel) rfl ?_
  refine sj_icmp_ge (tgt := 162) dL_areColours_9 (by decide) (fun c1 => ?_) (fun c1 => ?_)
  · replace h := h.1 c1
    refine sj_iconst (v := (nI 0)) dL_areColours_162 (by decide +kernel) ?_
    refine sj_istore_n dL_areColours_163 (i := 2) rfl (by decide) ?_
    exact h
  · replace h := h.2 c1
    refine sj_iconst (v := (nI 0)) dL_areColours_12 (by decide +kernel) ?_
    refine sj_istore_n dL_areColours_13 (i := 3) rfl (by decide) ?_
    refine sj_iconst (v := (nI 0)) dL_areColours_14 (by decide +kernel) ?_
    refine sj_istore dL_areColours_15 (by decide) ?_
    refine sj_iconst (v := (nI 0)) dL_areColours_17 (by decide +kernel) ?_
    refine sj_istore dL_areColours_18 (by decide) ?_
    exact h
def wp_L_areColours_139 (G : sj_G) (R : sj_R) (x1 : Int32) (x2 : Int32) (x3 : Int32) (x4 : Int32) (x5 : Int32) (σ : sj_S) : Prop := sj_J G 11 me_L_areColours R 20 [.ref (sj_ad G 56), .int x1, .int x2, .int x3, .int x4, .int (x5 + (nI 1))] σ []
set_option maxRecDepth 20000 in
theorem t_L_areColours_139 {G : sj_G} {R : sj_R} {x1 : Int32} {x2 : Int32} {x3 : Int32} {x4 : Int32} {x5 : Int32} {σ : sj_S} (hO : sj_ad G 70 = sj_ad G 0) (h : wp_L_areColours_139 G R x1 x2 x3 x4 x5 σ) : sj_J G 11 me_L_areColours R 139 [.ref (sj_ad G 56), .int x1, .int x2, .int x3, .int x4, .int x5] σ [] := by
  unfold wp_L_areColours_139 at h
  refine sj_iinc (v := (x5 + (nI 1))) dL_areColours_139 (by decide) rfl rfl ?_
  refine sj_goto (tgt := 20) dL_areColours_142 (by decide) ?_
  exact h
def wp_L_areColours_117 (G : sj_G) (R : sj_R) (x1 : Int32) (x2 : Int32) (x3 : Int32) (x4 : Int32) (x5 : Int32) (σ : sj_S) : Prop := ∃ v1 σ1, sj_C G 10 me_X11_colour [.ref (sj_ad G 0), .int x5] σ (.ok v1, σ1) ∧ ∃ v2 σ2, sj_C G 10 me_X11_colour [.ref (sj_ad G 0), .int x2] σ1 (.ok v2, σ2) ∧ (¬ v1 = v2 → (wp_L_areColours_139 G R x1 x2 x3 x4 x5 σ2)) ∧ (v1 = v2 → R = (.ok (nI 0), σ2))
set_option maxRecDepth 20000 in
theorem t_L_areColours_117 {G : sj_G} {R : sj_R} {x1 : Int32} {x2 : Int32} {x3 : Int32} {x4 : Int32} {x5 : Int32} {σ : sj_S} (hO : sj_ad G 70 = sj_ad G 0) (h : wp_L_areColours_117 G R x1 x2 x3 x4 x5 σ) : sj_J G 11 me_L_areColours R 117 [.ref (sj_ad G 56), .int x1, .int x2, .int x3, .int x4, .int x5] σ [] := by
  unfold wp_L_areColours_117 at h
  refine sj_aload_n dL_areColours_117 (i := 0) rfl rfl ?_
  refine sj_getO hO (a := 56) (k9 := 1) dL_areColours_118 (by decide +kernel) rfl ?_
  refine sj_iload dL_areColours_121 rfl ?_
  obtain ⟨v1, σ1, hc1, h⟩ := h
  refine sj_callVi (M' := me_X11_colour) (b := 0) (As := [.int x5]) (rest := []) dL_areColours_123 gL_areColours_X11_colour rfl hd_X11_colour (by decide +kernel) (by decide +kernel) rfl (Nat.le_of_ble_eq_true rfl) (by omega) rfl hc1 ?_
  refine sj_aload_n dL_areColours_126 (i := 0) rfl rfl ?_
  refine sj_getO hO (a := 56) (k9 := 1) dL_areColours_127 (by decide +kernel) rfl ?_
  refine sj_iload_n dL_areColours_130 (i := 2) rfl rfl ?_
  obtain ⟨v2, σ2, hc2, h⟩ := h
  refine sj_callVi (M' := me_X11_colour) (b := 0) (As := [.int x2]) (rest := [.int v1]) dL_areColours_131 gL_areColours_X11_colour rfl hd_X11_colour (by decide +kernel) (by decide +kernel) rfl (Nat.le_of_ble_eq_true rfl) (by omega) rfl hc2 ?_
  refine sj_icmp_ne (tgt := 139) dL_areColours_134 (by decide) (fun c3 => ?_) (fun c3 => ?_)
  · replace h := h.1 c3
    exact t_L_areColours_139 hO h
  · replace h := h.2 c3
    refine sj_iconst (v := (nI 0)) dL_areColours_137 (by decide +kernel) ?_
    subst h
    exact sj_ret dL_areColours_138 rfl rfl
def wp_L_areColours_76 (G : sj_G) (R : sj_R) (x1 : Int32) (x2 : Int32) (x3 : Int32) (x5 : Int32) (s0 : Int32) (s1 : Int32) (σ : sj_S) : Prop := (x2 ≤ x5 → (wp_L_areColours_139 G R x1 x2 x3 (s1 + s0) x5 σ)) ∧ (¬ (x2 ≤ x5) → vp_in x5 9 ∧ vp_in x2 9 ∧ ((σ 57 x5.toNatClampNeg) = (σ 57 x2.toNatClampNeg) → (wp_L_areColours_117 G R x1 x2 x3 (s1 + s0) x5 σ)) ∧ (¬ ((σ 57 x5.toNatClampNeg) = (σ 57 x2.toNatClampNeg)) → vp_in x5 9 ∧ vp_in x2 9 ∧ (¬ (σ 58 x5.toNatClampNeg) = (σ 58 x2.toNatClampNeg) → (wp_L_areColours_139 G R x1 x2 x3 (s1 + s0) x5 σ)) ∧ ((σ 58 x5.toNatClampNeg) = (σ 58 x2.toNatClampNeg) → (wp_L_areColours_117 G R x1 x2 x3 (s1 + s0) x5 σ))))
set_option maxRecDepth 20000 in
theorem t_L_areColours_76 {G : sj_G} {R : sj_R} {x1 : Int32} {x2 : Int32} {x3 : Int32} {x5 : Int32} {s0 : Int32} {s1 : Int32} {σ : sj_S} (hO : sj_ad G 70 = sj_ad G 0) (h : wp_L_areColours_76 G R x1 x2 x3 x5 s0 s1 σ) : sj_J G 11 me_L_areColours R 76 [.ref (sj_ad G 56), .int x1, .int x2, .int x3, .null, .int x5] σ [.int s0, .int s1] := by
  unfold wp_L_areColours_76 at h
  refine sj_iadd dL_areColours_76 ?_
  refine sj_istore dL_areColours_77 (by decide) ?_
  refine sj_iload dL_areColours_79 rfl ?_
  refine sj_iload_n dL_areColours_81 (i := 2) rfl rfl ?_
  refine sj_icmp_ge (tgt := 139) dL_areColours_82 (by decide) (fun c1 => ?_) (fun c1 => ?_)
  · replace h := h.1 c1
    exact t_L_areColours_139 hO h
  · replace h := h.2 c1
    refine sj_aload_n dL_areColours_85 (i := 0) rfl rfl ?_
    refine sj_get (a := 56) (k9 := 2) (v := .ref (sj_ad G 57)) dL_areColours_86 (by decide +kernel) rfl ?_
    refine sj_iload dL_areColours_89 rfl ?_
    obtain ⟨b2, h⟩ := h
    refine sj_iald (a := 57) (j := x5.toNatClampNeg) (x := (σ 57 x5.toNatClampNeg)) dL_areColours_91 rfl (by decide +kernel) b2 rfl rfl ?_
    refine sj_aload_n dL_areColours_92 (i := 0) rfl rfl ?_
    refine sj_get (a := 56) (k9 := 2) (v := .ref (sj_ad G 57)) dL_areColours_93 (by decide +kernel) rfl ?_
    refine sj_iload_n dL_areColours_96 (i := 2) rfl rfl ?_
    obtain ⟨b3, h⟩ := h
    refine sj_iald (a := 57) (j := x2.toNatClampNeg) (x := (σ 57 x2.toNatClampNeg)) dL_areColours_97 rfl (by decide +kernel) b3 rfl rfl ?_
    refine sj_icmp_eq (tgt := 117) dL_areColours_98 (by decide) (fun c4 => ?_) (fun c4 => ?_)
    · replace h := h.1 c4
      exact t_L_areColours_117 hO h
    · replace h := h.2 c4
      refine sj_aload_n dL_areColours_101 (i := 0) rfl rfl ?_
      refine sj_get (a := 56) (k9 := 3) (v := .ref (sj_ad G 58)) dL_areColours_102 (by decide +kernel) rfl ?_
      refine sj_iload dL_areColours_105 rfl ?_
      obtain ⟨b5, h⟩ := h
      refine sj_iald (a := 58) (j := x5.toNatClampNeg) (x := (σ 58 x5.toNatClampNeg)) dL_areColours_107 rfl (by decide +kernel) b5 rfl rfl ?_
      refine sj_aload_n dL_areColours_108 (i := 0) rfl rfl ?_
      refine sj_get (a := 56) (k9 := 3) (v := .ref (sj_ad G 58)) dL_areColours_109 (by decide +kernel) rfl ?_
      refine sj_iload_n dL_areColours_112 (i := 2) rfl rfl ?_
      obtain ⟨b6, h⟩ := h
      refine sj_iald (a := 58) (j := x2.toNatClampNeg) (x := (σ 58 x2.toNatClampNeg)) dL_areColours_113 rfl (by decide +kernel) b6 rfl rfl ?_
      refine sj_icmp_ne (tgt := 139) dL_areColours_114 (by decide) (fun c7 => ?_) (fun c7 => ?_)
      · replace h := h.1 c7
        exact t_L_areColours_139 hO h
      · replace h := h.2 c7
        exact t_L_areColours_117 hO h
