def wp_X12_group_27 (G : sj_G) (R : sj_R) (x1 : Int32) (x2 : Int32) (x3 : Int32) (x4 : Int32) (x5 : Int32) (x6 : Int32) (σ : sj_S) : Prop := ((nI 8) ≤ x6 → (wp_X12_group_120 G R (if x5 = 0 then x1 else (if x2 < x4 then x3 else x1)) (if x5 = 0 then x2 else (if x2 < x4 then x4 else x2)) x3 σ)) ∧ (¬ ((nI 8) ≤ x6) → (¬ ((x3 >>> (x6 &&& 31)) &&& (nI 1)) = 0 → sj_J G 3 me_X12_group R 52 [.ref (sj_ad G 56), .int x1, .int x2, .int x3, .int (x4 + (nI 1)), .int x5, .int x6, .int (nI 0)] σ []) ∧ (((x3 >>> (x6 &&& 31)) &&& (nI 1)) = 0 → (wp_X12_group_95 G R x1 x2 x3 x4 x5 x6 σ)))
set_option maxRecDepth 20000 in
theorem t_X12_group_27 {G : sj_G} {R : sj_R} {x1 : Int32} {x2 : Int32} {x3 : Int32} {x4 : Int32} {x5 : Int32} {x6 : Int32} {σ : sj_S} (h : wp_X12_group_27 G R x1 x2 x3 x4 x5 x6 σ) : sj_J G 3 me_X12_group R 27 [.ref (sj_ad G 56), .int x1, .int x2, .int x3, .int x4, .int x5, .int x6, .null] σ [] := by
  unfold wp_X12_group_27 at h
  refine sj_iload dX12_group_27 rfl ?_
  refine sj_bipush (v := (nI 8)) dX12_group_29 (by decide +kernel) ?_
  refine sj_icmp_ge (tgt := 101) dX12_group_31 (by decide) (fun c1 => ?_) (fun c1 => ?_)
  · replace h := h.1 c1
    refine sj_iload dX12_group_101 rfl ?_
    refine sj_if_eq (tgt := 120) dX12_group_103 (by decide) (fun c2 => ?_) (fun c2 => ?_)
    · try simp only [if_pos c2] at h
      refine sj_fg [4, 5, 6] ?_
      exact t_X12_group_120 h
    · refine sj_iload dX12_group_106 rfl ?_
      refine sj_iload_n dX12_group_108 (i := 2) rfl rfl ?_
      refine sj_icmp_gt (tgt := 115) dX12_group_109 (by decide) (fun c3 => ?_) (fun c3 => ?_)
      · refine sj_iload dX12_group_115 rfl ?_
        refine sj_istore_n dX12_group_117 (i := 2) rfl (by decide) ?_
        refine sj_iload_n dX12_group_118 (i := 3) rfl rfl ?_
        refine sj_istore_n dX12_group_119 (i := 1) rfl (by decide) ?_
        try simp only [if_neg c2, if_pos c3] at h
        refine sj_fg [4, 5, 6] ?_
        exact t_X12_group_120 h
      · refine sj_goto (tgt := 120) dX12_group_112 (by decide) ?_
        try simp only [if_neg c2, if_neg c3] at h
        refine sj_fg [4, 5, 6] ?_
        exact t_X12_group_120 h
  · replace h := h.2 c1
    refine sj_iload_n dX12_group_34 (i := 3) rfl rfl ?_
    refine sj_iload dX12_group_35 rfl ?_
    refine sj_ishr dX12_group_37 ?_
    refine sj_iconst (v := (nI 1)) dX12_group_38 (by decide +kernel) ?_
    refine sj_iand dX12_group_39 ?_
    refine sj_if_ne (tgt := 46) dX12_group_40 (by decide) (fun c5 => ?_) (fun c5 => ?_)
    · replace h := h.1 c5
      refine sj_iinc (v := (x4 + (nI 1))) dX12_group_46 (by decide) rfl rfl ?_
      refine sj_iconst (v := (nI 0)) dX12_group_49 (by decide +kernel) ?_
      refine sj_istore dX12_group_50 (by decide) ?_
      exact h
    · replace h := h.2 c5
      refine sj_goto (tgt := 95) dX12_group_43 (by decide) ?_
      exact t_X12_group_95 h
def wp_X12_group_86 (G : sj_G) (R : sj_R) (x1 : Int32) (x2 : Int32) (x3 : Int32) (x4 : Int32) (x6 : Int32) (x7 : Int32) (s0 : Int32) (s1 : Int32) (σ : sj_S) : Prop := sj_J G 3 me_X12_group R 52 [.ref (sj_ad G 56), .int x1, .int x2, .int x3, .int x4, .int (s1 &&& s0), .int x6, .int (x7 + (nI 1))] σ []
set_option maxRecDepth 20000 in
theorem t_X12_group_86 {G : sj_G} {R : sj_R} {x1 : Int32} {x2 : Int32} {x3 : Int32} {x4 : Int32} {x6 : Int32} {x7 : Int32} {s0 : Int32} {s1 : Int32} {σ : sj_S} (h : wp_X12_group_86 G R x1 x2 x3 x4 x6 x7 s0 s1 σ) : sj_J G 3 me_X12_group R 86 [.ref (sj_ad G 56), .int x1, .int x2, .int x3, .int x4, .null, .int x6, .int x7] σ [.int s0, .int s1] := by
  unfold wp_X12_group_86 at h
  refine sj_iand dX12_group_86 ?_
  refine sj_istore dX12_group_87 (by decide) ?_
  refine sj_iinc (v := (x7 + (nI 1))) dX12_group_89 (by decide) rfl rfl ?_
  refine sj_goto (tgt := 52) dX12_group_92 (by decide) ?_
  exact h
def wp_X12_group_81 (G : sj_G) (R : sj_R) (x1 : Int32) (x2 : Int32) (x3 : Int32) (x4 : Int32) (x6 : Int32) (x7 : Int32) (s0 : Int32) (σ : sj_S) : Prop := (wp_X12_group_86 G R x1 x2 x3 x4 x6 x7 (nI 1) s0 σ)
set_option maxRecDepth 20000 in
theorem t_X12_group_81 {G : sj_G} {R : sj_R} {x1 : Int32} {x2 : Int32} {x3 : Int32} {x4 : Int32} {x6 : Int32} {x7 : Int32} {s0 : Int32} {σ : sj_S} (h : wp_X12_group_81 G R x1 x2 x3 x4 x6 x7 s0 σ) : sj_J G 3 me_X12_group R 81 [.ref (sj_ad G 56), .int x1, .int x2, .int x3, .int x4, .null, .int x6, .int x7] σ [.int s0] := by
  unfold wp_X12_group_81 at h
  refine sj_iconst (v := (nI 1)) dX12_group_81 (by decide +kernel) ?_
  refine sj_goto (tgt := 86) dX12_group_82 (by decide) ?_
  exact t_X12_group_86 h
def wp_X12_group_52 (G : sj_G) (R : sj_R) (x1 : Int32) (x2 : Int32) (x3 : Int32) (x4 : Int32) (x5 : Int32) (x6 : Int32) (x7 : Int32) (σ : sj_S) : Prop := (x6 ≤ x7 → (wp_X12_group_95 G R x1 x2 x3 x4 x5 x6 σ)) ∧ (¬ (x6 ≤ x7) → (((x3 >>> (x7 &&& 31)) &&& (nI 1)) = 0 → (wp_X12_group_81 G R x1 x2 x3 x4 x6 x7 x5 σ)) ∧ (¬ (((x3 >>> (x7 &&& 31)) &&& (nI 1)) = 0) → ∃ v6 σ6, sj_C G 2 me_X12_areApart [.ref (sj_ad G 56), .int x6, .int x7] σ (.ok v6, σ6) ∧ (wp_X12_group_86 G R x1 x2 x3 x4 x6 x7 (if v6 = 0 then (nI 0) else (nI 1)) x5 σ6)))
set_option maxRecDepth 20000 in
theorem t_X12_group_52 {G : sj_G} {R : sj_R} {x1 : Int32} {x2 : Int32} {x3 : Int32} {x4 : Int32} {x5 : Int32} {x6 : Int32} {x7 : Int32} {σ : sj_S} (h : wp_X12_group_52 G R x1 x2 x3 x4 x5 x6 x7 σ) : sj_J G 3 me_X12_group R 52 [.ref (sj_ad G 56), .int x1, .int x2, .int x3, .int x4, .int x5, .int x6, .int x7] σ [] := by
  unfold wp_X12_group_52 at h
  refine sj_iload dX12_group_52 rfl ?_
  refine sj_iload dX12_group_54 rfl ?_
  refine sj_icmp_ge (tgt := 95) dX12_group_56 (by decide) (fun c3 => ?_) (fun c3 => ?_)
  · replace h := h.1 c3
    refine sj_fg [7] ?_
    exact t_X12_group_95 h
  · replace h := h.2 c3
    refine sj_iload dX12_group_59 rfl ?_
    refine sj_iload_n dX12_group_61 (i := 3) rfl rfl ?_
    refine sj_iload dX12_group_62 rfl ?_
    refine sj_ishr dX12_group_64 ?_
    refine sj_iconst (v := (nI 1)) dX12_group_65 (by decide +kernel) ?_
    refine sj_iand dX12_group_66 ?_
    refine sj_if_eq (tgt := 81) dX12_group_67 (by decide) (fun c5 => ?_) (fun c5 => ?_)
    · replace h := h.1 c5
      refine sj_fg [5] ?_
      exact t_X12_group_81 h
    · replace h := h.2 c5
      refine sj_aload_n dX12_group_70 (i := 0) rfl rfl ?_
      refine sj_iload dX12_group_71 rfl ?_
      refine sj_iload dX12_group_73 rfl ?_
      obtain ⟨v6, σ6, hc6, h⟩ := h
      refine sj_callVi (M' := me_X12_areApart) (b := 56) (As := [.int x6, .int x7]) (rest := [.int x5]) dX12_group_75 gX12_group_X12_areApart rfl hd_X12_areApart (by decide +kernel) (by decide +kernel) rfl (Nat.le_of_ble_eq_true rfl) (by omega) rfl hc6 ?_
      refine sj_if_eq (tgt := 85) dX12_group_78 (by decide) (fun c7 => ?_) (fun c7 => ?_)
      · refine sj_iconst (v := (nI 0)) dX12_group_85 (by decide +kernel) ?_
        try simp only [if_pos c7] at h
        refine sj_fg [5] ?_
        exact t_X12_group_86 h
      · refine sj_iconst (v := (nI 1)) dX12_group_81 (by decide +kernel) ?_
        refine sj_goto (tgt := 86) dX12_group_82 (by decide) ?_
        try simp only [if_neg c7] at h
        refine sj_fg [5] ?_
        exact t_X12_group_86 h
def wp_X12_group_0 (G : sj_G) (R : sj_R) (σ : sj_S) : Prop := sj_J G 3 me_X12_group R 11 [.ref (sj_ad G 56), .int (nI 0), .int (nI 0), .int (nI 1), .null, .null, .null, .null] (sj_st σ 56 0 (nI 0)) []
set_option maxRecDepth 20000 in
theorem t_X12_group_0 {G : sj_G} {R : sj_R} {σ : sj_S} (h : wp_X12_group_0 G R σ) : sj_J G 3 me_X12_group R 0 [.ref (sj_ad G 56), .null, .null, .null, .null, .null, .null, .null] σ [] := by
  unfold wp_X12_group_0 at h
  refine sj_aload_n dX12_group_0 (i := 0) rfl rfl ?_
  refine sj_iconst (v := (nI 0)) dX12_group_1 (by decide +kernel) ?_
  refine sj_put (a := 56) (k9 := 0) dX12_group_2 (by decide +kernel) (by decide +kernel) rfl ?_
  refine sj_iconst (v := (nI 0)) dX12_group_5 (by decide +kernel) ?_
  refine sj_istore_n dX12_group_6 (i := 1) rfl (by decide) ?_
  refine sj_iconst (v := (nI 0)) dX12_group_7 (by decide +kernel) ?_
  refine sj_istore_n dX12_group_8 (i := 2) rfl (by decide) ?_
  refine sj_iconst (v := (nI 1)) dX12_group_9 (by decide +kernel) ?_
  refine sj_istore_n dX12_group_10 (i := 3) rfl (by decide) ?_
  exact h
theorem c_X12_group {G : sj_G} (ok : sj_ok G) {R : sj_R} {σ : sj_S} (h : wp_X12_group_0 G R σ) : sj_C G 3 me_X12_group [.ref (sj_ad G 56)] σ R :=
  sj_enter ok (by decide +kernel) rfl rfl (Nat.le_of_ble_eq_true rfl) (by simp [Value.category]) (t_X12_group_0 h)
def wp_X12_minute_46 (G : sj_G) (R : sj_R) (s0 : Int32) (s1 : Int32) (σ : sj_S) : Prop := R = (.ok (s1 + s0), σ)
set_option maxRecDepth 20000 in
theorem t_X12_minute_46 {G : sj_G} {R : sj_R} {s0 : Int32} {s1 : Int32} {σ : sj_S} (h : wp_X12_minute_46 G R s0 s1 σ) : sj_J G 2 me_X12_minute R 46 [.null, .null, .null, .null, .null] σ [.int s0, .int s1] := by
  unfold wp_X12_minute_46 at h
  refine sj_iadd dX12_minute_46 ?_
  subst h
  exact sj_ret dX12_minute_47 rfl rfl
def wp_X12_minute_0 (G : sj_G) (R : sj_R) (x1 : Int32) (x2 : Int32) (σ : sj_S) : Prop := vp_in (x1 / (nI 4)) 5 ∧ vp_in (x1 / (nI 4)) 5 ∧ vp_in (x1 / (nI 4)) 5 ∧ ((¬ (x2 = 0)) → vp_in (x1 / (nI 4)) 5) ∧ (wp_X12_minute_46 G R (if x2 = 0 then (nI 0) else (σ 71 (x1 / (nI 4)).toNatClampNeg)) ((σ 70 (x1 / (nI 4)).toNatClampNeg) + ((x1 - x1 / (nI 4) * (nI 4)) * ((σ 71 (x1 / (nI 4)).toNatClampNeg) + (σ 72 (x1 / (nI 4)).toNatClampNeg)))) σ)
set_option maxRecDepth 20000 in
theorem t_X12_minute_0 {G : sj_G} {R : sj_R} {x1 : Int32} {x2 : Int32} {σ : sj_S} (h : wp_X12_minute_0 G R x1 x2 σ) : sj_J G 2 me_X12_minute R 0 [.ref (sj_ad G 56), .int x1, .int x2, .null, .null] σ [] := by
  unfold wp_X12_minute_0 at h
  refine sj_iload_n dX12_minute_0 (i := 1) rfl rfl ?_
  refine sj_iconst (v := (nI 4)) dX12_minute_1 (by decide +kernel) ?_
  refine sj_idiv dX12_minute_2 (by decide +kernel) ?_
  refine sj_istore_n dX12_minute_3 (i := 3) rfl (by decide) ?_
  refine sj_iload_n dX12_minute_4 (i := 1) rfl rfl ?_
  refine sj_iconst (v := (nI 4)) dX12_minute_5 (by decide +kernel) ?_
  refine sj_irem dX12_minute_6 (by decide +kernel) ?_
  refine sj_istore dX12_minute_7 (by decide) ?_
  refine sj_aload_n dX12_minute_9 (i := 0) rfl rfl ?_
  refine sj_get (a := 56) (k9 := 18) (v := .ref (sj_ad G 70)) dX12_minute_10 (by decide +kernel) rfl ?_
  refine sj_iload_n dX12_minute_13 (i := 3) rfl rfl ?_
  obtain ⟨b1, h⟩ := h
  refine sj_iald (a := 70) (j := (x1 / (nI 4)).toNatClampNeg) (x := (σ 70 (x1 / (nI 4)).toNatClampNeg)) dX12_minute_14 rfl (by decide +kernel) b1 rfl rfl ?_
  refine sj_iload dX12_minute_15 rfl ?_
  refine sj_aload_n dX12_minute_17 (i := 0) rfl rfl ?_
  refine sj_get (a := 56) (k9 := 19) (v := .ref (sj_ad G 71)) dX12_minute_18 (by decide +kernel) rfl ?_
  refine sj_iload_n dX12_minute_21 (i := 3) rfl rfl ?_
  obtain ⟨b2, h⟩ := h
  refine sj_iald (a := 71) (j := (x1 / (nI 4)).toNatClampNeg) (x := (σ 71 (x1 / (nI 4)).toNatClampNeg)) dX12_minute_22 rfl (by decide +kernel) b2 rfl rfl ?_
  refine sj_aload_n dX12_minute_23 (i := 0) rfl rfl ?_
  refine sj_get (a := 56) (k9 := 20) (v := .ref (sj_ad G 72)) dX12_minute_24 (by decide +kernel) rfl ?_
  refine sj_iload_n dX12_minute_27 (i := 3) rfl rfl ?_
  obtain ⟨b3, h⟩ := h
  refine sj_iald (a := 72) (j := (x1 / (nI 4)).toNatClampNeg) (x := (σ 72 (x1 / (nI 4)).toNatClampNeg)) dX12_minute_28 rfl (by decide +kernel) b3 rfl rfl ?_
  refine sj_iadd dX12_minute_29 ?_
  refine sj_imul dX12_minute_30 ?_
  refine sj_iadd dX12_minute_31 ?_
  refine sj_iload_n dX12_minute_32 (i := 2) rfl rfl ?_
  obtain ⟨f6, h⟩ := h
  refine sj_if_eq (tgt := 45) dX12_minute_33 (by decide) (fun c4 => ?_) (fun c4 => ?_)
  · refine sj_iconst (v := (nI 0)) dX12_minute_45 (by decide +kernel) ?_
    try simp only [if_pos c4] at h
    refine sj_fg [0, 1, 2, 3, 4] ?_
    exact t_X12_minute_46 h
  · have b5 := f6 c4
    refine sj_aload_n dX12_minute_36 (i := 0) rfl rfl ?_
    refine sj_get (a := 56) (k9 := 19) (v := .ref (sj_ad G 71)) dX12_minute_37 (by decide +kernel) rfl ?_
    refine sj_iload_n dX12_minute_40 (i := 3) rfl rfl ?_
    refine sj_iald (a := 71) (j := (x1 / (nI 4)).toNatClampNeg) (x := (σ 71 (x1 / (nI 4)).toNatClampNeg)) dX12_minute_41 rfl (by decide +kernel) b5 rfl rfl ?_
    refine sj_goto (tgt := 46) dX12_minute_42 (by decide) ?_
    try simp only [if_neg c4] at h
    refine sj_fg [0, 1, 2, 3, 4] ?_
    exact t_X12_minute_46 h
theorem c_X12_minute {G : sj_G} (ok : sj_ok G) {R : sj_R} {x1 : Int32} {x2 : Int32} {σ : sj_S} (h : wp_X12_minute_0 G R x1 x2 σ) : sj_C G 2 me_X12_minute [.ref (sj_ad G 56), .int x1, .int x2] σ R :=
  sj_enter ok (by decide +kernel) rfl rfl (Nat.le_of_ble_eq_true rfl) (by simp [Value.category]) (t_X12_minute_0 h)
def wp_X12_setBells_55 (G : sj_G) (R : sj_R) (x1 : Int32) (x2 : Int32) (x3 : Int32) (x4 : Int32) (s0 : Int32) (σ : sj_S) : Prop := ∃ v1 σ1, sj_C G 2 me_X12_fails [.ref (sj_ad G 56), .int s0, .int (nI 1)] σ (.ok v1, σ1) ∧ (v1 = 0 → vp_in x1 5 ∧ vp_in x1 5 ∧ vp_in x1 5 ∧ ∃ v6 σ6, sj_C G 2 me_X12_minute [.ref (sj_ad G 56), .int ((((nI 4) * x1) + (nI 4)) - (nI 1)), .int (nI 1)] (sj_st (sj_st (sj_st σ1 70 x1.toNatClampNeg x2) 71 x1.toNatClampNeg x3) 72 x1.toNatClampNeg x4) (.ok v6, σ6) ∧ R = (.ok v6, σ6)) ∧ (¬ (v1 = 0) → R = (.ok (nI 0), σ1))
set_option maxRecDepth 20000 in
theorem t_X12_setBells_55 {G : sj_G} {R : sj_R} {x1 : Int32} {x2 : Int32} {x3 : Int32} {x4 : Int32} {s0 : Int32} {σ : sj_S} (h : wp_X12_setBells_55 G R x1 x2 x3 x4 s0 σ) : sj_J G 3 me_X12_setBells R 55 [.ref (sj_ad G 56), .int x1, .int x2, .int x3, .int x4] σ [.int s0, .ref (sj_ad G 56)] := by
  unfold wp_X12_setBells_55 at h
  refine sj_iconst (v := (nI 1)) dX12_setBells_55 (by decide +kernel) ?_
  obtain ⟨v1, σ1, hc1, h⟩ := h
  refine sj_callVi (M' := me_X12_fails) (b := 56) (As := [.int s0, .int (nI 1)]) (rest := []) dX12_setBells_56 gX12_setBells_X12_fails rfl hd_X12_fails (by decide +kernel) (by decide +kernel) rfl (Nat.le_of_ble_eq_true rfl) (by omega) rfl hc1 ?_
  refine sj_if_eq (tgt := 64) dX12_setBells_59 (by decide) (fun c2 => ?_) (fun c2 => ?_)
  · replace h := h.1 c2
    refine sj_aload_n dX12_setBells_64 (i := 0) rfl rfl ?_
    refine sj_get (a := 56) (k9 := 18) (v := .ref (sj_ad G 70)) dX12_setBells_65 (by decide +kernel) rfl ?_
    refine sj_iload_n dX12_setBells_68 (i := 1) rfl rfl ?_
    refine sj_iload_n dX12_setBells_69 (i := 2) rfl rfl ?_
    obtain ⟨b3, h⟩ := h
    refine sj_iast (a := 70) (j := x1.toNatClampNeg) dX12_setBells_70 rfl (by decide +kernel) b3 rfl ?_
    refine sj_aload_n dX12_setBells_71 (i := 0) rfl rfl ?_
    refine sj_get (a := 56) (k9 := 19) (v := .ref (sj_ad G 71)) dX12_setBells_72 (by decide +kernel) rfl ?_
    refine sj_iload_n dX12_setBells_75 (i := 1) rfl rfl ?_
    refine sj_iload_n dX12_setBells_76 (i := 3) rfl rfl ?_
    obtain ⟨b4, h⟩ := h
    refine sj_iast (a := 71) (j := x1.toNatClampNeg) dX12_setBells_77 rfl (by decide +kernel) b4 rfl ?_
    refine sj_aload_n dX12_setBells_78 (i := 0) rfl rfl ?_
    refine sj_get (a := 56) (k9 := 20) (v := .ref (sj_ad G 72)) dX12_setBells_79 (by decide +kernel) rfl ?_
    refine sj_iload_n dX12_setBells_82 (i := 1) rfl rfl ?_
    refine sj_iload dX12_setBells_83 rfl ?_
    obtain ⟨b5, h⟩ := h
    refine sj_iast (a := 72) (j := x1.toNatClampNeg) dX12_setBells_85 rfl (by decide +kernel) b5 rfl ?_
    refine sj_aload_n dX12_setBells_86 (i := 0) rfl rfl ?_
    refine sj_iconst (v := (nI 4)) dX12_setBells_87 (by decide +kernel) ?_
    refine sj_iload_n dX12_setBells_88 (i := 1) rfl rfl ?_
    refine sj_imul dX12_setBells_89 ?_
    refine sj_iconst (v := (nI 4)) dX12_setBells_90 (by decide +kernel) ?_
    refine sj_iadd dX12_setBells_91 ?_
    refine sj_iconst (v := (nI 1)) dX12_setBells_92 (by decide +kernel) ?_
    refine sj_isub dX12_setBells_93 ?_
    refine sj_iconst (v := (nI 1)) dX12_setBells_94 (by decide +kernel) ?_
    obtain ⟨v6, σ6, hc6, h⟩ := h
    refine sj_callVi (M' := me_X12_minute) (b := 56) (As := [.int ((((nI 4) * x1) + (nI 4)) - (nI 1)), .int (nI 1)]) (rest := []) dX12_setBells_95 gX12_setBells_X12_minute rfl hd_X12_minute (by decide +kernel) (by decide +kernel) rfl (Nat.le_of_ble_eq_true rfl) (by omega) rfl hc6 ?_
    subst h
    exact sj_ret dX12_setBells_98 rfl rfl
  · replace h := h.2 c2
    refine sj_iconst (v := (nI 0)) dX12_setBells_62 (by decide +kernel) ?_
    subst h
    exact sj_ret dX12_setBells_63 rfl rfl
def wp_X12_setBells_54 (G : sj_G) (R : sj_R) (x1 : Int32) (x2 : Int32) (x3 : Int32) (x4 : Int32) (σ : sj_S) : Prop := (wp_X12_setBells_55 G R x1 x2 x3 x4 (nI 0) σ)
set_option maxRecDepth 20000 in
theorem t_X12_setBells_54 {G : sj_G} {R : sj_R} {x1 : Int32} {x2 : Int32} {x3 : Int32} {x4 : Int32} {σ : sj_S} (h : wp_X12_setBells_54 G R x1 x2 x3 x4 σ) : sj_J G 3 me_X12_setBells R 54 [.ref (sj_ad G 56), .int x1, .int x2, .int x3, .int x4] σ [.ref (sj_ad G 56)] := by
  unfold wp_X12_setBells_54 at h
  refine sj_iconst (v := (nI 0)) dX12_setBells_54 (by decide +kernel) ?_
  exact t_X12_setBells_55 h
def wp_X12_setBells_0 (G : sj_G) (R : sj_R) (x1 : Int32) (x2 : Int32) (x3 : Int32) (x4 : Int32) (σ : sj_S) : Prop := ∃ v1 σ1, sj_C G 2 me_X12_in [.int x1, .int (nI 0), .int (nI 4)] (sj_st σ 56 0 (nI 0)) (.ok v1, σ1) ∧ (v1 = 0 → (wp_X12_setBells_54 G R x1 x2 x3 x4 σ1)) ∧ (¬ (v1 = 0) → ∃ v4 σ4, sj_C G 2 me_X12_in [.int x2, .int (nI 420), .int (nI 600)] σ1 (.ok v4, σ4) ∧ (v4 = 0 → (wp_X12_setBells_54 G R x1 x2 x3 x4 σ4)) ∧ (¬ (v4 = 0) → ∃ v7 σ7, sj_C G 2 me_X12_in [.int x3, .int (nI 30), .int (nI 60)] σ4 (.ok v7, σ7) ∧ (v7 = 0 → (wp_X12_setBells_54 G R x1 x2 x3 x4 σ7)) ∧ (¬ (v7 = 0) → ∃ v10 σ10, sj_C G 2 me_X12_in [.int x4, .int (nI 0), .int (nI 30)] σ7 (.ok v10, σ10) ∧ (wp_X12_setBells_55 G R x1 x2 x3 x4 (if v10 = 0 then (nI 0) else (nI 1)) σ10))))
set_option maxRecDepth 20000 in
theorem t_X12_setBells_0 {G : sj_G} {R : sj_R} {x1 : Int32} {x2 : Int32} {x3 : Int32} {x4 : Int32} {σ : sj_S} (h : wp_X12_setBells_0 G R x1 x2 x3 x4 σ) : sj_J G 3 me_X12_setBells R 0 [.ref (sj_ad G 56), .int x1, .int x2, .int x3, .int x4] σ [] := by
  unfold wp_X12_setBells_0 at h
  refine sj_aload_n dX12_setBells_0 (i := 0) rfl rfl ?_
  refine sj_iconst (v := (nI 0)) dX12_setBells_1 (by decide +kernel) ?_
  refine sj_put (a := 56) (k9 := 0) dX12_setBells_2 (by decide +kernel) (by decide +kernel) rfl ?_
  refine sj_aload_n dX12_setBells_5 (i := 0) rfl rfl ?_
  refine sj_iload_n dX12_setBells_6 (i := 1) rfl rfl ?_
  refine sj_iconst (v := (nI 0)) dX12_setBells_7 (by decide +kernel) ?_
  refine sj_iconst (v := (nI 4)) dX12_setBells_8 (by decide +kernel) ?_
  obtain ⟨v1, σ1, hc1, h⟩ := h
  refine sj_callSi (M' := me_X12_in) (As := [.int x1, .int (nI 0), .int (nI 4)]) (rest := [.ref (sj_ad G 56)]) dX12_setBells_9 gX12_setBells_X12_in rfl hd_X12_in (Nat.le_of_ble_eq_true rfl) (by omega) rfl hc1 ?_
  refine sj_if_eq (tgt := 54) dX12_setBells_12 (by decide) (fun c3 => ?_) (fun c3 => ?_)
  · replace h := h.1 c3
    exact t_X12_setBells_54 h
  · replace h := h.2 c3
    refine sj_iload_n dX12_setBells_15 (i := 2) rfl rfl ?_
    refine sj_sipush (v := (nI 420)) dX12_setBells_16 (by decide +kernel) ?_
    refine sj_sipush (v := (nI 600)) dX12_setBells_19 (by decide +kernel) ?_
    obtain ⟨v4, σ4, hc4, h⟩ := h
    refine sj_callSi (M' := me_X12_in) (As := [.int x2, .int (nI 420), .int (nI 600)]) (rest := [.ref (sj_ad G 56)]) dX12_setBells_22 gX12_setBells_X12_in rfl hd_X12_in (Nat.le_of_ble_eq_true rfl) (by omega) rfl hc4 ?_
    refine sj_if_eq (tgt := 54) dX12_setBells_25 (by decide) (fun c6 => ?_) (fun c6 => ?_)
    · replace h := h.1 c6
      exact t_X12_setBells_54 h
    · replace h := h.2 c6
      refine sj_iload_n dX12_setBells_28 (i := 3) rfl rfl ?_
      refine sj_bipush (v := (nI 30)) dX12_setBells_29 (by decide +kernel) ?_
      refine sj_bipush (v := (nI 60)) dX12_setBells_31 (by decide +kernel) ?_
      obtain ⟨v7, σ7, hc7, h⟩ := h
      refine sj_callSi (M' := me_X12_in) (As := [.int x3, .int (nI 30), .int (nI 60)]) (rest := [.ref (sj_ad G 56)]) dX12_setBells_33 gX12_setBells_X12_in rfl hd_X12_in (Nat.le_of_ble_eq_true rfl) (by omega) rfl hc7 ?_
      refine sj_if_eq (tgt := 54) dX12_setBells_36 (by decide) (fun c9 => ?_) (fun c9 => ?_)
      · replace h := h.1 c9
        exact t_X12_setBells_54 h
      · replace h := h.2 c9
        refine sj_iload dX12_setBells_39 rfl ?_
        refine sj_iconst (v := (nI 0)) dX12_setBells_41 (by decide +kernel) ?_
        refine sj_bipush (v := (nI 30)) dX12_setBells_42 (by decide +kernel) ?_
        obtain ⟨v10, σ10, hc10, h⟩ := h
        refine sj_callSi (M' := me_X12_in) (As := [.int x4, .int (nI 0), .int (nI 30)]) (rest := [.ref (sj_ad G 56)]) dX12_setBells_44 gX12_setBells_X12_in rfl hd_X12_in (Nat.le_of_ble_eq_true rfl) (by omega) rfl hc10 ?_
        refine sj_if_eq (tgt := 54) dX12_setBells_47 (by decide) (fun c11 => ?_) (fun c11 => ?_)
        · refine sj_iconst (v := (nI 0)) dX12_setBells_54 (by decide +kernel) ?_
          try simp only [if_pos c11] at h
          exact t_X12_setBells_55 h
        · refine sj_iconst (v := (nI 1)) dX12_setBells_50 (by decide +kernel) ?_
          refine sj_goto (tgt := 55) dX12_setBells_51 (by decide) ?_
          try simp only [if_neg c11] at h
          exact t_X12_setBells_55 h
theorem c_X12_setBells {G : sj_G} (ok : sj_ok G) {R : sj_R} {x1 : Int32} {x2 : Int32} {x3 : Int32} {x4 : Int32} {σ : sj_S} (h : wp_X12_setBells_0 G R x1 x2 x3 x4 σ) : sj_C G 3 me_X12_setBells [.ref (sj_ad G 56), .int x1, .int x2, .int x3, .int x4] σ R :=
  sj_enter ok (by decide +kernel) rfl rfl (Nat.le_of_ble_eq_true rfl) (by simp [Value.category]) (t_X12_setBells_0 h)
def wp_X12_bell_30 (G : sj_G) (R : sj_R) (s0 : Int32) (σ : sj_S) : Prop := R = (.ok s0, σ)
set_option maxRecDepth 20000 in
theorem t_X12_bell_30 {G : sj_G} {R : sj_R} {s0 : Int32} {σ : sj_S} (h : wp_X12_bell_30 G R s0 σ) : sj_J G 3 me_X12_bell R 30 [.null, .null, .null] σ [.int s0] := by
  unfold wp_X12_bell_30 at h
  subst h
  exact sj_ret dX12_bell_30 rfl rfl
def wp_X12_bell_0 (G : sj_G) (R : sj_R) (x1 : Int32) (x2 : Int32) (σ : sj_S) : Prop := ∃ v1 σ1, sj_C G 2 me_X12_in [.int x1, .int (nI 0), .int (nI 19)] (sj_st σ 56 0 (nI 0)) (.ok v1, σ1) ∧ ∃ v2 σ2, sj_C G 2 me_X12_fails [.ref (sj_ad G 56), .int v1, .int (nI 1)] σ1 (.ok v2, σ2) ∧ (v2 = 0 → ∃ v5 σ5, sj_C G 2 me_X12_minute [.ref (sj_ad G 56), .int x1, .int x2] σ2 (.ok v5, σ5) ∧ (wp_X12_bell_30 G R v5 σ5)) ∧ (¬ (v2 = 0) → (wp_X12_bell_30 G R (nI 0) σ2))
set_option maxRecDepth 20000 in
theorem t_X12_bell_0 {G : sj_G} {R : sj_R} {x1 : Int32} {x2 : Int32} {σ : sj_S} (h : wp_X12_bell_0 G R x1 x2 σ) : sj_J G 3 me_X12_bell R 0 [.ref (sj_ad G 56), .int x1, .int x2] σ [] := by
  unfold wp_X12_bell_0 at h
  refine sj_aload_n dX12_bell_0 (i := 0) rfl rfl ?_
  refine sj_iconst (v := (nI 0)) dX12_bell_1 (by decide +kernel) ?_
  refine sj_put (a := 56) (k9 := 0) dX12_bell_2 (by decide +kernel) (by decide +kernel) rfl ?_
  refine sj_aload_n dX12_bell_5 (i := 0) rfl rfl ?_
  refine sj_iload_n dX12_bell_6 (i := 1) rfl rfl ?_
  refine sj_iconst (v := (nI 0)) dX12_bell_7 (by decide +kernel) ?_
  refine sj_bipush (v := (nI 19)) dX12_bell_8 (by decide +kernel) ?_
  obtain ⟨v1, σ1, hc1, h⟩ := h
  refine sj_callSi (M' := me_X12_in) (As := [.int x1, .int (nI 0), .int (nI 19)]) (rest := [.ref (sj_ad G 56)]) dX12_bell_10 gX12_bell_X12_in rfl hd_X12_in (Nat.le_of_ble_eq_true rfl) (by omega) rfl hc1 ?_
  refine sj_iconst (v := (nI 1)) dX12_bell_13 (by decide +kernel) ?_
  obtain ⟨v2, σ2, hc2, h⟩ := h
  refine sj_callVi (M' := me_X12_fails) (b := 56) (As := [.int v1, .int (nI 1)]) (rest := []) dX12_bell_14 gX12_bell_X12_fails rfl hd_X12_fails (by decide +kernel) (by decide +kernel) rfl (Nat.le_of_ble_eq_true rfl) (by omega) rfl hc2 ?_
  refine sj_if_eq (tgt := 24) dX12_bell_17 (by decide) (fun c4 => ?_) (fun c4 => ?_)
  · replace h := h.1 c4
    refine sj_aload_n dX12_bell_24 (i := 0) rfl rfl ?_
    refine sj_iload_n dX12_bell_25 (i := 1) rfl rfl ?_
    refine sj_iload_n dX12_bell_26 (i := 2) rfl rfl ?_
    obtain ⟨v5, σ5, hc5, h⟩ := h
    refine sj_callVi (M' := me_X12_minute) (b := 56) (As := [.int x1, .int x2]) (rest := []) dX12_bell_27 gX12_bell_X12_minute rfl hd_X12_minute (by decide +kernel) (by decide +kernel) rfl (Nat.le_of_ble_eq_true rfl) (by omega) rfl hc5 ?_
    refine sj_fg [0, 1, 2] ?_
    exact t_X12_bell_30 h
  · replace h := h.2 c4
    refine sj_iconst (v := (nI 0)) dX12_bell_20 (by decide +kernel) ?_
    refine sj_goto (tgt := 30) dX12_bell_21 (by decide) ?_
    refine sj_fg [0, 1, 2] ?_
    exact t_X12_bell_30 h
theorem c_X12_bell {G : sj_G} (ok : sj_ok G) {R : sj_R} {x1 : Int32} {x2 : Int32} {σ : sj_S} (h : wp_X12_bell_0 G R x1 x2 σ) : sj_C G 3 me_X12_bell [.ref (sj_ad G 56), .int x1, .int x2] σ R :=
  sj_enter ok (by decide +kernel) rfl rfl (Nat.le_of_ble_eq_true rfl) (by simp [Value.category]) (t_X12_bell_0 h)
def wp_X12_slotAt_31 (G : sj_G) (R : sj_R) (x1 : Int32) (x2 : Int32) (s0 : Int32) (σ : sj_S) : Prop := ∃ v1 σ1, sj_C G 2 me_X12_fails [.ref (sj_ad G 56), .int s0, .int (nI 1)] σ (.ok v1, σ1) ∧ (v1 = 0 → sj_J G 3 me_X12_slotAt R 44 [.ref (sj_ad G 56), .int x1, .int x2, .int ((nI 4) * x1)] σ1 []) ∧ (¬ (v1 = 0) → R = (.ok (nI 0), σ1))
set_option maxRecDepth 20000 in
theorem t_X12_slotAt_31 {G : sj_G} {R : sj_R} {x1 : Int32} {x2 : Int32} {s0 : Int32} {σ : sj_S} (h : wp_X12_slotAt_31 G R x1 x2 s0 σ) : sj_J G 3 me_X12_slotAt R 31 [.ref (sj_ad G 56), .int x1, .int x2, .null] σ [.int s0, .ref (sj_ad G 56)] := by
  unfold wp_X12_slotAt_31 at h
  refine sj_iconst (v := (nI 1)) dX12_slotAt_31 (by decide +kernel) ?_
  obtain ⟨v1, σ1, hc1, h⟩ := h
  refine sj_callVi (M' := me_X12_fails) (b := 56) (As := [.int s0, .int (nI 1)]) (rest := []) dX12_slotAt_32 gX12_slotAt_X12_fails rfl hd_X12_fails (by decide +kernel) (by decide +kernel) rfl (Nat.le_of_ble_eq_true rfl) (by omega) rfl hc1 ?_
  refine sj_if_eq (tgt := 40) dX12_slotAt_35 (by decide) (fun c2 => ?_) (fun c2 => ?_)
  · replace h := h.1 c2
    refine sj_iconst (v := (nI 4)) dX12_slotAt_40 (by decide +kernel) ?_
    refine sj_iload_n dX12_slotAt_41 (i := 1) rfl rfl ?_
    refine sj_imul dX12_slotAt_42 ?_
    refine sj_istore_n dX12_slotAt_43 (i := 3) rfl (by decide) ?_
    exact h
  · replace h := h.2 c2
    refine sj_iconst (v := (nI 0)) dX12_slotAt_38 (by decide +kernel) ?_
    subst h
    exact sj_ret dX12_slotAt_39 rfl rfl
def wp_X12_slotAt_30 (G : sj_G) (R : sj_R) (x1 : Int32) (x2 : Int32) (σ : sj_S) : Prop := (wp_X12_slotAt_31 G R x1 x2 (nI 0) σ)
set_option maxRecDepth 20000 in
theorem t_X12_slotAt_30 {G : sj_G} {R : sj_R} {x1 : Int32} {x2 : Int32} {σ : sj_S} (h : wp_X12_slotAt_30 G R x1 x2 σ) : sj_J G 3 me_X12_slotAt R 30 [.ref (sj_ad G 56), .int x1, .int x2, .null] σ [.ref (sj_ad G 56)] := by
  unfold wp_X12_slotAt_30 at h
  refine sj_iconst (v := (nI 0)) dX12_slotAt_30 (by decide +kernel) ?_
  exact t_X12_slotAt_31 h
def wp_X12_slotAt_75 (G : sj_G) (R : sj_R) (x1 : Int32) (x2 : Int32) (x3 : Int32) (σ : sj_S) : Prop := sj_J G 3 me_X12_slotAt R 44 [.ref (sj_ad G 56), .int x1, .int x2, .int (x3 + (nI 1))] σ []
set_option maxRecDepth 20000 in
theorem t_X12_slotAt_75 {G : sj_G} {R : sj_R} {x1 : Int32} {x2 : Int32} {x3 : Int32} {σ : sj_S} (h : wp_X12_slotAt_75 G R x1 x2 x3 σ) : sj_J G 3 me_X12_slotAt R 75 [.ref (sj_ad G 56), .int x1, .int x2, .int x3] σ [] := by
  unfold wp_X12_slotAt_75 at h
  refine sj_iinc (v := (x3 + (nI 1))) dX12_slotAt_75 (by decide) rfl rfl ?_
  refine sj_goto (tgt := 44) dX12_slotAt_78 (by decide) ?_
  exact h
def wp_X12_slotAt_44 (G : sj_G) (R : sj_R) (x1 : Int32) (x2 : Int32) (x3 : Int32) (σ : sj_S) : Prop := ((((nI 4) * x1) + (nI 4)) ≤ x3 → R = (.ok (-1), σ)) ∧ (¬ ((((nI 4) * x1) + (nI 4)) ≤ x3) → ∃ v2 σ2, sj_C G 2 me_X12_minute [.ref (sj_ad G 56), .int x3, .int (nI 0)] σ (.ok v2, σ2) ∧ (x2 < v2 → (wp_X12_slotAt_75 G R x1 x2 x3 σ2)) ∧ (¬ (x2 < v2) → ∃ v4 σ4, sj_C G 2 me_X12_minute [.ref (sj_ad G 56), .int x3, .int (nI 1)] σ2 (.ok v4, σ4) ∧ (v4 ≤ x2 → (wp_X12_slotAt_75 G R x1 x2 x3 σ4)) ∧ (¬ (v4 ≤ x2) → R = (.ok x3, σ4))))
set_option maxRecDepth 20000 in
theorem t_X12_slotAt_44 {G : sj_G} {R : sj_R} {x1 : Int32} {x2 : Int32} {x3 : Int32} {σ : sj_S} (h : wp_X12_slotAt_44 G R x1 x2 x3 σ) : sj_J G 3 me_X12_slotAt R 44 [.ref (sj_ad G 56), .int x1, .int x2, .int x3] σ [] := by
  unfold wp_X12_slotAt_44 at h
  refine sj_iload_n dX12_slotAt_44 (i := 3) rfl rfl ?_
  refine sj_iconst (v := (nI 4)) dX12_slotAt_45 (by decide +kernel) ?_
  refine sj_iload_n dX12_slotAt_46 (i := 1) rfl rfl ?_
  refine sj_imul dX12_slotAt_47 ?_
  refine sj_iconst (v := (nI 4)) dX12_slotAt_48 (by decide +kernel) ?_
  refine sj_iadd dX12_slotAt_49 ?_
  refine sj_icmp_ge (tgt := 81) dX12_slotAt_50 (by decide) (fun c1 => ?_) (fun c1 => ?_)
  · replace h := h.1 c1
    refine sj_iconst (v := (-1)) dX12_slotAt_81 (by decide +kernel) ?_
    subst h
    exact sj_ret dX12_slotAt_82 rfl rfl
  · replace h := h.2 c1
    refine sj_iload_n dX12_slotAt_53 (i := 2) rfl rfl ?_
    refine sj_aload_n dX12_slotAt_54 (i := 0) rfl rfl ?_
    refine sj_iload_n dX12_slotAt_55 (i := 3) rfl rfl ?_
    refine sj_iconst (v := (nI 0)) dX12_slotAt_56 (by decide +kernel) ?_
    obtain ⟨v2, σ2, hc2, h⟩ := h
    refine sj_callVi (M' := me_X12_minute) (b := 56) (As := [.int x3, .int (nI 0)]) (rest := [.int x2]) dX12_slotAt_57 gX12_slotAt_X12_minute rfl hd_X12_minute (by decide +kernel) (by decide +kernel) rfl (Nat.le_of_ble_eq_true rfl) (by omega) rfl hc2 ?_
    refine sj_icmp_lt (tgt := 75) dX12_slotAt_60 (by decide) (fun c3 => ?_) (fun c3 => ?_)
    · replace h := h.1 c3
      exact t_X12_slotAt_75 h
    · replace h := h.2 c3
      refine sj_iload_n dX12_slotAt_63 (i := 2) rfl rfl ?_
      refine sj_aload_n dX12_slotAt_64 (i := 0) rfl rfl ?_
      refine sj_iload_n dX12_slotAt_65 (i := 3) rfl rfl ?_
      refine sj_iconst (v := (nI 1)) dX12_slotAt_66 (by decide +kernel) ?_
      obtain ⟨v4, σ4, hc4, h⟩ := h
      refine sj_callVi (M' := me_X12_minute) (b := 56) (As := [.int x3, .int (nI 1)]) (rest := [.int x2]) dX12_slotAt_67 gX12_slotAt_X12_minute rfl hd_X12_minute (by decide +kernel) (by decide +kernel) rfl (Nat.le_of_ble_eq_true rfl) (by omega) rfl hc4 ?_
      refine sj_icmp_ge (tgt := 75) dX12_slotAt_70 (by decide) (fun c5 => ?_) (fun c5 => ?_)
      · replace h := h.1 c5
        exact t_X12_slotAt_75 h
      · replace h := h.2 c5
        refine sj_iload_n dX12_slotAt_73 (i := 3) rfl rfl ?_
        subst h
        exact sj_ret dX12_slotAt_74 rfl rfl
def wp_X12_slotAt_0 (G : sj_G) (R : sj_R) (x1 : Int32) (x2 : Int32) (σ : sj_S) : Prop := ∃ v1 σ1, sj_C G 2 me_X12_in [.int x1, .int (nI 0), .int (nI 4)] (sj_st σ 56 0 (nI 0)) (.ok v1, σ1) ∧ (v1 = 0 → (wp_X12_slotAt_30 G R x1 x2 σ1)) ∧ (¬ (v1 = 0) → ∃ v4 σ4, sj_C G 2 me_X12_in [.int x2, .int (nI 0), .int (nI 1439)] σ1 (.ok v4, σ4) ∧ (wp_X12_slotAt_31 G R x1 x2 (if v4 = 0 then (nI 0) else (nI 1)) σ4))
set_option maxRecDepth 20000 in
theorem t_X12_slotAt_0 {G : sj_G} {R : sj_R} {x1 : Int32} {x2 : Int32} {σ : sj_S} (h : wp_X12_slotAt_0 G R x1 x2 σ) : sj_J G 3 me_X12_slotAt R 0 [.ref (sj_ad G 56), .int x1, .int x2, .null] σ [] := by
  unfold wp_X12_slotAt_0 at h
  refine sj_aload_n dX12_slotAt_0 (i := 0) rfl rfl ?_
  refine sj_iconst (v := (nI 0)) dX12_slotAt_1 (by decide +kernel) ?_
  refine sj_put (a := 56) (k9 := 0) dX12_slotAt_2 (by decide +kernel) (by decide +kernel) rfl ?_
  refine sj_aload_n dX12_slotAt_5 (i := 0) rfl rfl ?_
  refine sj_iload_n dX12_slotAt_6 (i := 1) rfl rfl ?_
  refine sj_iconst (v := (nI 0)) dX12_slotAt_7 (by decide +kernel) ?_
  refine sj_iconst (v := (nI 4)) dX12_slotAt_8 (by decide +kernel) ?_
  obtain ⟨v1, σ1, hc1, h⟩ := h
  refine sj_callSi (M' := me_X12_in) (As := [.int x1, .int (nI 0), .int (nI 4)]) (rest := [.ref (sj_ad G 56)]) dX12_slotAt_9 gX12_slotAt_X12_in rfl hd_X12_in (Nat.le_of_ble_eq_true rfl) (by omega) rfl hc1 ?_
  refine sj_if_eq (tgt := 30) dX12_slotAt_12 (by decide) (fun c3 => ?_) (fun c3 => ?_)
  · replace h := h.1 c3
    exact t_X12_slotAt_30 h
  · replace h := h.2 c3
    refine sj_iload_n dX12_slotAt_15 (i := 2) rfl rfl ?_
    refine sj_iconst (v := (nI 0)) dX12_slotAt_16 (by decide +kernel) ?_
    refine sj_sipush (v := (nI 1439)) dX12_slotAt_17 (by decide +kernel) ?_
    obtain ⟨v4, σ4, hc4, h⟩ := h
    refine sj_callSi (M' := me_X12_in) (As := [.int x2, .int (nI 0), .int (nI 1439)]) (rest := [.ref (sj_ad G 56)]) dX12_slotAt_20 gX12_slotAt_X12_in rfl hd_X12_in (Nat.le_of_ble_eq_true rfl) (by omega) rfl hc4 ?_
    refine sj_if_eq (tgt := 30) dX12_slotAt_23 (by decide) (fun c5 => ?_) (fun c5 => ?_)
    · refine sj_iconst (v := (nI 0)) dX12_slotAt_30 (by decide +kernel) ?_
      try simp only [if_pos c5] at h
      exact t_X12_slotAt_31 h
    · refine sj_iconst (v := (nI 1)) dX12_slotAt_26 (by decide +kernel) ?_
      refine sj_goto (tgt := 31) dX12_slotAt_27 (by decide) ?_
      try simp only [if_neg c5] at h
      exact t_X12_slotAt_31 h
theorem c_X12_slotAt {G : sj_G} (ok : sj_ok G) {R : sj_R} {x1 : Int32} {x2 : Int32} {σ : sj_S} (h : wp_X12_slotAt_0 G R x1 x2 σ) : sj_C G 3 me_X12_slotAt [.ref (sj_ad G 56), .int x1, .int x2] σ R :=
  sj_enter ok (by decide +kernel) rfl rfl (Nat.le_of_ble_eq_true rfl) (by simp [Value.category]) (t_X12_slotAt_0 h)
def wp_X12_isLeap_26 (G : sj_G) (R : sj_R) (s0 : Int32) (σ : sj_S) : Prop := R = (.ok s0, σ) ∧ (s0 = nI 0 ∨ s0 = nI 1)
set_option maxRecDepth 20000 in
theorem t_X12_isLeap_26 {G : sj_G} {R : sj_R} {s0 : Int32} {σ : sj_S} (h : wp_X12_isLeap_26 G R s0 σ) : sj_J G 2 me_X12_isLeap R 26 [.null] σ [.int s0] := by
  unfold wp_X12_isLeap_26 at h
  obtain ⟨h, hz⟩ := h
  subst h
  exact sj_ret dX12_isLeap_26 rfl (sj_nb hz)
def wp_X12_isLeap_0 (G : sj_G) (R : sj_R) (x0 : Int32) (σ : sj_S) : Prop := (wp_X12_isLeap_26 G R (if (x0 - x0 / (nI 4) * (nI 4)) = 0 then (if (x0 - x0 / (nI 100) * (nI 100)) = 0 then (if (x0 - x0 / (nI 400) * (nI 400)) = 0 then (nI 1) else (nI 0)) else (nI 1)) else (if (x0 - x0 / (nI 400) * (nI 400)) = 0 then (nI 1) else (nI 0))) σ)
set_option maxRecDepth 20000 in
theorem t_X12_isLeap_0 {G : sj_G} {R : sj_R} {x0 : Int32} {σ : sj_S} (h : wp_X12_isLeap_0 G R x0 σ) : sj_J G 2 me_X12_isLeap R 0 [.int x0] σ [] := by
  unfold wp_X12_isLeap_0 at h
  refine sj_iload_n dX12_isLeap_0 (i := 0) rfl rfl ?_
  refine sj_iconst (v := (nI 4)) dX12_isLeap_1 (by decide +kernel) ?_
  refine sj_irem dX12_isLeap_2 (by decide +kernel) ?_
  refine sj_if_ne (tgt := 13) dX12_isLeap_3 (by decide) (fun c1 => ?_) (fun c1 => ?_)
  · refine sj_iload_n dX12_isLeap_13 (i := 0) rfl rfl ?_
    refine sj_sipush (v := (nI 400)) dX12_isLeap_14 (by decide +kernel) ?_
    refine sj_irem dX12_isLeap_17 (by decide +kernel) ?_
    refine sj_if_ne (tgt := 25) dX12_isLeap_18 (by decide) (fun c2 => ?_) (fun c2 => ?_)
    · refine sj_iconst (v := (nI 0)) dX12_isLeap_25 (by decide +kernel) ?_
      try simp only [if_neg c1, if_neg c2] at h
      refine sj_fg [0] ?_
      exact t_X12_isLeap_26 h
    · refine sj_iconst (v := (nI 1)) dX12_isLeap_21 (by decide +kernel) ?_
      refine sj_goto (tgt := 26) dX12_isLeap_22 (by decide) ?_
      try simp only [if_neg c1, if_pos c2] at h
      refine sj_fg [0] ?_
      exact t_X12_isLeap_26 h
  · refine sj_iload_n dX12_isLeap_6 (i := 0) rfl rfl ?_
    refine sj_bipush (v := (nI 100)) dX12_isLeap_7 (by decide +kernel) ?_
    refine sj_irem dX12_isLeap_9 (by decide +kernel) ?_
    refine sj_if_ne (tgt := 21) dX12_isLeap_10 (by decide) (fun c3 => ?_) (fun c3 => ?_)
    · refine sj_iconst (v := (nI 1)) dX12_isLeap_21 (by decide +kernel) ?_
      refine sj_goto (tgt := 26) dX12_isLeap_22 (by decide) ?_
      try simp only [if_pos c1, if_neg c3] at h
      refine sj_fg [0] ?_
      exact t_X12_isLeap_26 h
    · refine sj_iload_n dX12_isLeap_13 (i := 0) rfl rfl ?_
      refine sj_sipush (v := (nI 400)) dX12_isLeap_14 (by decide +kernel) ?_
      refine sj_irem dX12_isLeap_17 (by decide +kernel) ?_
      refine sj_if_ne (tgt := 25) dX12_isLeap_18 (by decide) (fun c4 => ?_) (fun c4 => ?_)
      · refine sj_iconst (v := (nI 0)) dX12_isLeap_25 (by decide +kernel) ?_
        try simp only [if_pos c1, if_pos c3, if_neg c4] at h
        refine sj_fg [0] ?_
        exact t_X12_isLeap_26 h
      · refine sj_iconst (v := (nI 1)) dX12_isLeap_21 (by decide +kernel) ?_
        refine sj_goto (tgt := 26) dX12_isLeap_22 (by decide) ?_
        try simp only [if_pos c1, if_pos c3, if_pos c4] at h
        refine sj_fg [0] ?_
        exact t_X12_isLeap_26 h
theorem c_X12_isLeap {G : sj_G} (ok : sj_ok G) {R : sj_R} {x0 : Int32} {σ : sj_S} (h : wp_X12_isLeap_0 G R x0 σ) : sj_C G 2 me_X12_isLeap [.int x0] σ R :=
  sj_enter ok (by decide +kernel) rfl rfl (Nat.le_of_ble_eq_true rfl) (by simp [Value.category]) (t_X12_isLeap_0 h)
def wp_X12_monthDays_52 (G : sj_G) (R : sj_R) (s0 : Int32) (σ : sj_S) : Prop := R = (.ok s0, σ)
set_option maxRecDepth 20000 in
theorem t_X12_monthDays_52 {G : sj_G} {R : sj_R} {s0 : Int32} {σ : sj_S} (h : wp_X12_monthDays_52 G R s0 σ) : sj_J G 3 me_X12_monthDays R 52 [.null, .null] σ [.int s0] := by
  unfold wp_X12_monthDays_52 at h
  subst h
  exact sj_ret dX12_monthDays_52 rfl rfl
def wp_X12_monthDays_0 (G : sj_G) (R : sj_R) (x0 : Int32) (x1 : Int32) (σ : sj_S) : Prop := (¬ x1 = (nI 2) → (wp_X12_monthDays_52 G R (if x1 = (nI 4) then (nI 30) else (if x1 = (nI 6) then (nI 30) else (if x1 = (nI 9) then (nI 30) else (if x1 = (nI 11) then (nI 30) else (nI 31))))) σ)) ∧ (x1 = (nI 2) → ∃ v11 σ11, sj_C G 2 me_X12_isLeap [.int x0] σ (.ok v11, σ11) ∧ (wp_X12_monthDays_52 G R (if v11 = 0 then (nI 28) else (nI 29)) σ11))
set_option maxRecDepth 20000 in
theorem t_X12_monthDays_0 {G : sj_G} {R : sj_R} {x0 : Int32} {x1 : Int32} {σ : sj_S} (h : wp_X12_monthDays_0 G R x0 x1 σ) : sj_J G 3 me_X12_monthDays R 0 [.int x0, .int x1] σ [] := by
  unfold wp_X12_monthDays_0 at h
  refine sj_iload_n dX12_monthDays_0 (i := 1) rfl rfl ?_
  refine sj_iconst (v := (nI 2)) dX12_monthDays_1 (by decide +kernel) ?_
  refine sj_icmp_ne (tgt := 22) dX12_monthDays_2 (by decide) (fun c6 => ?_) (fun c6 => ?_)
  · replace h := h.1 c6
    refine sj_iload_n dX12_monthDays_22 (i := 1) rfl rfl ?_
    refine sj_iconst (v := (nI 4)) dX12_monthDays_23 (by decide +kernel) ?_
    refine sj_icmp_eq (tgt := 45) dX12_monthDays_24 (by decide) (fun c7 => ?_) (fun c7 => ?_)
    · refine sj_bipush (v := (nI 30)) dX12_monthDays_45 (by decide +kernel) ?_
      refine sj_goto (tgt := 52) dX12_monthDays_47 (by decide) ?_
      try simp only [if_pos c7] at h
      refine sj_fg [0, 1] ?_
      exact t_X12_monthDays_52 h
    · refine sj_iload_n dX12_monthDays_27 (i := 1) rfl rfl ?_
      refine sj_bipush (v := (nI 6)) dX12_monthDays_28 (by decide +kernel) ?_
      refine sj_icmp_eq (tgt := 45) dX12_monthDays_30 (by decide) (fun c8 => ?_) (fun c8 => ?_)
      · refine sj_bipush (v := (nI 30)) dX12_monthDays_45 (by decide +kernel) ?_
        refine sj_goto (tgt := 52) dX12_monthDays_47 (by decide) ?_
        try simp only [if_neg c7, if_pos c8] at h
        refine sj_fg [0, 1] ?_
        exact t_X12_monthDays_52 h
      · refine sj_iload_n dX12_monthDays_33 (i := 1) rfl rfl ?_
        refine sj_bipush (v := (nI 9)) dX12_monthDays_34 (by decide +kernel) ?_
        refine sj_icmp_eq (tgt := 45) dX12_monthDays_36 (by decide) (fun c9 => ?_) (fun c9 => ?_)
        · refine sj_bipush (v := (nI 30)) dX12_monthDays_45 (by decide +kernel) ?_
          refine sj_goto (tgt := 52) dX12_monthDays_47 (by decide) ?_
          try simp only [if_neg c7, if_neg c8, if_pos c9] at h
          refine sj_fg [0, 1] ?_
          exact t_X12_monthDays_52 h
        · refine sj_iload_n dX12_monthDays_39 (i := 1) rfl rfl ?_
          refine sj_bipush (v := (nI 11)) dX12_monthDays_40 (by decide +kernel) ?_
          refine sj_icmp_ne (tgt := 50) dX12_monthDays_42 (by decide) (fun c10 => ?_) (fun c10 => ?_)
          · refine sj_bipush (v := (nI 31)) dX12_monthDays_50 (by decide +kernel) ?_
            try simp only [if_neg c7, if_neg c8, if_neg c9, if_neg c10] at h
            refine sj_fg [0, 1] ?_
            exact t_X12_monthDays_52 h
          · refine sj_bipush (v := (nI 30)) dX12_monthDays_45 (by decide +kernel) ?_
            refine sj_goto (tgt := 52) dX12_monthDays_47 (by decide) ?_
            try simp only [if_neg c7, if_neg c8, if_neg c9, if_pos c10] at h
            refine sj_fg [0, 1] ?_
            exact t_X12_monthDays_52 h
  · replace h := h.2 c6
    refine sj_iload_n dX12_monthDays_5 (i := 0) rfl rfl ?_
    obtain ⟨v11, σ11, hc11, h⟩ := h
    refine sj_callSi (M' := me_X12_isLeap) (As := [.int x0]) (rest := []) dX12_monthDays_6 gX12_monthDays_X12_isLeap rfl hd_X12_isLeap (Nat.le_of_ble_eq_true rfl) (by omega) rfl hc11 ?_
    refine sj_if_eq (tgt := 17) dX12_monthDays_9 (by decide) (fun c12 => ?_) (fun c12 => ?_)
    · refine sj_bipush (v := (nI 28)) dX12_monthDays_17 (by decide +kernel) ?_
      refine sj_goto (tgt := 52) dX12_monthDays_19 (by decide) ?_
      try simp only [if_pos c12] at h
      refine sj_fg [0, 1] ?_
      exact t_X12_monthDays_52 h
    · refine sj_bipush (v := (nI 29)) dX12_monthDays_12 (by decide +kernel) ?_
      refine sj_goto (tgt := 52) dX12_monthDays_14 (by decide) ?_
      try simp only [if_neg c12] at h
      refine sj_fg [0, 1] ?_
      exact t_X12_monthDays_52 h
theorem c_X12_monthDays {G : sj_G} (ok : sj_ok G) {R : sj_R} {x0 : Int32} {x1 : Int32} {σ : sj_S} (h : wp_X12_monthDays_0 G R x0 x1 σ) : sj_C G 3 me_X12_monthDays [.int x0, .int x1] σ R :=
  sj_enter ok (by decide +kernel) rfl rfl (Nat.le_of_ble_eq_true rfl) (by simp [Value.category]) (t_X12_monthDays_0 h)
def wp_X12_isDate_60 (G : sj_G) (R : sj_R) (s0 : Int32) (σ : sj_S) : Prop := R = (.ok s0, σ) ∧ (s0 = nI 0 ∨ s0 = nI 1)
set_option maxRecDepth 20000 in
theorem t_X12_isDate_60 {G : sj_G} {R : sj_R} {s0 : Int32} {σ : sj_S} (h : wp_X12_isDate_60 G R s0 σ) : sj_J G 4 me_X12_isDate R 60 [.null, .null, .null, .null] σ [.int s0] := by
  unfold wp_X12_isDate_60 at h
  obtain ⟨h, hz⟩ := h
  subst h
  exact sj_ret dX12_isDate_60 rfl (sj_nb hz)
def wp_X12_isDate_59 (G : sj_G) (R : sj_R) (σ : sj_S) : Prop := (wp_X12_isDate_60 G R (nI 0) σ)
set_option maxRecDepth 20000 in
theorem t_X12_isDate_59 {G : sj_G} {R : sj_R} {σ : sj_S} (h : wp_X12_isDate_59 G R σ) : sj_J G 4 me_X12_isDate R 59 [.null, .null, .null, .null] σ [] := by
  unfold wp_X12_isDate_59 at h
  refine sj_iconst (v := (nI 0)) dX12_isDate_59 (by decide +kernel) ?_
  exact t_X12_isDate_60 h
def wp_X12_isDate_0 (G : sj_G) (R : sj_R) (x0 : Int32) (σ : sj_S) : Prop := ∃ v1 σ1, sj_C G 2 me_X12_in [.int x0, .int (nI 20000101), .int (nI 20991231)] σ (.ok v1, σ1) ∧ (v1 = 0 → (wp_X12_isDate_59 G R σ1)) ∧ (¬ (v1 = 0) → ∃ v4 σ4, sj_C G 2 me_X12_in [.int ((x0 / (nI 100)) - (x0 / (nI 100)) / (nI 100) * (nI 100)), .int (nI 1), .int (nI 12)] σ1 (.ok v4, σ4) ∧ (v4 = 0 → (wp_X12_isDate_59 G R σ4)) ∧ (¬ (v4 = 0) → ∃ v7 σ7, sj_C G 3 me_X12_monthDays [.int (x0 / (nI 10000)), .int ((x0 / (nI 100)) - (x0 / (nI 100)) / (nI 100) * (nI 100))] σ4 (.ok v7, σ7) ∧ ∃ v8 σ8, sj_C G 2 me_X12_in [.int (x0 - x0 / (nI 100) * (nI 100)), .int (nI 1), .int v7] σ7 (.ok v8, σ8) ∧ (wp_X12_isDate_60 G R (if v8 = 0 then (nI 0) else (nI 1)) σ8)))
set_option maxRecDepth 20000 in
theorem t_X12_isDate_0 {G : sj_G} {R : sj_R} {x0 : Int32} {σ : sj_S} (h : wp_X12_isDate_0 G R x0 σ) : sj_J G 4 me_X12_isDate R 0 [.int x0, .null, .null, .null] σ [] := by
  unfold wp_X12_isDate_0 at h
  refine sj_iload_n dX12_isDate_0 (i := 0) rfl rfl ?_
  refine sj_sipush (v := (nI 10000)) dX12_isDate_1 (by decide +kernel) ?_
  refine sj_idiv dX12_isDate_4 (by decide +kernel) ?_
  refine sj_istore_n dX12_isDate_5 (i := 1) rfl (by decide) ?_
  refine sj_iload_n dX12_isDate_6 (i := 0) rfl rfl ?_
  refine sj_bipush (v := (nI 100)) dX12_isDate_7 (by decide +kernel) ?_
  refine sj_idiv dX12_isDate_9 (by decide +kernel) ?_
  refine sj_bipush (v := (nI 100)) dX12_isDate_10 (by decide +kernel) ?_
  refine sj_irem dX12_isDate_12 (by decide +kernel) ?_
  refine sj_istore_n dX12_isDate_13 (i := 2) rfl (by decide) ?_
  refine sj_iload_n dX12_isDate_14 (i := 0) rfl rfl ?_
  refine sj_bipush (v := (nI 100)) dX12_isDate_15 (by decide +kernel) ?_
  refine sj_irem dX12_isDate_17 (by decide +kernel) ?_
  refine sj_istore_n dX12_isDate_18 (i := 3) rfl (by decide) ?_
  refine sj_iload_n dX12_isDate_19 (i := 0) rfl rfl ?_
  refine sj_ldcw (v := (nI 20000101)) dX12_isDate_20 (by decide +kernel) ?_
  refine sj_ldcw (v := (nI 20991231)) dX12_isDate_23 (by decide +kernel) ?_
  obtain ⟨v1, σ1, hc1, h⟩ := h
  refine sj_callSi (M' := me_X12_in) (As := [.int x0, .int (nI 20000101), .int (nI 20991231)]) (rest := []) dX12_isDate_26 gX12_isDate_X12_in rfl hd_X12_in (Nat.le_of_ble_eq_true rfl) (by omega) rfl hc1 ?_
  refine sj_if_eq (tgt := 59) dX12_isDate_29 (by decide) (fun c3 => ?_) (fun c3 => ?_)
  · replace h := h.1 c3
    refine sj_fg [0, 1, 2, 3] ?_
    exact t_X12_isDate_59 h
  · replace h := h.2 c3
    refine sj_iload_n dX12_isDate_32 (i := 2) rfl rfl ?_
    refine sj_iconst (v := (nI 1)) dX12_isDate_33 (by decide +kernel) ?_
    refine sj_bipush (v := (nI 12)) dX12_isDate_34 (by decide +kernel) ?_
    obtain ⟨v4, σ4, hc4, h⟩ := h
    refine sj_callSi (M' := me_X12_in) (As := [.int ((x0 / (nI 100)) - (x0 / (nI 100)) / (nI 100) * (nI 100)), .int (nI 1), .int (nI 12)]) (rest := []) dX12_isDate_36 gX12_isDate_X12_in rfl hd_X12_in (Nat.le_of_ble_eq_true rfl) (by omega) rfl hc4 ?_
    refine sj_if_eq (tgt := 59) dX12_isDate_39 (by decide) (fun c6 => ?_) (fun c6 => ?_)
    · replace h := h.1 c6
      refine sj_fg [0, 1, 2, 3] ?_
      exact t_X12_isDate_59 h
    · replace h := h.2 c6
      refine sj_iload_n dX12_isDate_42 (i := 3) rfl rfl ?_
      refine sj_iconst (v := (nI 1)) dX12_isDate_43 (by decide +kernel) ?_
      refine sj_iload_n dX12_isDate_44 (i := 1) rfl rfl ?_
      refine sj_iload_n dX12_isDate_45 (i := 2) rfl rfl ?_
      obtain ⟨v7, σ7, hc7, h⟩ := h
      refine sj_callSi (M' := me_X12_monthDays) (As := [.int (x0 / (nI 10000)), .int ((x0 / (nI 100)) - (x0 / (nI 100)) / (nI 100) * (nI 100))]) (rest := [.int (nI 1), .int (x0 - x0 / (nI 100) * (nI 100))]) dX12_isDate_46 gX12_isDate_X12_monthDays rfl hd_X12_monthDays (Nat.le_of_ble_eq_true rfl) (by omega) rfl hc7 ?_
      obtain ⟨v8, σ8, hc8, h⟩ := h
      refine sj_callSi (M' := me_X12_in) (As := [.int (x0 - x0 / (nI 100) * (nI 100)), .int (nI 1), .int v7]) (rest := []) dX12_isDate_49 gX12_isDate_X12_in rfl hd_X12_in (Nat.le_of_ble_eq_true rfl) (by omega) rfl hc8 ?_
      refine sj_if_eq (tgt := 59) dX12_isDate_52 (by decide) (fun c9 => ?_) (fun c9 => ?_)
      · refine sj_iconst (v := (nI 0)) dX12_isDate_59 (by decide +kernel) ?_
        try simp only [if_pos c9] at h
        refine sj_fg [0, 1, 2, 3] ?_
        exact t_X12_isDate_60 h
      · refine sj_iconst (v := (nI 1)) dX12_isDate_55 (by decide +kernel) ?_
        refine sj_goto (tgt := 60) dX12_isDate_56 (by decide) ?_
        try simp only [if_neg c9] at h
        refine sj_fg [0, 1, 2, 3] ?_
        exact t_X12_isDate_60 h
theorem c_X12_isDate {G : sj_G} (ok : sj_ok G) {R : sj_R} {x0 : Int32} {σ : sj_S} (h : wp_X12_isDate_0 G R x0 σ) : sj_C G 4 me_X12_isDate [.int x0] σ R :=
  sj_enter ok (by decide +kernel) rfl rfl (Nat.le_of_ble_eq_true rfl) (by simp [Value.category]) (t_X12_isDate_0 h)
def wp_X12_dayOf_37 (G : sj_G) (R : sj_R) (x0 : Int32) (x2 : Int32) (s0 : Int32) (s1 : Int32) (σ : sj_S) : Prop := sj_J G 4 me_X12_dayOf R 11 [.int x0, .int (s1 + s0), .int (x2 + (nI 1))] σ []
set_option maxRecDepth 20000 in
theorem t_X12_dayOf_37 {G : sj_G} {R : sj_R} {x0 : Int32} {x2 : Int32} {s0 : Int32} {s1 : Int32} {σ : sj_S} (h : wp_X12_dayOf_37 G R x0 x2 s0 s1 σ) : sj_J G 4 me_X12_dayOf R 37 [.int x0, .null, .int x2] σ [.int s0, .int s1] := by
  unfold wp_X12_dayOf_37 at h
  refine sj_iadd dX12_dayOf_37 ?_
  refine sj_istore_n dX12_dayOf_38 (i := 1) rfl (by decide) ?_
  refine sj_iinc (v := (x2 + (nI 1))) dX12_dayOf_39 (by decide) rfl rfl ?_
  refine sj_goto (tgt := 11) dX12_dayOf_42 (by decide) ?_
  exact h
def wp_X12_dayOf_11 (G : sj_G) (R : sj_R) (x0 : Int32) (x1 : Int32) (x2 : Int32) (σ : sj_S) : Prop := ((x0 / (nI 10000)) ≤ x2 → sj_J G 4 me_X12_dayOf R 47 [.int x0, .int x1, .int (nI 1)] σ []) ∧ (¬ ((x0 / (nI 10000)) ≤ x2) → ∃ v2 σ2, sj_C G 2 me_X12_isLeap [.int x2] σ (.ok v2, σ2) ∧ (wp_X12_dayOf_37 G R x0 x2 (if v2 = 0 then (nI 365) else (nI 366)) x1 σ2))
set_option maxRecDepth 20000 in
theorem t_X12_dayOf_11 {G : sj_G} {R : sj_R} {x0 : Int32} {x1 : Int32} {x2 : Int32} {σ : sj_S} (h : wp_X12_dayOf_11 G R x0 x1 x2 σ) : sj_J G 4 me_X12_dayOf R 11 [.int x0, .int x1, .int x2] σ [] := by
  unfold wp_X12_dayOf_11 at h
  refine sj_iload_n dX12_dayOf_11 (i := 2) rfl rfl ?_
  refine sj_iload_n dX12_dayOf_12 (i := 0) rfl rfl ?_
  refine sj_sipush (v := (nI 10000)) dX12_dayOf_13 (by decide +kernel) ?_
  refine sj_idiv dX12_dayOf_16 (by decide +kernel) ?_
  refine sj_icmp_ge (tgt := 45) dX12_dayOf_17 (by decide) (fun c1 => ?_) (fun c1 => ?_)
  · replace h := h.1 c1
    refine sj_iconst (v := (nI 1)) dX12_dayOf_45 (by decide +kernel) ?_
    refine sj_istore_n dX12_dayOf_46 (i := 2) rfl (by decide) ?_
    exact h
  · replace h := h.2 c1
    refine sj_iload_n dX12_dayOf_20 (i := 1) rfl rfl ?_
    refine sj_iload_n dX12_dayOf_21 (i := 2) rfl rfl ?_
    obtain ⟨v2, σ2, hc2, h⟩ := h
    refine sj_callSi (M' := me_X12_isLeap) (As := [.int x2]) (rest := [.int x1]) dX12_dayOf_22 gX12_dayOf_X12_isLeap rfl hd_X12_isLeap (Nat.le_of_ble_eq_true rfl) (by omega) rfl hc2 ?_
    refine sj_if_eq (tgt := 34) dX12_dayOf_25 (by decide) (fun c3 => ?_) (fun c3 => ?_)
    · refine sj_sipush (v := (nI 365)) dX12_dayOf_34 (by decide +kernel) ?_
      try simp only [if_pos c3] at h
      refine sj_fg [1] ?_
      exact t_X12_dayOf_37 h
    · refine sj_sipush (v := (nI 366)) dX12_dayOf_28 (by decide +kernel) ?_
      refine sj_goto (tgt := 37) dX12_dayOf_31 (by decide) ?_
      try simp only [if_neg c3] at h
      refine sj_fg [1] ?_
      exact t_X12_dayOf_37 h
def wp_X12_dayOf_47 (G : sj_G) (R : sj_R) (x0 : Int32) (x1 : Int32) (x2 : Int32) (σ : sj_S) : Prop := (((x0 / (nI 100)) - (x0 / (nI 100)) / (nI 100) * (nI 100)) ≤ x2 → R = (.ok x1, σ)) ∧ (¬ (((x0 / (nI 100)) - (x0 / (nI 100)) / (nI 100) * (nI 100)) ≤ x2) → ∃ v2 σ2, sj_C G 3 me_X12_monthDays [.int (x0 / (nI 10000)), .int x2] σ (.ok v2, σ2) ∧ sj_J G 4 me_X12_dayOf R 47 [.int x0, .int (x1 + v2), .int (x2 + (nI 1))] σ2 [])
set_option maxRecDepth 20000 in
theorem t_X12_dayOf_47 {G : sj_G} {R : sj_R} {x0 : Int32} {x1 : Int32} {x2 : Int32} {σ : sj_S} (h : wp_X12_dayOf_47 G R x0 x1 x2 σ) : sj_J G 4 me_X12_dayOf R 47 [.int x0, .int x1, .int x2] σ [] := by
  unfold wp_X12_dayOf_47 at h
  refine sj_iload_n dX12_dayOf_47 (i := 2) rfl rfl ?_
  refine sj_iload_n dX12_dayOf_48 (i := 0) rfl rfl ?_
  refine sj_bipush (v := (nI 100)) dX12_dayOf_49 (by decide +kernel) ?_
  refine sj_idiv dX12_dayOf_51 (by decide +kernel) ?_
  refine sj_bipush (v := (nI 100)) dX12_dayOf_52 (by decide +kernel) ?_
  refine sj_irem dX12_dayOf_54 (by decide +kernel) ?_
  refine sj_icmp_ge (tgt := 76) dX12_dayOf_55 (by decide) (fun c1 => ?_) (fun c1 => ?_)
  · replace h := h.1 c1
    refine sj_iload_n dX12_dayOf_76 (i := 1) rfl rfl ?_
    subst h
    exact sj_ret dX12_dayOf_77 rfl rfl
  · replace h := h.2 c1
    refine sj_iload_n dX12_dayOf_58 (i := 1) rfl rfl ?_
    refine sj_iload_n dX12_dayOf_59 (i := 0) rfl rfl ?_
    refine sj_sipush (v := (nI 10000)) dX12_dayOf_60 (by decide +kernel) ?_
    refine sj_idiv dX12_dayOf_63 (by decide +kernel) ?_
    refine sj_iload_n dX12_dayOf_64 (i := 2) rfl rfl ?_
    obtain ⟨v2, σ2, hc2, h⟩ := h
    refine sj_callSi (M' := me_X12_monthDays) (As := [.int (x0 / (nI 10000)), .int x2]) (rest := [.int x1]) dX12_dayOf_65 gX12_dayOf_X12_monthDays rfl hd_X12_monthDays (Nat.le_of_ble_eq_true rfl) (by omega) rfl hc2 ?_
    refine sj_iadd dX12_dayOf_68 ?_
    refine sj_istore_n dX12_dayOf_69 (i := 1) rfl (by decide) ?_
    refine sj_iinc (v := (x2 + (nI 1))) dX12_dayOf_70 (by decide) rfl rfl ?_
    refine sj_goto (tgt := 47) dX12_dayOf_73 (by decide) ?_
    exact h
def wp_X12_dayOf_0 (G : sj_G) (R : sj_R) (x0 : Int32) (σ : sj_S) : Prop := sj_J G 4 me_X12_dayOf R 11 [.int x0, .int ((x0 - x0 / (nI 100) * (nI 100)) - (nI 1)), .int (nI 1990)] σ []
set_option maxRecDepth 20000 in
theorem t_X12_dayOf_0 {G : sj_G} {R : sj_R} {x0 : Int32} {σ : sj_S} (h : wp_X12_dayOf_0 G R x0 σ) : sj_J G 4 me_X12_dayOf R 0 [.int x0, .null, .null] σ [] := by
  unfold wp_X12_dayOf_0 at h
  refine sj_iload_n dX12_dayOf_0 (i := 0) rfl rfl ?_
  refine sj_bipush (v := (nI 100)) dX12_dayOf_1 (by decide +kernel) ?_
  refine sj_irem dX12_dayOf_3 (by decide +kernel) ?_
  refine sj_iconst (v := (nI 1)) dX12_dayOf_4 (by decide +kernel) ?_
  refine sj_isub dX12_dayOf_5 ?_
  refine sj_istore_n dX12_dayOf_6 (i := 1) rfl (by decide) ?_
  refine sj_sipush (v := (nI 1990)) dX12_dayOf_7 (by decide +kernel) ?_
  refine sj_istore_n dX12_dayOf_10 (i := 2) rfl (by decide) ?_
  exact h
theorem c_X12_dayOf {G : sj_G} (ok : sj_ok G) {R : sj_R} {x0 : Int32} {σ : sj_S} (h : wp_X12_dayOf_0 G R x0 σ) : sj_C G 4 me_X12_dayOf [.int x0] σ R :=
  sj_enter ok (by decide +kernel) rfl rfl (Nat.le_of_ble_eq_true rfl) (by simp [Value.category]) (t_X12_dayOf_0 h)
def wp_X12_dateOfDay_43 (G : sj_G) (R : sj_R) (x2 : Int32) (s0 : Int32) (s1 : Int32) (σ : sj_S) : Prop := sj_J G 4 me_X12_dateOfDay R 6 [.null, .int (s1 - s0), .int (x2 + (nI 1)), .null] σ []
set_option maxRecDepth 20000 in
theorem t_X12_dateOfDay_43 {G : sj_G} {R : sj_R} {x2 : Int32} {s0 : Int32} {s1 : Int32} {σ : sj_S} (h : wp_X12_dateOfDay_43 G R x2 s0 s1 σ) : sj_J G 4 me_X12_dateOfDay R 43 [.null, .null, .int x2, .null] σ [.int s0, .int s1] := by
  unfold wp_X12_dateOfDay_43 at h
  refine sj_isub dX12_dateOfDay_43 ?_
  refine sj_istore_n dX12_dateOfDay_44 (i := 1) rfl (by decide) ?_
  refine sj_iinc (v := (x2 + (nI 1))) dX12_dateOfDay_45 (by decide) rfl rfl ?_
  refine sj_goto (tgt := 6) dX12_dateOfDay_48 (by decide) ?_
  exact h
def wp_X12_dateOfDay_23 (G : sj_G) (R : sj_R) (x1 : Int32) (x2 : Int32) (s0 : Int32) (s1 : Int32) (σ : sj_S) : Prop := (s1 < s0 → sj_J G 4 me_X12_dateOfDay R 53 [.null, .int x1, .int x2, .int (nI 1)] σ []) ∧ (¬ (s1 < s0) → ∃ v2 σ2, sj_C G 2 me_X12_isLeap [.int x2] σ (.ok v2, σ2) ∧ (wp_X12_dateOfDay_43 G R x2 (if v2 = 0 then (nI 365) else (nI 366)) x1 σ2))
set_option maxRecDepth 20000 in
theorem t_X12_dateOfDay_23 {G : sj_G} {R : sj_R} {x1 : Int32} {x2 : Int32} {s0 : Int32} {s1 : Int32} {σ : sj_S} (h : wp_X12_dateOfDay_23 G R x1 x2 s0 s1 σ) : sj_J G 4 me_X12_dateOfDay R 23 [.null, .int x1, .int x2, .null] σ [.int s0, .int s1] := by
  unfold wp_X12_dateOfDay_23 at h
  refine sj_icmp_lt (tgt := 51) dX12_dateOfDay_23 (by decide) (fun c1 => ?_) (fun c1 => ?_)
  · replace h := h.1 c1
    refine sj_iconst (v := (nI 1)) dX12_dateOfDay_51 (by decide +kernel) ?_
    refine sj_istore_n dX12_dateOfDay_52 (i := 3) rfl (by decide) ?_
    exact h
  · replace h := h.2 c1
    refine sj_iload_n dX12_dateOfDay_26 (i := 1) rfl rfl ?_
    refine sj_iload_n dX12_dateOfDay_27 (i := 2) rfl rfl ?_
    obtain ⟨v2, σ2, hc2, h⟩ := h
    refine sj_callSi (M' := me_X12_isLeap) (As := [.int x2]) (rest := [.int x1]) dX12_dateOfDay_28 gX12_dateOfDay_X12_isLeap rfl hd_X12_isLeap (Nat.le_of_ble_eq_true rfl) (by omega) rfl hc2 ?_
    refine sj_if_eq (tgt := 40) dX12_dateOfDay_31 (by decide) (fun c3 => ?_) (fun c3 => ?_)
    · refine sj_sipush (v := (nI 365)) dX12_dateOfDay_40 (by decide +kernel) ?_
      try simp only [if_pos c3] at h
      refine sj_fg [1] ?_
      exact t_X12_dateOfDay_43 h
    · refine sj_sipush (v := (nI 366)) dX12_dateOfDay_34 (by decide +kernel) ?_
      refine sj_goto (tgt := 43) dX12_dateOfDay_37 (by decide) ?_
      try simp only [if_neg c3] at h
      refine sj_fg [1] ?_
      exact t_X12_dateOfDay_43 h
def wp_X12_dateOfDay_6 (G : sj_G) (R : sj_R) (x1 : Int32) (x2 : Int32) (σ : sj_S) : Prop := ∃ v1 σ1, sj_C G 2 me_X12_isLeap [.int x2] σ (.ok v1, σ1) ∧ (wp_X12_dateOfDay_23 G R x1 x2 (if v1 = 0 then (nI 365) else (nI 366)) x1 σ1)
set_option maxRecDepth 20000 in
theorem t_X12_dateOfDay_6 {G : sj_G} {R : sj_R} {x1 : Int32} {x2 : Int32} {σ : sj_S} (h : wp_X12_dateOfDay_6 G R x1 x2 σ) : sj_J G 4 me_X12_dateOfDay R 6 [.null, .int x1, .int x2, .null] σ [] := by
  unfold wp_X12_dateOfDay_6 at h
  refine sj_iload_n dX12_dateOfDay_6 (i := 1) rfl rfl ?_
  refine sj_iload_n dX12_dateOfDay_7 (i := 2) rfl rfl ?_
  obtain ⟨v1, σ1, hc1, h⟩ := h
  refine sj_callSi (M' := me_X12_isLeap) (As := [.int x2]) (rest := [.int x1]) dX12_dateOfDay_8 gX12_dateOfDay_X12_isLeap rfl hd_X12_isLeap (Nat.le_of_ble_eq_true rfl) (by omega) rfl hc1 ?_
  refine sj_if_eq (tgt := 20) dX12_dateOfDay_11 (by decide) (fun c2 => ?_) (fun c2 => ?_)
  · refine sj_sipush (v := (nI 365)) dX12_dateOfDay_20 (by decide +kernel) ?_
    try simp only [if_pos c2] at h
    exact t_X12_dateOfDay_23 h
  · refine sj_sipush (v := (nI 366)) dX12_dateOfDay_14 (by decide +kernel) ?_
    refine sj_goto (tgt := 23) dX12_dateOfDay_17 (by decide) ?_
    try simp only [if_neg c2] at h
    exact t_X12_dateOfDay_23 h
def wp_X12_dateOfDay_53 (G : sj_G) (R : sj_R) (x1 : Int32) (x2 : Int32) (x3 : Int32) (σ : sj_S) : Prop := ∃ v1 σ1, sj_C G 3 me_X12_monthDays [.int x2, .int x3] σ (.ok v1, σ1) ∧ (x1 < v1 → R = (.ok (((((nI 10000) * x2) + ((nI 100) * x3)) + x1) + (nI 1)), σ1)) ∧ (¬ (x1 < v1) → ∃ v3 σ3, sj_C G 3 me_X12_monthDays [.int x2, .int x3] σ1 (.ok v3, σ3) ∧ sj_J G 4 me_X12_dateOfDay R 53 [.null, .int (x1 - v3), .int x2, .int (x3 + (nI 1))] σ3 [])
set_option maxRecDepth 20000 in
theorem t_X12_dateOfDay_53 {G : sj_G} {R : sj_R} {x1 : Int32} {x2 : Int32} {x3 : Int32} {σ : sj_S} (h : wp_X12_dateOfDay_53 G R x1 x2 x3 σ) : sj_J G 4 me_X12_dateOfDay R 53 [.null, .int x1, .int x2, .int x3] σ [] := by
  unfold wp_X12_dateOfDay_53 at h
  refine sj_iload_n dX12_dateOfDay_53 (i := 1) rfl rfl ?_
  refine sj_iload_n dX12_dateOfDay_54 (i := 2) rfl rfl ?_
  refine sj_iload_n dX12_dateOfDay_55 (i := 3) rfl rfl ?_
  obtain ⟨v1, σ1, hc1, h⟩ := h
  refine sj_callSi (M' := me_X12_monthDays) (As := [.int x2, .int x3]) (rest := [.int x1]) dX12_dateOfDay_56 gX12_dateOfDay_X12_monthDays rfl hd_X12_monthDays (Nat.le_of_ble_eq_true rfl) (by omega) rfl hc1 ?_
  refine sj_icmp_lt (tgt := 76) dX12_dateOfDay_59 (by decide) (fun c2 => ?_) (fun c2 => ?_)
  · replace h := h.1 c2
    refine sj_sipush (v := (nI 10000)) dX12_dateOfDay_76 (by decide +kernel) ?_
    refine sj_iload_n dX12_dateOfDay_79 (i := 2) rfl rfl ?_
    refine sj_imul dX12_dateOfDay_80 ?_
    refine sj_bipush (v := (nI 100)) dX12_dateOfDay_81 (by decide +kernel) ?_
    refine sj_iload_n dX12_dateOfDay_83 (i := 3) rfl rfl ?_
    refine sj_imul dX12_dateOfDay_84 ?_
    refine sj_iadd dX12_dateOfDay_85 ?_
    refine sj_iload_n dX12_dateOfDay_86 (i := 1) rfl rfl ?_
    refine sj_iadd dX12_dateOfDay_87 ?_
    refine sj_iconst (v := (nI 1)) dX12_dateOfDay_88 (by decide +kernel) ?_
    refine sj_iadd dX12_dateOfDay_89 ?_
    subst h
    exact sj_ret dX12_dateOfDay_90 rfl rfl
  · replace h := h.2 c2
    refine sj_iload_n dX12_dateOfDay_62 (i := 1) rfl rfl ?_
    refine sj_iload_n dX12_dateOfDay_63 (i := 2) rfl rfl ?_
    refine sj_iload_n dX12_dateOfDay_64 (i := 3) rfl rfl ?_
    obtain ⟨v3, σ3, hc3, h⟩ := h
    refine sj_callSi (M' := me_X12_monthDays) (As := [.int x2, .int x3]) (rest := [.int x1]) dX12_dateOfDay_65 gX12_dateOfDay_X12_monthDays rfl hd_X12_monthDays (Nat.le_of_ble_eq_true rfl) (by omega) rfl hc3 ?_
    refine sj_isub dX12_dateOfDay_68 ?_
    refine sj_istore_n dX12_dateOfDay_69 (i := 1) rfl (by decide) ?_
    refine sj_iinc (v := (x3 + (nI 1))) dX12_dateOfDay_70 (by decide) rfl rfl ?_
    refine sj_goto (tgt := 53) dX12_dateOfDay_73 (by decide) ?_
    exact h
def wp_X12_dateOfDay_0 (G : sj_G) (R : sj_R) (x0 : Int32) (σ : sj_S) : Prop := sj_J G 4 me_X12_dateOfDay R 6 [.null, .int x0, .int (nI 1990), .null] σ []
set_option maxRecDepth 20000 in
theorem t_X12_dateOfDay_0 {G : sj_G} {R : sj_R} {x0 : Int32} {σ : sj_S} (h : wp_X12_dateOfDay_0 G R x0 σ) : sj_J G 4 me_X12_dateOfDay R 0 [.int x0, .null, .null, .null] σ [] := by
  unfold wp_X12_dateOfDay_0 at h
  refine sj_iload_n dX12_dateOfDay_0 (i := 0) rfl rfl ?_
  refine sj_istore_n dX12_dateOfDay_1 (i := 1) rfl (by decide) ?_
  refine sj_sipush (v := (nI 1990)) dX12_dateOfDay_2 (by decide +kernel) ?_
  refine sj_istore_n dX12_dateOfDay_5 (i := 2) rfl (by decide) ?_
  refine sj_fg [0] ?_
  exact h
theorem c_X12_dateOfDay {G : sj_G} (ok : sj_ok G) {R : sj_R} {x0 : Int32} {σ : sj_S} (h : wp_X12_dateOfDay_0 G R x0 σ) : sj_C G 4 me_X12_dateOfDay [.int x0] σ R :=
  sj_enter ok (by decide +kernel) rfl rfl (Nat.le_of_ble_eq_true rfl) (by simp [Value.category]) (t_X12_dateOfDay_0 h)
def wp_X12_noDate_0 (G : sj_G) (R : sj_R) (x1 : Int32) (σ : sj_S) : Prop := ∃ v1 σ1, sj_C G 4 me_X12_isDate [.int x1] σ (.ok v1, σ1) ∧ ∃ v2 σ2, sj_C G 2 me_X12_fails [.ref (sj_ad G 56), .int v1, .int (nI 1)] σ1 (.ok v2, σ2) ∧ R = (.ok v2, σ2) ∧ (v2 = nI 0 ∨ v2 = nI 1)
set_option maxRecDepth 20000 in
theorem t_X12_noDate_0 {G : sj_G} {R : sj_R} {x1 : Int32} {σ : sj_S} (h : wp_X12_noDate_0 G R x1 σ) : sj_J G 5 me_X12_noDate R 0 [.ref (sj_ad G 56), .int x1] σ [] := by
  unfold wp_X12_noDate_0 at h
  refine sj_aload_n dX12_noDate_0 (i := 0) rfl rfl ?_
  refine sj_iload_n dX12_noDate_1 (i := 1) rfl rfl ?_
  obtain ⟨v1, σ1, hc1, h⟩ := h
  refine sj_callSi (M' := me_X12_isDate) (As := [.int x1]) (rest := [.ref (sj_ad G 56)]) dX12_noDate_2 gX12_noDate_X12_isDate rfl hd_X12_isDate (Nat.le_of_ble_eq_true rfl) (by omega) rfl hc1 ?_
  refine sj_iconst (v := (nI 1)) dX12_noDate_5 (by decide +kernel) ?_
  obtain ⟨v2, σ2, hc2, h⟩ := h
  refine sj_callVi (M' := me_X12_fails) (b := 56) (As := [.int v1, .int (nI 1)]) (rest := []) dX12_noDate_6 gX12_noDate_X12_fails rfl hd_X12_fails (by decide +kernel) (by decide +kernel) rfl (Nat.le_of_ble_eq_true rfl) (by omega) rfl hc2 ?_
  obtain ⟨h, hz⟩ := h
  subst h
  exact sj_ret dX12_noDate_9 rfl (sj_nb hz)
theorem c_X12_noDate {G : sj_G} (ok : sj_ok G) {R : sj_R} {x1 : Int32} {σ : sj_S} (h : wp_X12_noDate_0 G R x1 σ) : sj_C G 5 me_X12_noDate [.ref (sj_ad G 56), .int x1] σ R :=
  sj_enter ok (by decide +kernel) rfl rfl (Nat.le_of_ble_eq_true rfl) (by simp [Value.category]) (t_X12_noDate_0 h)
def wp_X12_setYear_36 (G : sj_G) (R : sj_R) (σ : sj_S) : Prop := R = (.ok (nI 0), σ)
set_option maxRecDepth 20000 in
theorem t_X12_setYear_36 {G : sj_G} {R : sj_R} {σ : sj_S} (h : wp_X12_setYear_36 G R σ) : sj_J G 6 me_X12_setYear R 36 [.null, .null, .null] σ [] := by
  unfold wp_X12_setYear_36 at h
  refine sj_iconst (v := (nI 0)) dX12_setYear_36 (by decide +kernel) ?_
  subst h
  exact sj_ret dX12_setYear_37 rfl rfl
def wp_X12_setYear_29 (G : sj_G) (R : sj_R) (x1 : Int32) (s0 : Int32) (σ : sj_S) : Prop := ∃ v1 σ1, sj_C G 2 me_X12_fails [.ref (sj_ad G 56), .int s0, .int (nI 1)] σ (.ok v1, σ1) ∧ (v1 = 0 → R = (.ok (σ1 56 21), (sj_st (sj_st σ1 56 21 x1) 56 22 (nI 0)))) ∧ (¬ (v1 = 0) → (wp_X12_setYear_36 G R σ1))
set_option maxRecDepth 20000 in
theorem t_X12_setYear_29 {G : sj_G} {R : sj_R} {x1 : Int32} {s0 : Int32} {σ : sj_S} (h : wp_X12_setYear_29 G R x1 s0 σ) : sj_J G 6 me_X12_setYear R 29 [.ref (sj_ad G 56), .int x1, .null] σ [.int s0, .ref (sj_ad G 56)] := by
  unfold wp_X12_setYear_29 at h
  refine sj_iconst (v := (nI 1)) dX12_setYear_29 (by decide +kernel) ?_
  obtain ⟨v1, σ1, hc1, h⟩ := h
  refine sj_callVi (M' := me_X12_fails) (b := 56) (As := [.int s0, .int (nI 1)]) (rest := []) dX12_setYear_30 gX12_setYear_X12_fails rfl hd_X12_fails (by decide +kernel) (by decide +kernel) rfl (Nat.le_of_ble_eq_true rfl) (by omega) rfl hc1 ?_
  refine sj_if_eq (tgt := 38) dX12_setYear_33 (by decide) (fun c2 => ?_) (fun c2 => ?_)
  · replace h := h.1 c2
    refine sj_aload_n dX12_setYear_38 (i := 0) rfl rfl ?_
    refine sj_get (a := 56) (k9 := 21) (v := .int (σ1 56 21)) dX12_setYear_39 (by decide +kernel) rfl ?_
    refine sj_istore_n dX12_setYear_42 (i := 2) rfl (by decide) ?_
    refine sj_aload_n dX12_setYear_43 (i := 0) rfl rfl ?_
    refine sj_iload_n dX12_setYear_44 (i := 1) rfl rfl ?_
    refine sj_put (a := 56) (k9 := 21) dX12_setYear_45 (by decide +kernel) (by decide +kernel) rfl ?_
    refine sj_aload_n dX12_setYear_48 (i := 0) rfl rfl ?_
    refine sj_iconst (v := (nI 0)) dX12_setYear_49 (by decide +kernel) ?_
    refine sj_put (a := 56) (k9 := 22) dX12_setYear_50 (by decide +kernel) (by decide +kernel) rfl ?_
    refine sj_iload_n dX12_setYear_53 (i := 2) rfl rfl ?_
    subst h
    exact sj_ret dX12_setYear_54 rfl rfl
  · replace h := h.2 c2
    refine sj_fg [0, 1] ?_
    exact t_X12_setYear_36 h
def wp_X12_setYear_0 (G : sj_G) (R : sj_R) (x1 : Int32) (σ : sj_S) : Prop := ∃ v1 σ1, sj_C G 5 me_X12_noDate [.ref (sj_ad G 56), .int x1] (sj_st σ 56 0 (nI 0)) (.ok v1, σ1) ∧ (¬ v1 = 0 → (wp_X12_setYear_36 G R σ1)) ∧ (v1 = 0 → ∃ v3 σ3, sj_C G 4 me_X12_dayOf [.int x1] σ1 (.ok v3, σ3) ∧ (wp_X12_setYear_29 G R x1 (if (v3 - v3 / (nI 7) * (nI 7)) = 0 then (nI 1) else (nI 0)) σ3))
set_option maxRecDepth 20000 in
theorem t_X12_setYear_0 {G : sj_G} {R : sj_R} {x1 : Int32} {σ : sj_S} (h : wp_X12_setYear_0 G R x1 σ) : sj_J G 6 me_X12_setYear R 0 [.ref (sj_ad G 56), .int x1, .null] σ [] := by
  unfold wp_X12_setYear_0 at h
  refine sj_aload_n dX12_setYear_0 (i := 0) rfl rfl ?_
  refine sj_iconst (v := (nI 0)) dX12_setYear_1 (by decide +kernel) ?_
  refine sj_put (a := 56) (k9 := 0) dX12_setYear_2 (by decide +kernel) (by decide +kernel) rfl ?_
  refine sj_aload_n dX12_setYear_5 (i := 0) rfl rfl ?_
  refine sj_iload_n dX12_setYear_6 (i := 1) rfl rfl ?_
  obtain ⟨v1, σ1, hc1, h⟩ := h
  refine sj_callVi (M' := me_X12_noDate) (b := 56) (As := [.int x1]) (rest := []) dX12_setYear_7 gX12_setYear_X12_noDate rfl hd_X12_noDate (by decide +kernel) (by decide +kernel) rfl (Nat.le_of_ble_eq_true rfl) (by omega) rfl hc1 ?_
  refine sj_if_ne (tgt := 36) dX12_setYear_10 (by decide) (fun c2 => ?_) (fun c2 => ?_)
  · replace h := h.1 c2
    refine sj_fg [0, 1] ?_
    exact t_X12_setYear_36 h
  · replace h := h.2 c2
    refine sj_aload_n dX12_setYear_13 (i := 0) rfl rfl ?_
    refine sj_iload_n dX12_setYear_14 (i := 1) rfl rfl ?_
    obtain ⟨v3, σ3, hc3, h⟩ := h
    refine sj_callSi (M' := me_X12_dayOf) (As := [.int x1]) (rest := [.ref (sj_ad G 56)]) dX12_setYear_15 gX12_setYear_X12_dayOf rfl hd_X12_dayOf (Nat.le_of_ble_eq_true rfl) (by omega) rfl hc3 ?_
    refine sj_bipush (v := (nI 7)) dX12_setYear_18 (by decide +kernel) ?_
    refine sj_irem dX12_setYear_20 (by decide +kernel) ?_
    refine sj_if_ne (tgt := 28) dX12_setYear_21 (by decide) (fun c4 => ?_) (fun c4 => ?_)
    · refine sj_iconst (v := (nI 0)) dX12_setYear_28 (by decide +kernel) ?_
      try simp only [if_neg c4] at h
      exact t_X12_setYear_29 h
    · refine sj_iconst (v := (nI 1)) dX12_setYear_24 (by decide +kernel) ?_
      refine sj_goto (tgt := 29) dX12_setYear_25 (by decide) ?_
      try simp only [if_pos c4] at h
      exact t_X12_setYear_29 h
theorem c_X12_setYear {G : sj_G} (ok : sj_ok G) {R : sj_R} {x1 : Int32} {σ : sj_S} (h : wp_X12_setYear_0 G R x1 σ) : sj_C G 6 me_X12_setYear [.ref (sj_ad G 56), .int x1] σ R :=
  sj_enter ok (by decide +kernel) rfl rfl (Nat.le_of_ble_eq_true rfl) (by simp [Value.category]) (t_X12_setYear_0 h)
def wp_X12_holiday_61 (G : sj_G) (R : sj_R) (σ : sj_S) : Prop := R = (.ok (nI 0), σ)
set_option maxRecDepth 20000 in
theorem t_X12_holiday_61 {G : sj_G} {R : sj_R} {σ : sj_S} (h : wp_X12_holiday_61 G R σ) : sj_J G 6 me_X12_holiday R 61 [.null, .null, .null] σ [] := by
  unfold wp_X12_holiday_61 at h
  refine sj_iconst (v := (nI 0)) dX12_holiday_61 (by decide +kernel) ?_
  subst h
  exact sj_ret dX12_holiday_62 rfl rfl
def wp_X12_holiday_54 (G : sj_G) (R : sj_R) (x1 : Int32) (x2 : Int32) (s0 : Int32) (σ : sj_S) : Prop := ∃ v1 σ1, sj_C G 2 me_X12_fails [.ref (sj_ad G 56), .int s0, .int (nI 2)] σ (.ok v1, σ1) ∧ (v1 = 0 → ∃ v3 σ3, sj_C G 4 me_X12_dayOf [.int x1] σ1 (.ok v3, σ3) ∧ vp_in (σ1 56 22) 10 ∧ ∃ v5 σ5, sj_C G 4 me_X12_dayOf [.int x2] (sj_st σ3 73 (σ1 56 22).toNatClampNeg v3) (.ok v5, σ5) ∧ vp_in (σ3 56 22) 10 ∧ R = (.ok ((σ5 56 22) + (nI 1)), (sj_st (sj_st σ5 74 (σ3 56 22).toNatClampNeg v5) 56 22 ((σ5 56 22) + (nI 1))))) ∧ (¬ (v1 = 0) → (wp_X12_holiday_61 G R σ1))
set_option maxRecDepth 20000 in
theorem t_X12_holiday_54 {G : sj_G} {R : sj_R} {x1 : Int32} {x2 : Int32} {s0 : Int32} {σ : sj_S} (h : wp_X12_holiday_54 G R x1 x2 s0 σ) : sj_J G 6 me_X12_holiday R 54 [.ref (sj_ad G 56), .int x1, .int x2] σ [.int s0, .ref (sj_ad G 56)] := by
  unfold wp_X12_holiday_54 at h
  refine sj_iconst (v := (nI 2)) dX12_holiday_54 (by decide +kernel) ?_
  obtain ⟨v1, σ1, hc1, h⟩ := h
  refine sj_callVi (M' := me_X12_fails) (b := 56) (As := [.int s0, .int (nI 2)]) (rest := []) dX12_holiday_55 gX12_holiday_X12_fails rfl hd_X12_fails (by decide +kernel) (by decide +kernel) rfl (Nat.le_of_ble_eq_true rfl) (by omega) rfl hc1 ?_
  refine sj_if_eq (tgt := 63) dX12_holiday_58 (by decide) (fun c2 => ?_) (fun c2 => ?_)
  · replace h := h.1 c2
    refine sj_aload_n dX12_holiday_63 (i := 0) rfl rfl ?_
    refine sj_get (a := 56) (k9 := 23) (v := .ref (sj_ad G 73)) dX12_holiday_64 (by decide +kernel) rfl ?_
    refine sj_aload_n dX12_holiday_67 (i := 0) rfl rfl ?_
    refine sj_get (a := 56) (k9 := 22) (v := .int (σ1 56 22)) dX12_holiday_68 (by decide +kernel) rfl ?_
    refine sj_iload_n dX12_holiday_71 (i := 1) rfl rfl ?_
    obtain ⟨v3, σ3, hc3, h⟩ := h
    refine sj_callSi (M' := me_X12_dayOf) (As := [.int x1]) (rest := [.int (σ1 56 22), .ref (sj_ad G 73)]) dX12_holiday_72 gX12_holiday_X12_dayOf rfl hd_X12_dayOf (Nat.le_of_ble_eq_true rfl) (by omega) rfl hc3 ?_
    obtain ⟨b4, h⟩ := h
    refine sj_iast (a := 73) (j := (σ1 56 22).toNatClampNeg) dX12_holiday_75 rfl (by decide +kernel) b4 rfl ?_
    refine sj_aload_n dX12_holiday_76 (i := 0) rfl rfl ?_
    refine sj_get (a := 56) (k9 := 24) (v := .ref (sj_ad G 74)) dX12_holiday_77 (by decide +kernel) rfl ?_
    refine sj_aload_n dX12_holiday_80 (i := 0) rfl rfl ?_
    refine sj_get (a := 56) (k9 := 22) (v := .int (σ3 56 22)) dX12_holiday_81 (by decide +kernel) rfl ?_
    refine sj_iload_n dX12_holiday_84 (i := 2) rfl rfl ?_
    obtain ⟨v5, σ5, hc5, h⟩ := h
    refine sj_callSi (M' := me_X12_dayOf) (As := [.int x2]) (rest := [.int (σ3 56 22), .ref (sj_ad G 74)]) dX12_holiday_85 gX12_holiday_X12_dayOf rfl hd_X12_dayOf (Nat.le_of_ble_eq_true rfl) (by omega) rfl hc5 ?_
    obtain ⟨b6, h⟩ := h
    refine sj_iast (a := 74) (j := (σ3 56 22).toNatClampNeg) dX12_holiday_88 rfl (by decide +kernel) b6 rfl ?_
    refine sj_aload_n dX12_holiday_89 (i := 0) rfl rfl ?_
    refine sj_dup dX12_holiday_90 rfl ?_
    refine sj_get (a := 56) (k9 := 22) (v := .int (σ5 56 22)) dX12_holiday_91 (by decide +kernel) rfl ?_
    refine sj_iconst (v := (nI 1)) dX12_holiday_94 (by decide +kernel) ?_
    refine sj_iadd dX12_holiday_95 ?_
    refine sj_put (a := 56) (k9 := 22) dX12_holiday_96 (by decide +kernel) (by decide +kernel) rfl ?_
    refine sj_aload_n dX12_holiday_99 (i := 0) rfl rfl ?_
    refine sj_get (a := 56) (k9 := 22) (v := .int ((σ5 56 22) + (nI 1))) dX12_holiday_100 (by decide +kernel) rfl ?_
    subst h
    exact sj_ret dX12_holiday_103 rfl rfl
  · replace h := h.2 c2
    refine sj_fg [0, 1, 2] ?_
    exact t_X12_holiday_61 h
def wp_X12_holiday_32 (G : sj_G) (R : sj_R) (x1 : Int32) (x2 : Int32) (s0 : Int32) (σ : sj_S) : Prop := ∃ v1 σ1, sj_C G 2 me_X12_fails [.ref (sj_ad G 56), .int s0, .int (nI 1)] σ (.ok v1, σ1) ∧ (¬ v1 = 0 → (wp_X12_holiday_61 G R σ1)) ∧ (v1 = 0 → (wp_X12_holiday_54 G R x1 x2 (if (nI 10) ≤ (σ1 56 22) then (nI 0) else (nI 1)) σ1))
set_option maxRecDepth 20000 in
theorem t_X12_holiday_32 {G : sj_G} {R : sj_R} {x1 : Int32} {x2 : Int32} {s0 : Int32} {σ : sj_S} (h : wp_X12_holiday_32 G R x1 x2 s0 σ) : sj_J G 6 me_X12_holiday R 32 [.ref (sj_ad G 56), .int x1, .int x2] σ [.int s0, .ref (sj_ad G 56)] := by
  unfold wp_X12_holiday_32 at h
  refine sj_iconst (v := (nI 1)) dX12_holiday_32 (by decide +kernel) ?_
  obtain ⟨v1, σ1, hc1, h⟩ := h
  refine sj_callVi (M' := me_X12_fails) (b := 56) (As := [.int s0, .int (nI 1)]) (rest := []) dX12_holiday_33 gX12_holiday_X12_fails rfl hd_X12_fails (by decide +kernel) (by decide +kernel) rfl (Nat.le_of_ble_eq_true rfl) (by omega) rfl hc1 ?_
  refine sj_if_ne (tgt := 61) dX12_holiday_36 (by decide) (fun c2 => ?_) (fun c2 => ?_)
  · replace h := h.1 c2
    refine sj_fg [0, 1, 2] ?_
    exact t_X12_holiday_61 h
  · replace h := h.2 c2
    refine sj_aload_n dX12_holiday_39 (i := 0) rfl rfl ?_
    refine sj_aload_n dX12_holiday_40 (i := 0) rfl rfl ?_
    refine sj_get (a := 56) (k9 := 22) (v := .int (σ1 56 22)) dX12_holiday_41 (by decide +kernel) rfl ?_
    refine sj_bipush (v := (nI 10)) dX12_holiday_44 (by decide +kernel) ?_
    refine sj_icmp_ge (tgt := 53) dX12_holiday_46 (by decide) (fun c3 => ?_) (fun c3 => ?_)
    · refine sj_iconst (v := (nI 0)) dX12_holiday_53 (by decide +kernel) ?_
      try simp only [if_pos c3] at h
      exact t_X12_holiday_54 h
    · refine sj_iconst (v := (nI 1)) dX12_holiday_49 (by decide +kernel) ?_
      refine sj_goto (tgt := 54) dX12_holiday_50 (by decide) ?_
      try simp only [if_neg c3] at h
      exact t_X12_holiday_54 h
def wp_X12_holiday_0 (G : sj_G) (R : sj_R) (x1 : Int32) (x2 : Int32) (σ : sj_S) : Prop := ∃ v1 σ1, sj_C G 5 me_X12_noDate [.ref (sj_ad G 56), .int x1] (sj_st σ 56 0 (nI 0)) (.ok v1, σ1) ∧ (¬ v1 = 0 → (wp_X12_holiday_61 G R σ1)) ∧ (v1 = 0 → ∃ v3 σ3, sj_C G 5 me_X12_noDate [.ref (sj_ad G 56), .int x2] σ1 (.ok v3, σ3) ∧ (¬ v3 = 0 → (wp_X12_holiday_61 G R σ3)) ∧ (v3 = 0 → (wp_X12_holiday_32 G R x1 x2 (if x2 < x1 then (nI 0) else (nI 1)) σ3)))
set_option maxRecDepth 20000 in
theorem t_X12_holiday_0 {G : sj_G} {R : sj_R} {x1 : Int32} {x2 : Int32} {σ : sj_S} (h : wp_X12_holiday_0 G R x1 x2 σ) : sj_J G 6 me_X12_holiday R 0 [.ref (sj_ad G 56), .int x1, .int x2] σ [] := by
  unfold wp_X12_holiday_0 at h
  refine sj_aload_n dX12_holiday_0 (i := 0) rfl rfl ?_
  refine sj_iconst (v := (nI 0)) dX12_holiday_1 (by decide +kernel) ?_
  refine sj_put (a := 56) (k9 := 0) dX12_holiday_2 (by decide +kernel) (by decide +kernel) rfl ?_
  refine sj_aload_n dX12_holiday_5 (i := 0) rfl rfl ?_
  refine sj_iload_n dX12_holiday_6 (i := 1) rfl rfl ?_
  obtain ⟨v1, σ1, hc1, h⟩ := h
  refine sj_callVi (M' := me_X12_noDate) (b := 56) (As := [.int x1]) (rest := []) dX12_holiday_7 gX12_holiday_X12_noDate rfl hd_X12_noDate (by decide +kernel) (by decide +kernel) rfl (Nat.le_of_ble_eq_true rfl) (by omega) rfl hc1 ?_
  refine sj_if_ne (tgt := 61) dX12_holiday_10 (by decide) (fun c2 => ?_) (fun c2 => ?_)
  · replace h := h.1 c2
    refine sj_fg [0, 1, 2] ?_
    exact t_X12_holiday_61 h
  · replace h := h.2 c2
    refine sj_aload_n dX12_holiday_13 (i := 0) rfl rfl ?_
    refine sj_iload_n dX12_holiday_14 (i := 2) rfl rfl ?_
    obtain ⟨v3, σ3, hc3, h⟩ := h
    refine sj_callVi (M' := me_X12_noDate) (b := 56) (As := [.int x2]) (rest := []) dX12_holiday_15 gX12_holiday_X12_noDate rfl hd_X12_noDate (by decide +kernel) (by decide +kernel) rfl (Nat.le_of_ble_eq_true rfl) (by omega) rfl hc3 ?_
    refine sj_if_ne (tgt := 61) dX12_holiday_18 (by decide) (fun c4 => ?_) (fun c4 => ?_)
    · replace h := h.1 c4
      refine sj_fg [0, 1, 2] ?_
      exact t_X12_holiday_61 h
    · replace h := h.2 c4
      refine sj_aload_n dX12_holiday_21 (i := 0) rfl rfl ?_
      refine sj_iload_n dX12_holiday_22 (i := 1) rfl rfl ?_
      refine sj_iload_n dX12_holiday_23 (i := 2) rfl rfl ?_
      refine sj_icmp_gt (tgt := 31) dX12_holiday_24 (by decide) (fun c5 => ?_) (fun c5 => ?_)
      · refine sj_iconst (v := (nI 0)) dX12_holiday_31 (by decide +kernel) ?_
        try simp only [if_pos c5] at h
        exact t_X12_holiday_32 h
      · refine sj_iconst (v := (nI 1)) dX12_holiday_27 (by decide +kernel) ?_
        refine sj_goto (tgt := 32) dX12_holiday_28 (by decide) ?_
        try simp only [if_neg c5] at h
        exact t_X12_holiday_32 h
theorem c_X12_holiday {G : sj_G} (ok : sj_ok G) {R : sj_R} {x1 : Int32} {x2 : Int32} {σ : sj_S} (h : wp_X12_holiday_0 G R x1 x2 σ) : sj_C G 6 me_X12_holiday [.ref (sj_ad G 56), .int x1, .int x2] σ R :=
  sj_enter ok (by decide +kernel) rfl rfl (Nat.le_of_ble_eq_true rfl) (by simp [Value.category]) (t_X12_holiday_0 h)
def wp_X12_isHoliday_2 (G : sj_G) (R : sj_R) (x1 : Int32) (x2 : Int32) (σ : sj_S) : Prop := ((σ 56 22) ≤ x2 → R = (.ok (nI 0), σ)) ∧ (¬ ((σ 56 22) ≤ x2) → vp_in x2 10 ∧ vp_in x2 10 ∧ ∃ v4 σ4, sj_C G 2 me_X12_in [.int x1, .int (σ 73 x2.toNatClampNeg), .int (σ 74 x2.toNatClampNeg)] σ (.ok v4, σ4) ∧ (v4 = 0 → sj_J G 3 me_X12_isHoliday R 2 [.ref (sj_ad G 56), .int x1, .int (x2 + (nI 1))] σ4 []) ∧ (¬ (v4 = 0) → R = (.ok (nI 1), σ4)))
set_option maxRecDepth 20000 in
theorem t_X12_isHoliday_2 {G : sj_G} {R : sj_R} {x1 : Int32} {x2 : Int32} {σ : sj_S} (h : wp_X12_isHoliday_2 G R x1 x2 σ) : sj_J G 3 me_X12_isHoliday R 2 [.ref (sj_ad G 56), .int x1, .int x2] σ [] := by
  unfold wp_X12_isHoliday_2 at h
  refine sj_iload_n dX12_isHoliday_2 (i := 2) rfl rfl ?_
  refine sj_aload_n dX12_isHoliday_3 (i := 0) rfl rfl ?_
  refine sj_get (a := 56) (k9 := 22) (v := .int (σ 56 22)) dX12_isHoliday_4 (by decide +kernel) rfl ?_
  refine sj_icmp_ge (tgt := 37) dX12_isHoliday_7 (by decide) (fun c1 => ?_) (fun c1 => ?_)
  · replace h := h.1 c1
    refine sj_iconst (v := (nI 0)) dX12_isHoliday_37 (by decide +kernel) ?_
    subst h
    exact sj_ret dX12_isHoliday_38 rfl rfl
  · replace h := h.2 c1
    refine sj_iload_n dX12_isHoliday_10 (i := 1) rfl rfl ?_
    refine sj_aload_n dX12_isHoliday_11 (i := 0) rfl rfl ?_
    refine sj_get (a := 56) (k9 := 23) (v := .ref (sj_ad G 73)) dX12_isHoliday_12 (by decide +kernel) rfl ?_
    refine sj_iload_n dX12_isHoliday_15 (i := 2) rfl rfl ?_
    obtain ⟨b2, h⟩ := h
    refine sj_iald (a := 73) (j := x2.toNatClampNeg) (x := (σ 73 x2.toNatClampNeg)) dX12_isHoliday_16 rfl (by decide +kernel) b2 rfl rfl ?_
    refine sj_aload_n dX12_isHoliday_17 (i := 0) rfl rfl ?_
    refine sj_get (a := 56) (k9 := 24) (v := .ref (sj_ad G 74)) dX12_isHoliday_18 (by decide +kernel) rfl ?_
    refine sj_iload_n dX12_isHoliday_21 (i := 2) rfl rfl ?_
    obtain ⟨b3, h⟩ := h
    refine sj_iald (a := 74) (j := x2.toNatClampNeg) (x := (σ 74 x2.toNatClampNeg)) dX12_isHoliday_22 rfl (by decide +kernel) b3 rfl rfl ?_
    obtain ⟨v4, σ4, hc4, h⟩ := h
    refine sj_callSi (M' := me_X12_in) (As := [.int x1, .int (σ 73 x2.toNatClampNeg), .int (σ 74 x2.toNatClampNeg)]) (rest := []) dX12_isHoliday_23 gX12_isHoliday_X12_in rfl hd_X12_in (Nat.le_of_ble_eq_true rfl) (by omega) rfl hc4 ?_
    refine sj_if_eq (tgt := 31) dX12_isHoliday_26 (by decide) (fun c5 => ?_) (fun c5 => ?_)
    · replace h := h.1 c5
      refine sj_iinc (v := (x2 + (nI 1))) dX12_isHoliday_31 (by decide) rfl rfl ?_
      refine sj_goto (tgt := 2) dX12_isHoliday_34 (by decide) ?_
      exact h
    · replace h := h.2 c5
      refine sj_iconst (v := (nI 1)) dX12_isHoliday_29 (by decide +kernel) ?_
      subst h
      exact sj_ret dX12_isHoliday_30 rfl rfl
def wp_X12_isHoliday_0 (G : sj_G) (R : sj_R) (x1 : Int32) (σ : sj_S) : Prop := sj_J G 3 me_X12_isHoliday R 2 [.ref (sj_ad G 56), .int x1, .int (nI 0)] σ []
set_option maxRecDepth 20000 in
theorem t_X12_isHoliday_0 {G : sj_G} {R : sj_R} {x1 : Int32} {σ : sj_S} (h : wp_X12_isHoliday_0 G R x1 σ) : sj_J G 3 me_X12_isHoliday R 0 [.ref (sj_ad G 56), .int x1, .null] σ [] := by
  unfold wp_X12_isHoliday_0 at h
  refine sj_iconst (v := (nI 0)) dX12_isHoliday_0 (by decide +kernel) ?_
  refine sj_istore_n dX12_isHoliday_1 (i := 2) rfl (by decide) ?_
  exact h
theorem c_X12_isHoliday {G : sj_G} (ok : sj_ok G) {R : sj_R} {x1 : Int32} {σ : sj_S} (h : wp_X12_isHoliday_0 G R x1 σ) : sj_C G 3 me_X12_isHoliday [.ref (sj_ad G 56), .int x1] σ R :=
  sj_enter ok (by decide +kernel) rfl rfl (Nat.le_of_ble_eq_true rfl) (by simp [Value.category]) (t_X12_isHoliday_0 h)
def wp_X12_isInYear_0 (G : sj_G) (R : sj_R) (x1 : Int32) (σ : sj_S) : Prop := ∃ v1 σ1, sj_C G 4 me_X12_dayOf [.int (σ 56 21)] σ (.ok v1, σ1) ∧ ∃ v2 σ2, sj_C G 4 me_X12_dayOf [.int (σ1 56 21)] σ1 (.ok v2, σ2) ∧ ∃ v3 σ3, sj_C G 2 me_X12_in [.int x1, .int v1, .int ((v2 + (nI 280)) - (nI 1))] σ2 (.ok v3, σ3) ∧ R = (.ok v3, σ3) ∧ (v3 = nI 0 ∨ v3 = nI 1)
set_option maxRecDepth 20000 in
theorem t_X12_isInYear_0 {G : sj_G} {R : sj_R} {x1 : Int32} {σ : sj_S} (h : wp_X12_isInYear_0 G R x1 σ) : sj_J G 5 me_X12_isInYear R 0 [.ref (sj_ad G 56), .int x1] σ [] := by
  unfold wp_X12_isInYear_0 at h
  refine sj_iload_n dX12_isInYear_0 (i := 1) rfl rfl ?_
  refine sj_aload_n dX12_isInYear_1 (i := 0) rfl rfl ?_
  refine sj_get (a := 56) (k9 := 21) (v := .int (σ 56 21)) dX12_isInYear_2 (by decide +kernel) rfl ?_
  obtain ⟨v1, σ1, hc1, h⟩ := h
  refine sj_callSi (M' := me_X12_dayOf) (As := [.int (σ 56 21)]) (rest := [.int x1]) dX12_isInYear_5 gX12_isInYear_X12_dayOf rfl hd_X12_dayOf (Nat.le_of_ble_eq_true rfl) (by omega) rfl hc1 ?_
  refine sj_aload_n dX12_isInYear_8 (i := 0) rfl rfl ?_
  refine sj_get (a := 56) (k9 := 21) (v := .int (σ1 56 21)) dX12_isInYear_9 (by decide +kernel) rfl ?_
  obtain ⟨v2, σ2, hc2, h⟩ := h
  refine sj_callSi (M' := me_X12_dayOf) (As := [.int (σ1 56 21)]) (rest := [.int v1, .int x1]) dX12_isInYear_12 gX12_isInYear_X12_dayOf rfl hd_X12_dayOf (Nat.le_of_ble_eq_true rfl) (by omega) rfl hc2 ?_
  refine sj_sipush (v := (nI 280)) dX12_isInYear_15 (by decide +kernel) ?_
  refine sj_iadd dX12_isInYear_18 ?_
  refine sj_iconst (v := (nI 1)) dX12_isInYear_19 (by decide +kernel) ?_
  refine sj_isub dX12_isInYear_20 ?_
  obtain ⟨v3, σ3, hc3, h⟩ := h
  refine sj_callSi (M' := me_X12_in) (As := [.int x1, .int v1, .int ((v2 + (nI 280)) - (nI 1))]) (rest := []) dX12_isInYear_21 gX12_isInYear_X12_in rfl hd_X12_in (Nat.le_of_ble_eq_true rfl) (by omega) rfl hc3 ?_
  obtain ⟨h, hz⟩ := h
  subst h
  exact sj_ret dX12_isInYear_24 rfl (sj_nb hz)
theorem c_X12_isInYear {G : sj_G} (ok : sj_ok G) {R : sj_R} {x1 : Int32} {σ : sj_S} (h : wp_X12_isInYear_0 G R x1 σ) : sj_C G 5 me_X12_isInYear [.ref (sj_ad G 56), .int x1] σ R :=
  sj_enter ok (by decide +kernel) rfl rfl (Nat.le_of_ble_eq_true rfl) (by simp [Value.category]) (t_X12_isInYear_0 h)
def wp_X12_isSchoolDay_29 (G : sj_G) (R : sj_R) (s0 : Int32) (σ : sj_S) : Prop := R = (.ok s0, σ) ∧ (s0 = nI 0 ∨ s0 = nI 1)
set_option maxRecDepth 20000 in
theorem t_X12_isSchoolDay_29 {G : sj_G} {R : sj_R} {s0 : Int32} {σ : sj_S} (h : wp_X12_isSchoolDay_29 G R s0 σ) : sj_J G 6 me_X12_isSchoolDay R 29 [.null, .null] σ [.int s0] := by
  unfold wp_X12_isSchoolDay_29 at h
  obtain ⟨h, hz⟩ := h
  subst h
  exact sj_ret dX12_isSchoolDay_29 rfl (sj_nb hz)
def wp_X12_isSchoolDay_28 (G : sj_G) (R : sj_R) (σ : sj_S) : Prop := (wp_X12_isSchoolDay_29 G R (nI 0) σ)
set_option maxRecDepth 20000 in
theorem t_X12_isSchoolDay_28 {G : sj_G} {R : sj_R} {σ : sj_S} (h : wp_X12_isSchoolDay_28 G R σ) : sj_J G 6 me_X12_isSchoolDay R 28 [.null, .null] σ [] := by
  unfold wp_X12_isSchoolDay_28 at h
  refine sj_iconst (v := (nI 0)) dX12_isSchoolDay_28 (by decide +kernel) ?_
  exact t_X12_isSchoolDay_29 h
def wp_X12_isSchoolDay_0 (G : sj_G) (R : sj_R) (x1 : Int32) (σ : sj_S) : Prop := ∃ v1 σ1, sj_C G 5 me_X12_isInYear [.ref (sj_ad G 56), .int x1] σ (.ok v1, σ1) ∧ (v1 = 0 → (wp_X12_isSchoolDay_28 G R σ1)) ∧ (¬ (v1 = 0) → ((nI 5) ≤ (x1 - x1 / (nI 7) * (nI 7)) → (wp_X12_isSchoolDay_28 G R σ1)) ∧ (¬ ((nI 5) ≤ (x1 - x1 / (nI 7) * (nI 7))) → ∃ v7 σ7, sj_C G 3 me_X12_isHoliday [.ref (sj_ad G 56), .int x1] σ1 (.ok v7, σ7) ∧ (wp_X12_isSchoolDay_29 G R (if v7 = 0 then (nI 1) else (nI 0)) σ7)))
set_option maxRecDepth 20000 in
theorem t_X12_isSchoolDay_0 {G : sj_G} {R : sj_R} {x1 : Int32} {σ : sj_S} (h : wp_X12_isSchoolDay_0 G R x1 σ) : sj_J G 6 me_X12_isSchoolDay R 0 [.ref (sj_ad G 56), .int x1] σ [] := by
  unfold wp_X12_isSchoolDay_0 at h
  refine sj_aload_n dX12_isSchoolDay_0 (i := 0) rfl rfl ?_
  refine sj_iload_n dX12_isSchoolDay_1 (i := 1) rfl rfl ?_
  obtain ⟨v1, σ1, hc1, h⟩ := h
  refine sj_callVi (M' := me_X12_isInYear) (b := 56) (As := [.int x1]) (rest := []) dX12_isSchoolDay_2 gX12_isSchoolDay_X12_isInYear rfl hd_X12_isInYear (by decide +kernel) (by decide +kernel) rfl (Nat.le_of_ble_eq_true rfl) (by omega) rfl hc1 ?_
  refine sj_if_eq (tgt := 28) dX12_isSchoolDay_5 (by decide) (fun c4 => ?_) (fun c4 => ?_)
  · replace h := h.1 c4
    refine sj_fg [0, 1] ?_
    exact t_X12_isSchoolDay_28 h
  · replace h := h.2 c4
    refine sj_iload_n dX12_isSchoolDay_8 (i := 1) rfl rfl ?_
    refine sj_bipush (v := (nI 7)) dX12_isSchoolDay_9 (by decide +kernel) ?_
    refine sj_irem dX12_isSchoolDay_11 (by decide +kernel) ?_
    refine sj_iconst (v := (nI 5)) dX12_isSchoolDay_12 (by decide +kernel) ?_
    refine sj_icmp_ge (tgt := 28) dX12_isSchoolDay_13 (by decide) (fun c6 => ?_) (fun c6 => ?_)
    · replace h := h.1 c6
      refine sj_fg [0, 1] ?_
      exact t_X12_isSchoolDay_28 h
    · replace h := h.2 c6
      refine sj_aload_n dX12_isSchoolDay_16 (i := 0) rfl rfl ?_
      refine sj_iload_n dX12_isSchoolDay_17 (i := 1) rfl rfl ?_
      obtain ⟨v7, σ7, hc7, h⟩ := h
      refine sj_callVi (M' := me_X12_isHoliday) (b := 56) (As := [.int x1]) (rest := []) dX12_isSchoolDay_18 gX12_isSchoolDay_X12_isHoliday rfl hd_X12_isHoliday (by decide +kernel) (by decide +kernel) rfl (Nat.le_of_ble_eq_true rfl) (by omega) rfl hc7 ?_
      refine sj_if_ne (tgt := 28) dX12_isSchoolDay_21 (by decide) (fun c8 => ?_) (fun c8 => ?_)
      · refine sj_iconst (v := (nI 0)) dX12_isSchoolDay_28 (by decide +kernel) ?_
        try simp only [if_neg c8] at h
        refine sj_fg [0, 1] ?_
        exact t_X12_isSchoolDay_29 h
      · refine sj_iconst (v := (nI 1)) dX12_isSchoolDay_24 (by decide +kernel) ?_
        refine sj_goto (tgt := 29) dX12_isSchoolDay_25 (by decide) ?_
        try simp only [if_pos c8] at h
        refine sj_fg [0, 1] ?_
        exact t_X12_isSchoolDay_29 h
theorem c_X12_isSchoolDay {G : sj_G} (ok : sj_ok G) {R : sj_R} {x1 : Int32} {σ : sj_S} (h : wp_X12_isSchoolDay_0 G R x1 σ) : sj_C G 6 me_X12_isSchoolDay [.ref (sj_ad G 56), .int x1] σ R :=
  sj_enter ok (by decide +kernel) rfl rfl (Nat.le_of_ble_eq_true rfl) (by simp [Value.category]) (t_X12_isSchoolDay_0 h)
def wp_X12_ahead_37 (G : sj_G) (R : sj_R) (x1 : Int32) (x3 : Int32) (s0 : Int32) (s1 : Int32) (σ : sj_S) : Prop := sj_J G 7 me_X12_ahead R 10 [.ref (sj_ad G 56), .int x1, .int (s1 + s0), .int (x3 + (nI 1))] σ []
set_option maxRecDepth 20000 in
theorem t_X12_ahead_37 {G : sj_G} {R : sj_R} {x1 : Int32} {x3 : Int32} {s0 : Int32} {s1 : Int32} {σ : sj_S} (h : wp_X12_ahead_37 G R x1 x3 s0 s1 σ) : sj_J G 7 me_X12_ahead R 37 [.ref (sj_ad G 56), .int x1, .null, .int x3] σ [.int s0, .int s1] := by
  unfold wp_X12_ahead_37 at h
  refine sj_iadd dX12_ahead_37 ?_
  refine sj_istore_n dX12_ahead_38 (i := 2) rfl (by decide) ?_
  refine sj_iinc (v := (x3 + (nI 1))) dX12_ahead_39 (by decide) rfl rfl ?_
  refine sj_goto (tgt := 10) dX12_ahead_42 (by decide) ?_
  exact h
def wp_X12_ahead_45 (G : sj_G) (R : sj_R) (x2 : Int32) (σ : sj_S) : Prop := R = (.ok x2, σ)
set_option maxRecDepth 20000 in
theorem t_X12_ahead_45 {G : sj_G} {R : sj_R} {x2 : Int32} {σ : sj_S} (h : wp_X12_ahead_45 G R x2 σ) : sj_J G 7 me_X12_ahead R 45 [.null, .null, .int x2, .null] σ [] := by
  unfold wp_X12_ahead_45 at h
  refine sj_iload_n dX12_ahead_45 (i := 2) rfl rfl ?_
  subst h
  exact sj_ret dX12_ahead_46 rfl rfl
def wp_X12_ahead_10 (G : sj_G) (R : sj_R) (x1 : Int32) (x2 : Int32) (x3 : Int32) (σ : sj_S) : Prop := (x1 ≤ x3 → (wp_X12_ahead_45 G R x2 σ)) ∧ (¬ (x1 ≤ x3) → ∃ v3 σ3, sj_C G 5 me_X12_isInYear [.ref (sj_ad G 56), .int x3] σ (.ok v3, σ3) ∧ (v3 = 0 → (wp_X12_ahead_45 G R x2 σ3)) ∧ (¬ (v3 = 0) → ∃ v6 σ6, sj_C G 6 me_X12_isSchoolDay [.ref (sj_ad G 56), .int x3] σ3 (.ok v6, σ6) ∧ (wp_X12_ahead_37 G R x1 x3 (if v6 = 0 then (nI 0) else (nI 1)) x2 σ6)))
set_option maxRecDepth 20000 in
theorem t_X12_ahead_10 {G : sj_G} {R : sj_R} {x1 : Int32} {x2 : Int32} {x3 : Int32} {σ : sj_S} (h : wp_X12_ahead_10 G R x1 x2 x3 σ) : sj_J G 7 me_X12_ahead R 10 [.ref (sj_ad G 56), .int x1, .int x2, .int x3] σ [] := by
  unfold wp_X12_ahead_10 at h
  refine sj_iload_n dX12_ahead_10 (i := 3) rfl rfl ?_
  refine sj_iload_n dX12_ahead_11 (i := 1) rfl rfl ?_
  refine sj_icmp_ge (tgt := 45) dX12_ahead_12 (by decide) (fun c2 => ?_) (fun c2 => ?_)
  · replace h := h.1 c2
    refine sj_fg [0, 1, 3] ?_
    exact t_X12_ahead_45 h
  · replace h := h.2 c2
    refine sj_aload_n dX12_ahead_15 (i := 0) rfl rfl ?_
    refine sj_iload_n dX12_ahead_16 (i := 3) rfl rfl ?_
    obtain ⟨v3, σ3, hc3, h⟩ := h
    refine sj_callVi (M' := me_X12_isInYear) (b := 56) (As := [.int x3]) (rest := []) dX12_ahead_17 gX12_ahead_X12_isInYear rfl hd_X12_isInYear (by decide +kernel) (by decide +kernel) rfl (Nat.le_of_ble_eq_true rfl) (by omega) rfl hc3 ?_
    refine sj_if_eq (tgt := 45) dX12_ahead_20 (by decide) (fun c5 => ?_) (fun c5 => ?_)
    · replace h := h.1 c5
      refine sj_fg [0, 1, 3] ?_
      exact t_X12_ahead_45 h
    · replace h := h.2 c5
      refine sj_iload_n dX12_ahead_23 (i := 2) rfl rfl ?_
      refine sj_aload_n dX12_ahead_24 (i := 0) rfl rfl ?_
      refine sj_iload_n dX12_ahead_25 (i := 3) rfl rfl ?_
      obtain ⟨v6, σ6, hc6, h⟩ := h
      refine sj_callVi (M' := me_X12_isSchoolDay) (b := 56) (As := [.int x3]) (rest := [.int x2]) dX12_ahead_26 gX12_ahead_X12_isSchoolDay rfl hd_X12_isSchoolDay (by decide +kernel) (by decide +kernel) rfl (Nat.le_of_ble_eq_true rfl) (by omega) rfl hc6 ?_
      refine sj_if_eq (tgt := 36) dX12_ahead_29 (by decide) (fun c7 => ?_) (fun c7 => ?_)
      · refine sj_iconst (v := (nI 0)) dX12_ahead_36 (by decide +kernel) ?_
        try simp only [if_pos c7] at h
        refine sj_fg [2] ?_
        exact t_X12_ahead_37 h
      · refine sj_iconst (v := (nI 1)) dX12_ahead_32 (by decide +kernel) ?_
        refine sj_goto (tgt := 37) dX12_ahead_33 (by decide) ?_
        try simp only [if_neg c7] at h
        refine sj_fg [2] ?_
        exact t_X12_ahead_37 h
def wp_X12_ahead_0 (G : sj_G) (R : sj_R) (x1 : Int32) (σ : sj_S) : Prop := ∃ v1 σ1, sj_C G 4 me_X12_dayOf [.int (σ 56 21)] σ (.ok v1, σ1) ∧ sj_J G 7 me_X12_ahead R 10 [.ref (sj_ad G 56), .int x1, .int (nI 0), .int v1] σ1 []
set_option maxRecDepth 20000 in
theorem t_X12_ahead_0 {G : sj_G} {R : sj_R} {x1 : Int32} {σ : sj_S} (h : wp_X12_ahead_0 G R x1 σ) : sj_J G 7 me_X12_ahead R 0 [.ref (sj_ad G 56), .int x1, .null, .null] σ [] := by
  unfold wp_X12_ahead_0 at h
  refine sj_iconst (v := (nI 0)) dX12_ahead_0 (by decide +kernel) ?_
  refine sj_istore_n dX12_ahead_1 (i := 2) rfl (by decide) ?_
  refine sj_aload_n dX12_ahead_2 (i := 0) rfl rfl ?_
  refine sj_get (a := 56) (k9 := 21) (v := .int (σ 56 21)) dX12_ahead_3 (by decide +kernel) rfl ?_
  obtain ⟨v1, σ1, hc1, h⟩ := h
  refine sj_callSi (M' := me_X12_dayOf) (As := [.int (σ 56 21)]) (rest := []) dX12_ahead_6 gX12_ahead_X12_dayOf rfl hd_X12_dayOf (Nat.le_of_ble_eq_true rfl) (by omega) rfl hc1 ?_
  refine sj_istore_n dX12_ahead_9 (i := 3) rfl (by decide) ?_
  exact h
theorem c_X12_ahead {G : sj_G} (ok : sj_ok G) {R : sj_R} {x1 : Int32} {σ : sj_S} (h : wp_X12_ahead_0 G R x1 σ) : sj_C G 7 me_X12_ahead [.ref (sj_ad G 56), .int x1] σ R :=
  sj_enter ok (by decide +kernel) rfl rfl (Nat.le_of_ble_eq_true rfl) (by simp [Value.category]) (t_X12_ahead_0 h)
def wp_X12_schoolDays_0 (G : sj_G) (R : sj_R) (σ : sj_S) : Prop := ∃ v1 σ1, sj_C G 4 me_X12_dayOf [.int (σ 56 21)] (sj_st σ 56 0 (nI 0)) (.ok v1, σ1) ∧ ∃ v2 σ2, sj_C G 7 me_X12_ahead [.ref (sj_ad G 56), .int (v1 + (nI 280))] σ1 (.ok v2, σ2) ∧ R = (.ok v2, σ2)
set_option maxRecDepth 20000 in
theorem t_X12_schoolDays_0 {G : sj_G} {R : sj_R} {σ : sj_S} (h : wp_X12_schoolDays_0 G R σ) : sj_J G 8 me_X12_schoolDays R 0 [.ref (sj_ad G 56)] σ [] := by
  unfold wp_X12_schoolDays_0 at h
  refine sj_aload_n dX12_schoolDays_0 (i := 0) rfl rfl ?_
  refine sj_iconst (v := (nI 0)) dX12_schoolDays_1 (by decide +kernel) ?_
  refine sj_put (a := 56) (k9 := 0) dX12_schoolDays_2 (by decide +kernel) (by decide +kernel) rfl ?_
  refine sj_aload_n dX12_schoolDays_5 (i := 0) rfl rfl ?_
  refine sj_aload_n dX12_schoolDays_6 (i := 0) rfl rfl ?_
  refine sj_get (a := 56) (k9 := 21) (v := .int (σ 56 21)) dX12_schoolDays_7 (by decide +kernel) rfl ?_
  obtain ⟨v1, σ1, hc1, h⟩ := h
  refine sj_callSi (M' := me_X12_dayOf) (As := [.int (σ 56 21)]) (rest := [.ref (sj_ad G 56)]) dX12_schoolDays_10 gX12_schoolDays_X12_dayOf rfl hd_X12_dayOf (Nat.le_of_ble_eq_true rfl) (by omega) rfl hc1 ?_
  refine sj_sipush (v := (nI 280)) dX12_schoolDays_13 (by decide +kernel) ?_
  refine sj_iadd dX12_schoolDays_16 ?_
  obtain ⟨v2, σ2, hc2, h⟩ := h
  refine sj_callVi (M' := me_X12_ahead) (b := 56) (As := [.int (v1 + (nI 280))]) (rest := []) dX12_schoolDays_17 gX12_schoolDays_X12_ahead rfl hd_X12_ahead (by decide +kernel) (by decide +kernel) rfl (Nat.le_of_ble_eq_true rfl) (by omega) rfl hc2 ?_
  subst h
  exact sj_ret dX12_schoolDays_20 rfl rfl
theorem c_X12_schoolDays {G : sj_G} (ok : sj_ok G) {R : sj_R} {σ : sj_S} (h : wp_X12_schoolDays_0 G R σ) : sj_C G 8 me_X12_schoolDays [.ref (sj_ad G 56)] σ R :=
  sj_enter ok (by decide +kernel) rfl rfl (Nat.le_of_ble_eq_true rfl) (by simp [Value.category]) (t_X12_schoolDays_0 h)
def wp_X12_dateOf_62 (G : sj_G) (R : sj_R) (x1 : Int32) (x2 : Int32) (σ : sj_S) : Prop := sj_J G 8 me_X12_dateOf R 45 [.ref (sj_ad G 56), .int x1, .int (x2 + (nI 1))] σ []
set_option maxRecDepth 20000 in
theorem t_X12_dateOf_62 {G : sj_G} {R : sj_R} {x1 : Int32} {x2 : Int32} {σ : sj_S} (h : wp_X12_dateOf_62 G R x1 x2 σ) : sj_J G 8 me_X12_dateOf R 62 [.ref (sj_ad G 56), .int x1, .int x2] σ [] := by
  unfold wp_X12_dateOf_62 at h
  refine sj_iinc (v := (x2 + (nI 1))) dX12_dateOf_62 (by decide) rfl rfl ?_
  refine sj_goto (tgt := 45) dX12_dateOf_65 (by decide) ?_
  exact h
def wp_X12_dateOf_45 (G : sj_G) (R : sj_R) (x1 : Int32) (x2 : Int32) (σ : sj_S) : Prop := ∃ v1 σ1, sj_C G 6 me_X12_isSchoolDay [.ref (sj_ad G 56), .int x2] σ (.ok v1, σ1) ∧ (v1 = 0 → (wp_X12_dateOf_62 G R x1 x2 σ1)) ∧ (¬ (v1 = 0) → ∃ v3 σ3, sj_C G 7 me_X12_ahead [.ref (sj_ad G 56), .int x2] σ1 (.ok v3, σ3) ∧ (v3 = x1 → ∃ v5 σ5, sj_C G 4 me_X12_dateOfDay [.int x2] σ3 (.ok v5, σ5) ∧ R = (.ok v5, σ5)) ∧ (¬ (v3 = x1) → (wp_X12_dateOf_62 G R x1 x2 σ3)))
set_option maxRecDepth 20000 in
theorem t_X12_dateOf_45 {G : sj_G} {R : sj_R} {x1 : Int32} {x2 : Int32} {σ : sj_S} (h : wp_X12_dateOf_45 G R x1 x2 σ) : sj_J G 8 me_X12_dateOf R 45 [.ref (sj_ad G 56), .int x1, .int x2] σ [] := by
  unfold wp_X12_dateOf_45 at h
  refine sj_aload_n dX12_dateOf_45 (i := 0) rfl rfl ?_
  refine sj_iload_n dX12_dateOf_46 (i := 2) rfl rfl ?_
  obtain ⟨v1, σ1, hc1, h⟩ := h
  refine sj_callVi (M' := me_X12_isSchoolDay) (b := 56) (As := [.int x2]) (rest := []) dX12_dateOf_47 gX12_dateOf_X12_isSchoolDay rfl hd_X12_isSchoolDay (by decide +kernel) (by decide +kernel) rfl (Nat.le_of_ble_eq_true rfl) (by omega) rfl hc1 ?_
  refine sj_if_eq (tgt := 62) dX12_dateOf_50 (by decide) (fun c2 => ?_) (fun c2 => ?_)
  · replace h := h.1 c2
    exact t_X12_dateOf_62 h
  · replace h := h.2 c2
    refine sj_aload_n dX12_dateOf_53 (i := 0) rfl rfl ?_
    refine sj_iload_n dX12_dateOf_54 (i := 2) rfl rfl ?_
    obtain ⟨v3, σ3, hc3, h⟩ := h
    refine sj_callVi (M' := me_X12_ahead) (b := 56) (As := [.int x2]) (rest := []) dX12_dateOf_55 gX12_dateOf_X12_ahead rfl hd_X12_ahead (by decide +kernel) (by decide +kernel) rfl (Nat.le_of_ble_eq_true rfl) (by omega) rfl hc3 ?_
    refine sj_iload_n dX12_dateOf_58 (i := 1) rfl rfl ?_
    refine sj_icmp_eq (tgt := 68) dX12_dateOf_59 (by decide) (fun c4 => ?_) (fun c4 => ?_)
    · replace h := h.1 c4
      refine sj_iload_n dX12_dateOf_68 (i := 2) rfl rfl ?_
      obtain ⟨v5, σ5, hc5, h⟩ := h
      refine sj_callSi (M' := me_X12_dateOfDay) (As := [.int x2]) (rest := []) dX12_dateOf_69 gX12_dateOf_X12_dateOfDay rfl hd_X12_dateOfDay (Nat.le_of_ble_eq_true rfl) (by omega) rfl hc5 ?_
      subst h
      exact sj_ret dX12_dateOf_72 rfl rfl
    · replace h := h.2 c4
      exact t_X12_dateOf_62 h
def wp_X12_dateOf_0 (G : sj_G) (R : sj_R) (x1 : Int32) (σ : sj_S) : Prop := ∃ v1 σ1, sj_C G 4 me_X12_dayOf [.int (σ 56 21)] (sj_st σ 56 0 (nI 0)) (.ok v1, σ1) ∧ ∃ v2 σ2, sj_C G 7 me_X12_ahead [.ref (sj_ad G 56), .int (v1 + (nI 280))] σ1 (.ok v2, σ2) ∧ ∃ v3 σ3, sj_C G 2 me_X12_in [.int x1, .int (nI 0), .int (v2 - (nI 1))] σ2 (.ok v3, σ3) ∧ ∃ v4 σ4, sj_C G 2 me_X12_fails [.ref (sj_ad G 56), .int v3, .int (nI 1)] σ3 (.ok v4, σ4) ∧ (v4 = 0 → ∃ v6 σ6, sj_C G 4 me_X12_dayOf [.int (σ4 56 21)] σ4 (.ok v6, σ6) ∧ sj_J G 8 me_X12_dateOf R 45 [.ref (sj_ad G 56), .int x1, .int v6] σ6 []) ∧ (¬ (v4 = 0) → R = (.ok (nI 0), σ4))
set_option maxRecDepth 20000 in
theorem t_X12_dateOf_0 {G : sj_G} {R : sj_R} {x1 : Int32} {σ : sj_S} (h : wp_X12_dateOf_0 G R x1 σ) : sj_J G 8 me_X12_dateOf R 0 [.ref (sj_ad G 56), .int x1, .null] σ [] := by
  unfold wp_X12_dateOf_0 at h
  refine sj_aload_n dX12_dateOf_0 (i := 0) rfl rfl ?_
  refine sj_iconst (v := (nI 0)) dX12_dateOf_1 (by decide +kernel) ?_
  refine sj_put (a := 56) (k9 := 0) dX12_dateOf_2 (by decide +kernel) (by decide +kernel) rfl ?_
  refine sj_aload_n dX12_dateOf_5 (i := 0) rfl rfl ?_
  refine sj_iload_n dX12_dateOf_6 (i := 1) rfl rfl ?_
  refine sj_iconst (v := (nI 0)) dX12_dateOf_7 (by decide +kernel) ?_
  refine sj_aload_n dX12_dateOf_8 (i := 0) rfl rfl ?_
  refine sj_aload_n dX12_dateOf_9 (i := 0) rfl rfl ?_
  refine sj_get (a := 56) (k9 := 21) (v := .int (σ 56 21)) dX12_dateOf_10 (by decide +kernel) rfl ?_
  obtain ⟨v1, σ1, hc1, h⟩ := h
  refine sj_callSi (M' := me_X12_dayOf) (As := [.int (σ 56 21)]) (rest := [.ref (sj_ad G 56), .int (nI 0), .int x1, .ref (sj_ad G 56)]) dX12_dateOf_13 gX12_dateOf_X12_dayOf rfl hd_X12_dayOf (Nat.le_of_ble_eq_true rfl) (by omega) rfl hc1 ?_
  refine sj_sipush (v := (nI 280)) dX12_dateOf_16 (by decide +kernel) ?_
  refine sj_iadd dX12_dateOf_19 ?_
  obtain ⟨v2, σ2, hc2, h⟩ := h
  refine sj_callVi (M' := me_X12_ahead) (b := 56) (As := [.int (v1 + (nI 280))]) (rest := [.int (nI 0), .int x1, .ref (sj_ad G 56)]) dX12_dateOf_20 gX12_dateOf_X12_ahead rfl hd_X12_ahead (by decide +kernel) (by decide +kernel) rfl (Nat.le_of_ble_eq_true rfl) (by omega) rfl hc2 ?_
  refine sj_iconst (v := (nI 1)) dX12_dateOf_23 (by decide +kernel) ?_
  refine sj_isub dX12_dateOf_24 ?_
  obtain ⟨v3, σ3, hc3, h⟩ := h
  refine sj_callSi (M' := me_X12_in) (As := [.int x1, .int (nI 0), .int (v2 - (nI 1))]) (rest := [.ref (sj_ad G 56)]) dX12_dateOf_25 gX12_dateOf_X12_in rfl hd_X12_in (Nat.le_of_ble_eq_true rfl) (by omega) rfl hc3 ?_
  refine sj_iconst (v := (nI 1)) dX12_dateOf_28 (by decide +kernel) ?_
  obtain ⟨v4, σ4, hc4, h⟩ := h
  refine sj_callVi (M' := me_X12_fails) (b := 56) (As := [.int v3, .int (nI 1)]) (rest := []) dX12_dateOf_29 gX12_dateOf_X12_fails rfl hd_X12_fails (by decide +kernel) (by decide +kernel) rfl (Nat.le_of_ble_eq_true rfl) (by omega) rfl hc4 ?_
  refine sj_if_eq (tgt := 37) dX12_dateOf_32 (by decide) (fun c5 => ?_) (fun c5 => ?_)
  · replace h := h.1 c5
    refine sj_aload_n dX12_dateOf_37 (i := 0) rfl rfl ?_
    refine sj_get (a := 56) (k9 := 21) (v := .int (σ4 56 21)) dX12_dateOf_38 (by decide +kernel) rfl ?_
    obtain ⟨v6, σ6, hc6, h⟩ := h
    refine sj_callSi (M' := me_X12_dayOf) (As := [.int (σ4 56 21)]) (rest := []) dX12_dateOf_41 gX12_dateOf_X12_dayOf rfl hd_X12_dayOf (Nat.le_of_ble_eq_true rfl) (by omega) rfl hc6 ?_
    refine sj_istore_n dX12_dateOf_44 (i := 2) rfl (by decide) ?_
    exact h
  · replace h := h.2 c5
    refine sj_iconst (v := (nI 0)) dX12_dateOf_35 (by decide +kernel) ?_
    subst h
    exact sj_ret dX12_dateOf_36 rfl rfl
theorem c_X12_dateOf {G : sj_G} (ok : sj_ok G) {R : sj_R} {x1 : Int32} {σ : sj_S} (h : wp_X12_dateOf_0 G R x1 σ) : sj_C G 8 me_X12_dateOf [.ref (sj_ad G 56), .int x1] σ R :=
  sj_enter ok (by decide +kernel) rfl rfl (Nat.le_of_ble_eq_true rfl) (by simp [Value.category]) (t_X12_dateOf_0 h)
def wp_X12_numberOf_37 (G : sj_G) (R : sj_R) (s0 : Int32) (σ : sj_S) : Prop := R = (.ok s0, σ)
set_option maxRecDepth 20000 in
theorem t_X12_numberOf_37 {G : sj_G} {R : sj_R} {s0 : Int32} {σ : sj_S} (h : wp_X12_numberOf_37 G R s0 σ) : sj_J G 8 me_X12_numberOf R 37 [.null, .null, .null] σ [.int s0] := by
  unfold wp_X12_numberOf_37 at h
  subst h
  exact sj_ret dX12_numberOf_37 rfl rfl
def wp_X12_numberOf_0 (G : sj_G) (R : sj_R) (x1 : Int32) (σ : sj_S) : Prop := ∃ v1 σ1, sj_C G 5 me_X12_noDate [.ref (sj_ad G 56), .int x1] (sj_st σ 56 0 (nI 0)) (.ok v1, σ1) ∧ (v1 = 0 → ∃ v3 σ3, sj_C G 4 me_X12_dayOf [.int x1] σ1 (.ok v3, σ3) ∧ ∃ v4 σ4, sj_C G 6 me_X12_isSchoolDay [.ref (sj_ad G 56), .int v3] σ3 (.ok v4, σ4) ∧ (v4 = 0 → (wp_X12_numberOf_37 G R (-1) σ4)) ∧ (¬ (v4 = 0) → ∃ v7 σ7, sj_C G 7 me_X12_ahead [.ref (sj_ad G 56), .int v3] σ4 (.ok v7, σ7) ∧ (wp_X12_numberOf_37 G R v7 σ7))) ∧ (¬ (v1 = 0) → R = (.ok (nI 0), σ1))
set_option maxRecDepth 20000 in
theorem t_X12_numberOf_0 {G : sj_G} {R : sj_R} {x1 : Int32} {σ : sj_S} (h : wp_X12_numberOf_0 G R x1 σ) : sj_J G 8 me_X12_numberOf R 0 [.ref (sj_ad G 56), .int x1, .null] σ [] := by
  unfold wp_X12_numberOf_0 at h
  refine sj_aload_n dX12_numberOf_0 (i := 0) rfl rfl ?_
  refine sj_iconst (v := (nI 0)) dX12_numberOf_1 (by decide +kernel) ?_
  refine sj_put (a := 56) (k9 := 0) dX12_numberOf_2 (by decide +kernel) (by decide +kernel) rfl ?_
  refine sj_aload_n dX12_numberOf_5 (i := 0) rfl rfl ?_
  refine sj_iload_n dX12_numberOf_6 (i := 1) rfl rfl ?_
  obtain ⟨v1, σ1, hc1, h⟩ := h
  refine sj_callVi (M' := me_X12_noDate) (b := 56) (As := [.int x1]) (rest := []) dX12_numberOf_7 gX12_numberOf_X12_noDate rfl hd_X12_noDate (by decide +kernel) (by decide +kernel) rfl (Nat.le_of_ble_eq_true rfl) (by omega) rfl hc1 ?_
  refine sj_if_eq (tgt := 15) dX12_numberOf_10 (by decide) (fun c2 => ?_) (fun c2 => ?_)
  · replace h := h.1 c2
    refine sj_iload_n dX12_numberOf_15 (i := 1) rfl rfl ?_
    obtain ⟨v3, σ3, hc3, h⟩ := h
    refine sj_callSi (M' := me_X12_dayOf) (As := [.int x1]) (rest := []) dX12_numberOf_16 gX12_numberOf_X12_dayOf rfl hd_X12_dayOf (Nat.le_of_ble_eq_true rfl) (by omega) rfl hc3 ?_
    refine sj_istore_n dX12_numberOf_19 (i := 2) rfl (by decide) ?_
    refine sj_aload_n dX12_numberOf_20 (i := 0) rfl rfl ?_
    refine sj_iload_n dX12_numberOf_21 (i := 2) rfl rfl ?_
    obtain ⟨v4, σ4, hc4, h⟩ := h
    refine sj_callVi (M' := me_X12_isSchoolDay) (b := 56) (As := [.int v3]) (rest := []) dX12_numberOf_22 gX12_numberOf_X12_isSchoolDay rfl hd_X12_isSchoolDay (by decide +kernel) (by decide +kernel) rfl (Nat.le_of_ble_eq_true rfl) (by omega) rfl hc4 ?_
    refine sj_if_eq (tgt := 36) dX12_numberOf_25 (by decide) (fun c6 => ?_) (fun c6 => ?_)
    · replace h := h.1 c6
      refine sj_iconst (v := (-1)) dX12_numberOf_36 (by decide +kernel) ?_
      refine sj_fg [0, 1, 2] ?_
      exact t_X12_numberOf_37 h
    · replace h := h.2 c6
      refine sj_aload_n dX12_numberOf_28 (i := 0) rfl rfl ?_
      refine sj_iload_n dX12_numberOf_29 (i := 2) rfl rfl ?_
      obtain ⟨v7, σ7, hc7, h⟩ := h
      refine sj_callVi (M' := me_X12_ahead) (b := 56) (As := [.int v3]) (rest := []) dX12_numberOf_30 gX12_numberOf_X12_ahead rfl hd_X12_ahead (by decide +kernel) (by decide +kernel) rfl (Nat.le_of_ble_eq_true rfl) (by omega) rfl hc7 ?_
      refine sj_goto (tgt := 37) dX12_numberOf_33 (by decide) ?_
      refine sj_fg [0, 1, 2] ?_
      exact t_X12_numberOf_37 h
  · replace h := h.2 c2
    refine sj_iconst (v := (nI 0)) dX12_numberOf_13 (by decide +kernel) ?_
    subst h
    exact sj_ret dX12_numberOf_14 rfl rfl
theorem c_X12_numberOf {G : sj_G} (ok : sj_ok G) {R : sj_R} {x1 : Int32} {σ : sj_S} (h : wp_X12_numberOf_0 G R x1 σ) : sj_C G 8 me_X12_numberOf [.ref (sj_ad G 56), .int x1] σ R :=
  sj_enter ok (by decide +kernel) rfl rfl (Nat.le_of_ble_eq_true rfl) (by simp [Value.category]) (t_X12_numberOf_0 h)
def wp_X12_nextDay_55 (G : sj_G) (R : sj_R) (x1 : Int32) (x2 : Int32) (x3 : Int32) (σ : sj_S) : Prop := sj_J G 7 me_X12_nextDay R 25 [.ref (sj_ad G 56), .int x1, .int x2, .int (x3 + (nI 1))] σ []
set_option maxRecDepth 20000 in
theorem t_X12_nextDay_55 {G : sj_G} {R : sj_R} {x1 : Int32} {x2 : Int32} {x3 : Int32} {σ : sj_S} (h : wp_X12_nextDay_55 G R x1 x2 x3 σ) : sj_J G 7 me_X12_nextDay R 55 [.ref (sj_ad G 56), .int x1, .int x2, .int x3] σ [] := by
  unfold wp_X12_nextDay_55 at h
  refine sj_iinc (v := (x3 + (nI 1))) dX12_nextDay_55 (by decide) rfl rfl ?_
  refine sj_goto (tgt := 25) dX12_nextDay_58 (by decide) ?_
  exact h
def wp_X12_nextDay_25 (G : sj_G) (R : sj_R) (x1 : Int32) (x2 : Int32) (x3 : Int32) (σ : sj_S) : Prop := ((x2 + (nI 280)) ≤ x3 → R = (.ok (-1), σ)) ∧ (¬ ((x2 + (nI 280)) ≤ x3) → ∃ v2 σ2, sj_C G 4 me_X12_dayOf [.int x1] σ (.ok v2, σ2) ∧ (x3 ≤ v2 → (wp_X12_nextDay_55 G R x1 x2 x3 σ2)) ∧ (¬ (x3 ≤ v2) → ∃ v4 σ4, sj_C G 6 me_X12_isSchoolDay [.ref (sj_ad G 56), .int x3] σ2 (.ok v4, σ4) ∧ (v4 = 0 → (wp_X12_nextDay_55 G R x1 x2 x3 σ4)) ∧ (¬ (v4 = 0) → ∃ v6 σ6, sj_C G 4 me_X12_dateOfDay [.int x3] σ4 (.ok v6, σ6) ∧ R = (.ok v6, σ6))))
set_option maxRecDepth 20000 in
theorem t_X12_nextDay_25 {G : sj_G} {R : sj_R} {x1 : Int32} {x2 : Int32} {x3 : Int32} {σ : sj_S} (h : wp_X12_nextDay_25 G R x1 x2 x3 σ) : sj_J G 7 me_X12_nextDay R 25 [.ref (sj_ad G 56), .int x1, .int x2, .int x3] σ [] := by
  unfold wp_X12_nextDay_25 at h
  refine sj_iload_n dX12_nextDay_25 (i := 3) rfl rfl ?_
  refine sj_iload_n dX12_nextDay_26 (i := 2) rfl rfl ?_
  refine sj_sipush (v := (nI 280)) dX12_nextDay_27 (by decide +kernel) ?_
  refine sj_iadd dX12_nextDay_30 ?_
  refine sj_icmp_ge (tgt := 61) dX12_nextDay_31 (by decide) (fun c1 => ?_) (fun c1 => ?_)
  · replace h := h.1 c1
    refine sj_iconst (v := (-1)) dX12_nextDay_61 (by decide +kernel) ?_
    subst h
    exact sj_ret dX12_nextDay_62 rfl rfl
  · replace h := h.2 c1
    refine sj_iload_n dX12_nextDay_34 (i := 3) rfl rfl ?_
    refine sj_iload_n dX12_nextDay_35 (i := 1) rfl rfl ?_
    obtain ⟨v2, σ2, hc2, h⟩ := h
    refine sj_callSi (M' := me_X12_dayOf) (As := [.int x1]) (rest := [.int x3]) dX12_nextDay_36 gX12_nextDay_X12_dayOf rfl hd_X12_dayOf (Nat.le_of_ble_eq_true rfl) (by omega) rfl hc2 ?_
    refine sj_icmp_le (tgt := 55) dX12_nextDay_39 (by decide) (fun c3 => ?_) (fun c3 => ?_)
    · replace h := h.1 c3
      exact t_X12_nextDay_55 h
    · replace h := h.2 c3
      refine sj_aload_n dX12_nextDay_42 (i := 0) rfl rfl ?_
      refine sj_iload_n dX12_nextDay_43 (i := 3) rfl rfl ?_
      obtain ⟨v4, σ4, hc4, h⟩ := h
      refine sj_callVi (M' := me_X12_isSchoolDay) (b := 56) (As := [.int x3]) (rest := []) dX12_nextDay_44 gX12_nextDay_X12_isSchoolDay rfl hd_X12_isSchoolDay (by decide +kernel) (by decide +kernel) rfl (Nat.le_of_ble_eq_true rfl) (by omega) rfl hc4 ?_
      refine sj_if_eq (tgt := 55) dX12_nextDay_47 (by decide) (fun c5 => ?_) (fun c5 => ?_)
      · replace h := h.1 c5
        exact t_X12_nextDay_55 h
      · replace h := h.2 c5
        refine sj_iload_n dX12_nextDay_50 (i := 3) rfl rfl ?_
        obtain ⟨v6, σ6, hc6, h⟩ := h
        refine sj_callSi (M' := me_X12_dateOfDay) (As := [.int x3]) (rest := []) dX12_nextDay_51 gX12_nextDay_X12_dateOfDay rfl hd_X12_dateOfDay (Nat.le_of_ble_eq_true rfl) (by omega) rfl hc6 ?_
        subst h
        exact sj_ret dX12_nextDay_54 rfl rfl
def wp_X12_nextDay_0 (G : sj_G) (R : sj_R) (x1 : Int32) (σ : sj_S) : Prop := ∃ v1 σ1, sj_C G 5 me_X12_noDate [.ref (sj_ad G 56), .int x1] (sj_st σ 56 0 (nI 0)) (.ok v1, σ1) ∧ (v1 = 0 → ∃ v3 σ3, sj_C G 4 me_X12_dayOf [.int (σ1 56 21)] σ1 (.ok v3, σ3) ∧ sj_J G 7 me_X12_nextDay R 25 [.ref (sj_ad G 56), .int x1, .int v3, .int v3] σ3 []) ∧ (¬ (v1 = 0) → R = (.ok (nI 0), σ1))
set_option maxRecDepth 20000 in
theorem t_X12_nextDay_0 {G : sj_G} {R : sj_R} {x1 : Int32} {σ : sj_S} (h : wp_X12_nextDay_0 G R x1 σ) : sj_J G 7 me_X12_nextDay R 0 [.ref (sj_ad G 56), .int x1, .null, .null] σ [] := by
  unfold wp_X12_nextDay_0 at h
  refine sj_aload_n dX12_nextDay_0 (i := 0) rfl rfl ?_
  refine sj_iconst (v := (nI 0)) dX12_nextDay_1 (by decide +kernel) ?_
  refine sj_put (a := 56) (k9 := 0) dX12_nextDay_2 (by decide +kernel) (by decide +kernel) rfl ?_
  refine sj_aload_n dX12_nextDay_5 (i := 0) rfl rfl ?_
  refine sj_iload_n dX12_nextDay_6 (i := 1) rfl rfl ?_
  obtain ⟨v1, σ1, hc1, h⟩ := h
  refine sj_callVi (M' := me_X12_noDate) (b := 56) (As := [.int x1]) (rest := []) dX12_nextDay_7 gX12_nextDay_X12_noDate rfl hd_X12_noDate (by decide +kernel) (by decide +kernel) rfl (Nat.le_of_ble_eq_true rfl) (by omega) rfl hc1 ?_
  refine sj_if_eq (tgt := 15) dX12_nextDay_10 (by decide) (fun c2 => ?_) (fun c2 => ?_)
  · replace h := h.1 c2
    refine sj_aload_n dX12_nextDay_15 (i := 0) rfl rfl ?_
    refine sj_get (a := 56) (k9 := 21) (v := .int (σ1 56 21)) dX12_nextDay_16 (by decide +kernel) rfl ?_
    obtain ⟨v3, σ3, hc3, h⟩ := h
    refine sj_callSi (M' := me_X12_dayOf) (As := [.int (σ1 56 21)]) (rest := []) dX12_nextDay_19 gX12_nextDay_X12_dayOf rfl hd_X12_dayOf (Nat.le_of_ble_eq_true rfl) (by omega) rfl hc3 ?_
    refine sj_istore_n dX12_nextDay_22 (i := 2) rfl (by decide) ?_
    refine sj_iload_n dX12_nextDay_23 (i := 2) rfl rfl ?_
    refine sj_istore_n dX12_nextDay_24 (i := 3) rfl (by decide) ?_
    exact h
  · replace h := h.2 c2
    refine sj_iconst (v := (nI 0)) dX12_nextDay_13 (by decide +kernel) ?_
    subst h
    exact sj_ret dX12_nextDay_14 rfl rfl
theorem c_X12_nextDay {G : sj_G} (ok : sj_ok G) {R : sj_R} {x1 : Int32} {σ : sj_S} (h : wp_X12_nextDay_0 G R x1 σ) : sj_C G 7 me_X12_nextDay [.ref (sj_ad G 56), .int x1] σ R :=
  sj_enter ok (by decide +kernel) rfl rfl (Nat.le_of_ble_eq_true rfl) (by simp [Value.category]) (t_X12_nextDay_0 h)
def wp_X12_daysOfWeek_37 (G : sj_G) (R : sj_R) (x1 : Int32) (x3 : Int32) (s0 : Int32) (s1 : Int32) (σ : sj_S) : Prop := sj_J G 7 me_X12_daysOfWeek R 4 [.ref (sj_ad G 56), .int x1, .int (s1 + s0), .int (x3 + (nI 1))] σ []
set_option maxRecDepth 20000 in
theorem t_X12_daysOfWeek_37 {G : sj_G} {R : sj_R} {x1 : Int32} {x3 : Int32} {s0 : Int32} {s1 : Int32} {σ : sj_S} (h : wp_X12_daysOfWeek_37 G R x1 x3 s0 s1 σ) : sj_J G 7 me_X12_daysOfWeek R 37 [.ref (sj_ad G 56), .int x1, .null, .int x3] σ [.int s0, .int s1] := by
  unfold wp_X12_daysOfWeek_37 at h
  refine sj_iadd dX12_daysOfWeek_37 ?_
  refine sj_istore_n dX12_daysOfWeek_38 (i := 2) rfl (by decide) ?_
  refine sj_iinc (v := (x3 + (nI 1))) dX12_daysOfWeek_39 (by decide) rfl rfl ?_
  refine sj_goto (tgt := 4) dX12_daysOfWeek_42 (by decide) ?_
  exact h
def wp_X12_daysOfWeek_4 (G : sj_G) (R : sj_R) (x1 : Int32) (x2 : Int32) (x3 : Int32) (σ : sj_S) : Prop := ((nI 7) ≤ x3 → R = (.ok x2, σ)) ∧ (¬ ((nI 7) ≤ x3) → ∃ v2 σ2, sj_C G 4 me_X12_dayOf [.int (σ 56 21)] σ (.ok v2, σ2) ∧ ∃ v3 σ3, sj_C G 6 me_X12_isSchoolDay [.ref (sj_ad G 56), .int ((v2 + ((nI 7) * x1)) + x3)] σ2 (.ok v3, σ3) ∧ (wp_X12_daysOfWeek_37 G R x1 x3 (if v3 = 0 then (nI 0) else (nI 1)) x2 σ3))
set_option maxRecDepth 20000 in
theorem t_X12_daysOfWeek_4 {G : sj_G} {R : sj_R} {x1 : Int32} {x2 : Int32} {x3 : Int32} {σ : sj_S} (h : wp_X12_daysOfWeek_4 G R x1 x2 x3 σ) : sj_J G 7 me_X12_daysOfWeek R 4 [.ref (sj_ad G 56), .int x1, .int x2, .int x3] σ [] := by
  unfold wp_X12_daysOfWeek_4 at h
  refine sj_iload_n dX12_daysOfWeek_4 (i := 3) rfl rfl ?_
  refine sj_bipush (v := (nI 7)) dX12_daysOfWeek_5 (by decide +kernel) ?_
  refine sj_icmp_ge (tgt := 45) dX12_daysOfWeek_7 (by decide) (fun c1 => ?_) (fun c1 => ?_)
  · replace h := h.1 c1
    refine sj_iload_n dX12_daysOfWeek_45 (i := 2) rfl rfl ?_
    subst h
    exact sj_ret dX12_daysOfWeek_46 rfl rfl
  · replace h := h.2 c1
    refine sj_iload_n dX12_daysOfWeek_10 (i := 2) rfl rfl ?_
    refine sj_aload_n dX12_daysOfWeek_11 (i := 0) rfl rfl ?_
    refine sj_aload_n dX12_daysOfWeek_12 (i := 0) rfl rfl ?_
    refine sj_get (a := 56) (k9 := 21) (v := .int (σ 56 21)) dX12_daysOfWeek_13 (by decide +kernel) rfl ?_
    obtain ⟨v2, σ2, hc2, h⟩ := h
    refine sj_callSi (M' := me_X12_dayOf) (As := [.int (σ 56 21)]) (rest := [.ref (sj_ad G 56), .int x2]) dX12_daysOfWeek_16 gX12_daysOfWeek_X12_dayOf rfl hd_X12_dayOf (Nat.le_of_ble_eq_true rfl) (by omega) rfl hc2 ?_
    refine sj_bipush (v := (nI 7)) dX12_daysOfWeek_19 (by decide +kernel) ?_
    refine sj_iload_n dX12_daysOfWeek_21 (i := 1) rfl rfl ?_
    refine sj_imul dX12_daysOfWeek_22 ?_
    refine sj_iadd dX12_daysOfWeek_23 ?_
    refine sj_iload_n dX12_daysOfWeek_24 (i := 3) rfl rfl ?_
    refine sj_iadd dX12_daysOfWeek_25 ?_
    obtain ⟨v3, σ3, hc3, h⟩ := h
    refine sj_callVi (M' := me_X12_isSchoolDay) (b := 56) (As := [.int ((v2 + ((nI 7) * x1)) + x3)]) (rest := [.int x2]) dX12_daysOfWeek_26 gX12_daysOfWeek_X12_isSchoolDay rfl hd_X12_isSchoolDay (by decide +kernel) (by decide +kernel) rfl (Nat.le_of_ble_eq_true rfl) (by omega) rfl hc3 ?_
    refine sj_if_eq (tgt := 36) dX12_daysOfWeek_29 (by decide) (fun c4 => ?_) (fun c4 => ?_)
    · refine sj_iconst (v := (nI 0)) dX12_daysOfWeek_36 (by decide +kernel) ?_
      try simp only [if_pos c4] at h
      refine sj_fg [2] ?_
      exact t_X12_daysOfWeek_37 h
    · refine sj_iconst (v := (nI 1)) dX12_daysOfWeek_32 (by decide +kernel) ?_
      refine sj_goto (tgt := 37) dX12_daysOfWeek_33 (by decide) ?_
      try simp only [if_neg c4] at h
      refine sj_fg [2] ?_
      exact t_X12_daysOfWeek_37 h
def wp_X12_daysOfWeek_0 (G : sj_G) (R : sj_R) (x1 : Int32) (σ : sj_S) : Prop := sj_J G 7 me_X12_daysOfWeek R 4 [.ref (sj_ad G 56), .int x1, .int (nI 0), .int (nI 0)] σ []
set_option maxRecDepth 20000 in
theorem t_X12_daysOfWeek_0 {G : sj_G} {R : sj_R} {x1 : Int32} {σ : sj_S} (h : wp_X12_daysOfWeek_0 G R x1 σ) : sj_J G 7 me_X12_daysOfWeek R 0 [.ref (sj_ad G 56), .int x1, .null, .null] σ [] := by
  unfold wp_X12_daysOfWeek_0 at h
  refine sj_iconst (v := (nI 0)) dX12_daysOfWeek_0 (by decide +kernel) ?_
  refine sj_istore_n dX12_daysOfWeek_1 (i := 2) rfl (by decide) ?_
  refine sj_iconst (v := (nI 0)) dX12_daysOfWeek_2 (by decide +kernel) ?_
  refine sj_istore_n dX12_daysOfWeek_3 (i := 3) rfl (by decide) ?_
  exact h
theorem c_X12_daysOfWeek {G : sj_G} (ok : sj_ok G) {R : sj_R} {x1 : Int32} {σ : sj_S} (h : wp_X12_daysOfWeek_0 G R x1 σ) : sj_C G 7 me_X12_daysOfWeek [.ref (sj_ad G 56), .int x1] σ R :=
  sj_enter ok (by decide +kernel) rfl rfl (Nat.le_of_ble_eq_true rfl) (by simp [Value.category]) (t_X12_daysOfWeek_0 h)
def wp_X12_weekOf_27 (G : sj_G) (R : sj_R) (σ : sj_S) : Prop := R = (.ok (nI 0), σ)
set_option maxRecDepth 20000 in
theorem t_X12_weekOf_27 {G : sj_G} {R : sj_R} {σ : sj_S} (h : wp_X12_weekOf_27 G R σ) : sj_J G 8 me_X12_weekOf R 27 [.null, .null, .null, .null, .null, .null] σ [] := by
  unfold wp_X12_weekOf_27 at h
  refine sj_iconst (v := (nI 0)) dX12_weekOf_27 (by decide +kernel) ?_
  subst h
  exact sj_ret dX12_weekOf_28 rfl rfl
def wp_X12_weekOf_76 (G : sj_G) (R : sj_R) (s0 : Int32) (σ : sj_S) : Prop := R = (.ok s0, σ)
set_option maxRecDepth 20000 in
theorem t_X12_weekOf_76 {G : sj_G} {R : sj_R} {s0 : Int32} {σ : sj_S} (h : wp_X12_weekOf_76 G R s0 σ) : sj_J G 8 me_X12_weekOf R 76 [.null, .null, .null, .null, .null, .null] σ [.int s0] := by
  unfold wp_X12_weekOf_76 at h
  subst h
  exact sj_ret dX12_weekOf_76 rfl rfl
def wp_X12_weekOf_115 (G : sj_G) (R : sj_R) (x3 : Int32) (x5 : Int32) (s0 : Int32) (s1 : Int32) (σ : sj_S) : Prop := sj_J G 8 me_X12_weekOf R 93 [.ref (sj_ad G 56), .null, .null, .int x3, .int (s1 + s0), .int (x5 + (nI 1))] σ []
set_option maxRecDepth 20000 in
theorem t_X12_weekOf_115 {G : sj_G} {R : sj_R} {x3 : Int32} {x5 : Int32} {s0 : Int32} {s1 : Int32} {σ : sj_S} (h : wp_X12_weekOf_115 G R x3 x5 s0 s1 σ) : sj_J G 8 me_X12_weekOf R 115 [.ref (sj_ad G 56), .null, .null, .int x3, .null, .int x5] σ [.int s0, .int s1] := by
  unfold wp_X12_weekOf_115 at h
  refine sj_iadd dX12_weekOf_115 ?_
  refine sj_istore dX12_weekOf_116 (by decide) ?_
  refine sj_iinc (v := (x5 + (nI 1))) dX12_weekOf_118 (by decide) rfl rfl ?_
  refine sj_goto (tgt := 93) dX12_weekOf_121 (by decide) ?_
  exact h
def wp_X12_weekOf_93 (G : sj_G) (R : sj_R) (x3 : Int32) (x4 : Int32) (x5 : Int32) (σ : sj_S) : Prop := (x3 ≤ x5 → R = (.ok (x4 - x4 / (nI 2) * (nI 2)), σ)) ∧ (¬ (x3 ≤ x5) → ∃ v2 σ2, sj_C G 7 me_X12_daysOfWeek [.ref (sj_ad G 56), .int x5] σ (.ok v2, σ2) ∧ (wp_X12_weekOf_115 G R x3 x5 (if v2 ≤ 0 then (nI 0) else (nI 1)) x4 σ2))
set_option maxRecDepth 20000 in
theorem t_X12_weekOf_93 {G : sj_G} {R : sj_R} {x3 : Int32} {x4 : Int32} {x5 : Int32} {σ : sj_S} (h : wp_X12_weekOf_93 G R x3 x4 x5 σ) : sj_J G 8 me_X12_weekOf R 93 [.ref (sj_ad G 56), .null, .null, .int x3, .int x4, .int x5] σ [] := by
  unfold wp_X12_weekOf_93 at h
  refine sj_iload dX12_weekOf_93 rfl ?_
  refine sj_iload_n dX12_weekOf_95 (i := 3) rfl rfl ?_
  refine sj_icmp_ge (tgt := 124) dX12_weekOf_96 (by decide) (fun c1 => ?_) (fun c1 => ?_)
  · replace h := h.1 c1
    refine sj_iload dX12_weekOf_124 rfl ?_
    refine sj_iconst (v := (nI 2)) dX12_weekOf_126 (by decide +kernel) ?_
    refine sj_irem dX12_weekOf_127 (by decide +kernel) ?_
    subst h
    exact sj_ret dX12_weekOf_128 rfl rfl
  · replace h := h.2 c1
    refine sj_iload dX12_weekOf_99 rfl ?_
    refine sj_aload_n dX12_weekOf_101 (i := 0) rfl rfl ?_
    refine sj_iload dX12_weekOf_102 rfl ?_
    obtain ⟨v2, σ2, hc2, h⟩ := h
    refine sj_callVi (M' := me_X12_daysOfWeek) (b := 56) (As := [.int x5]) (rest := [.int x4]) dX12_weekOf_104 gX12_weekOf_X12_daysOfWeek rfl hd_X12_daysOfWeek (by decide +kernel) (by decide +kernel) rfl (Nat.le_of_ble_eq_true rfl) (by omega) rfl hc2 ?_
    refine sj_if_le (tgt := 114) dX12_weekOf_107 (by decide) (fun c3 => ?_) (fun c3 => ?_)
    · refine sj_iconst (v := (nI 0)) dX12_weekOf_114 (by decide +kernel) ?_
      try simp only [if_pos c3] at h
      refine sj_fg [4] ?_
      exact t_X12_weekOf_115 h
    · refine sj_iconst (v := (nI 1)) dX12_weekOf_110 (by decide +kernel) ?_
      refine sj_goto (tgt := 115) dX12_weekOf_111 (by decide) ?_
      try simp only [if_neg c3] at h
      refine sj_fg [4] ?_
      exact t_X12_weekOf_115 h
def wp_X12_weekOf_0 (G : sj_G) (R : sj_R) (x1 : Int32) (x2 : Int32) (σ : sj_S) : Prop := ∃ v1 σ1, sj_C G 5 me_X12_noDate [.ref (sj_ad G 56), .int x1] (sj_st σ 56 0 (nI 0)) (.ok v1, σ1) ∧ (¬ v1 = 0 → (wp_X12_weekOf_27 G R σ1)) ∧ (v1 = 0 → ∃ v3 σ3, sj_C G 2 me_X12_in [.int x2, .int (nI 0), .int (nI 2)] σ1 (.ok v3, σ3) ∧ ∃ v4 σ4, sj_C G 2 me_X12_fails [.ref (sj_ad G 56), .int v3, .int (nI 1)] σ3 (.ok v4, σ4) ∧ (v4 = 0 → ∃ v6 σ6, sj_C G 4 me_X12_dayOf [.int x1] σ4 (.ok v6, σ6) ∧ ∃ v7 σ7, sj_C G 5 me_X12_isInYear [.ref (sj_ad G 56), .int v6] σ6 (.ok v7, σ7) ∧ (¬ v7 = 0 → ∃ v9 σ9, sj_C G 4 me_X12_dayOf [.int x1] σ7 (.ok v9, σ9) ∧ ∃ v10 σ10, sj_C G 4 me_X12_dayOf [.int (σ9 56 21)] σ9 (.ok v10, σ10) ∧ (x2 = (nI 1) → ∃ v12 σ12, sj_C G 7 me_X12_daysOfWeek [.ref (sj_ad G 56), .int ((v9 - v10) / (nI 7))] σ10 (.ok v12, σ12) ∧ (¬ v12 = 0 → sj_J G 8 me_X12_weekOf R 93 [.ref (sj_ad G 56), .null, .null, .int ((v9 - v10) / (nI 7)), .int (nI 0), .int (nI 0)] σ12 []) ∧ (v12 = 0 → R = (.ok (-1), σ12))) ∧ (¬ (x2 = (nI 1)) → (¬ x2 = 0 → ∃ v16 σ16, sj_C G 7 me_X12_daysOfWeek [.ref (sj_ad G 56), .int ((v9 - v10) / (nI 7))] σ10 (.ok v16, σ16) ∧ (wp_X12_weekOf_76 G R v16 σ16)) ∧ (x2 = 0 → (wp_X12_weekOf_76 G R ((v9 - v10) / (nI 7)) σ10)))) ∧ (v7 = 0 → R = (.ok (-1), σ7))) ∧ (¬ (v4 = 0) → (wp_X12_weekOf_27 G R σ4)))
set_option maxRecDepth 20000 in
theorem t_X12_weekOf_0 {G : sj_G} {R : sj_R} {x1 : Int32} {x2 : Int32} {σ : sj_S} (h : wp_X12_weekOf_0 G R x1 x2 σ) : sj_J G 8 me_X12_weekOf R 0 [.ref (sj_ad G 56), .int x1, .int x2, .null, .null, .null] σ [] := by
  unfold wp_X12_weekOf_0 at h
  refine sj_aload_n dX12_weekOf_0 (i := 0) rfl rfl ?_
  refine sj_iconst (v := (nI 0)) dX12_weekOf_1 (by decide +kernel) ?_
  refine sj_put (a := 56) (k9 := 0) dX12_weekOf_2 (by decide +kernel) (by decide +kernel) rfl ?_
  refine sj_aload_n dX12_weekOf_5 (i := 0) rfl rfl ?_
  refine sj_iload_n dX12_weekOf_6 (i := 1) rfl rfl ?_
  obtain ⟨v1, σ1, hc1, h⟩ := h
  refine sj_callVi (M' := me_X12_noDate) (b := 56) (As := [.int x1]) (rest := []) dX12_weekOf_7 gX12_weekOf_X12_noDate rfl hd_X12_noDate (by decide +kernel) (by decide +kernel) rfl (Nat.le_of_ble_eq_true rfl) (by omega) rfl hc1 ?_
  refine sj_if_ne (tgt := 27) dX12_weekOf_10 (by decide) (fun c2 => ?_) (fun c2 => ?_)
  · replace h := h.1 c2
    refine sj_fg [0, 1, 2] ?_
    exact t_X12_weekOf_27 h
  · replace h := h.2 c2
    refine sj_aload_n dX12_weekOf_13 (i := 0) rfl rfl ?_
    refine sj_iload_n dX12_weekOf_14 (i := 2) rfl rfl ?_
    refine sj_iconst (v := (nI 0)) dX12_weekOf_15 (by decide +kernel) ?_
    refine sj_iconst (v := (nI 2)) dX12_weekOf_16 (by decide +kernel) ?_
    obtain ⟨v3, σ3, hc3, h⟩ := h
    refine sj_callSi (M' := me_X12_in) (As := [.int x2, .int (nI 0), .int (nI 2)]) (rest := [.ref (sj_ad G 56)]) dX12_weekOf_17 gX12_weekOf_X12_in rfl hd_X12_in (Nat.le_of_ble_eq_true rfl) (by omega) rfl hc3 ?_
    refine sj_iconst (v := (nI 1)) dX12_weekOf_20 (by decide +kernel) ?_
    obtain ⟨v4, σ4, hc4, h⟩ := h
    refine sj_callVi (M' := me_X12_fails) (b := 56) (As := [.int v3, .int (nI 1)]) (rest := []) dX12_weekOf_21 gX12_weekOf_X12_fails rfl hd_X12_fails (by decide +kernel) (by decide +kernel) rfl (Nat.le_of_ble_eq_true rfl) (by omega) rfl hc4 ?_
    refine sj_if_eq (tgt := 29) dX12_weekOf_24 (by decide) (fun c5 => ?_) (fun c5 => ?_)
    · replace h := h.1 c5
      refine sj_aload_n dX12_weekOf_29 (i := 0) rfl rfl ?_
      refine sj_iload_n dX12_weekOf_30 (i := 1) rfl rfl ?_
      obtain ⟨v6, σ6, hc6, h⟩ := h
      refine sj_callSi (M' := me_X12_dayOf) (As := [.int x1]) (rest := [.ref (sj_ad G 56)]) dX12_weekOf_31 gX12_weekOf_X12_dayOf rfl hd_X12_dayOf (Nat.le_of_ble_eq_true rfl) (by omega) rfl hc6 ?_
      obtain ⟨v7, σ7, hc7, h⟩ := h
      refine sj_callVi (M' := me_X12_isInYear) (b := 56) (As := [.int v6]) (rest := []) dX12_weekOf_34 gX12_weekOf_X12_isInYear rfl hd_X12_isInYear (by decide +kernel) (by decide +kernel) rfl (Nat.le_of_ble_eq_true rfl) (by omega) rfl hc7 ?_
      refine sj_if_ne (tgt := 42) dX12_weekOf_37 (by decide) (fun c8 => ?_) (fun c8 => ?_)
      · replace h := h.1 c8
        refine sj_iload_n dX12_weekOf_42 (i := 1) rfl rfl ?_
        obtain ⟨v9, σ9, hc9, h⟩ := h
        refine sj_callSi (M' := me_X12_dayOf) (As := [.int x1]) (rest := []) dX12_weekOf_43 gX12_weekOf_X12_dayOf rfl hd_X12_dayOf (Nat.le_of_ble_eq_true rfl) (by omega) rfl hc9 ?_
        refine sj_aload_n dX12_weekOf_46 (i := 0) rfl rfl ?_
        refine sj_get (a := 56) (k9 := 21) (v := .int (σ9 56 21)) dX12_weekOf_47 (by decide +kernel) rfl ?_
        obtain ⟨v10, σ10, hc10, h⟩ := h
        refine sj_callSi (M' := me_X12_dayOf) (As := [.int (σ9 56 21)]) (rest := [.int v9]) dX12_weekOf_50 gX12_weekOf_X12_dayOf rfl hd_X12_dayOf (Nat.le_of_ble_eq_true rfl) (by omega) rfl hc10 ?_
        refine sj_isub dX12_weekOf_53 ?_
        refine sj_bipush (v := (nI 7)) dX12_weekOf_54 (by decide +kernel) ?_
        refine sj_idiv dX12_weekOf_56 (by decide +kernel) ?_
        refine sj_istore_n dX12_weekOf_57 (i := 3) rfl (by decide) ?_
        refine sj_iload_n dX12_weekOf_58 (i := 2) rfl rfl ?_
        refine sj_iconst (v := (nI 1)) dX12_weekOf_59 (by decide +kernel) ?_
        refine sj_icmp_eq (tgt := 77) dX12_weekOf_60 (by decide) (fun c11 => ?_) (fun c11 => ?_)
        · replace h := h.1 c11
          refine sj_aload_n dX12_weekOf_77 (i := 0) rfl rfl ?_
          refine sj_iload_n dX12_weekOf_78 (i := 3) rfl rfl ?_
          obtain ⟨v12, σ12, hc12, h⟩ := h
          refine sj_callVi (M' := me_X12_daysOfWeek) (b := 56) (As := [.int ((v9 - v10) / (nI 7))]) (rest := []) dX12_weekOf_79 gX12_weekOf_X12_daysOfWeek rfl hd_X12_daysOfWeek (by decide +kernel) (by decide +kernel) rfl (Nat.le_of_ble_eq_true rfl) (by omega) rfl hc12 ?_
          refine sj_if_ne (tgt := 87) dX12_weekOf_82 (by decide) (fun c13 => ?_) (fun c13 => ?_)
          · replace h := h.1 c13
            refine sj_iconst (v := (nI 0)) dX12_weekOf_87 (by decide +kernel) ?_
            refine sj_istore dX12_weekOf_88 (by decide) ?_
            refine sj_iconst (v := (nI 0)) dX12_weekOf_90 (by decide +kernel) ?_
            refine sj_istore dX12_weekOf_91 (by decide) ?_
            refine sj_fg [1, 2] ?_
            exact h
          · replace h := h.2 c13
            refine sj_iconst (v := (-1)) dX12_weekOf_85 (by decide +kernel) ?_
            subst h
            exact sj_ret dX12_weekOf_86 rfl rfl
        · replace h := h.2 c11
          refine sj_iload_n dX12_weekOf_63 (i := 2) rfl rfl ?_
          refine sj_if_ne (tgt := 71) dX12_weekOf_64 (by decide) (fun c15 => ?_) (fun c15 => ?_)
          · replace h := h.1 c15
            refine sj_aload_n dX12_weekOf_71 (i := 0) rfl rfl ?_
            refine sj_iload_n dX12_weekOf_72 (i := 3) rfl rfl ?_
            obtain ⟨v16, σ16, hc16, h⟩ := h
            refine sj_callVi (M' := me_X12_daysOfWeek) (b := 56) (As := [.int ((v9 - v10) / (nI 7))]) (rest := []) dX12_weekOf_73 gX12_weekOf_X12_daysOfWeek rfl hd_X12_daysOfWeek (by decide +kernel) (by decide +kernel) rfl (Nat.le_of_ble_eq_true rfl) (by omega) rfl hc16 ?_
            refine sj_fg [0, 1, 2, 3] ?_
            exact t_X12_weekOf_76 h
          · replace h := h.2 c15
            refine sj_iload_n dX12_weekOf_67 (i := 3) rfl rfl ?_
            refine sj_goto (tgt := 76) dX12_weekOf_68 (by decide) ?_
            refine sj_fg [0, 1, 2, 3] ?_
            exact t_X12_weekOf_76 h
      · replace h := h.2 c8
        refine sj_iconst (v := (-1)) dX12_weekOf_40 (by decide +kernel) ?_
        subst h
        exact sj_ret dX12_weekOf_41 rfl rfl
    · replace h := h.2 c5
      refine sj_fg [0, 1, 2] ?_
      exact t_X12_weekOf_27 h
theorem c_X12_weekOf {G : sj_G} (ok : sj_ok G) {R : sj_R} {x1 : Int32} {x2 : Int32} {σ : sj_S} (h : wp_X12_weekOf_0 G R x1 x2 σ) : sj_C G 8 me_X12_weekOf [.ref (sj_ad G 56), .int x1, .int x2] σ R :=
  sj_enter ok (by decide +kernel) rfl rfl (Nat.le_of_ble_eq_true rfl) (by simp [Value.category]) (t_X12_weekOf_0 h)
def wp_X12_dayOfWeek_24 (G : sj_G) (R : sj_R) (s0 : Int32) (σ : sj_S) : Prop := R = (.ok s0, σ)
set_option maxRecDepth 20000 in
theorem t_X12_dayOfWeek_24 {G : sj_G} {R : sj_R} {s0 : Int32} {σ : sj_S} (h : wp_X12_dayOfWeek_24 G R s0 σ) : sj_J G 6 me_X12_dayOfWeek R 24 [.null, .null] σ [.int s0] := by
  unfold wp_X12_dayOfWeek_24 at h
  subst h
  exact sj_ret dX12_dayOfWeek_24 rfl rfl
def wp_X12_dayOfWeek_0 (G : sj_G) (R : sj_R) (x1 : Int32) (σ : sj_S) : Prop := ∃ v1 σ1, sj_C G 5 me_X12_noDate [.ref (sj_ad G 56), .int x1] (sj_st σ 56 0 (nI 0)) (.ok v1, σ1) ∧ (v1 = 0 → ∃ v4 σ4, sj_C G 4 me_X12_dayOf [.int x1] σ1 (.ok v4, σ4) ∧ (wp_X12_dayOfWeek_24 G R (v4 - v4 / (nI 7) * (nI 7)) σ4)) ∧ (¬ (v1 = 0) → (wp_X12_dayOfWeek_24 G R (nI 0) σ1))
set_option maxRecDepth 20000 in
theorem t_X12_dayOfWeek_0 {G : sj_G} {R : sj_R} {x1 : Int32} {σ : sj_S} (h : wp_X12_dayOfWeek_0 G R x1 σ) : sj_J G 6 me_X12_dayOfWeek R 0 [.ref (sj_ad G 56), .int x1] σ [] := by
  unfold wp_X12_dayOfWeek_0 at h
  refine sj_aload_n dX12_dayOfWeek_0 (i := 0) rfl rfl ?_
  refine sj_iconst (v := (nI 0)) dX12_dayOfWeek_1 (by decide +kernel) ?_
  refine sj_put (a := 56) (k9 := 0) dX12_dayOfWeek_2 (by decide +kernel) (by decide +kernel) rfl ?_
  refine sj_aload_n dX12_dayOfWeek_5 (i := 0) rfl rfl ?_
  refine sj_iload_n dX12_dayOfWeek_6 (i := 1) rfl rfl ?_
  obtain ⟨v1, σ1, hc1, h⟩ := h
  refine sj_callVi (M' := me_X12_noDate) (b := 56) (As := [.int x1]) (rest := []) dX12_dayOfWeek_7 gX12_dayOfWeek_X12_noDate rfl hd_X12_noDate (by decide +kernel) (by decide +kernel) rfl (Nat.le_of_ble_eq_true rfl) (by omega) rfl hc1 ?_
  refine sj_if_eq (tgt := 17) dX12_dayOfWeek_10 (by decide) (fun c3 => ?_) (fun c3 => ?_)
  · replace h := h.1 c3
    refine sj_iload_n dX12_dayOfWeek_17 (i := 1) rfl rfl ?_
    obtain ⟨v4, σ4, hc4, h⟩ := h
    refine sj_callSi (M' := me_X12_dayOf) (As := [.int x1]) (rest := []) dX12_dayOfWeek_18 gX12_dayOfWeek_X12_dayOf rfl hd_X12_dayOf (Nat.le_of_ble_eq_true rfl) (by omega) rfl hc4 ?_
    refine sj_bipush (v := (nI 7)) dX12_dayOfWeek_21 (by decide +kernel) ?_
    refine sj_irem dX12_dayOfWeek_23 (by decide +kernel) ?_
    refine sj_fg [0, 1] ?_
    exact t_X12_dayOfWeek_24 h
  · replace h := h.2 c3
    refine sj_iconst (v := (nI 0)) dX12_dayOfWeek_13 (by decide +kernel) ?_
    refine sj_goto (tgt := 24) dX12_dayOfWeek_14 (by decide) ?_
    refine sj_fg [0, 1] ?_
    exact t_X12_dayOfWeek_24 h
theorem c_X12_dayOfWeek {G : sj_G} (ok : sj_ok G) {R : sj_R} {x1 : Int32} {σ : sj_S} (h : wp_X12_dayOfWeek_0 G R x1 σ) : sj_C G 6 me_X12_dayOfWeek [.ref (sj_ad G 56), .int x1] σ R :=
  sj_enter ok (by decide +kernel) rfl rfl (Nat.le_of_ble_eq_true rfl) (by simp [Value.category]) (t_X12_dayOfWeek_0 h)
def wp_X12_later_44 (G : sj_G) (R : sj_R) (s0 : Int32) (σ : sj_S) : Prop := R = (.ok s0, σ)
set_option maxRecDepth 20000 in
theorem t_X12_later_44 {G : sj_G} {R : sj_R} {s0 : Int32} {σ : sj_S} (h : wp_X12_later_44 G R s0 σ) : sj_J G 6 me_X12_later R 44 [.null, .null, .null] σ [.int s0] := by
  unfold wp_X12_later_44 at h
  subst h
  exact sj_ret dX12_later_44 rfl rfl
def wp_X12_later_31 (G : sj_G) (R : sj_R) (σ : sj_S) : Prop := (wp_X12_later_44 G R (nI 0) σ)
set_option maxRecDepth 20000 in
theorem t_X12_later_31 {G : sj_G} {R : sj_R} {σ : sj_S} (h : wp_X12_later_31 G R σ) : sj_J G 6 me_X12_later R 31 [.null, .null, .null] σ [] := by
  unfold wp_X12_later_31 at h
  refine sj_iconst (v := (nI 0)) dX12_later_31 (by decide +kernel) ?_
  refine sj_goto (tgt := 44) dX12_later_32 (by decide) ?_
  exact t_X12_later_44 h
def wp_X12_later_0 (G : sj_G) (R : sj_R) (x1 : Int32) (x2 : Int32) (σ : sj_S) : Prop := ∃ v1 σ1, sj_C G 5 me_X12_noDate [.ref (sj_ad G 56), .int x1] (sj_st σ 56 0 (nI 0)) (.ok v1, σ1) ∧ (¬ v1 = 0 → (wp_X12_later_31 G R σ1)) ∧ (v1 = 0 → ∃ v4 σ4, sj_C G 2 me_X12_in [.int x2, .int (-1000), .int (nI 1000)] σ1 (.ok v4, σ4) ∧ ∃ v5 σ5, sj_C G 2 me_X12_fails [.ref (sj_ad G 56), .int v4, .int (nI 1)] σ4 (.ok v5, σ5) ∧ (v5 = 0 → ∃ v8 σ8, sj_C G 4 me_X12_dayOf [.int x1] σ5 (.ok v8, σ8) ∧ ∃ v9 σ9, sj_C G 4 me_X12_dateOfDay [.int (v8 + x2)] σ8 (.ok v9, σ9) ∧ (wp_X12_later_44 G R v9 σ9)) ∧ (¬ (v5 = 0) → (wp_X12_later_31 G R σ5)))
set_option maxRecDepth 20000 in
theorem t_X12_later_0 {G : sj_G} {R : sj_R} {x1 : Int32} {x2 : Int32} {σ : sj_S} (h : wp_X12_later_0 G R x1 x2 σ) : sj_J G 6 me_X12_later R 0 [.ref (sj_ad G 56), .int x1, .int x2] σ [] := by
  unfold wp_X12_later_0 at h
  refine sj_aload_n dX12_later_0 (i := 0) rfl rfl ?_
  refine sj_iconst (v := (nI 0)) dX12_later_1 (by decide +kernel) ?_
  refine sj_put (a := 56) (k9 := 0) dX12_later_2 (by decide +kernel) (by decide +kernel) rfl ?_
  refine sj_aload_n dX12_later_5 (i := 0) rfl rfl ?_
  refine sj_iload_n dX12_later_6 (i := 1) rfl rfl ?_
  obtain ⟨v1, σ1, hc1, h⟩ := h
  refine sj_callVi (M' := me_X12_noDate) (b := 56) (As := [.int x1]) (rest := []) dX12_later_7 gX12_later_X12_noDate rfl hd_X12_noDate (by decide +kernel) (by decide +kernel) rfl (Nat.le_of_ble_eq_true rfl) (by omega) rfl hc1 ?_
  refine sj_if_ne (tgt := 31) dX12_later_10 (by decide) (fun c3 => ?_) (fun c3 => ?_)
  · replace h := h.1 c3
    refine sj_fg [0, 1, 2] ?_
    exact t_X12_later_31 h
  · replace h := h.2 c3
    refine sj_aload_n dX12_later_13 (i := 0) rfl rfl ?_
    refine sj_iload_n dX12_later_14 (i := 2) rfl rfl ?_
    refine sj_sipush (v := (-1000)) dX12_later_15 (by decide +kernel) ?_
    refine sj_sipush (v := (nI 1000)) dX12_later_18 (by decide +kernel) ?_
    obtain ⟨v4, σ4, hc4, h⟩ := h
    refine sj_callSi (M' := me_X12_in) (As := [.int x2, .int (-1000), .int (nI 1000)]) (rest := [.ref (sj_ad G 56)]) dX12_later_21 gX12_later_X12_in rfl hd_X12_in (Nat.le_of_ble_eq_true rfl) (by omega) rfl hc4 ?_
    refine sj_iconst (v := (nI 1)) dX12_later_24 (by decide +kernel) ?_
    obtain ⟨v5, σ5, hc5, h⟩ := h
    refine sj_callVi (M' := me_X12_fails) (b := 56) (As := [.int v4, .int (nI 1)]) (rest := []) dX12_later_25 gX12_later_X12_fails rfl hd_X12_fails (by decide +kernel) (by decide +kernel) rfl (Nat.le_of_ble_eq_true rfl) (by omega) rfl hc5 ?_
    refine sj_if_eq (tgt := 35) dX12_later_28 (by decide) (fun c7 => ?_) (fun c7 => ?_)
    · replace h := h.1 c7
      refine sj_iload_n dX12_later_35 (i := 1) rfl rfl ?_
      obtain ⟨v8, σ8, hc8, h⟩ := h
      refine sj_callSi (M' := me_X12_dayOf) (As := [.int x1]) (rest := []) dX12_later_36 gX12_later_X12_dayOf rfl hd_X12_dayOf (Nat.le_of_ble_eq_true rfl) (by omega) rfl hc8 ?_
      refine sj_iload_n dX12_later_39 (i := 2) rfl rfl ?_
      refine sj_iadd dX12_later_40 ?_
      obtain ⟨v9, σ9, hc9, h⟩ := h
      refine sj_callSi (M' := me_X12_dateOfDay) (As := [.int (v8 + x2)]) (rest := []) dX12_later_41 gX12_later_X12_dateOfDay rfl hd_X12_dateOfDay (Nat.le_of_ble_eq_true rfl) (by omega) rfl hc9 ?_
      refine sj_fg [0, 1, 2] ?_
      exact t_X12_later_44 h
    · replace h := h.2 c7
      refine sj_fg [0, 1, 2] ?_
      exact t_X12_later_31 h
theorem c_X12_later {G : sj_G} (ok : sj_ok G) {R : sj_R} {x1 : Int32} {x2 : Int32} {σ : sj_S} (h : wp_X12_later_0 G R x1 x2 σ) : sj_C G 6 me_X12_later [.ref (sj_ad G 56), .int x1, .int x2] σ R :=
  sj_enter ok (by decide +kernel) rfl rfl (Nat.le_of_ble_eq_true rfl) (by simp [Value.category]) (t_X12_later_0 h)
def wp_X12_lostLessons_27 (G : sj_G) (R : sj_R) (σ : sj_S) : Prop := R = (.ok (nI 0), σ)
set_option maxRecDepth 20000 in
theorem t_X12_lostLessons_27 {G : sj_G} {R : sj_R} {σ : sj_S} (h : wp_X12_lostLessons_27 G R σ) : sj_J G 5 me_X12_lostLessons R 27 [.null, .null, .null, .null, .null, .null] σ [] := by
  unfold wp_X12_lostLessons_27 at h
  refine sj_iconst (v := (nI 0)) dX12_lostLessons_27 (by decide +kernel) ?_
  subst h
  exact sj_ret dX12_lostLessons_28 rfl rfl
def wp_X12_lostLessons_132 (G : sj_G) (R : sj_R) (x1 : Int32) (x2 : Int32) (x3 : Int32) (x4 : Int32) (σ : sj_S) : Prop := sj_J G 5 me_X12_lostLessons R 42 [.ref (sj_ad G 56), .int x1, .int x2, .int x3, .int (x4 + (nI 1)), .null] σ []
set_option maxRecDepth 20000 in
theorem t_X12_lostLessons_132 {G : sj_G} {R : sj_R} {x1 : Int32} {x2 : Int32} {x3 : Int32} {x4 : Int32} {σ : sj_S} (h : wp_X12_lostLessons_132 G R x1 x2 x3 x4 σ) : sj_J G 5 me_X12_lostLessons R 132 [.ref (sj_ad G 56), .int x1, .int x2, .int x3, .int x4, .null] σ [] := by
  unfold wp_X12_lostLessons_132 at h
  refine sj_iinc (v := (x4 + (nI 1))) dX12_lostLessons_132 (by decide) rfl rfl ?_
  refine sj_goto (tgt := 42) dX12_lostLessons_135 (by decide) ?_
  exact h
def wp_X12_lostLessons_42 (G : sj_G) (R : sj_R) (x1 : Int32) (x2 : Int32) (x3 : Int32) (x4 : Int32) (σ : sj_S) : Prop := ((x2 + (nI 280)) ≤ x4 → R = (.ok x3, σ)) ∧ (¬ ((x2 + (nI 280)) ≤ x4) → ((nI 5) ≤ (x4 - x4 / (nI 7) * (nI 7)) → (wp_X12_lostLessons_132 G R x1 x2 x3 x4 σ)) ∧ (¬ ((nI 5) ≤ (x4 - x4 / (nI 7) * (nI 7))) → ∃ v4 σ4, sj_C G 3 me_X12_isHoliday [.ref (sj_ad G 56), .int x4] σ (.ok v4, σ4) ∧ (¬ v4 = 0 → sj_J G 5 me_X12_lostLessons R 76 [.ref (sj_ad G 56), .int x1, .int x2, .int x3, .int x4, .int (nI 0)] σ4 []) ∧ (v4 = 0 → (wp_X12_lostLessons_132 G R x1 x2 x3 x4 σ4))))
set_option maxRecDepth 20000 in
theorem t_X12_lostLessons_42 {G : sj_G} {R : sj_R} {x1 : Int32} {x2 : Int32} {x3 : Int32} {x4 : Int32} {σ : sj_S} (h : wp_X12_lostLessons_42 G R x1 x2 x3 x4 σ) : sj_J G 5 me_X12_lostLessons R 42 [.ref (sj_ad G 56), .int x1, .int x2, .int x3, .int x4, .null] σ [] := by
  unfold wp_X12_lostLessons_42 at h
  refine sj_iload dX12_lostLessons_42 rfl ?_
  refine sj_iload_n dX12_lostLessons_44 (i := 2) rfl rfl ?_
  refine sj_sipush (v := (nI 280)) dX12_lostLessons_45 (by decide +kernel) ?_
  refine sj_iadd dX12_lostLessons_48 ?_
  refine sj_icmp_ge (tgt := 138) dX12_lostLessons_49 (by decide) (fun c1 => ?_) (fun c1 => ?_)
  · replace h := h.1 c1
    refine sj_iload_n dX12_lostLessons_138 (i := 3) rfl rfl ?_
    subst h
    exact sj_ret dX12_lostLessons_139 rfl rfl
  · replace h := h.2 c1
    refine sj_iload dX12_lostLessons_52 rfl ?_
    refine sj_bipush (v := (nI 7)) dX12_lostLessons_54 (by decide +kernel) ?_
    refine sj_irem dX12_lostLessons_56 (by decide +kernel) ?_
    refine sj_iconst (v := (nI 5)) dX12_lostLessons_57 (by decide +kernel) ?_
    refine sj_icmp_ge (tgt := 132) dX12_lostLessons_58 (by decide) (fun c3 => ?_) (fun c3 => ?_)
    · replace h := h.1 c3
      exact t_X12_lostLessons_132 h
    · replace h := h.2 c3
      refine sj_aload_n dX12_lostLessons_61 (i := 0) rfl rfl ?_
      refine sj_iload dX12_lostLessons_62 rfl ?_
      obtain ⟨v4, σ4, hc4, h⟩ := h
      refine sj_callVi (M' := me_X12_isHoliday) (b := 56) (As := [.int x4]) (rest := []) dX12_lostLessons_64 gX12_lostLessons_X12_isHoliday rfl hd_X12_isHoliday (by decide +kernel) (by decide +kernel) rfl (Nat.le_of_ble_eq_true rfl) (by omega) rfl hc4 ?_
      refine sj_if_ne (tgt := 73) dX12_lostLessons_67 (by decide) (fun c6 => ?_) (fun c6 => ?_)
      · replace h := h.1 c6
        refine sj_iconst (v := (nI 0)) dX12_lostLessons_73 (by decide +kernel) ?_
        refine sj_istore dX12_lostLessons_74 (by decide) ?_
        exact h
      · replace h := h.2 c6
        refine sj_goto (tgt := 132) dX12_lostLessons_70 (by decide) ?_
        exact t_X12_lostLessons_132 h
def wp_X12_lostLessons_124 (G : sj_G) (R : sj_R) (x1 : Int32) (x2 : Int32) (x4 : Int32) (x5 : Int32) (s0 : Int32) (s1 : Int32) (σ : sj_S) : Prop := sj_J G 5 me_X12_lostLessons R 76 [.ref (sj_ad G 56), .int x1, .int x2, .int (s1 + s0), .int x4, .int (x5 + (nI 1))] σ []
set_option maxRecDepth 20000 in
theorem t_X12_lostLessons_124 {G : sj_G} {R : sj_R} {x1 : Int32} {x2 : Int32} {x4 : Int32} {x5 : Int32} {s0 : Int32} {s1 : Int32} {σ : sj_S} (h : wp_X12_lostLessons_124 G R x1 x2 x4 x5 s0 s1 σ) : sj_J G 5 me_X12_lostLessons R 124 [.ref (sj_ad G 56), .int x1, .int x2, .null, .int x4, .int x5] σ [.int s0, .int s1] := by
  unfold wp_X12_lostLessons_124 at h
  refine sj_iadd dX12_lostLessons_124 ?_
  refine sj_istore_n dX12_lostLessons_125 (i := 3) rfl (by decide) ?_
  refine sj_iinc (v := (x5 + (nI 1))) dX12_lostLessons_126 (by decide) rfl rfl ?_
  refine sj_goto (tgt := 76) dX12_lostLessons_129 (by decide) ?_
  exact h
def wp_X12_lostLessons_76 (G : sj_G) (R : sj_R) (x1 : Int32) (x2 : Int32) (x3 : Int32) (x4 : Int32) (x5 : Int32) (σ : sj_S) : Prop := ∃ v1 σ1, sj_C G 2 me_X12_many [.ref (sj_ad G 56)] σ (.ok v1, σ1) ∧ (v1 ≤ x5 → (wp_X12_lostLessons_132 G R x1 x2 x3 x4 σ1)) ∧ (¬ (v1 ≤ x5) → vp_in ((nI 0) + x5) 128 ∧ (((σ1 57 ((nI 0) + x5).toNatClampNeg) = x1) → vp_in ((nI 116) + x5) 128) ∧ (wp_X12_lostLessons_124 G R x1 x2 x4 x5 (if (σ1 57 ((nI 0) + x5).toNatClampNeg) = x1 then (if ((σ1 57 ((nI 116) + x5).toNatClampNeg) / (nI 4)) = (x4 - x4 / (nI 7) * (nI 7)) then (nI 1) else (nI 0)) else (nI 0)) x3 σ1))
set_option maxRecDepth 20000 in
theorem t_X12_lostLessons_76 {G : sj_G} {R : sj_R} {x1 : Int32} {x2 : Int32} {x3 : Int32} {x4 : Int32} {x5 : Int32} {σ : sj_S} (h : wp_X12_lostLessons_76 G R x1 x2 x3 x4 x5 σ) : sj_J G 5 me_X12_lostLessons R 76 [.ref (sj_ad G 56), .int x1, .int x2, .int x3, .int x4, .int x5] σ [] := by
  unfold wp_X12_lostLessons_76 at h
  refine sj_iload dX12_lostLessons_76 rfl ?_
  refine sj_aload_n dX12_lostLessons_78 (i := 0) rfl rfl ?_
  obtain ⟨v1, σ1, hc1, h⟩ := h
  refine sj_callVi (M' := me_X12_many) (b := 56) (As := []) (rest := [.int x5]) dX12_lostLessons_79 gX12_lostLessons_X12_many rfl hd_X12_many (by decide +kernel) (by decide +kernel) rfl (Nat.le_of_ble_eq_true rfl) (by omega) rfl hc1 ?_
  refine sj_icmp_ge (tgt := 132) dX12_lostLessons_82 (by decide) (fun c5 => ?_) (fun c5 => ?_)
  · replace h := h.1 c5
    refine sj_fg [5] ?_
    exact t_X12_lostLessons_132 h
  · replace h := h.2 c5
    refine sj_iload_n dX12_lostLessons_85 (i := 3) rfl rfl ?_
    refine sj_aload_n dX12_lostLessons_86 (i := 0) rfl rfl ?_
    refine sj_get (a := 56) (k9 := 1) (v := .ref (sj_ad G 57)) dX12_lostLessons_87 (by decide +kernel) rfl ?_
    refine sj_iconst (v := (nI 0)) dX12_lostLessons_90 (by decide +kernel) ?_
    refine sj_iload dX12_lostLessons_91 rfl ?_
    refine sj_iadd dX12_lostLessons_93 ?_
    obtain ⟨b6, h⟩ := h
    refine sj_iald (a := 57) (j := ((nI 0) + x5).toNatClampNeg) (x := (σ1 57 ((nI 0) + x5).toNatClampNeg)) dX12_lostLessons_94 rfl (by decide +kernel) b6 rfl rfl ?_
    refine sj_iload_n dX12_lostLessons_95 (i := 1) rfl rfl ?_
    obtain ⟨f10, h⟩ := h
    refine sj_icmp_ne (tgt := 123) dX12_lostLessons_96 (by decide) (fun c7 => ?_) (fun c7 => ?_)
    · refine sj_iconst (v := (nI 0)) dX12_lostLessons_123 (by decide +kernel) ?_
      try simp only [if_neg c7] at h
      refine sj_fg [3] ?_
      exact t_X12_lostLessons_124 h
    · have b8 := f10 c7
      refine sj_aload_n dX12_lostLessons_99 (i := 0) rfl rfl ?_
      refine sj_get (a := 56) (k9 := 1) (v := .ref (sj_ad G 57)) dX12_lostLessons_100 (by decide +kernel) rfl ?_
      refine sj_bipush (v := (nI 116)) dX12_lostLessons_103 (by decide +kernel) ?_
      refine sj_iload dX12_lostLessons_105 rfl ?_
      refine sj_iadd dX12_lostLessons_107 ?_
      refine sj_iald (a := 57) (j := ((nI 116) + x5).toNatClampNeg) (x := (σ1 57 ((nI 116) + x5).toNatClampNeg)) dX12_lostLessons_108 rfl (by decide +kernel) b8 rfl rfl ?_
      refine sj_iconst (v := (nI 4)) dX12_lostLessons_109 (by decide +kernel) ?_
      refine sj_idiv dX12_lostLessons_110 (by decide +kernel) ?_
      refine sj_iload dX12_lostLessons_111 rfl ?_
      refine sj_bipush (v := (nI 7)) dX12_lostLessons_113 (by decide +kernel) ?_
      refine sj_irem dX12_lostLessons_115 (by decide +kernel) ?_
      refine sj_icmp_ne (tgt := 123) dX12_lostLessons_116 (by decide) (fun c9 => ?_) (fun c9 => ?_)
      · refine sj_iconst (v := (nI 0)) dX12_lostLessons_123 (by decide +kernel) ?_
        try simp only [if_pos c7, if_neg c9] at h
        refine sj_fg [3] ?_
        exact t_X12_lostLessons_124 h
      · refine sj_iconst (v := (nI 1)) dX12_lostLessons_119 (by decide +kernel) ?_
        refine sj_goto (tgt := 124) dX12_lostLessons_120 (by decide) ?_
        try simp only [if_pos c7, if_pos c9] at h
        refine sj_fg [3] ?_
        exact t_X12_lostLessons_124 h
def wp_X12_lostLessons_0 (G : sj_G) (R : sj_R) (x1 : Int32) (σ : sj_S) : Prop := ∃ v1 σ1, sj_C G 2 me_X12_in [.int x1, .int (nI 0), .int (nI 3)] (sj_st σ 56 0 (nI 0)) (.ok v1, σ1) ∧ ∃ v2 σ2, sj_C G 2 me_X12_fails [.ref (sj_ad G 56), .int v1, .int (nI 1)] σ1 (.ok v2, σ2) ∧ (¬ v2 = 0 → (wp_X12_lostLessons_27 G R σ2)) ∧ (v2 = 0 → ∃ v4 σ4, sj_C G 3 me_X12_noTable [.ref (sj_ad G 56), .int (nI 2)] σ2 (.ok v4, σ4) ∧ (v4 = 0 → ∃ v6 σ6, sj_C G 4 me_X12_dayOf [.int (σ4 56 21)] σ4 (.ok v6, σ6) ∧ sj_J G 5 me_X12_lostLessons R 42 [.ref (sj_ad G 56), .int x1, .int v6, .int (nI 0), .int v6, .null] σ6 []) ∧ (¬ (v4 = 0) → (wp_X12_lostLessons_27 G R σ4)))
set_option maxRecDepth 20000 in
theorem t_X12_lostLessons_0 {G : sj_G} {R : sj_R} {x1 : Int32} {σ : sj_S} (h : wp_X12_lostLessons_0 G R x1 σ) : sj_J G 5 me_X12_lostLessons R 0 [.ref (sj_ad G 56), .int x1, .null, .null, .null, .null] σ [] := by
  unfold wp_X12_lostLessons_0 at h
  refine sj_aload_n dX12_lostLessons_0 (i := 0) rfl rfl ?_
  refine sj_iconst (v := (nI 0)) dX12_lostLessons_1 (by decide +kernel) ?_
  refine sj_put (a := 56) (k9 := 0) dX12_lostLessons_2 (by decide +kernel) (by decide +kernel) rfl ?_
  refine sj_aload_n dX12_lostLessons_5 (i := 0) rfl rfl ?_
  refine sj_iload_n dX12_lostLessons_6 (i := 1) rfl rfl ?_
  refine sj_iconst (v := (nI 0)) dX12_lostLessons_7 (by decide +kernel) ?_
  refine sj_iconst (v := (nI 3)) dX12_lostLessons_8 (by decide +kernel) ?_
  obtain ⟨v1, σ1, hc1, h⟩ := h
  refine sj_callSi (M' := me_X12_in) (As := [.int x1, .int (nI 0), .int (nI 3)]) (rest := [.ref (sj_ad G 56)]) dX12_lostLessons_9 gX12_lostLessons_X12_in rfl hd_X12_in (Nat.le_of_ble_eq_true rfl) (by omega) rfl hc1 ?_
  refine sj_iconst (v := (nI 1)) dX12_lostLessons_12 (by decide +kernel) ?_
  obtain ⟨v2, σ2, hc2, h⟩ := h
  refine sj_callVi (M' := me_X12_fails) (b := 56) (As := [.int v1, .int (nI 1)]) (rest := []) dX12_lostLessons_13 gX12_lostLessons_X12_fails rfl hd_X12_fails (by decide +kernel) (by decide +kernel) rfl (Nat.le_of_ble_eq_true rfl) (by omega) rfl hc2 ?_
  refine sj_if_ne (tgt := 27) dX12_lostLessons_16 (by decide) (fun c3 => ?_) (fun c3 => ?_)
  · replace h := h.1 c3
    refine sj_fg [0, 1] ?_
    exact t_X12_lostLessons_27 h
  · replace h := h.2 c3
    refine sj_aload_n dX12_lostLessons_19 (i := 0) rfl rfl ?_
    refine sj_iconst (v := (nI 2)) dX12_lostLessons_20 (by decide +kernel) ?_
    obtain ⟨v4, σ4, hc4, h⟩ := h
    refine sj_callVi (M' := me_X12_noTable) (b := 56) (As := [.int (nI 2)]) (rest := []) dX12_lostLessons_21 gX12_lostLessons_X12_noTable rfl hd_X12_noTable (by decide +kernel) (by decide +kernel) rfl (Nat.le_of_ble_eq_true rfl) (by omega) rfl hc4 ?_
    refine sj_if_eq (tgt := 29) dX12_lostLessons_24 (by decide) (fun c5 => ?_) (fun c5 => ?_)
    · replace h := h.1 c5
      refine sj_aload_n dX12_lostLessons_29 (i := 0) rfl rfl ?_
      refine sj_get (a := 56) (k9 := 21) (v := .int (σ4 56 21)) dX12_lostLessons_30 (by decide +kernel) rfl ?_
      obtain ⟨v6, σ6, hc6, h⟩ := h
      refine sj_callSi (M' := me_X12_dayOf) (As := [.int (σ4 56 21)]) (rest := []) dX12_lostLessons_33 gX12_lostLessons_X12_dayOf rfl hd_X12_dayOf (Nat.le_of_ble_eq_true rfl) (by omega) rfl hc6 ?_
      refine sj_istore_n dX12_lostLessons_36 (i := 2) rfl (by decide) ?_
      refine sj_iconst (v := (nI 0)) dX12_lostLessons_37 (by decide +kernel) ?_
      refine sj_istore_n dX12_lostLessons_38 (i := 3) rfl (by decide) ?_
      refine sj_iload_n dX12_lostLessons_39 (i := 2) rfl rfl ?_
      refine sj_istore dX12_lostLessons_40 (by decide) ?_
      exact h
    · replace h := h.2 c5
      refine sj_fg [0, 1] ?_
      exact t_X12_lostLessons_27 h
theorem c_X12_lostLessons {G : sj_G} (ok : sj_ok G) {R : sj_R} {x1 : Int32} {σ : sj_S} (h : wp_X12_lostLessons_0 G R x1 σ) : sj_C G 5 me_X12_lostLessons [.ref (sj_ad G 56), .int x1] σ R :=
  sj_enter ok (by decide +kernel) rfl rfl (Nat.le_of_ble_eq_true rfl) (by simp [Value.category]) (t_X12_lostLessons_0 h)
def wp_X12_bytesIn_26 (G : sj_G) (R : sj_R) (x0 : Int32) (x2 : Int32) (s0 : Int32) (s1 : Int32) (σ : sj_S) : Prop := sj_J G 2 me_X12_bytesIn R 4 [.int x0, .int (s1 + s0), .int (x2 + (nI 8))] σ []
set_option maxRecDepth 20000 in
theorem t_X12_bytesIn_26 {G : sj_G} {R : sj_R} {x0 : Int32} {x2 : Int32} {s0 : Int32} {s1 : Int32} {σ : sj_S} (h : wp_X12_bytesIn_26 G R x0 x2 s0 s1 σ) : sj_J G 2 me_X12_bytesIn R 26 [.int x0, .null, .int x2] σ [.int s0, .int s1] := by
  unfold wp_X12_bytesIn_26 at h
  refine sj_iadd dX12_bytesIn_26 ?_
  refine sj_istore_n dX12_bytesIn_27 (i := 1) rfl (by decide) ?_
  refine sj_iinc (v := (x2 + (nI 8))) dX12_bytesIn_28 (by decide) rfl rfl ?_
  refine sj_goto (tgt := 4) dX12_bytesIn_31 (by decide) ?_
  exact h
def wp_X12_bytesIn_4 (G : sj_G) (R : sj_R) (x0 : Int32) (x1 : Int32) (x2 : Int32) (σ : sj_S) : Prop := ((nI 32) ≤ x2 → R = (.ok x1, σ)) ∧ (¬ ((nI 32) ≤ x2) → (wp_X12_bytesIn_26 G R x0 x2 (if ((x0 >>> (x2 &&& 31)) &&& (nI 255)) = 0 then (nI 0) else (nI 1)) x1 σ))
set_option maxRecDepth 20000 in
theorem t_X12_bytesIn_4 {G : sj_G} {R : sj_R} {x0 : Int32} {x1 : Int32} {x2 : Int32} {σ : sj_S} (h : wp_X12_bytesIn_4 G R x0 x1 x2 σ) : sj_J G 2 me_X12_bytesIn R 4 [.int x0, .int x1, .int x2] σ [] := by
  unfold wp_X12_bytesIn_4 at h
  refine sj_iload_n dX12_bytesIn_4 (i := 2) rfl rfl ?_
  refine sj_bipush (v := (nI 32)) dX12_bytesIn_5 (by decide +kernel) ?_
  refine sj_icmp_ge (tgt := 34) dX12_bytesIn_7 (by decide) (fun c1 => ?_) (fun c1 => ?_)
  · replace h := h.1 c1
    refine sj_iload_n dX12_bytesIn_34 (i := 1) rfl rfl ?_
    subst h
    exact sj_ret dX12_bytesIn_35 rfl rfl
  · replace h := h.2 c1
    refine sj_iload_n dX12_bytesIn_10 (i := 1) rfl rfl ?_
    refine sj_iload_n dX12_bytesIn_11 (i := 0) rfl rfl ?_
    refine sj_iload_n dX12_bytesIn_12 (i := 2) rfl rfl ?_
    refine sj_ishr dX12_bytesIn_13 ?_
    refine sj_sipush (v := (nI 255)) dX12_bytesIn_14 (by decide +kernel) ?_
    refine sj_iand dX12_bytesIn_17 ?_
    refine sj_if_ne (tgt := 25) dX12_bytesIn_18 (by decide) (fun c2 => ?_) (fun c2 => ?_)
    · refine sj_iconst (v := (nI 1)) dX12_bytesIn_25 (by decide +kernel) ?_
      try simp only [if_neg c2] at h
      refine sj_fg [1] ?_
      exact t_X12_bytesIn_26 h
    · refine sj_iconst (v := (nI 0)) dX12_bytesIn_21 (by decide +kernel) ?_
      refine sj_goto (tgt := 26) dX12_bytesIn_22 (by decide) ?_
      try simp only [if_pos c2] at h
      refine sj_fg [1] ?_
      exact t_X12_bytesIn_26 h
def wp_X12_bytesIn_0 (G : sj_G) (R : sj_R) (x0 : Int32) (σ : sj_S) : Prop := sj_J G 2 me_X12_bytesIn R 4 [.int x0, .int (nI 0), .int (nI 0)] σ []
set_option maxRecDepth 20000 in
theorem t_X12_bytesIn_0 {G : sj_G} {R : sj_R} {x0 : Int32} {σ : sj_S} (h : wp_X12_bytesIn_0 G R x0 σ) : sj_J G 2 me_X12_bytesIn R 0 [.int x0, .null, .null] σ [] := by
  unfold wp_X12_bytesIn_0 at h
  refine sj_iconst (v := (nI 0)) dX12_bytesIn_0 (by decide +kernel) ?_
  refine sj_istore_n dX12_bytesIn_1 (i := 1) rfl (by decide) ?_
  refine sj_iconst (v := (nI 0)) dX12_bytesIn_2 (by decide +kernel) ?_
  refine sj_istore_n dX12_bytesIn_3 (i := 2) rfl (by decide) ?_
  exact h
theorem c_X12_bytesIn {G : sj_G} (ok : sj_ok G) {R : sj_R} {x0 : Int32} {σ : sj_S} (h : wp_X12_bytesIn_0 G R x0 σ) : sj_C G 2 me_X12_bytesIn [.int x0] σ R :=
  sj_enter ok (by decide +kernel) rfl rfl (Nat.le_of_ble_eq_true rfl) (by simp [Value.category]) (t_X12_bytesIn_0 h)
def wp_X12_takesBytes_42 (G : sj_G) (R : sj_R) (x1 : Int32) (x2 : Int32) (σ : sj_S) : Prop := sj_J G 2 me_X12_takesBytes R 3 [.ref (sj_ad G 56), .int x1, .int (x2 + (-8)), .null] σ []
set_option maxRecDepth 20000 in
theorem t_X12_takesBytes_42 {G : sj_G} {R : sj_R} {x1 : Int32} {x2 : Int32} {σ : sj_S} (h : wp_X12_takesBytes_42 G R x1 x2 σ) : sj_J G 2 me_X12_takesBytes R 42 [.ref (sj_ad G 56), .int x1, .int x2, .null] σ [] := by
  unfold wp_X12_takesBytes_42 at h
  refine sj_iinc (v := (x2 + (-8))) dX12_takesBytes_42 (by decide) rfl rfl ?_
  refine sj_goto (tgt := 3) dX12_takesBytes_45 (by decide) ?_
  exact h
def wp_X12_takesBytes_3 (G : sj_G) (R : sj_R) (x1 : Int32) (x2 : Int32) (σ : sj_S) : Prop := (x2 < 0 → R = (.ok 0, σ)) ∧ (¬ (x2 < 0) → ((¬ (((x1 >>> (x2 &&& 31)) &&& (nI 255)) = 0)) → vp_in (σ 56 26) 100) ∧ (wp_X12_takesBytes_42 G R x1 x2 (if ((x1 >>> (x2 &&& 31)) &&& (nI 255)) = 0 then σ else (sj_st (sj_st σ 75 (σ 56 26).toNatClampNeg ((x1 >>> (x2 &&& 31)) &&& (nI 255))) 56 26 ((σ 56 26) + (nI 1))))))
set_option maxRecDepth 20000 in
theorem t_X12_takesBytes_3 {G : sj_G} {R : sj_R} {x1 : Int32} {x2 : Int32} {σ : sj_S} (h : wp_X12_takesBytes_3 G R x1 x2 σ) : sj_J G 2 me_X12_takesBytes R 3 [.ref (sj_ad G 56), .int x1, .int x2, .null] σ [] := by
  unfold wp_X12_takesBytes_3 at h
  refine sj_iload_n dX12_takesBytes_3 (i := 2) rfl rfl ?_
  refine sj_if_lt (tgt := 48) dX12_takesBytes_4 (by decide) (fun c1 => ?_) (fun c1 => ?_)
  · replace h := h.1 c1
    subst h
    exact sj_vret dX12_takesBytes_48 rfl
  · replace h := h.2 c1
    refine sj_iload_n dX12_takesBytes_7 (i := 1) rfl rfl ?_
    refine sj_iload_n dX12_takesBytes_8 (i := 2) rfl rfl ?_
    refine sj_ishr dX12_takesBytes_9 ?_
    refine sj_sipush (v := (nI 255)) dX12_takesBytes_10 (by decide +kernel) ?_
    refine sj_iand dX12_takesBytes_13 ?_
    refine sj_istore_n dX12_takesBytes_14 (i := 3) rfl (by decide) ?_
    refine sj_iload_n dX12_takesBytes_15 (i := 3) rfl rfl ?_
    obtain ⟨f4, h⟩ := h
    refine sj_if_ne (tgt := 22) dX12_takesBytes_16 (by decide) (fun c2 => ?_) (fun c2 => ?_)
    · have b3 := f4 c2
      refine sj_aload_n dX12_takesBytes_22 (i := 0) rfl rfl ?_
      refine sj_get (a := 56) (k9 := 25) (v := .ref (sj_ad G 75)) dX12_takesBytes_23 (by decide +kernel) rfl ?_
      refine sj_aload_n dX12_takesBytes_26 (i := 0) rfl rfl ?_
      refine sj_get (a := 56) (k9 := 26) (v := .int (σ 56 26)) dX12_takesBytes_27 (by decide +kernel) rfl ?_
      refine sj_iload_n dX12_takesBytes_30 (i := 3) rfl rfl ?_
      refine sj_iast (a := 75) (j := (σ 56 26).toNatClampNeg) dX12_takesBytes_31 rfl (by decide +kernel) b3 rfl ?_
      refine sj_aload_n dX12_takesBytes_32 (i := 0) rfl rfl ?_
      refine sj_dup dX12_takesBytes_33 rfl ?_
      refine sj_get (a := 56) (k9 := 26) (v := .int (σ 56 26)) dX12_takesBytes_34 (by decide +kernel) rfl ?_
      refine sj_iconst (v := (nI 1)) dX12_takesBytes_37 (by decide +kernel) ?_
      refine sj_iadd dX12_takesBytes_38 ?_
      refine sj_put (a := 56) (k9 := 26) dX12_takesBytes_39 (by decide +kernel) (by decide +kernel) rfl ?_
      try simp only [if_neg c2] at h
      refine sj_fg [3] ?_
      exact t_X12_takesBytes_42 h
    · refine sj_goto (tgt := 42) dX12_takesBytes_19 (by decide) ?_
      try simp only [if_pos c2] at h
      refine sj_fg [3] ?_
      exact t_X12_takesBytes_42 h
def wp_X12_takesBytes_0 (G : sj_G) (R : sj_R) (x1 : Int32) (σ : sj_S) : Prop := sj_J G 2 me_X12_takesBytes R 3 [.ref (sj_ad G 56), .int x1, .int (nI 24), .null] σ []
set_option maxRecDepth 20000 in
theorem t_X12_takesBytes_0 {G : sj_G} {R : sj_R} {x1 : Int32} {σ : sj_S} (h : wp_X12_takesBytes_0 G R x1 σ) : sj_J G 2 me_X12_takesBytes R 0 [.ref (sj_ad G 56), .int x1, .null, .null] σ [] := by
  unfold wp_X12_takesBytes_0 at h
  refine sj_bipush (v := (nI 24)) dX12_takesBytes_0 (by decide +kernel) ?_
  refine sj_istore_n dX12_takesBytes_2 (i := 2) rfl (by decide) ?_
  exact h
theorem c_X12_takesBytes {G : sj_G} (ok : sj_ok G) {R : sj_R} {x1 : Int32} {σ : sj_S} (h : wp_X12_takesBytes_0 G R x1 σ) : sj_C G 2 me_X12_takesBytes [.ref (sj_ad G 56), .int x1] σ R :=
  sj_enter ok (by decide +kernel) rfl rfl (Nat.le_of_ble_eq_true rfl) (by simp [Value.category]) (t_X12_takesBytes_0 h)
def wp_X12_append_51 (G : sj_G) (R : sj_R) (x1 : Int32) (x2 : Int32) (x3 : Int32) (x4 : Int32) (x5 : Int32) (s0 : Int32) (σ : sj_S) : Prop := ∃ v1 σ1, sj_C G 2 me_X12_fails [.ref (sj_ad G 56), .int s0, .int (nI 1)] σ (.ok v1, σ1) ∧ (v1 = 0 → ∃ σ3, sj_C G 2 me_X12_takesBytes [.ref (sj_ad G 56), .int x1] σ1 (.ok 0, σ3) ∧ ∃ σ4, sj_C G 2 me_X12_takesBytes [.ref (sj_ad G 56), .int x2] σ3 (.ok 0, σ4) ∧ ∃ σ5, sj_C G 2 me_X12_takesBytes [.ref (sj_ad G 56), .int x3] σ4 (.ok 0, σ5) ∧ ∃ σ6, sj_C G 2 me_X12_takesBytes [.ref (sj_ad G 56), .int x4] σ5 (.ok 0, σ6) ∧ ∃ σ7, sj_C G 2 me_X12_takesBytes [.ref (sj_ad G 56), .int x5] σ6 (.ok 0, σ7) ∧ R = (.ok (σ7 56 26), σ7)) ∧ (¬ (v1 = 0) → R = (.ok (nI 0), σ1))
set_option maxRecDepth 20000 in
theorem t_X12_append_51 {G : sj_G} {R : sj_R} {x1 : Int32} {x2 : Int32} {x3 : Int32} {x4 : Int32} {x5 : Int32} {s0 : Int32} {σ : sj_S} (h : wp_X12_append_51 G R x1 x2 x3 x4 x5 s0 σ) : sj_J G 3 me_X12_append R 51 [.ref (sj_ad G 56), .int x1, .int x2, .int x3, .int x4, .int x5, .null] σ [.int s0, .ref (sj_ad G 56)] := by
  unfold wp_X12_append_51 at h
  refine sj_iconst (v := (nI 1)) dX12_append_51 (by decide +kernel) ?_
  obtain ⟨v1, σ1, hc1, h⟩ := h
  refine sj_callVi (M' := me_X12_fails) (b := 56) (As := [.int s0, .int (nI 1)]) (rest := []) dX12_append_52 gX12_append_X12_fails rfl hd_X12_fails (by decide +kernel) (by decide +kernel) rfl (Nat.le_of_ble_eq_true rfl) (by omega) rfl hc1 ?_
  refine sj_if_eq (tgt := 60) dX12_append_55 (by decide) (fun c2 => ?_) (fun c2 => ?_)
  · replace h := h.1 c2
    refine sj_aload_n dX12_append_60 (i := 0) rfl rfl ?_
    refine sj_iload_n dX12_append_61 (i := 1) rfl rfl ?_
    obtain ⟨σ3, hc3, h⟩ := h
    refine sj_callVv (M' := me_X12_takesBytes) (b := 56) (As := [.int x1]) (rest := []) dX12_append_62 gX12_append_X12_takesBytes rfl hd_X12_takesBytes (by decide +kernel) (by decide +kernel) rfl (Nat.le_of_ble_eq_true rfl) (by omega) rfl hc3 ?_
    refine sj_aload_n dX12_append_65 (i := 0) rfl rfl ?_
    refine sj_iload_n dX12_append_66 (i := 2) rfl rfl ?_
    obtain ⟨σ4, hc4, h⟩ := h
    refine sj_callVv (M' := me_X12_takesBytes) (b := 56) (As := [.int x2]) (rest := []) dX12_append_67 gX12_append_X12_takesBytes rfl hd_X12_takesBytes (by decide +kernel) (by decide +kernel) rfl (Nat.le_of_ble_eq_true rfl) (by omega) rfl hc4 ?_
    refine sj_aload_n dX12_append_70 (i := 0) rfl rfl ?_
    refine sj_iload_n dX12_append_71 (i := 3) rfl rfl ?_
    obtain ⟨σ5, hc5, h⟩ := h
    refine sj_callVv (M' := me_X12_takesBytes) (b := 56) (As := [.int x3]) (rest := []) dX12_append_72 gX12_append_X12_takesBytes rfl hd_X12_takesBytes (by decide +kernel) (by decide +kernel) rfl (Nat.le_of_ble_eq_true rfl) (by omega) rfl hc5 ?_
    refine sj_aload_n dX12_append_75 (i := 0) rfl rfl ?_
    refine sj_iload dX12_append_76 rfl ?_
    obtain ⟨σ6, hc6, h⟩ := h
    refine sj_callVv (M' := me_X12_takesBytes) (b := 56) (As := [.int x4]) (rest := []) dX12_append_78 gX12_append_X12_takesBytes rfl hd_X12_takesBytes (by decide +kernel) (by decide +kernel) rfl (Nat.le_of_ble_eq_true rfl) (by omega) rfl hc6 ?_
    refine sj_aload_n dX12_append_81 (i := 0) rfl rfl ?_
    refine sj_iload dX12_append_82 rfl ?_
    obtain ⟨σ7, hc7, h⟩ := h
    refine sj_callVv (M' := me_X12_takesBytes) (b := 56) (As := [.int x5]) (rest := []) dX12_append_84 gX12_append_X12_takesBytes rfl hd_X12_takesBytes (by decide +kernel) (by decide +kernel) rfl (Nat.le_of_ble_eq_true rfl) (by omega) rfl hc7 ?_
    refine sj_aload_n dX12_append_87 (i := 0) rfl rfl ?_
    refine sj_get (a := 56) (k9 := 26) (v := .int (σ7 56 26)) dX12_append_88 (by decide +kernel) rfl ?_
    subst h
    exact sj_ret dX12_append_91 rfl rfl
  · replace h := h.2 c2
    refine sj_iconst (v := (nI 0)) dX12_append_58 (by decide +kernel) ?_
    subst h
    exact sj_ret dX12_append_59 rfl rfl
def wp_X12_append_0 (G : sj_G) (R : sj_R) (x1 : Int32) (x2 : Int32) (x3 : Int32) (x4 : Int32) (x5 : Int32) (σ : sj_S) : Prop := ∃ v1 σ1, sj_C G 2 me_X12_bytesIn [.int x1] (sj_st σ 56 0 (nI 0)) (.ok v1, σ1) ∧ ∃ v2 σ2, sj_C G 2 me_X12_bytesIn [.int x2] σ1 (.ok v2, σ2) ∧ ∃ v3 σ3, sj_C G 2 me_X12_bytesIn [.int x3] σ2 (.ok v3, σ3) ∧ ∃ v4 σ4, sj_C G 2 me_X12_bytesIn [.int x4] σ3 (.ok v4, σ4) ∧ ∃ v5 σ5, sj_C G 2 me_X12_bytesIn [.int x5] σ4 (.ok v5, σ5) ∧ (wp_X12_append_51 G R x1 x2 x3 x4 x5 (if (nI 100) < ((σ5 56 26) + ((((v1 + v2) + v3) + v4) + v5)) then (nI 0) else (nI 1)) σ5)
set_option maxRecDepth 20000 in
theorem t_X12_append_0 {G : sj_G} {R : sj_R} {x1 : Int32} {x2 : Int32} {x3 : Int32} {x4 : Int32} {x5 : Int32} {σ : sj_S} (h : wp_X12_append_0 G R x1 x2 x3 x4 x5 σ) : sj_J G 3 me_X12_append R 0 [.ref (sj_ad G 56), .int x1, .int x2, .int x3, .int x4, .int x5, .null] σ [] := by
  unfold wp_X12_append_0 at h
  refine sj_aload_n dX12_append_0 (i := 0) rfl rfl ?_
  refine sj_iconst (v := (nI 0)) dX12_append_1 (by decide +kernel) ?_
  refine sj_put (a := 56) (k9 := 0) dX12_append_2 (by decide +kernel) (by decide +kernel) rfl ?_
  refine sj_iload_n dX12_append_5 (i := 1) rfl rfl ?_
  obtain ⟨v1, σ1, hc1, h⟩ := h
  refine sj_callSi (M' := me_X12_bytesIn) (As := [.int x1]) (rest := []) dX12_append_6 gX12_append_X12_bytesIn rfl hd_X12_bytesIn (Nat.le_of_ble_eq_true rfl) (by omega) rfl hc1 ?_
  refine sj_iload_n dX12_append_9 (i := 2) rfl rfl ?_
  obtain ⟨v2, σ2, hc2, h⟩ := h
  refine sj_callSi (M' := me_X12_bytesIn) (As := [.int x2]) (rest := [.int v1]) dX12_append_10 gX12_append_X12_bytesIn rfl hd_X12_bytesIn (Nat.le_of_ble_eq_true rfl) (by omega) rfl hc2 ?_
  refine sj_iadd dX12_append_13 ?_
  refine sj_iload_n dX12_append_14 (i := 3) rfl rfl ?_
  obtain ⟨v3, σ3, hc3, h⟩ := h
  refine sj_callSi (M' := me_X12_bytesIn) (As := [.int x3]) (rest := [.int (v1 + v2)]) dX12_append_15 gX12_append_X12_bytesIn rfl hd_X12_bytesIn (Nat.le_of_ble_eq_true rfl) (by omega) rfl hc3 ?_
  refine sj_iadd dX12_append_18 ?_
  refine sj_iload dX12_append_19 rfl ?_
  obtain ⟨v4, σ4, hc4, h⟩ := h
  refine sj_callSi (M' := me_X12_bytesIn) (As := [.int x4]) (rest := [.int ((v1 + v2) + v3)]) dX12_append_21 gX12_append_X12_bytesIn rfl hd_X12_bytesIn (Nat.le_of_ble_eq_true rfl) (by omega) rfl hc4 ?_
  refine sj_iadd dX12_append_24 ?_
  refine sj_iload dX12_append_25 rfl ?_
  obtain ⟨v5, σ5, hc5, h⟩ := h
  refine sj_callSi (M' := me_X12_bytesIn) (As := [.int x5]) (rest := [.int (((v1 + v2) + v3) + v4)]) dX12_append_27 gX12_append_X12_bytesIn rfl hd_X12_bytesIn (Nat.le_of_ble_eq_true rfl) (by omega) rfl hc5 ?_
  refine sj_iadd dX12_append_30 ?_
  refine sj_istore dX12_append_31 (by decide) ?_
  refine sj_aload_n dX12_append_33 (i := 0) rfl rfl ?_
  refine sj_aload_n dX12_append_34 (i := 0) rfl rfl ?_
  refine sj_get (a := 56) (k9 := 26) (v := .int (σ5 56 26)) dX12_append_35 (by decide +kernel) rfl ?_
  refine sj_iload dX12_append_38 rfl ?_
  refine sj_iadd dX12_append_40 ?_
  refine sj_bipush (v := (nI 100)) dX12_append_41 (by decide +kernel) ?_
  refine sj_icmp_gt (tgt := 50) dX12_append_43 (by decide) (fun c6 => ?_) (fun c6 => ?_)
  · refine sj_iconst (v := (nI 0)) dX12_append_50 (by decide +kernel) ?_
    try simp only [if_pos c6] at h
    refine sj_fg [6] ?_
    exact t_X12_append_51 h
  · refine sj_iconst (v := (nI 1)) dX12_append_46 (by decide +kernel) ?_
    refine sj_goto (tgt := 51) dX12_append_47 (by decide) ?_
    try simp only [if_neg c6] at h
    refine sj_fg [6] ?_
    exact t_X12_append_51 h
theorem c_X12_append {G : sj_G} (ok : sj_ok G) {R : sj_R} {x1 : Int32} {x2 : Int32} {x3 : Int32} {x4 : Int32} {x5 : Int32} {σ : sj_S} (h : wp_X12_append_0 G R x1 x2 x3 x4 x5 σ) : sj_C G 3 me_X12_append [.ref (sj_ad G 56), .int x1, .int x2, .int x3, .int x4, .int x5] σ R :=
  sj_enter ok (by decide +kernel) rfl rfl (Nat.le_of_ble_eq_true rfl) (by simp [Value.category]) (t_X12_append_0 h)
def wp_X12_clearTape_0 (G : sj_G) (R : sj_R) (σ : sj_S) : Prop := R = (.ok (σ 56 26), (sj_st (sj_st σ 56 0 (nI 0)) 56 26 (nI 0)))
set_option maxRecDepth 20000 in
theorem t_X12_clearTape_0 {G : sj_G} {R : sj_R} {σ : sj_S} (h : wp_X12_clearTape_0 G R σ) : sj_J G 2 me_X12_clearTape R 0 [.ref (sj_ad G 56), .null] σ [] := by
  unfold wp_X12_clearTape_0 at h
  refine sj_aload_n dX12_clearTape_0 (i := 0) rfl rfl ?_
  refine sj_iconst (v := (nI 0)) dX12_clearTape_1 (by decide +kernel) ?_
  refine sj_put (a := 56) (k9 := 0) dX12_clearTape_2 (by decide +kernel) (by decide +kernel) rfl ?_
  refine sj_aload_n dX12_clearTape_5 (i := 0) rfl rfl ?_
  refine sj_get (a := 56) (k9 := 26) (v := .int (σ 56 26)) dX12_clearTape_6 (by decide +kernel) rfl ?_
  refine sj_istore_n dX12_clearTape_9 (i := 1) rfl (by decide) ?_
  refine sj_aload_n dX12_clearTape_10 (i := 0) rfl rfl ?_
  refine sj_iconst (v := (nI 0)) dX12_clearTape_11 (by decide +kernel) ?_
  refine sj_put (a := 56) (k9 := 26) dX12_clearTape_12 (by decide +kernel) (by decide +kernel) rfl ?_
  refine sj_iload_n dX12_clearTape_15 (i := 1) rfl rfl ?_
  subst h
  exact sj_ret dX12_clearTape_16 rfl rfl
theorem c_X12_clearTape {G : sj_G} (ok : sj_ok G) {R : sj_R} {σ : sj_S} (h : wp_X12_clearTape_0 G R σ) : sj_C G 2 me_X12_clearTape [.ref (sj_ad G 56)] σ R :=
  sj_enter ok (by decide +kernel) rfl rfl (Nat.le_of_ble_eq_true rfl) (by simp [Value.category]) (t_X12_clearTape_0 h)
def wp_X12_dayNamed_51 (G : sj_G) (R : sj_R) (s0 : Int32) (σ : sj_S) : Prop := R = (.ok s0, σ)
set_option maxRecDepth 20000 in
theorem t_X12_dayNamed_51 {G : sj_G} {R : sj_R} {s0 : Int32} {σ : sj_S} (h : wp_X12_dayNamed_51 G R s0 σ) : sj_J G 2 me_X12_dayNamed R 51 [.null] σ [.int s0] := by
  unfold wp_X12_dayNamed_51 at h
  subst h
  exact sj_ret dX12_dayNamed_51 rfl rfl
def wp_X12_dayNamed_0 (G : sj_G) (R : sj_R) (x0 : Int32) (σ : sj_S) : Prop := (wp_X12_dayNamed_51 G R (if x0 = (nI 109) then (nI 0) else (if x0 = (nI 116) then (nI 1) else (if x0 = (nI 119) then (nI 2) else (if x0 = (nI 104) then (nI 3) else (if x0 = (nI 102) then (nI 4) else (-1)))))) σ)
set_option maxRecDepth 20000 in
theorem t_X12_dayNamed_0 {G : sj_G} {R : sj_R} {x0 : Int32} {σ : sj_S} (h : wp_X12_dayNamed_0 G R x0 σ) : sj_J G 2 me_X12_dayNamed R 0 [.int x0] σ [] := by
  unfold wp_X12_dayNamed_0 at h
  refine sj_iload_n dX12_dayNamed_0 (i := 0) rfl rfl ?_
  refine sj_bipush (v := (nI 109)) dX12_dayNamed_1 (by decide +kernel) ?_
  refine sj_icmp_ne (tgt := 10) dX12_dayNamed_3 (by decide) (fun c1 => ?_) (fun c1 => ?_)
  · refine sj_iload_n dX12_dayNamed_10 (i := 0) rfl rfl ?_
    refine sj_bipush (v := (nI 116)) dX12_dayNamed_11 (by decide +kernel) ?_
    refine sj_icmp_ne (tgt := 20) dX12_dayNamed_13 (by decide) (fun c2 => ?_) (fun c2 => ?_)
    · refine sj_iload_n dX12_dayNamed_20 (i := 0) rfl rfl ?_
      refine sj_bipush (v := (nI 119)) dX12_dayNamed_21 (by decide +kernel) ?_
      refine sj_icmp_ne (tgt := 30) dX12_dayNamed_23 (by decide) (fun c3 => ?_) (fun c3 => ?_)
      · refine sj_iload_n dX12_dayNamed_30 (i := 0) rfl rfl ?_
        refine sj_bipush (v := (nI 104)) dX12_dayNamed_31 (by decide +kernel) ?_
        refine sj_icmp_ne (tgt := 40) dX12_dayNamed_33 (by decide) (fun c4 => ?_) (fun c4 => ?_)
        · refine sj_iload_n dX12_dayNamed_40 (i := 0) rfl rfl ?_
          refine sj_bipush (v := (nI 102)) dX12_dayNamed_41 (by decide +kernel) ?_
          refine sj_icmp_ne (tgt := 50) dX12_dayNamed_43 (by decide) (fun c5 => ?_) (fun c5 => ?_)
          · refine sj_iconst (v := (-1)) dX12_dayNamed_50 (by decide +kernel) ?_
            try simp only [if_neg c1, if_neg c2, if_neg c3, if_neg c4, if_neg c5] at h
            refine sj_fg [0] ?_
            exact t_X12_dayNamed_51 h
          · refine sj_iconst (v := (nI 4)) dX12_dayNamed_46 (by decide +kernel) ?_
            refine sj_goto (tgt := 51) dX12_dayNamed_47 (by decide) ?_
            try simp only [if_neg c1, if_neg c2, if_neg c3, if_neg c4, if_pos c5] at h
            refine sj_fg [0] ?_
            exact t_X12_dayNamed_51 h
        · refine sj_iconst (v := (nI 3)) dX12_dayNamed_36 (by decide +kernel) ?_
          refine sj_goto (tgt := 51) dX12_dayNamed_37 (by decide) ?_
          try simp only [if_neg c1, if_neg c2, if_neg c3, if_pos c4] at h
          refine sj_fg [0] ?_
          exact t_X12_dayNamed_51 h
      · refine sj_iconst (v := (nI 2)) dX12_dayNamed_26 (by decide +kernel) ?_
        refine sj_goto (tgt := 51) dX12_dayNamed_27 (by decide) ?_
        try simp only [if_neg c1, if_neg c2, if_pos c3] at h
        refine sj_fg [0] ?_
        exact t_X12_dayNamed_51 h
    · refine sj_iconst (v := (nI 1)) dX12_dayNamed_16 (by decide +kernel) ?_
      refine sj_goto (tgt := 51) dX12_dayNamed_17 (by decide) ?_
      try simp only [if_neg c1, if_pos c2] at h
      refine sj_fg [0] ?_
      exact t_X12_dayNamed_51 h
  · refine sj_iconst (v := (nI 0)) dX12_dayNamed_6 (by decide +kernel) ?_
    refine sj_goto (tgt := 51) dX12_dayNamed_7 (by decide) ?_
    try simp only [if_pos c1] at h
    refine sj_fg [0] ?_
    exact t_X12_dayNamed_51 h
theorem c_X12_dayNamed {G : sj_G} (ok : sj_ok G) {R : sj_R} {x0 : Int32} {σ : sj_S} (h : wp_X12_dayNamed_0 G R x0 σ) : sj_C G 2 me_X12_dayNamed [.int x0] σ R :=
  sj_enter ok (by decide +kernel) rfl rfl (Nat.le_of_ble_eq_true rfl) (by simp [Value.category]) (t_X12_dayNamed_0 h)
def wp_X12_sign_41 (G : sj_G) (R : sj_R) (s0 : Int32) (σ : sj_S) : Prop := R = (.ok s0, σ)
set_option maxRecDepth 20000 in
theorem t_X12_sign_41 {G : sj_G} {R : sj_R} {s0 : Int32} {σ : sj_S} (h : wp_X12_sign_41 G R s0 σ) : sj_J G 2 me_X12_sign R 41 [.null] σ [.int s0] := by
  unfold wp_X12_sign_41 at h
  subst h
  exact sj_ret dX12_sign_41 rfl rfl
def wp_X12_sign_0 (G : sj_G) (R : sj_R) (x0 : Int32) (σ : sj_S) : Prop := (wp_X12_sign_41 G R (if x0 = 0 then (nI 109) else (if x0 = (nI 1) then (nI 116) else (if x0 = (nI 2) then (nI 119) else (if x0 = (nI 3) then (nI 104) else (nI 102))))) σ)
set_option maxRecDepth 20000 in
theorem t_X12_sign_0 {G : sj_G} {R : sj_R} {x0 : Int32} {σ : sj_S} (h : wp_X12_sign_0 G R x0 σ) : sj_J G 2 me_X12_sign R 0 [.int x0] σ [] := by
  unfold wp_X12_sign_0 at h
  refine sj_iload_n dX12_sign_0 (i := 0) rfl rfl ?_
  refine sj_if_ne (tgt := 9) dX12_sign_1 (by decide) (fun c1 => ?_) (fun c1 => ?_)
  · refine sj_iload_n dX12_sign_9 (i := 0) rfl rfl ?_
    refine sj_iconst (v := (nI 1)) dX12_sign_10 (by decide +kernel) ?_
    refine sj_icmp_ne (tgt := 19) dX12_sign_11 (by decide) (fun c2 => ?_) (fun c2 => ?_)
    · refine sj_iload_n dX12_sign_19 (i := 0) rfl rfl ?_
      refine sj_iconst (v := (nI 2)) dX12_sign_20 (by decide +kernel) ?_
      refine sj_icmp_ne (tgt := 29) dX12_sign_21 (by decide) (fun c3 => ?_) (fun c3 => ?_)
      · refine sj_iload_n dX12_sign_29 (i := 0) rfl rfl ?_
        refine sj_iconst (v := (nI 3)) dX12_sign_30 (by decide +kernel) ?_
        refine sj_icmp_ne (tgt := 39) dX12_sign_31 (by decide) (fun c4 => ?_) (fun c4 => ?_)
        · refine sj_bipush (v := (nI 102)) dX12_sign_39 (by decide +kernel) ?_
          try simp only [if_neg c1, if_neg c2, if_neg c3, if_neg c4] at h
          refine sj_fg [0] ?_
          exact t_X12_sign_41 h
        · refine sj_bipush (v := (nI 104)) dX12_sign_34 (by decide +kernel) ?_
          refine sj_goto (tgt := 41) dX12_sign_36 (by decide) ?_
          try simp only [if_neg c1, if_neg c2, if_neg c3, if_pos c4] at h
          refine sj_fg [0] ?_
          exact t_X12_sign_41 h
      · refine sj_bipush (v := (nI 119)) dX12_sign_24 (by decide +kernel) ?_
        refine sj_goto (tgt := 41) dX12_sign_26 (by decide) ?_
        try simp only [if_neg c1, if_neg c2, if_pos c3] at h
        refine sj_fg [0] ?_
        exact t_X12_sign_41 h
    · refine sj_bipush (v := (nI 116)) dX12_sign_14 (by decide +kernel) ?_
      refine sj_goto (tgt := 41) dX12_sign_16 (by decide) ?_
      try simp only [if_neg c1, if_pos c2] at h
      refine sj_fg [0] ?_
      exact t_X12_sign_41 h
  · refine sj_bipush (v := (nI 109)) dX12_sign_4 (by decide +kernel) ?_
    refine sj_goto (tgt := 41) dX12_sign_6 (by decide) ?_
    try simp only [if_pos c1] at h
    refine sj_fg [0] ?_
    exact t_X12_sign_41 h
theorem c_X12_sign {G : sj_G} (ok : sj_ok G) {R : sj_R} {x0 : Int32} {σ : sj_S} (h : wp_X12_sign_0 G R x0 σ) : sj_C G 2 me_X12_sign [.int x0] σ R :=
  sj_enter ok (by decide +kernel) rfl rfl (Nat.le_of_ble_eq_true rfl) (by simp [Value.category]) (t_X12_sign_0 h)
def wp_X12_readsTape_83 (G : sj_G) (R : sj_R) (x5 : Int32) (σ : sj_S) : Prop := R = (.ok x5, σ)
set_option maxRecDepth 20000 in
theorem t_X12_readsTape_83 {G : sj_G} {R : sj_R} {x5 : Int32} {σ : sj_S} (h : wp_X12_readsTape_83 G R x5 σ) : sj_J G 3 me_X12_readsTape R 83 [.null, .null, .null, .null, .null, .int x5, .null, .null] σ [] := by
  unfold wp_X12_readsTape_83 at h
  refine sj_iload dX12_readsTape_83 rfl ?_
  subst h
  exact sj_ret dX12_readsTape_85 rfl rfl
def wp_X12_readsTape_179 (G : sj_G) (R : sj_R) (x1 : Int32) (x2 : Int32) (x3 : Int32) (x4 : Int32) (x5 : Int32) (σ : sj_S) : Prop := sj_J G 3 me_X12_readsTape R 12 [.ref (sj_ad G 56), .int x1, .int x2, .int x3, .int x4, .int (x5 + (nI 1)), .null, .null] σ []
set_option maxRecDepth 20000 in
theorem t_X12_readsTape_179 {G : sj_G} {R : sj_R} {x1 : Int32} {x2 : Int32} {x3 : Int32} {x4 : Int32} {x5 : Int32} {σ : sj_S} (h : wp_X12_readsTape_179 G R x1 x2 x3 x4 x5 σ) : sj_J G 3 me_X12_readsTape R 179 [.ref (sj_ad G 56), .int x1, .int x2, .int x3, .int x4, .int x5, .null, .null] σ [] := by
  unfold wp_X12_readsTape_179 at h
  refine sj_iinc (v := (x5 + (nI 1))) dX12_readsTape_179 (by decide) rfl rfl ?_
  refine sj_goto (tgt := 12) dX12_readsTape_182 (by decide) ?_
  exact h
def wp_X12_readsTape_173 (G : sj_G) (R : sj_R) (x1 : Int32) (x2 : Int32) (x3 : Int32) (x4 : Int32) (x5 : Int32) (σ : sj_S) : Prop := (wp_X12_readsTape_179 G R x1 ((x2 + (nI 1)) - (x2 + (nI 1)) / (nI 4) * (nI 4)) x3 x4 x5 σ)
set_option maxRecDepth 20000 in
theorem t_X12_readsTape_173 {G : sj_G} {R : sj_R} {x1 : Int32} {x2 : Int32} {x3 : Int32} {x4 : Int32} {x5 : Int32} {σ : sj_S} (h : wp_X12_readsTape_173 G R x1 x2 x3 x4 x5 σ) : sj_J G 3 me_X12_readsTape R 173 [.ref (sj_ad G 56), .int x1, .int x2, .int x3, .int x4, .int x5, .null, .null] σ [] := by
  unfold wp_X12_readsTape_173 at h
  refine sj_iload_n dX12_readsTape_173 (i := 2) rfl rfl ?_
  refine sj_iconst (v := (nI 1)) dX12_readsTape_174 (by decide +kernel) ?_
  refine sj_iadd dX12_readsTape_175 ?_
  refine sj_iconst (v := (nI 4)) dX12_readsTape_176 (by decide +kernel) ?_
  refine sj_irem dX12_readsTape_177 (by decide +kernel) ?_
  refine sj_istore_n dX12_readsTape_178 (i := 2) rfl (by decide) ?_
  exact t_X12_readsTape_179 h
def wp_X12_readsTape_209 (G : sj_G) (R : sj_R) (s0 : Int32) (σ : sj_S) : Prop := R = (.ok s0, σ)
set_option maxRecDepth 20000 in
theorem t_X12_readsTape_209 {G : sj_G} {R : sj_R} {s0 : Int32} {σ : sj_S} (h : wp_X12_readsTape_209 G R s0 σ) : sj_J G 3 me_X12_readsTape R 209 [.null, .null, .null, .null, .null, .null, .null, .null] σ [.int s0] := by
  unfold wp_X12_readsTape_209 at h
  subst h
  exact sj_ret dX12_readsTape_209 rfl rfl
def wp_X12_readsTape_205 (G : sj_G) (R : sj_R) (σ : sj_S) : Prop := (wp_X12_readsTape_209 G R (σ 56 26) σ)
set_option maxRecDepth 20000 in
theorem t_X12_readsTape_205 {G : sj_G} {R : sj_R} {σ : sj_S} (h : wp_X12_readsTape_205 G R σ) : sj_J G 3 me_X12_readsTape R 205 [.ref (sj_ad G 56), .null, .null, .null, .null, .null, .null, .null] σ [] := by
  unfold wp_X12_readsTape_205 at h
  refine sj_aload_n dX12_readsTape_205 (i := 0) rfl rfl ?_
  refine sj_get (a := 56) (k9 := 26) (v := .int (σ 56 26)) dX12_readsTape_206 (by decide +kernel) rfl ?_
  refine sj_fg [0] ?_
  exact t_X12_readsTape_209 h
def wp_X12_readsTape_12 (G : sj_G) (R : sj_R) (x1 : Int32) (x2 : Int32) (x3 : Int32) (x4 : Int32) (x5 : Int32) (σ : sj_S) : Prop := ((σ 56 26) ≤ x5 → (¬ x2 = 0 → (wp_X12_readsTape_205 G R σ)) ∧ (x2 = 0 → ∃ v4 σ4, sj_C G 2 me_X12_many [.ref (sj_ad G 56)] σ (.ok v4, σ4) ∧ (wp_X12_readsTape_209 G R (if x1 = (((nI 1) <<< (v4 &&& 31)) - (nI 1)) then (-1) else (σ4 56 26)) σ4))) ∧ (¬ ((σ 56 26) ≤ x5) → vp_in x5 100 ∧ ((σ 75 x5.toNatClampNeg) = (nI 32) → (wp_X12_readsTape_179 G R x1 x2 x3 x4 x5 σ)) ∧ (¬ ((σ 75 x5.toNatClampNeg) = (nI 32)) → (¬ (σ 75 x5.toNatClampNeg) = (nI 10) → (¬ x2 = 0 → (¬ x2 = (nI 1) → (¬ x2 = (nI 2) → ((σ 75 x5.toNatClampNeg) = (nI 59) → (wp_X12_readsTape_173 G R x1 x2 x3 x4 x5 σ)) ∧ (¬ ((σ 75 x5.toNatClampNeg) = (nI 59)) → R = (.ok x5, σ))) ∧ (x2 = (nI 2) → vp_in ((nI 36) + x3) 128 ∧ ∃ v14 σ14, sj_C G 2 me_X12_in [.int ((σ 75 x5.toNatClampNeg) - (nI 48)), .int (nI 0), .int ((nI 3) - (σ 57 ((nI 36) + x3).toNatClampNeg))] σ (.ok v14, σ14) ∧ (¬ v14 = 0 → vp_in x3 9 ∧ (wp_X12_readsTape_173 G R x1 x2 x3 x4 x5 (sj_st σ14 59 x3.toNatClampNeg (((nI 4) * x4) + ((σ 75 x5.toNatClampNeg) - (nI 48)))))) ∧ (v14 = 0 → R = (.ok x5, σ14)))) ∧ (x2 = (nI 1) → ∃ v17 σ17, sj_C G 2 me_X12_dayNamed [.int (σ 75 x5.toNatClampNeg)] σ (.ok v17, σ17) ∧ (¬ v17 = (-1) → (wp_X12_readsTape_173 G R x1 x2 x3 v17 x5 σ17)) ∧ (v17 = (-1) → R = (.ok x5, σ17)))) ∧ (x2 = 0 → ∃ v19 σ19, sj_C G 2 me_X12_many [.ref (sj_ad G 56)] σ (.ok v19, σ19) ∧ ∃ v20 σ20, sj_C G 2 me_X12_in [.int ((σ 75 x5.toNatClampNeg) - (nI 48)), .int (nI 0), .int (v19 - (nI 1))] σ19 (.ok v20, σ20) ∧ (v20 = 0 → (wp_X12_readsTape_83 G R x5 σ20)) ∧ (¬ (v20 = 0) → (¬ ((x1 >>> (((σ 75 x5.toNatClampNeg) - (nI 48)) &&& 31)) &&& (nI 1)) = (nI 1) → (wp_X12_readsTape_173 G R (x1 ||| ((nI 1) <<< (((σ 75 x5.toNatClampNeg) - (nI 48)) &&& 31))) x2 ((σ 75 x5.toNatClampNeg) - (nI 48)) x4 x5 σ20)) ∧ (((x1 >>> (((σ 75 x5.toNatClampNeg) - (nI 48)) &&& 31)) &&& (nI 1)) = (nI 1) → (wp_X12_readsTape_83 G R x5 σ20))))) ∧ ((σ 75 x5.toNatClampNeg) = (nI 10) → (wp_X12_readsTape_179 G R x1 x2 x3 x4 x5 σ))))
set_option maxRecDepth 20000 in
theorem t_X12_readsTape_12 {G : sj_G} {R : sj_R} {x1 : Int32} {x2 : Int32} {x3 : Int32} {x4 : Int32} {x5 : Int32} {σ : sj_S} (h : wp_X12_readsTape_12 G R x1 x2 x3 x4 x5 σ) : sj_J G 3 me_X12_readsTape R 12 [.ref (sj_ad G 56), .int x1, .int x2, .int x3, .int x4, .int x5, .null, .null] σ [] := by
  unfold wp_X12_readsTape_12 at h
  refine sj_iload dX12_readsTape_12 rfl ?_
  refine sj_aload_n dX12_readsTape_14 (i := 0) rfl rfl ?_
  refine sj_get (a := 56) (k9 := 26) (v := .int (σ 56 26)) dX12_readsTape_15 (by decide +kernel) rfl ?_
  refine sj_icmp_ge (tgt := 185) dX12_readsTape_18 (by decide) (fun c1 => ?_) (fun c1 => ?_)
  · replace h := h.1 c1
    refine sj_iload_n dX12_readsTape_185 (i := 2) rfl rfl ?_
    refine sj_if_ne (tgt := 205) dX12_readsTape_186 (by decide) (fun c3 => ?_) (fun c3 => ?_)
    · replace h := h.1 c3
      refine sj_fg [1, 2, 3, 4, 5] ?_
      exact t_X12_readsTape_205 h
    · replace h := h.2 c3
      refine sj_iload_n dX12_readsTape_189 (i := 1) rfl rfl ?_
      refine sj_iconst (v := (nI 1)) dX12_readsTape_190 (by decide +kernel) ?_
      refine sj_aload_n dX12_readsTape_191 (i := 0) rfl rfl ?_
      obtain ⟨v4, σ4, hc4, h⟩ := h
      refine sj_callVi (M' := me_X12_many) (b := 56) (As := []) (rest := [.int (nI 1), .int x1]) dX12_readsTape_192 gX12_readsTape_X12_many rfl hd_X12_many (by decide +kernel) (by decide +kernel) rfl (Nat.le_of_ble_eq_true rfl) (by omega) rfl hc4 ?_
      refine sj_ishl dX12_readsTape_195 ?_
      refine sj_iconst (v := (nI 1)) dX12_readsTape_196 (by decide +kernel) ?_
      refine sj_isub dX12_readsTape_197 ?_
      refine sj_icmp_ne (tgt := 205) dX12_readsTape_198 (by decide) (fun c5 => ?_) (fun c5 => ?_)
      · refine sj_aload_n dX12_readsTape_205 (i := 0) rfl rfl ?_
        refine sj_get (a := 56) (k9 := 26) (v := .int (σ4 56 26)) dX12_readsTape_206 (by decide +kernel) rfl ?_
        try simp only [if_neg c5] at h
        refine sj_fg [0, 1, 2, 3, 4, 5] ?_
        exact t_X12_readsTape_209 h
      · refine sj_iconst (v := (-1)) dX12_readsTape_201 (by decide +kernel) ?_
        refine sj_goto (tgt := 209) dX12_readsTape_202 (by decide) ?_
        try simp only [if_pos c5] at h
        refine sj_fg [0, 1, 2, 3, 4, 5] ?_
        exact t_X12_readsTape_209 h
  · replace h := h.2 c1
    refine sj_aload_n dX12_readsTape_21 (i := 0) rfl rfl ?_
    refine sj_get (a := 56) (k9 := 25) (v := .ref (sj_ad G 75)) dX12_readsTape_22 (by decide +kernel) rfl ?_
    refine sj_iload dX12_readsTape_25 rfl ?_
    obtain ⟨b6, h⟩ := h
    refine sj_iald (a := 75) (j := x5.toNatClampNeg) (x := (σ 75 x5.toNatClampNeg)) dX12_readsTape_27 rfl (by decide +kernel) b6 rfl rfl ?_
    refine sj_istore dX12_readsTape_28 (by decide) ?_
    refine sj_iload dX12_readsTape_30 rfl ?_
    refine sj_bipush (v := (nI 32)) dX12_readsTape_32 (by decide +kernel) ?_
    refine sj_icmp_eq (tgt := 179) dX12_readsTape_34 (by decide) (fun c7 => ?_) (fun c7 => ?_)
    · replace h := h.1 c7
      refine sj_fg [6] ?_
      exact t_X12_readsTape_179 h
    · replace h := h.2 c7
      refine sj_iload dX12_readsTape_37 rfl ?_
      refine sj_bipush (v := (nI 10)) dX12_readsTape_39 (by decide +kernel) ?_
      refine sj_icmp_ne (tgt := 47) dX12_readsTape_41 (by decide) (fun c8 => ?_) (fun c8 => ?_)
      · replace h := h.1 c8
        refine sj_iload dX12_readsTape_47 rfl ?_
        refine sj_bipush (v := (nI 48)) dX12_readsTape_49 (by decide +kernel) ?_
        refine sj_isub dX12_readsTape_51 ?_
        refine sj_istore dX12_readsTape_52 (by decide) ?_
        refine sj_iload_n dX12_readsTape_54 (i := 2) rfl rfl ?_
        refine sj_if_ne (tgt := 98) dX12_readsTape_55 (by decide) (fun c9 => ?_) (fun c9 => ?_)
        · replace h := h.1 c9
          refine sj_iload_n dX12_readsTape_98 (i := 2) rfl rfl ?_
          refine sj_iconst (v := (nI 1)) dX12_readsTape_99 (by decide +kernel) ?_
          refine sj_icmp_ne (tgt := 119) dX12_readsTape_100 (by decide) (fun c10 => ?_) (fun c10 => ?_)
          · replace h := h.1 c10
            refine sj_iload_n dX12_readsTape_119 (i := 2) rfl rfl ?_
            refine sj_iconst (v := (nI 2)) dX12_readsTape_120 (by decide +kernel) ?_
            refine sj_icmp_ne (tgt := 163) dX12_readsTape_121 (by decide) (fun c11 => ?_) (fun c11 => ?_)
            · replace h := h.1 c11
              refine sj_iload dX12_readsTape_163 rfl ?_
              refine sj_bipush (v := (nI 59)) dX12_readsTape_165 (by decide +kernel) ?_
              refine sj_icmp_eq (tgt := 173) dX12_readsTape_167 (by decide) (fun c12 => ?_) (fun c12 => ?_)
              · replace h := h.1 c12
                refine sj_fg [6, 7] ?_
                exact t_X12_readsTape_173 h
              · replace h := h.2 c12
                refine sj_iload dX12_readsTape_170 rfl ?_
                subst h
                exact sj_ret dX12_readsTape_172 rfl rfl
            · replace h := h.2 c11
              refine sj_iload dX12_readsTape_124 rfl ?_
              refine sj_iconst (v := (nI 0)) dX12_readsTape_126 (by decide +kernel) ?_
              refine sj_iconst (v := (nI 3)) dX12_readsTape_127 (by decide +kernel) ?_
              refine sj_aload_n dX12_readsTape_128 (i := 0) rfl rfl ?_
              refine sj_get (a := 56) (k9 := 1) (v := .ref (sj_ad G 57)) dX12_readsTape_129 (by decide +kernel) rfl ?_
              refine sj_bipush (v := (nI 36)) dX12_readsTape_132 (by decide +kernel) ?_
              refine sj_iload_n dX12_readsTape_134 (i := 3) rfl rfl ?_
              refine sj_iadd dX12_readsTape_135 ?_
              obtain ⟨b13, h⟩ := h
              refine sj_iald (a := 57) (j := ((nI 36) + x3).toNatClampNeg) (x := (σ 57 ((nI 36) + x3).toNatClampNeg)) dX12_readsTape_136 rfl (by decide +kernel) b13 rfl rfl ?_
              refine sj_isub dX12_readsTape_137 ?_
              obtain ⟨v14, σ14, hc14, h⟩ := h
              refine sj_callSi (M' := me_X12_in) (As := [.int ((σ 75 x5.toNatClampNeg) - (nI 48)), .int (nI 0), .int ((nI 3) - (σ 57 ((nI 36) + x3).toNatClampNeg))]) (rest := []) dX12_readsTape_138 gX12_readsTape_X12_in rfl hd_X12_in (Nat.le_of_ble_eq_true rfl) (by omega) rfl hc14 ?_
              refine sj_if_ne (tgt := 147) dX12_readsTape_141 (by decide) (fun c15 => ?_) (fun c15 => ?_)
              · replace h := h.1 c15
                refine sj_aload_n dX12_readsTape_147 (i := 0) rfl rfl ?_
                refine sj_get (a := 56) (k9 := 4) (v := .ref (sj_ad G 59)) dX12_readsTape_148 (by decide +kernel) rfl ?_
                refine sj_iload_n dX12_readsTape_151 (i := 3) rfl rfl ?_
                refine sj_iconst (v := (nI 4)) dX12_readsTape_152 (by decide +kernel) ?_
                refine sj_iload dX12_readsTape_153 rfl ?_
                refine sj_imul dX12_readsTape_155 ?_
                refine sj_iload dX12_readsTape_156 rfl ?_
                refine sj_iadd dX12_readsTape_158 ?_
                obtain ⟨b16, h⟩ := h
                refine sj_iast (a := 59) (j := x3.toNatClampNeg) dX12_readsTape_159 rfl (by decide +kernel) b16 rfl ?_
                refine sj_goto (tgt := 173) dX12_readsTape_160 (by decide) ?_
                refine sj_fg [6, 7] ?_
                exact t_X12_readsTape_173 h
              · replace h := h.2 c15
                refine sj_iload dX12_readsTape_144 rfl ?_
                subst h
                exact sj_ret dX12_readsTape_146 rfl rfl
          · replace h := h.2 c10
            refine sj_iload dX12_readsTape_103 rfl ?_
            obtain ⟨v17, σ17, hc17, h⟩ := h
            refine sj_callSi (M' := me_X12_dayNamed) (As := [.int (σ 75 x5.toNatClampNeg)]) (rest := []) dX12_readsTape_105 gX12_readsTape_X12_dayNamed rfl hd_X12_dayNamed (Nat.le_of_ble_eq_true rfl) (by omega) rfl hc17 ?_
            refine sj_istore dX12_readsTape_108 (by decide) ?_
            refine sj_iload dX12_readsTape_110 rfl ?_
            refine sj_iconst (v := (-1)) dX12_readsTape_112 (by decide +kernel) ?_
            refine sj_icmp_ne (tgt := 173) dX12_readsTape_113 (by decide) (fun c18 => ?_) (fun c18 => ?_)
            · replace h := h.1 c18
              refine sj_fg [6, 7] ?_
              exact t_X12_readsTape_173 h
            · replace h := h.2 c18
              refine sj_iload dX12_readsTape_116 rfl ?_
              subst h
              exact sj_ret dX12_readsTape_118 rfl rfl
        · replace h := h.2 c9
          refine sj_iload dX12_readsTape_58 rfl ?_
          refine sj_iconst (v := (nI 0)) dX12_readsTape_60 (by decide +kernel) ?_
          refine sj_aload_n dX12_readsTape_61 (i := 0) rfl rfl ?_
          obtain ⟨v19, σ19, hc19, h⟩ := h
          refine sj_callVi (M' := me_X12_many) (b := 56) (As := []) (rest := [.int (nI 0), .int ((σ 75 x5.toNatClampNeg) - (nI 48))]) dX12_readsTape_62 gX12_readsTape_X12_many rfl hd_X12_many (by decide +kernel) (by decide +kernel) rfl (Nat.le_of_ble_eq_true rfl) (by omega) rfl hc19 ?_
          refine sj_iconst (v := (nI 1)) dX12_readsTape_65 (by decide +kernel) ?_
          refine sj_isub dX12_readsTape_66 ?_
          obtain ⟨v20, σ20, hc20, h⟩ := h
          refine sj_callSi (M' := me_X12_in) (As := [.int ((σ 75 x5.toNatClampNeg) - (nI 48)), .int (nI 0), .int (v19 - (nI 1))]) (rest := []) dX12_readsTape_67 gX12_readsTape_X12_in rfl hd_X12_in (Nat.le_of_ble_eq_true rfl) (by omega) rfl hc20 ?_
          refine sj_if_eq (tgt := 83) dX12_readsTape_70 (by decide) (fun c21 => ?_) (fun c21 => ?_)
          · replace h := h.1 c21
            refine sj_fg [0, 1, 2, 3, 4, 6, 7] ?_
            exact t_X12_readsTape_83 h
          · replace h := h.2 c21
            refine sj_iload_n dX12_readsTape_73 (i := 1) rfl rfl ?_
            refine sj_iload dX12_readsTape_74 rfl ?_
            refine sj_ishr dX12_readsTape_76 ?_
            refine sj_iconst (v := (nI 1)) dX12_readsTape_77 (by decide +kernel) ?_
            refine sj_iand dX12_readsTape_78 ?_
            refine sj_iconst (v := (nI 1)) dX12_readsTape_79 (by decide +kernel) ?_
            refine sj_icmp_ne (tgt := 86) dX12_readsTape_80 (by decide) (fun c22 => ?_) (fun c22 => ?_)
            · replace h := h.1 c22
              refine sj_iload dX12_readsTape_86 rfl ?_
              refine sj_istore_n dX12_readsTape_88 (i := 3) rfl (by decide) ?_
              refine sj_iload_n dX12_readsTape_89 (i := 1) rfl rfl ?_
              refine sj_iconst (v := (nI 1)) dX12_readsTape_90 (by decide +kernel) ?_
              refine sj_iload_n dX12_readsTape_91 (i := 3) rfl rfl ?_
              refine sj_ishl dX12_readsTape_92 ?_
              refine sj_ior dX12_readsTape_93 ?_
              refine sj_istore_n dX12_readsTape_94 (i := 1) rfl (by decide) ?_
              refine sj_goto (tgt := 173) dX12_readsTape_95 (by decide) ?_
              refine sj_fg [6, 7] ?_
              exact t_X12_readsTape_173 h
            · replace h := h.2 c22
              refine sj_fg [0, 1, 2, 3, 4, 6, 7] ?_
              exact t_X12_readsTape_83 h
      · replace h := h.2 c8
        refine sj_goto (tgt := 179) dX12_readsTape_44 (by decide) ?_
        refine sj_fg [6] ?_
        exact t_X12_readsTape_179 h
def wp_X12_readsTape_0 (G : sj_G) (R : sj_R) (σ : sj_S) : Prop := sj_J G 3 me_X12_readsTape R 12 [.ref (sj_ad G 56), .int (nI 0), .int (nI 0), .int (nI 0), .int (nI 0), .int (nI 0), .null, .null] σ []
set_option maxRecDepth 20000 in
theorem t_X12_readsTape_0 {G : sj_G} {R : sj_R} {σ : sj_S} (h : wp_X12_readsTape_0 G R σ) : sj_J G 3 me_X12_readsTape R 0 [.ref (sj_ad G 56), .null, .null, .null, .null, .null, .null, .null] σ [] := by
  unfold wp_X12_readsTape_0 at h
  refine sj_iconst (v := (nI 0)) dX12_readsTape_0 (by decide +kernel) ?_
  refine sj_istore_n dX12_readsTape_1 (i := 1) rfl (by decide) ?_
  refine sj_iconst (v := (nI 0)) dX12_readsTape_2 (by decide +kernel) ?_
  refine sj_istore_n dX12_readsTape_3 (i := 2) rfl (by decide) ?_
  refine sj_iconst (v := (nI 0)) dX12_readsTape_4 (by decide +kernel) ?_
  refine sj_istore_n dX12_readsTape_5 (i := 3) rfl (by decide) ?_
  refine sj_iconst (v := (nI 0)) dX12_readsTape_6 (by decide +kernel) ?_
  refine sj_istore dX12_readsTape_7 (by decide) ?_
  refine sj_iconst (v := (nI 0)) dX12_readsTape_9 (by decide +kernel) ?_
  refine sj_istore dX12_readsTape_10 (by decide) ?_
  exact h
theorem c_X12_readsTape {G : sj_G} (ok : sj_ok G) {R : sj_R} {σ : sj_S} (h : wp_X12_readsTape_0 G R σ) : sj_C G 3 me_X12_readsTape [.ref (sj_ad G 56)] σ R :=
  sj_enter ok (by decide +kernel) rfl rfl (Nat.le_of_ble_eq_true rfl) (by simp [Value.category]) (t_X12_readsTape_0 h)
def wp_X12_read_72 (G : sj_G) (R : sj_R) (σ : sj_S) : Prop := R = (.ok (nI 0), σ)
set_option maxRecDepth 20000 in
theorem t_X12_read_72 {G : sj_G} {R : sj_R} {σ : sj_S} (h : wp_X12_read_72 G R σ) : sj_J G 7 me_X12_read R 72 [.null, .null] σ [] := by
  unfold wp_X12_read_72 at h
  refine sj_iconst (v := (nI 0)) dX12_read_72 (by decide +kernel) ?_
  subst h
  exact sj_ret dX12_read_73 rfl rfl
def wp_X12_read_53 (G : sj_G) (R : sj_R) (s0 : Int32) (σ : sj_S) : Prop := ∃ v1 σ1, sj_C G 2 me_X12_fails [.ref (sj_ad G 56), .int s0, .int (nI 1)] σ (.ok v1, σ1) ∧ (¬ v1 = 0 → (wp_X12_read_72 G R σ1)) ∧ (v1 = 0 → ∃ v3 σ3, sj_C G 6 me_X12_isRight [.ref (sj_ad G 56)] σ1 (.ok v3, σ3) ∧ ∃ v4 σ4, sj_C G 2 me_X12_fails [.ref (sj_ad G 56), .int v3, .int (nI 2)] σ3 (.ok v4, σ4) ∧ (v4 = 0 → ∃ σ6, sj_C G 3 me_X12_puts [.ref (sj_ad G 56)] σ4 (.ok 0, σ6) ∧ ∃ v7 σ7, sj_C G 6 me_X12_costs [.ref (sj_ad G 56)] σ6 (.ok v7, σ7) ∧ R = (.ok v7, σ7)) ∧ (¬ (v4 = 0) → (wp_X12_read_72 G R σ4)))
set_option maxRecDepth 20000 in
theorem t_X12_read_53 {G : sj_G} {R : sj_R} {s0 : Int32} {σ : sj_S} (h : wp_X12_read_53 G R s0 σ) : sj_J G 7 me_X12_read R 53 [.ref (sj_ad G 56), .null] σ [.int s0, .ref (sj_ad G 56)] := by
  unfold wp_X12_read_53 at h
  refine sj_iconst (v := (nI 1)) dX12_read_53 (by decide +kernel) ?_
  obtain ⟨v1, σ1, hc1, h⟩ := h
  refine sj_callVi (M' := me_X12_fails) (b := 56) (As := [.int s0, .int (nI 1)]) (rest := []) dX12_read_54 gX12_read_X12_fails rfl hd_X12_fails (by decide +kernel) (by decide +kernel) rfl (Nat.le_of_ble_eq_true rfl) (by omega) rfl hc1 ?_
  refine sj_if_ne (tgt := 72) dX12_read_57 (by decide) (fun c2 => ?_) (fun c2 => ?_)
  · replace h := h.1 c2
    refine sj_fg [0] ?_
    exact t_X12_read_72 h
  · replace h := h.2 c2
    refine sj_aload_n dX12_read_60 (i := 0) rfl rfl ?_
    refine sj_aload_n dX12_read_61 (i := 0) rfl rfl ?_
    obtain ⟨v3, σ3, hc3, h⟩ := h
    refine sj_callVi (M' := me_X12_isRight) (b := 56) (As := []) (rest := [.ref (sj_ad G 56)]) dX12_read_62 gX12_read_X12_isRight rfl hd_X12_isRight (by decide +kernel) (by decide +kernel) rfl (Nat.le_of_ble_eq_true rfl) (by omega) rfl hc3 ?_
    refine sj_iconst (v := (nI 2)) dX12_read_65 (by decide +kernel) ?_
    obtain ⟨v4, σ4, hc4, h⟩ := h
    refine sj_callVi (M' := me_X12_fails) (b := 56) (As := [.int v3, .int (nI 2)]) (rest := []) dX12_read_66 gX12_read_X12_fails rfl hd_X12_fails (by decide +kernel) (by decide +kernel) rfl (Nat.le_of_ble_eq_true rfl) (by omega) rfl hc4 ?_
    refine sj_if_eq (tgt := 74) dX12_read_69 (by decide) (fun c5 => ?_) (fun c5 => ?_)
    · replace h := h.1 c5
      refine sj_aload_n dX12_read_74 (i := 0) rfl rfl ?_
      obtain ⟨σ6, hc6, h⟩ := h
      refine sj_callVv (M' := me_X12_puts) (b := 56) (As := []) (rest := []) dX12_read_75 gX12_read_X12_puts rfl hd_X12_puts (by decide +kernel) (by decide +kernel) rfl (Nat.le_of_ble_eq_true rfl) (by omega) rfl hc6 ?_
      refine sj_aload_n dX12_read_78 (i := 0) rfl rfl ?_
      obtain ⟨v7, σ7, hc7, h⟩ := h
      refine sj_callVi (M' := me_X12_costs) (b := 56) (As := []) (rest := []) dX12_read_79 gX12_read_X12_costs rfl hd_X12_costs (by decide +kernel) (by decide +kernel) rfl (Nat.le_of_ble_eq_true rfl) (by omega) rfl hc7 ?_
      subst h
      exact sj_ret dX12_read_82 rfl rfl
    · replace h := h.2 c5
      refine sj_fg [0] ?_
      exact t_X12_read_72 h
def wp_X12_read_7 (G : sj_G) (R : sj_R) (x1 : Int32) (σ : sj_S) : Prop := ((nI 12) ≤ x1 → ∃ v2 σ2, sj_C G 3 me_X12_readsTape [.ref (sj_ad G 56)] σ (.ok v2, σ2) ∧ (wp_X12_read_53 G R (if v2 = (-1) then (nI 1) else (nI 0)) (sj_st (sj_st σ2 56 27 v2) 56 26 (nI 0)))) ∧ (¬ ((nI 12) ≤ x1) → vp_in x1 12 ∧ sj_J G 7 me_X12_read R 7 [.ref (sj_ad G 56), .int (x1 + (nI 1))] (sj_st σ 60 x1.toNatClampNeg (nI 0)) [])
set_option maxRecDepth 20000 in
theorem t_X12_read_7 {G : sj_G} {R : sj_R} {x1 : Int32} {σ : sj_S} (h : wp_X12_read_7 G R x1 σ) : sj_J G 7 me_X12_read R 7 [.ref (sj_ad G 56), .int x1] σ [] := by
  unfold wp_X12_read_7 at h
  refine sj_iload_n dX12_read_7 (i := 1) rfl rfl ?_
  refine sj_bipush (v := (nI 12)) dX12_read_8 (by decide +kernel) ?_
  refine sj_icmp_ge (tgt := 26) dX12_read_10 (by decide) (fun c1 => ?_) (fun c1 => ?_)
  · replace h := h.1 c1
    refine sj_aload_n dX12_read_26 (i := 0) rfl rfl ?_
    refine sj_aload_n dX12_read_27 (i := 0) rfl rfl ?_
    obtain ⟨v2, σ2, hc2, h⟩ := h
    refine sj_callVi (M' := me_X12_readsTape) (b := 56) (As := []) (rest := [.ref (sj_ad G 56)]) dX12_read_28 gX12_read_X12_readsTape rfl hd_X12_readsTape (by decide +kernel) (by decide +kernel) rfl (Nat.le_of_ble_eq_true rfl) (by omega) rfl hc2 ?_
    refine sj_put (a := 56) (k9 := 27) dX12_read_31 (by decide +kernel) (by decide +kernel) rfl ?_
    refine sj_aload_n dX12_read_34 (i := 0) rfl rfl ?_
    refine sj_iconst (v := (nI 0)) dX12_read_35 (by decide +kernel) ?_
    refine sj_put (a := 56) (k9 := 26) dX12_read_36 (by decide +kernel) (by decide +kernel) rfl ?_
    refine sj_aload_n dX12_read_39 (i := 0) rfl rfl ?_
    refine sj_aload_n dX12_read_40 (i := 0) rfl rfl ?_
    refine sj_get (a := 56) (k9 := 27) (v := .int v2) dX12_read_41 (by decide +kernel) rfl ?_
    refine sj_iconst (v := (-1)) dX12_read_44 (by decide +kernel) ?_
    refine sj_icmp_ne (tgt := 52) dX12_read_45 (by decide) (fun c3 => ?_) (fun c3 => ?_)
    · refine sj_iconst (v := (nI 0)) dX12_read_52 (by decide +kernel) ?_
      try simp only [if_neg c3] at h
      refine sj_fg [1] ?_
      exact t_X12_read_53 h
    · refine sj_iconst (v := (nI 1)) dX12_read_48 (by decide +kernel) ?_
      refine sj_goto (tgt := 53) dX12_read_49 (by decide) ?_
      try simp only [if_pos c3] at h
      refine sj_fg [1] ?_
      exact t_X12_read_53 h
  · replace h := h.2 c1
    refine sj_aload_n dX12_read_13 (i := 0) rfl rfl ?_
    refine sj_get (a := 56) (k9 := 5) (v := .ref (sj_ad G 60)) dX12_read_14 (by decide +kernel) rfl ?_
    refine sj_iload_n dX12_read_17 (i := 1) rfl rfl ?_
    refine sj_iconst (v := (nI 0)) dX12_read_18 (by decide +kernel) ?_
    obtain ⟨b4, h⟩ := h
    refine sj_zast (a := 60) (j := x1.toNatClampNeg) dX12_read_19 rfl (by decide +kernel) b4 rfl rfl ?_
    refine sj_iinc (v := (x1 + (nI 1))) dX12_read_20 (by decide) rfl rfl ?_
    refine sj_goto (tgt := 7) dX12_read_23 (by decide) ?_
    exact h
def wp_X12_read_0 (G : sj_G) (R : sj_R) (σ : sj_S) : Prop := sj_J G 7 me_X12_read R 7 [.ref (sj_ad G 56), .int (nI 0)] (sj_st σ 56 0 (nI 0)) []
set_option maxRecDepth 20000 in
theorem t_X12_read_0 {G : sj_G} {R : sj_R} {σ : sj_S} (h : wp_X12_read_0 G R σ) : sj_J G 7 me_X12_read R 0 [.ref (sj_ad G 56), .null] σ [] := by
  unfold wp_X12_read_0 at h
  refine sj_aload_n dX12_read_0 (i := 0) rfl rfl ?_
  refine sj_iconst (v := (nI 0)) dX12_read_1 (by decide +kernel) ?_
  refine sj_put (a := 56) (k9 := 0) dX12_read_2 (by decide +kernel) (by decide +kernel) rfl ?_
  refine sj_iconst (v := (nI 0)) dX12_read_5 (by decide +kernel) ?_
  refine sj_istore_n dX12_read_6 (i := 1) rfl (by decide) ?_
  exact h
theorem c_X12_read {G : sj_G} (ok : sj_ok G) {R : sj_R} {σ : sj_S} (h : wp_X12_read_0 G R σ) : sj_C G 7 me_X12_read [.ref (sj_ad G 56)] σ R :=
  sj_enter ok (by decide +kernel) rfl rfl (Nat.le_of_ble_eq_true rfl) (by simp [Value.category]) (t_X12_read_0 h)
def wp_X12_errorPosition_0 (G : sj_G) (R : sj_R) (σ : sj_S) : Prop := R = (.ok (σ 56 27), (sj_st σ 56 0 (nI 0)))
set_option maxRecDepth 20000 in
theorem t_X12_errorPosition_0 {G : sj_G} {R : sj_R} {σ : sj_S} (h : wp_X12_errorPosition_0 G R σ) : sj_J G 2 me_X12_errorPosition R 0 [.ref (sj_ad G 56)] σ [] := by
  unfold wp_X12_errorPosition_0 at h
  refine sj_aload_n dX12_errorPosition_0 (i := 0) rfl rfl ?_
  refine sj_iconst (v := (nI 0)) dX12_errorPosition_1 (by decide +kernel) ?_
  refine sj_put (a := 56) (k9 := 0) dX12_errorPosition_2 (by decide +kernel) (by decide +kernel) rfl ?_
  refine sj_aload_n dX12_errorPosition_5 (i := 0) rfl rfl ?_
  refine sj_get (a := 56) (k9 := 27) (v := .int (σ 56 27)) dX12_errorPosition_6 (by decide +kernel) rfl ?_
  subst h
  exact sj_ret dX12_errorPosition_9 rfl rfl
theorem c_X12_errorPosition {G : sj_G} (ok : sj_ok G) {R : sj_R} {σ : sj_S} (h : wp_X12_errorPosition_0 G R σ) : sj_C G 2 me_X12_errorPosition [.ref (sj_ad G 56)] σ R :=
  sj_enter ok (by decide +kernel) rfl rfl (Nat.le_of_ble_eq_true rfl) (by simp [Value.category]) (t_X12_errorPosition_0 h)
def wp_X12_write_17 (G : sj_G) (R : sj_R) (x1 : Int32) (σ : sj_S) : Prop := ∃ v1 σ1, sj_C G 2 me_X12_many [.ref (sj_ad G 56)] σ (.ok v1, σ1) ∧ (v1 ≤ x1 → ∃ v3 σ3, sj_C G 2 me_X12_many [.ref (sj_ad G 56)] σ1 (.ok v3, σ3) ∧ R = (.ok ((nI 4) * v3), (sj_st σ3 56 29 ((nI 4) * v3)))) ∧ (¬ (v1 ≤ x1) → vp_in ((nI 4) * x1) 36 ∧ vp_in ((nI 116) + x1) 128 ∧ ∃ v6 σ6, sj_C G 2 me_X12_sign [.int ((σ1 57 ((nI 116) + x1).toNatClampNeg) / (nI 4))] (sj_st σ1 76 ((nI 4) * x1).toNatClampNeg ((nI 48) + x1)) (.ok v6, σ6) ∧ vp_in (((nI 4) * x1) + (nI 1)) 36 ∧ vp_in ((nI 116) + x1) 128 ∧ vp_in (((nI 4) * x1) + (nI 2)) 36 ∧ vp_in (((nI 4) * x1) + (nI 3)) 36 ∧ sj_J G 4 me_X12_write R 17 [.ref (sj_ad G 56), .int (x1 + (nI 1))] (sj_st (sj_st (sj_st σ6 76 (((nI 4) * x1) + (nI 1)).toNatClampNeg v6) 76 (((nI 4) * x1) + (nI 2)).toNatClampNeg ((nI 48) + ((σ6 57 ((nI 116) + x1).toNatClampNeg) - (σ6 57 ((nI 116) + x1).toNatClampNeg) / (nI 4) * (nI 4)))) 76 (((nI 4) * x1) + (nI 3)).toNatClampNeg (nI 59)) [])
set_option maxRecDepth 20000 in
theorem t_X12_write_17 {G : sj_G} {R : sj_R} {x1 : Int32} {σ : sj_S} (h : wp_X12_write_17 G R x1 σ) : sj_J G 4 me_X12_write R 17 [.ref (sj_ad G 56), .int x1] σ [] := by
  unfold wp_X12_write_17 at h
  refine sj_iload_n dX12_write_17 (i := 1) rfl rfl ?_
  refine sj_aload_n dX12_write_18 (i := 0) rfl rfl ?_
  obtain ⟨v1, σ1, hc1, h⟩ := h
  refine sj_callVi (M' := me_X12_many) (b := 56) (As := []) (rest := [.int x1]) dX12_write_19 gX12_write_X12_many rfl hd_X12_many (by decide +kernel) (by decide +kernel) rfl (Nat.le_of_ble_eq_true rfl) (by omega) rfl hc1 ?_
  refine sj_icmp_ge (tgt := 103) dX12_write_22 (by decide) (fun c2 => ?_) (fun c2 => ?_)
  · replace h := h.1 c2
    refine sj_aload_n dX12_write_103 (i := 0) rfl rfl ?_
    refine sj_iconst (v := (nI 4)) dX12_write_104 (by decide +kernel) ?_
    refine sj_aload_n dX12_write_105 (i := 0) rfl rfl ?_
    obtain ⟨v3, σ3, hc3, h⟩ := h
    refine sj_callVi (M' := me_X12_many) (b := 56) (As := []) (rest := [.int (nI 4), .ref (sj_ad G 56)]) dX12_write_106 gX12_write_X12_many rfl hd_X12_many (by decide +kernel) (by decide +kernel) rfl (Nat.le_of_ble_eq_true rfl) (by omega) rfl hc3 ?_
    refine sj_imul dX12_write_109 ?_
    refine sj_put (a := 56) (k9 := 29) dX12_write_110 (by decide +kernel) (by decide +kernel) rfl ?_
    refine sj_aload_n dX12_write_113 (i := 0) rfl rfl ?_
    refine sj_get (a := 56) (k9 := 29) (v := .int ((nI 4) * v3)) dX12_write_114 (by decide +kernel) rfl ?_
    subst h
    exact sj_ret dX12_write_117 rfl rfl
  · replace h := h.2 c2
    refine sj_aload_n dX12_write_25 (i := 0) rfl rfl ?_
    refine sj_get (a := 56) (k9 := 28) (v := .ref (sj_ad G 76)) dX12_write_26 (by decide +kernel) rfl ?_
    refine sj_iconst (v := (nI 4)) dX12_write_29 (by decide +kernel) ?_
    refine sj_iload_n dX12_write_30 (i := 1) rfl rfl ?_
    refine sj_imul dX12_write_31 ?_
    refine sj_bipush (v := (nI 48)) dX12_write_32 (by decide +kernel) ?_
    refine sj_iload_n dX12_write_34 (i := 1) rfl rfl ?_
    refine sj_iadd dX12_write_35 ?_
    obtain ⟨b4, h⟩ := h
    refine sj_iast (a := 76) (j := ((nI 4) * x1).toNatClampNeg) dX12_write_36 rfl (by decide +kernel) b4 rfl ?_
    refine sj_aload_n dX12_write_37 (i := 0) rfl rfl ?_
    refine sj_get (a := 56) (k9 := 28) (v := .ref (sj_ad G 76)) dX12_write_38 (by decide +kernel) rfl ?_
    refine sj_iconst (v := (nI 4)) dX12_write_41 (by decide +kernel) ?_
    refine sj_iload_n dX12_write_42 (i := 1) rfl rfl ?_
    refine sj_imul dX12_write_43 ?_
    refine sj_iconst (v := (nI 1)) dX12_write_44 (by decide +kernel) ?_
    refine sj_iadd dX12_write_45 ?_
    refine sj_aload_n dX12_write_46 (i := 0) rfl rfl ?_
    refine sj_get (a := 56) (k9 := 1) (v := .ref (sj_ad G 57)) dX12_write_47 (by decide +kernel) rfl ?_
    refine sj_bipush (v := (nI 116)) dX12_write_50 (by decide +kernel) ?_
    refine sj_iload_n dX12_write_52 (i := 1) rfl rfl ?_
    refine sj_iadd dX12_write_53 ?_
    obtain ⟨b5, h⟩ := h
    refine sj_iald (a := 57) (j := ((nI 116) + x1).toNatClampNeg) (x := (σ1 57 ((nI 116) + x1).toNatClampNeg)) dX12_write_54 rfl (by decide +kernel) b5 rfl rfl ?_
    refine sj_iconst (v := (nI 4)) dX12_write_55 (by decide +kernel) ?_
    refine sj_idiv dX12_write_56 (by decide +kernel) ?_
    obtain ⟨v6, σ6, hc6, h⟩ := h
    refine sj_callSi (M' := me_X12_sign) (As := [.int ((σ1 57 ((nI 116) + x1).toNatClampNeg) / (nI 4))]) (rest := [.int (((nI 4) * x1) + (nI 1)), .ref (sj_ad G 76)]) dX12_write_57 gX12_write_X12_sign rfl hd_X12_sign (Nat.le_of_ble_eq_true rfl) (by omega) rfl hc6 ?_
    obtain ⟨b7, h⟩ := h
    refine sj_iast (a := 76) (j := (((nI 4) * x1) + (nI 1)).toNatClampNeg) dX12_write_60 rfl (by decide +kernel) b7 rfl ?_
    refine sj_aload_n dX12_write_61 (i := 0) rfl rfl ?_
    refine sj_get (a := 56) (k9 := 28) (v := .ref (sj_ad G 76)) dX12_write_62 (by decide +kernel) rfl ?_
    refine sj_iconst (v := (nI 4)) dX12_write_65 (by decide +kernel) ?_
    refine sj_iload_n dX12_write_66 (i := 1) rfl rfl ?_
    refine sj_imul dX12_write_67 ?_
    refine sj_iconst (v := (nI 2)) dX12_write_68 (by decide +kernel) ?_
    refine sj_iadd dX12_write_69 ?_
    refine sj_bipush (v := (nI 48)) dX12_write_70 (by decide +kernel) ?_
    refine sj_aload_n dX12_write_72 (i := 0) rfl rfl ?_
    refine sj_get (a := 56) (k9 := 1) (v := .ref (sj_ad G 57)) dX12_write_73 (by decide +kernel) rfl ?_
    refine sj_bipush (v := (nI 116)) dX12_write_76 (by decide +kernel) ?_
    refine sj_iload_n dX12_write_78 (i := 1) rfl rfl ?_
    refine sj_iadd dX12_write_79 ?_
    obtain ⟨b8, h⟩ := h
    refine sj_iald (a := 57) (j := ((nI 116) + x1).toNatClampNeg) (x := (σ6 57 ((nI 116) + x1).toNatClampNeg)) dX12_write_80 rfl (by decide +kernel) b8 rfl rfl ?_
    refine sj_iconst (v := (nI 4)) dX12_write_81 (by decide +kernel) ?_
    refine sj_irem dX12_write_82 (by decide +kernel) ?_
    refine sj_iadd dX12_write_83 ?_
    obtain ⟨b9, h⟩ := h
    refine sj_iast (a := 76) (j := (((nI 4) * x1) + (nI 2)).toNatClampNeg) dX12_write_84 rfl (by decide +kernel) b9 rfl ?_
    refine sj_aload_n dX12_write_85 (i := 0) rfl rfl ?_
    refine sj_get (a := 56) (k9 := 28) (v := .ref (sj_ad G 76)) dX12_write_86 (by decide +kernel) rfl ?_
    refine sj_iconst (v := (nI 4)) dX12_write_89 (by decide +kernel) ?_
    refine sj_iload_n dX12_write_90 (i := 1) rfl rfl ?_
    refine sj_imul dX12_write_91 ?_
    refine sj_iconst (v := (nI 3)) dX12_write_92 (by decide +kernel) ?_
    refine sj_iadd dX12_write_93 ?_
    refine sj_bipush (v := (nI 59)) dX12_write_94 (by decide +kernel) ?_
    obtain ⟨b10, h⟩ := h
    refine sj_iast (a := 76) (j := (((nI 4) * x1) + (nI 3)).toNatClampNeg) dX12_write_96 rfl (by decide +kernel) b10 rfl ?_
    refine sj_iinc (v := (x1 + (nI 1))) dX12_write_97 (by decide) rfl rfl ?_
    refine sj_goto (tgt := 17) dX12_write_100 (by decide) ?_
    exact h
def wp_X12_write_0 (G : sj_G) (R : sj_R) (σ : sj_S) : Prop := ∃ v1 σ1, sj_C G 3 me_X12_noTable [.ref (sj_ad G 56), .int (nI 1)] (sj_st σ 56 0 (nI 0)) (.ok v1, σ1) ∧ (v1 = 0 → sj_J G 4 me_X12_write R 17 [.ref (sj_ad G 56), .int (nI 0)] σ1 []) ∧ (¬ (v1 = 0) → R = (.ok (nI 0), σ1))
set_option maxRecDepth 20000 in
theorem t_X12_write_0 {G : sj_G} {R : sj_R} {σ : sj_S} (h : wp_X12_write_0 G R σ) : sj_J G 4 me_X12_write R 0 [.ref (sj_ad G 56), .null] σ [] := by
  unfold wp_X12_write_0 at h
  refine sj_aload_n dX12_write_0 (i := 0) rfl rfl ?_
  refine sj_iconst (v := (nI 0)) dX12_write_1 (by decide +kernel) ?_
  refine sj_put (a := 56) (k9 := 0) dX12_write_2 (by decide +kernel) (by decide +kernel) rfl ?_
  refine sj_aload_n dX12_write_5 (i := 0) rfl rfl ?_
  refine sj_iconst (v := (nI 1)) dX12_write_6 (by decide +kernel) ?_
  obtain ⟨v1, σ1, hc1, h⟩ := h
  refine sj_callVi (M' := me_X12_noTable) (b := 56) (As := [.int (nI 1)]) (rest := []) dX12_write_7 gX12_write_X12_noTable rfl hd_X12_noTable (by decide +kernel) (by decide +kernel) rfl (Nat.le_of_ble_eq_true rfl) (by omega) rfl hc1 ?_
  refine sj_if_eq (tgt := 15) dX12_write_10 (by decide) (fun c2 => ?_) (fun c2 => ?_)
  · replace h := h.1 c2
    refine sj_iconst (v := (nI 0)) dX12_write_15 (by decide +kernel) ?_
    refine sj_istore_n dX12_write_16 (i := 1) rfl (by decide) ?_
    exact h
  · replace h := h.2 c2
    refine sj_iconst (v := (nI 0)) dX12_write_13 (by decide +kernel) ?_
    subst h
    exact sj_ret dX12_write_14 rfl rfl
theorem c_X12_write {G : sj_G} (ok : sj_ok G) {R : sj_R} {σ : sj_S} (h : wp_X12_write_0 G R σ) : sj_C G 4 me_X12_write [.ref (sj_ad G 56)] σ R :=
  sj_enter ok (by decide +kernel) rfl rfl (Nat.le_of_ble_eq_true rfl) (by simp [Value.category]) (t_X12_write_0 h)
def wp_X12_writtenAt_36 (G : sj_G) (R : sj_R) (s0 : Int32) (σ : sj_S) : Prop := R = (.ok s0, σ) ∧ narrow .char (.int s0) = .int s0
set_option maxRecDepth 20000 in
theorem t_X12_writtenAt_36 {G : sj_G} {R : sj_R} {s0 : Int32} {σ : sj_S} (h : wp_X12_writtenAt_36 G R s0 σ) : sj_J G 3 me_X12_writtenAt R 36 [.null, .null] σ [.int s0] := by
  unfold wp_X12_writtenAt_36 at h
  obtain ⟨h, hz⟩ := h
  subst h
  exact sj_ret dX12_writtenAt_36 rfl hz
def wp_X12_writtenAt_0 (G : sj_G) (R : sj_R) (x1 : Int32) (σ : sj_S) : Prop := ∃ v1 σ1, sj_C G 2 me_X12_in [.int x1, .int (nI 0), .int ((σ 56 29) - (nI 1))] (sj_st σ 56 0 (nI 0)) (.ok v1, σ1) ∧ ∃ v2 σ2, sj_C G 2 me_X12_fails [.ref (sj_ad G 56), .int v1, .int (nI 1)] σ1 (.ok v2, σ2) ∧ ((v2 = 0) → vp_in x1 36) ∧ (wp_X12_writtenAt_36 G R (if v2 = 0 then ((σ2 76 x1.toNatClampNeg).toUInt32 % 65536).toInt32 else (nI 32)) σ2)
set_option maxRecDepth 20000 in
theorem t_X12_writtenAt_0 {G : sj_G} {R : sj_R} {x1 : Int32} {σ : sj_S} (h : wp_X12_writtenAt_0 G R x1 σ) : sj_J G 3 me_X12_writtenAt R 0 [.ref (sj_ad G 56), .int x1] σ [] := by
  unfold wp_X12_writtenAt_0 at h
  refine sj_aload_n dX12_writtenAt_0 (i := 0) rfl rfl ?_
  refine sj_iconst (v := (nI 0)) dX12_writtenAt_1 (by decide +kernel) ?_
  refine sj_put (a := 56) (k9 := 0) dX12_writtenAt_2 (by decide +kernel) (by decide +kernel) rfl ?_
  refine sj_aload_n dX12_writtenAt_5 (i := 0) rfl rfl ?_
  refine sj_iload_n dX12_writtenAt_6 (i := 1) rfl rfl ?_
  refine sj_iconst (v := (nI 0)) dX12_writtenAt_7 (by decide +kernel) ?_
  refine sj_aload_n dX12_writtenAt_8 (i := 0) rfl rfl ?_
  refine sj_get (a := 56) (k9 := 29) (v := .int (σ 56 29)) dX12_writtenAt_9 (by decide +kernel) rfl ?_
  refine sj_iconst (v := (nI 1)) dX12_writtenAt_12 (by decide +kernel) ?_
  refine sj_isub dX12_writtenAt_13 ?_
  obtain ⟨v1, σ1, hc1, h⟩ := h
  refine sj_callSi (M' := me_X12_in) (As := [.int x1, .int (nI 0), .int ((σ 56 29) - (nI 1))]) (rest := [.ref (sj_ad G 56)]) dX12_writtenAt_14 gX12_writtenAt_X12_in rfl hd_X12_in (Nat.le_of_ble_eq_true rfl) (by omega) rfl hc1 ?_
  refine sj_iconst (v := (nI 1)) dX12_writtenAt_17 (by decide +kernel) ?_
  obtain ⟨v2, σ2, hc2, h⟩ := h
  refine sj_callVi (M' := me_X12_fails) (b := 56) (As := [.int v1, .int (nI 1)]) (rest := []) dX12_writtenAt_18 gX12_writtenAt_X12_fails rfl hd_X12_fails (by decide +kernel) (by decide +kernel) rfl (Nat.le_of_ble_eq_true rfl) (by omega) rfl hc2 ?_
  obtain ⟨f5, h⟩ := h
  refine sj_if_eq (tgt := 29) dX12_writtenAt_21 (by decide) (fun c3 => ?_) (fun c3 => ?_)
  · have b4 := f5 c3
    refine sj_aload_n dX12_writtenAt_29 (i := 0) rfl rfl ?_
    refine sj_get (a := 56) (k9 := 28) (v := .ref (sj_ad G 76)) dX12_writtenAt_30 (by decide +kernel) rfl ?_
    refine sj_iload_n dX12_writtenAt_33 (i := 1) rfl rfl ?_
    refine sj_iald (a := 76) (j := x1.toNatClampNeg) (x := (σ2 76 x1.toNatClampNeg)) dX12_writtenAt_34 rfl (by decide +kernel) b4 rfl rfl ?_
    refine sj_i2c dX12_writtenAt_35 ?_
    try simp only [if_pos c3] at h
    refine sj_fg [0, 1] ?_
    exact t_X12_writtenAt_36 h
  · refine sj_bipush (v := (nI 32)) dX12_writtenAt_24 (by decide +kernel) ?_
    refine sj_goto (tgt := 36) dX12_writtenAt_26 (by decide) ?_
    try simp only [if_neg c3] at h
    refine sj_fg [0, 1] ?_
    exact t_X12_writtenAt_36 h
theorem c_X12_writtenAt {G : sj_G} (ok : sj_ok G) {R : sj_R} {x1 : Int32} {σ : sj_S} (h : wp_X12_writtenAt_0 G R x1 σ) : sj_C G 3 me_X12_writtenAt [.ref (sj_ad G 56), .int x1] σ R :=
  sj_enter ok (by decide +kernel) rfl rfl (Nat.le_of_ble_eq_true rfl) (by simp [Value.category]) (t_X12_writtenAt_0 h)
def wp_X12_checksum_22 (G : sj_G) (R : sj_R) (x1 : Int32) (x2 : Int32) (σ : sj_S) : Prop := ∃ v1 σ1, sj_C G 2 me_X12_many [.ref (sj_ad G 56)] σ (.ok v1, σ1) ∧ (v1 ≤ x2 → R = (.ok x1, σ1)) ∧ (¬ (v1 ≤ x2) → vp_in ((nI 116) + x2) 128 ∧ sj_J G 3 me_X12_checksum R 22 [.ref (sj_ad G 56), .int (((nI 31) * x1) + (σ1 57 ((nI 116) + x2).toNatClampNeg)), .int (x2 + (nI 1))] σ1 [])
set_option maxRecDepth 20000 in
theorem t_X12_checksum_22 {G : sj_G} {R : sj_R} {x1 : Int32} {x2 : Int32} {σ : sj_S} (h : wp_X12_checksum_22 G R x1 x2 σ) : sj_J G 3 me_X12_checksum R 22 [.ref (sj_ad G 56), .int x1, .int x2] σ [] := by
  unfold wp_X12_checksum_22 at h
  refine sj_iload_n dX12_checksum_22 (i := 2) rfl rfl ?_
  refine sj_aload_n dX12_checksum_23 (i := 0) rfl rfl ?_
  obtain ⟨v1, σ1, hc1, h⟩ := h
  refine sj_callVi (M' := me_X12_many) (b := 56) (As := []) (rest := [.int x2]) dX12_checksum_24 gX12_checksum_X12_many rfl hd_X12_many (by decide +kernel) (by decide +kernel) rfl (Nat.le_of_ble_eq_true rfl) (by omega) rfl hc1 ?_
  refine sj_icmp_ge (tgt := 51) dX12_checksum_27 (by decide) (fun c2 => ?_) (fun c2 => ?_)
  · replace h := h.1 c2
    refine sj_iload_n dX12_checksum_51 (i := 1) rfl rfl ?_
    subst h
    exact sj_ret dX12_checksum_52 rfl rfl
  · replace h := h.2 c2
    refine sj_bipush (v := (nI 31)) dX12_checksum_30 (by decide +kernel) ?_
    refine sj_iload_n dX12_checksum_32 (i := 1) rfl rfl ?_
    refine sj_imul dX12_checksum_33 ?_
    refine sj_aload_n dX12_checksum_34 (i := 0) rfl rfl ?_
    refine sj_get (a := 56) (k9 := 1) (v := .ref (sj_ad G 57)) dX12_checksum_35 (by decide +kernel) rfl ?_
    refine sj_bipush (v := (nI 116)) dX12_checksum_38 (by decide +kernel) ?_
    refine sj_iload_n dX12_checksum_40 (i := 2) rfl rfl ?_
    refine sj_iadd dX12_checksum_41 ?_
    obtain ⟨b3, h⟩ := h
    refine sj_iald (a := 57) (j := ((nI 116) + x2).toNatClampNeg) (x := (σ1 57 ((nI 116) + x2).toNatClampNeg)) dX12_checksum_42 rfl (by decide +kernel) b3 rfl rfl ?_
    refine sj_iadd dX12_checksum_43 ?_
    refine sj_istore_n dX12_checksum_44 (i := 1) rfl (by decide) ?_
    refine sj_iinc (v := (x2 + (nI 1))) dX12_checksum_45 (by decide) rfl rfl ?_
    refine sj_goto (tgt := 22) dX12_checksum_48 (by decide) ?_
    exact h
def wp_X12_checksum_0 (G : sj_G) (R : sj_R) (σ : sj_S) : Prop := (¬ (σ 57 127) = 0 → sj_J G 3 me_X12_checksum R 22 [.ref (sj_ad G 56), .int (nI 17), .int (nI 0)] (sj_st σ 56 0 (nI 0)) []) ∧ ((σ 57 127) = 0 → R = (.ok (nI 0), (sj_st σ 56 0 (nI 0))))
set_option maxRecDepth 20000 in
theorem t_X12_checksum_0 {G : sj_G} {R : sj_R} {σ : sj_S} (h : wp_X12_checksum_0 G R σ) : sj_J G 3 me_X12_checksum R 0 [.ref (sj_ad G 56), .null, .null] σ [] := by
  unfold wp_X12_checksum_0 at h
  refine sj_aload_n dX12_checksum_0 (i := 0) rfl rfl ?_
  refine sj_iconst (v := (nI 0)) dX12_checksum_1 (by decide +kernel) ?_
  refine sj_put (a := 56) (k9 := 0) dX12_checksum_2 (by decide +kernel) (by decide +kernel) rfl ?_
  refine sj_aload_n dX12_checksum_5 (i := 0) rfl rfl ?_
  refine sj_get (a := 56) (k9 := 1) (v := .ref (sj_ad G 57)) dX12_checksum_6 (by decide +kernel) rfl ?_
  refine sj_bipush (v := (nI 127)) dX12_checksum_9 (by decide +kernel) ?_
  refine sj_iald (a := 57) (j := 127) (x := (σ 57 127)) dX12_checksum_11 rfl (by decide +kernel) (vp_in_nI (by decide) (by decide)) (nI_clamp (by decide)) rfl ?_
  refine sj_if_ne (tgt := 17) dX12_checksum_12 (by decide) (fun c1 => ?_) (fun c1 => ?_)
  · replace h := h.1 c1
    refine sj_bipush (v := (nI 17)) dX12_checksum_17 (by decide +kernel) ?_
    refine sj_istore_n dX12_checksum_19 (i := 1) rfl (by decide) ?_
    refine sj_iconst (v := (nI 0)) dX12_checksum_20 (by decide +kernel) ?_
    refine sj_istore_n dX12_checksum_21 (i := 2) rfl (by decide) ?_
    exact h
  · replace h := h.2 c1
    refine sj_iconst (v := (nI 0)) dX12_checksum_15 (by decide +kernel) ?_
    subst h
    exact sj_ret dX12_checksum_16 rfl rfl
theorem c_X12_checksum {G : sj_G} (ok : sj_ok G) {R : sj_R} {σ : sj_S} (h : wp_X12_checksum_0 G R σ) : sj_C G 3 me_X12_checksum [.ref (sj_ad G 56)] σ R :=
  sj_enter ok (by decide +kernel) rfl rfl (Nat.le_of_ble_eq_true rfl) (by simp [Value.category]) (t_X12_checksum_0 h)
def wp_X12_errors_0 (G : sj_G) (R : sj_R) (σ : sj_S) : Prop := R = (.ok (nI 0), (sj_st σ 56 0 (nI 0)))
set_option maxRecDepth 20000 in
theorem t_X12_errors_0 {G : sj_G} {R : sj_R} {σ : sj_S} (h : wp_X12_errors_0 G R σ) : sj_J G 2 me_X12_errors R 0 [.ref (sj_ad G 56)] σ [] := by
  unfold wp_X12_errors_0 at h
  refine sj_aload_n dX12_errors_0 (i := 0) rfl rfl ?_
  refine sj_iconst (v := (nI 0)) dX12_errors_1 (by decide +kernel) ?_
  refine sj_put (a := 56) (k9 := 0) dX12_errors_2 (by decide +kernel) (by decide +kernel) rfl ?_
  refine sj_iconst (v := (nI 0)) dX12_errors_5 (by decide +kernel) ?_
  subst h
  exact sj_ret dX12_errors_6 rfl rfl
theorem c_X12_errors {G : sj_G} (ok : sj_ok G) {R : sj_R} {σ : sj_S} (h : wp_X12_errors_0 G R σ) : sj_C G 2 me_X12_errors [.ref (sj_ad G 56)] σ R :=
  sj_enter ok (by decide +kernel) rfl rfl (Nat.le_of_ble_eq_true rfl) (by simp [Value.category]) (t_X12_errors_0 h)
