def wp_X12_thrown_0 (G : sj_G) (R : sj_R) (σ : sj_S) : Prop := R = (.ok (σ 56 0), σ)
set_option maxRecDepth 20000 in
theorem t_X12_thrown_0 {G : sj_G} {R : sj_R} {σ : sj_S} (h : wp_X12_thrown_0 G R σ) : sj_J G 2 me_X12_thrown R 0 [.ref (sj_ad G 56)] σ [] := by
  unfold wp_X12_thrown_0 at h
  refine sj_aload_n dX12_thrown_0 (i := 0) rfl rfl ?_
  refine sj_get (a := 56) (k9 := 0) (v := .int (σ 56 0)) dX12_thrown_1 (by decide +kernel) rfl ?_
  subst h
  exact sj_ret dX12_thrown_4 rfl rfl
theorem c_X12_thrown {G : sj_G} (ok : sj_ok G) {R : sj_R} {σ : sj_S} (h : wp_X12_thrown_0 G R σ) : sj_C G 2 me_X12_thrown [.ref (sj_ad G 56)] σ R :=
  sj_enter ok (by decide +kernel) rfl rfl (Nat.le_of_ble_eq_true rfl) (by simp [Value.category]) (t_X12_thrown_0 h)
def wp_X12_in_15 (G : sj_G) (R : sj_R) (s0 : Int32) (σ : sj_S) : Prop := R = (.ok s0, σ) ∧ (s0 = nI 0 ∨ s0 = nI 1)
set_option maxRecDepth 20000 in
theorem t_X12_in_15 {G : sj_G} {R : sj_R} {s0 : Int32} {σ : sj_S} (h : wp_X12_in_15 G R s0 σ) : sj_J G 2 me_X12_in R 15 [.null, .null, .null] σ [.int s0] := by
  unfold wp_X12_in_15 at h
  obtain ⟨h, hz⟩ := h
  subst h
  exact sj_ret dX12_in_15 rfl (sj_nb hz)
def wp_X12_in_0 (G : sj_G) (R : sj_R) (x0 : Int32) (x1 : Int32) (x2 : Int32) (σ : sj_S) : Prop := (wp_X12_in_15 G R (if x0 < x1 then (nI 0) else (if x2 < x0 then (nI 0) else (nI 1))) σ)
set_option maxRecDepth 20000 in
theorem t_X12_in_0 {G : sj_G} {R : sj_R} {x0 : Int32} {x1 : Int32} {x2 : Int32} {σ : sj_S} (h : wp_X12_in_0 G R x0 x1 x2 σ) : sj_J G 2 me_X12_in R 0 [.int x0, .int x1, .int x2] σ [] := by
  unfold wp_X12_in_0 at h
  refine sj_iload_n dX12_in_0 (i := 0) rfl rfl ?_
  refine sj_iload_n dX12_in_1 (i := 1) rfl rfl ?_
  refine sj_icmp_lt (tgt := 14) dX12_in_2 (by decide) (fun c1 => ?_) (fun c1 => ?_)
  · refine sj_iconst (v := (nI 0)) dX12_in_14 (by decide +kernel) ?_
    try simp only [if_pos c1] at h
    refine sj_fg [0, 1, 2] ?_
    exact t_X12_in_15 h
  · refine sj_iload_n dX12_in_5 (i := 0) rfl rfl ?_
    refine sj_iload_n dX12_in_6 (i := 2) rfl rfl ?_
    refine sj_icmp_gt (tgt := 14) dX12_in_7 (by decide) (fun c2 => ?_) (fun c2 => ?_)
    · refine sj_iconst (v := (nI 0)) dX12_in_14 (by decide +kernel) ?_
      try simp only [if_neg c1, if_pos c2] at h
      refine sj_fg [0, 1, 2] ?_
      exact t_X12_in_15 h
    · refine sj_iconst (v := (nI 1)) dX12_in_10 (by decide +kernel) ?_
      refine sj_goto (tgt := 15) dX12_in_11 (by decide) ?_
      try simp only [if_neg c1, if_neg c2] at h
      refine sj_fg [0, 1, 2] ?_
      exact t_X12_in_15 h
theorem c_X12_in {G : sj_G} (ok : sj_ok G) {R : sj_R} {x0 : Int32} {x1 : Int32} {x2 : Int32} {σ : sj_S} (h : wp_X12_in_0 G R x0 x1 x2 σ) : sj_C G 2 me_X12_in [.int x0, .int x1, .int x2] σ R :=
  sj_enter ok (by decide +kernel) rfl rfl (Nat.le_of_ble_eq_true rfl) (by simp [Value.category]) (t_X12_in_0 h)
def wp_X12_fails_28 (G : sj_G) (R : sj_R) (s0 : Int32) (σ : sj_S) : Prop := R = (.ok s0, σ) ∧ (s0 = nI 0 ∨ s0 = nI 1)
set_option maxRecDepth 20000 in
theorem t_X12_fails_28 {G : sj_G} {R : sj_R} {s0 : Int32} {σ : sj_S} (h : wp_X12_fails_28 G R s0 σ) : sj_J G 2 me_X12_fails R 28 [.null, .null, .null] σ [.int s0] := by
  unfold wp_X12_fails_28 at h
  obtain ⟨h, hz⟩ := h
  subst h
  exact sj_ret dX12_fails_28 rfl (sj_nb hz)
def wp_X12_fails_16 (G : sj_G) (R : sj_R) (σ : sj_S) : Prop := (wp_X12_fails_28 G R (if (σ 56 0) = 0 then (nI 0) else (nI 1)) σ)
set_option maxRecDepth 20000 in
theorem t_X12_fails_16 {G : sj_G} {R : sj_R} {σ : sj_S} (h : wp_X12_fails_16 G R σ) : sj_J G 2 me_X12_fails R 16 [.ref (sj_ad G 56), .null, .null] σ [] := by
  unfold wp_X12_fails_16 at h
  refine sj_aload_n dX12_fails_16 (i := 0) rfl rfl ?_
  refine sj_get (a := 56) (k9 := 0) (v := .int (σ 56 0)) dX12_fails_17 (by decide +kernel) rfl ?_
  refine sj_if_eq (tgt := 27) dX12_fails_20 (by decide) (fun c1 => ?_) (fun c1 => ?_)
  · refine sj_iconst (v := (nI 0)) dX12_fails_27 (by decide +kernel) ?_
    try simp only [if_pos c1] at h
    refine sj_fg [0] ?_
    exact t_X12_fails_28 h
  · refine sj_iconst (v := (nI 1)) dX12_fails_23 (by decide +kernel) ?_
    refine sj_goto (tgt := 28) dX12_fails_24 (by decide) ?_
    try simp only [if_neg c1] at h
    refine sj_fg [0] ?_
    exact t_X12_fails_28 h
def wp_X12_fails_0 (G : sj_G) (R : sj_R) (x1 : Int32) (x2 : Int32) (σ : sj_S) : Prop := (wp_X12_fails_16 G R (if x1 = 0 then (if (σ 56 0) = 0 then (sj_st σ 56 0 x2) else σ) else σ))
set_option maxRecDepth 20000 in
theorem t_X12_fails_0 {G : sj_G} {R : sj_R} {x1 : Int32} {x2 : Int32} {σ : sj_S} (h : wp_X12_fails_0 G R x1 x2 σ) : sj_J G 2 me_X12_fails R 0 [.ref (sj_ad G 56), .int x1, .int x2] σ [] := by
  unfold wp_X12_fails_0 at h
  refine sj_iload_n dX12_fails_0 (i := 1) rfl rfl ?_
  refine sj_if_ne (tgt := 16) dX12_fails_1 (by decide) (fun c1 => ?_) (fun c1 => ?_)
  · try simp only [if_neg c1] at h
    refine sj_fg [1, 2] ?_
    exact t_X12_fails_16 h
  · refine sj_aload_n dX12_fails_4 (i := 0) rfl rfl ?_
    refine sj_get (a := 56) (k9 := 0) (v := .int (σ 56 0)) dX12_fails_5 (by decide +kernel) rfl ?_
    refine sj_if_ne (tgt := 16) dX12_fails_8 (by decide) (fun c2 => ?_) (fun c2 => ?_)
    · try simp only [if_pos c1, if_neg c2] at h
      refine sj_fg [1, 2] ?_
      exact t_X12_fails_16 h
    · refine sj_aload_n dX12_fails_11 (i := 0) rfl rfl ?_
      refine sj_iload_n dX12_fails_12 (i := 2) rfl rfl ?_
      refine sj_put (a := 56) (k9 := 0) dX12_fails_13 (by decide +kernel) (by decide +kernel) rfl ?_
      try simp only [if_pos c1, if_pos c2] at h
      refine sj_fg [1, 2] ?_
      exact t_X12_fails_16 h
theorem c_X12_fails {G : sj_G} (ok : sj_ok G) {R : sj_R} {x1 : Int32} {x2 : Int32} {σ : sj_S} (h : wp_X12_fails_0 G R x1 x2 σ) : sj_C G 2 me_X12_fails [.ref (sj_ad G 56), .int x1, .int x2] σ R :=
  sj_enter ok (by decide +kernel) rfl rfl (Nat.le_of_ble_eq_true rfl) (by simp [Value.category]) (t_X12_fails_0 h)
def wp_X12_keeps_55 (G : sj_G) (R : sj_R) (σ : sj_S) : Prop := sj_J G 2 me_X12_keeps R 57 [.ref (sj_ad G 56), .int (nI 0)] σ []
set_option maxRecDepth 20000 in
theorem t_X12_keeps_55 {G : sj_G} {R : sj_R} {σ : sj_S} (h : wp_X12_keeps_55 G R σ) : sj_J G 2 me_X12_keeps R 55 [.ref (sj_ad G 56), .null] σ [] := by
  unfold wp_X12_keeps_55 at h
  refine sj_iconst (v := (nI 0)) dX12_keeps_55 (by decide +kernel) ?_
  refine sj_istore_n dX12_keeps_56 (i := 1) rfl (by decide) ?_
  exact h
def wp_X12_keeps_21 (G : sj_G) (R : sj_R) (x1 : Int32) (σ : sj_S) : Prop := (((nI 128) * (σ 56 3)) ≤ x1 → (wp_X12_keeps_55 G R σ)) ∧ (¬ (((nI 128) * (σ 56 3)) ≤ x1) → vp_in (x1 + (nI 128)) 2560 ∧ vp_in x1 2560 ∧ sj_J G 2 me_X12_keeps R 21 [.ref (sj_ad G 56), .int (x1 + (nI 1))] (sj_st σ 58 x1.toNatClampNeg (σ 58 (x1 + (nI 128)).toNatClampNeg)) [])
set_option maxRecDepth 20000 in
theorem t_X12_keeps_21 {G : sj_G} {R : sj_R} {x1 : Int32} {σ : sj_S} (h : wp_X12_keeps_21 G R x1 σ) : sj_J G 2 me_X12_keeps R 21 [.ref (sj_ad G 56), .int x1] σ [] := by
  unfold wp_X12_keeps_21 at h
  refine sj_iload_n dX12_keeps_21 (i := 1) rfl rfl ?_
  refine sj_sipush (v := (nI 128)) dX12_keeps_22 (by decide +kernel) ?_
  refine sj_aload_n dX12_keeps_25 (i := 0) rfl rfl ?_
  refine sj_get (a := 56) (k9 := 3) (v := .int (σ 56 3)) dX12_keeps_26 (by decide +kernel) rfl ?_
  refine sj_imul dX12_keeps_29 ?_
  refine sj_icmp_ge (tgt := 55) dX12_keeps_30 (by decide) (fun c4 => ?_) (fun c4 => ?_)
  · replace h := h.1 c4
    refine sj_fg [1] ?_
    exact t_X12_keeps_55 h
  · replace h := h.2 c4
    refine sj_aload_n dX12_keeps_33 (i := 0) rfl rfl ?_
    refine sj_get (a := 56) (k9 := 2) (v := .ref (sj_ad G 58)) dX12_keeps_34 (by decide +kernel) rfl ?_
    refine sj_iload_n dX12_keeps_37 (i := 1) rfl rfl ?_
    refine sj_aload_n dX12_keeps_38 (i := 0) rfl rfl ?_
    refine sj_get (a := 56) (k9 := 2) (v := .ref (sj_ad G 58)) dX12_keeps_39 (by decide +kernel) rfl ?_
    refine sj_iload_n dX12_keeps_42 (i := 1) rfl rfl ?_
    refine sj_sipush (v := (nI 128)) dX12_keeps_43 (by decide +kernel) ?_
    refine sj_iadd dX12_keeps_46 ?_
    obtain ⟨b5, h⟩ := h
    refine sj_iald (a := 58) (j := (x1 + (nI 128)).toNatClampNeg) (x := (σ 58 (x1 + (nI 128)).toNatClampNeg)) dX12_keeps_47 rfl (by decide +kernel) b5 rfl rfl ?_
    obtain ⟨b6, h⟩ := h
    refine sj_iast (a := 58) (j := x1.toNatClampNeg) dX12_keeps_48 rfl (by decide +kernel) b6 rfl ?_
    refine sj_iinc (v := (x1 + (nI 1))) dX12_keeps_49 (by decide) rfl rfl ?_
    refine sj_goto (tgt := 21) dX12_keeps_52 (by decide) ?_
    exact h
def wp_X12_keeps_57 (G : sj_G) (R : sj_R) (x1 : Int32) (σ : sj_S) : Prop := ((nI 128) ≤ x1 → R = (.ok 0, (sj_st (sj_st σ 56 3 ((σ 56 3) + (nI 1))) 56 7 (-1)))) ∧ (¬ ((nI 128) ≤ x1) → vp_in x1 128 ∧ vp_in (((nI 128) * (σ 56 3)) + x1) 2560 ∧ sj_J G 2 me_X12_keeps R 57 [.ref (sj_ad G 56), .int (x1 + (nI 1))] (sj_st σ 58 (((nI 128) * (σ 56 3)) + x1).toNatClampNeg (σ 57 x1.toNatClampNeg)) [])
set_option maxRecDepth 20000 in
theorem t_X12_keeps_57 {G : sj_G} {R : sj_R} {x1 : Int32} {σ : sj_S} (h : wp_X12_keeps_57 G R x1 σ) : sj_J G 2 me_X12_keeps R 57 [.ref (sj_ad G 56), .int x1] σ [] := by
  unfold wp_X12_keeps_57 at h
  refine sj_iload_n dX12_keeps_57 (i := 1) rfl rfl ?_
  refine sj_sipush (v := (nI 128)) dX12_keeps_58 (by decide +kernel) ?_
  refine sj_icmp_ge (tgt := 91) dX12_keeps_61 (by decide) (fun c1 => ?_) (fun c1 => ?_)
  · replace h := h.1 c1
    refine sj_aload_n dX12_keeps_91 (i := 0) rfl rfl ?_
    refine sj_dup dX12_keeps_92 rfl ?_
    refine sj_get (a := 56) (k9 := 3) (v := .int (σ 56 3)) dX12_keeps_93 (by decide +kernel) rfl ?_
    refine sj_iconst (v := (nI 1)) dX12_keeps_96 (by decide +kernel) ?_
    refine sj_iadd dX12_keeps_97 ?_
    refine sj_put (a := 56) (k9 := 3) dX12_keeps_98 (by decide +kernel) (by decide +kernel) rfl ?_
    refine sj_aload_n dX12_keeps_101 (i := 0) rfl rfl ?_
    refine sj_iconst (v := (-1)) dX12_keeps_102 (by decide +kernel) ?_
    refine sj_put (a := 56) (k9 := 7) dX12_keeps_103 (by decide +kernel) (by decide +kernel) rfl ?_
    subst h
    exact sj_vret dX12_keeps_106 rfl
  · replace h := h.2 c1
    refine sj_aload_n dX12_keeps_64 (i := 0) rfl rfl ?_
    refine sj_get (a := 56) (k9 := 2) (v := .ref (sj_ad G 58)) dX12_keeps_65 (by decide +kernel) rfl ?_
    refine sj_sipush (v := (nI 128)) dX12_keeps_68 (by decide +kernel) ?_
    refine sj_aload_n dX12_keeps_71 (i := 0) rfl rfl ?_
    refine sj_get (a := 56) (k9 := 3) (v := .int (σ 56 3)) dX12_keeps_72 (by decide +kernel) rfl ?_
    refine sj_imul dX12_keeps_75 ?_
    refine sj_iload_n dX12_keeps_76 (i := 1) rfl rfl ?_
    refine sj_iadd dX12_keeps_77 ?_
    refine sj_aload_n dX12_keeps_78 (i := 0) rfl rfl ?_
    refine sj_get (a := 56) (k9 := 1) (v := .ref (sj_ad G 57)) dX12_keeps_79 (by decide +kernel) rfl ?_
    refine sj_iload_n dX12_keeps_82 (i := 1) rfl rfl ?_
    obtain ⟨b2, h⟩ := h
    refine sj_iald (a := 57) (j := x1.toNatClampNeg) (x := (σ 57 x1.toNatClampNeg)) dX12_keeps_83 rfl (by decide +kernel) b2 rfl rfl ?_
    obtain ⟨b3, h⟩ := h
    refine sj_iast (a := 58) (j := (((nI 128) * (σ 56 3)) + x1).toNatClampNeg) dX12_keeps_84 rfl (by decide +kernel) b3 rfl ?_
    refine sj_iinc (v := (x1 + (nI 1))) dX12_keeps_85 (by decide) rfl rfl ?_
    refine sj_goto (tgt := 57) dX12_keeps_88 (by decide) ?_
    exact h
def wp_X12_keeps_0 (G : sj_G) (R : sj_R) (σ : sj_S) : Prop := (¬ (σ 56 3) = (nI 20) → (wp_X12_keeps_55 G R σ)) ∧ ((σ 56 3) = (nI 20) → sj_J G 2 me_X12_keeps R 21 [.ref (sj_ad G 56), .int (nI 0)] (sj_st σ 56 3 ((σ 56 3) - (nI 1))) [])
set_option maxRecDepth 20000 in
theorem t_X12_keeps_0 {G : sj_G} {R : sj_R} {σ : sj_S} (h : wp_X12_keeps_0 G R σ) : sj_J G 2 me_X12_keeps R 0 [.ref (sj_ad G 56), .null] σ [] := by
  unfold wp_X12_keeps_0 at h
  refine sj_aload_n dX12_keeps_0 (i := 0) rfl rfl ?_
  refine sj_get (a := 56) (k9 := 3) (v := .int (σ 56 3)) dX12_keeps_1 (by decide +kernel) rfl ?_
  refine sj_bipush (v := (nI 20)) dX12_keeps_4 (by decide +kernel) ?_
  refine sj_icmp_ne (tgt := 55) dX12_keeps_6 (by decide) (fun c2 => ?_) (fun c2 => ?_)
  · replace h := h.1 c2
    exact t_X12_keeps_55 h
  · replace h := h.2 c2
    refine sj_aload_n dX12_keeps_9 (i := 0) rfl rfl ?_
    refine sj_dup dX12_keeps_10 rfl ?_
    refine sj_get (a := 56) (k9 := 3) (v := .int (σ 56 3)) dX12_keeps_11 (by decide +kernel) rfl ?_
    refine sj_iconst (v := (nI 1)) dX12_keeps_14 (by decide +kernel) ?_
    refine sj_isub dX12_keeps_15 ?_
    refine sj_put (a := 56) (k9 := 3) dX12_keeps_16 (by decide +kernel) (by decide +kernel) rfl ?_
    refine sj_iconst (v := (nI 0)) dX12_keeps_19 (by decide +kernel) ?_
    refine sj_istore_n dX12_keeps_20 (i := 1) rfl (by decide) ?_
    exact h
theorem c_X12_keeps {G : sj_G} (ok : sj_ok G) {R : sj_R} {σ : sj_S} (h : wp_X12_keeps_0 G R σ) : sj_C G 2 me_X12_keeps [.ref (sj_ad G 56)] σ R :=
  sj_enter ok (by decide +kernel) rfl rfl (Nat.le_of_ble_eq_true rfl) (by simp [Value.category]) (t_X12_keeps_0 h)
def wp_X12_undo_26 (G : sj_G) (R : sj_R) (x1 : Int32) (σ : sj_S) : Prop := ((nI 128) ≤ x1 → R = (.ok (σ 56 3), (sj_st σ 56 7 (-1)))) ∧ (¬ ((nI 128) ≤ x1) → vp_in (((nI 128) * (σ 56 3)) + x1) 2560 ∧ vp_in x1 128 ∧ sj_J G 2 me_X12_undo R 26 [.ref (sj_ad G 56), .int (x1 + (nI 1))] (sj_st σ 57 x1.toNatClampNeg (σ 58 (((nI 128) * (σ 56 3)) + x1).toNatClampNeg)) [])
set_option maxRecDepth 20000 in
theorem t_X12_undo_26 {G : sj_G} {R : sj_R} {x1 : Int32} {σ : sj_S} (h : wp_X12_undo_26 G R x1 σ) : sj_J G 2 me_X12_undo R 26 [.ref (sj_ad G 56), .int x1] σ [] := by
  unfold wp_X12_undo_26 at h
  refine sj_iload_n dX12_undo_26 (i := 1) rfl rfl ?_
  refine sj_sipush (v := (nI 128)) dX12_undo_27 (by decide +kernel) ?_
  refine sj_icmp_ge (tgt := 60) dX12_undo_30 (by decide) (fun c1 => ?_) (fun c1 => ?_)
  · replace h := h.1 c1
    refine sj_aload_n dX12_undo_60 (i := 0) rfl rfl ?_
    refine sj_iconst (v := (-1)) dX12_undo_61 (by decide +kernel) ?_
    refine sj_put (a := 56) (k9 := 7) dX12_undo_62 (by decide +kernel) (by decide +kernel) rfl ?_
    refine sj_aload_n dX12_undo_65 (i := 0) rfl rfl ?_
    refine sj_get (a := 56) (k9 := 3) (v := .int (σ 56 3)) dX12_undo_66 (by decide +kernel) rfl ?_
    subst h
    exact sj_ret dX12_undo_69 rfl rfl
  · replace h := h.2 c1
    refine sj_aload_n dX12_undo_33 (i := 0) rfl rfl ?_
    refine sj_get (a := 56) (k9 := 1) (v := .ref (sj_ad G 57)) dX12_undo_34 (by decide +kernel) rfl ?_
    refine sj_iload_n dX12_undo_37 (i := 1) rfl rfl ?_
    refine sj_aload_n dX12_undo_38 (i := 0) rfl rfl ?_
    refine sj_get (a := 56) (k9 := 2) (v := .ref (sj_ad G 58)) dX12_undo_39 (by decide +kernel) rfl ?_
    refine sj_sipush (v := (nI 128)) dX12_undo_42 (by decide +kernel) ?_
    refine sj_aload_n dX12_undo_45 (i := 0) rfl rfl ?_
    refine sj_get (a := 56) (k9 := 3) (v := .int (σ 56 3)) dX12_undo_46 (by decide +kernel) rfl ?_
    refine sj_imul dX12_undo_49 ?_
    refine sj_iload_n dX12_undo_50 (i := 1) rfl rfl ?_
    refine sj_iadd dX12_undo_51 ?_
    obtain ⟨b2, h⟩ := h
    refine sj_iald (a := 58) (j := (((nI 128) * (σ 56 3)) + x1).toNatClampNeg) (x := (σ 58 (((nI 128) * (σ 56 3)) + x1).toNatClampNeg)) dX12_undo_52 rfl (by decide +kernel) b2 rfl rfl ?_
    obtain ⟨b3, h⟩ := h
    refine sj_iast (a := 57) (j := x1.toNatClampNeg) dX12_undo_53 rfl (by decide +kernel) b3 rfl ?_
    refine sj_iinc (v := (x1 + (nI 1))) dX12_undo_54 (by decide) rfl rfl ?_
    refine sj_goto (tgt := 26) dX12_undo_57 (by decide) ?_
    exact h
def wp_X12_undo_0 (G : sj_G) (R : sj_R) (σ : sj_S) : Prop := (¬ (σ 56 3) = 0 → sj_J G 2 me_X12_undo R 26 [.ref (sj_ad G 56), .int (nI 0)] (sj_st (sj_st σ 56 0 (nI 0)) 56 3 ((σ 56 3) - (nI 1))) []) ∧ ((σ 56 3) = 0 → R = (.ok (-1), (sj_st σ 56 0 (nI 0))))
set_option maxRecDepth 20000 in
theorem t_X12_undo_0 {G : sj_G} {R : sj_R} {σ : sj_S} (h : wp_X12_undo_0 G R σ) : sj_J G 2 me_X12_undo R 0 [.ref (sj_ad G 56), .null] σ [] := by
  unfold wp_X12_undo_0 at h
  refine sj_aload_n dX12_undo_0 (i := 0) rfl rfl ?_
  refine sj_iconst (v := (nI 0)) dX12_undo_1 (by decide +kernel) ?_
  refine sj_put (a := 56) (k9 := 0) dX12_undo_2 (by decide +kernel) (by decide +kernel) rfl ?_
  refine sj_aload_n dX12_undo_5 (i := 0) rfl rfl ?_
  refine sj_get (a := 56) (k9 := 3) (v := .int (σ 56 3)) dX12_undo_6 (by decide +kernel) rfl ?_
  refine sj_if_ne (tgt := 14) dX12_undo_9 (by decide) (fun c1 => ?_) (fun c1 => ?_)
  · replace h := h.1 c1
    refine sj_aload_n dX12_undo_14 (i := 0) rfl rfl ?_
    refine sj_dup dX12_undo_15 rfl ?_
    refine sj_get (a := 56) (k9 := 3) (v := .int (σ 56 3)) dX12_undo_16 (by decide +kernel) rfl ?_
    refine sj_iconst (v := (nI 1)) dX12_undo_19 (by decide +kernel) ?_
    refine sj_isub dX12_undo_20 ?_
    refine sj_put (a := 56) (k9 := 3) dX12_undo_21 (by decide +kernel) (by decide +kernel) rfl ?_
    refine sj_iconst (v := (nI 0)) dX12_undo_24 (by decide +kernel) ?_
    refine sj_istore_n dX12_undo_25 (i := 1) rfl (by decide) ?_
    exact h
  · replace h := h.2 c1
    refine sj_iconst (v := (-1)) dX12_undo_12 (by decide +kernel) ?_
    subst h
    exact sj_ret dX12_undo_13 rfl rfl
theorem c_X12_undo {G : sj_G} (ok : sj_ok G) {R : sj_R} {σ : sj_S} (h : wp_X12_undo_0 G R σ) : sj_C G 2 me_X12_undo [.ref (sj_ad G 56)] σ R :=
  sj_enter ok (by decide +kernel) rfl rfl (Nat.le_of_ble_eq_true rfl) (by simp [Value.category]) (t_X12_undo_0 h)
def wp_X12_many_0 (G : sj_G) (R : sj_R) (σ : sj_S) : Prop := R = (.ok (σ 57 125), σ)
set_option maxRecDepth 20000 in
theorem t_X12_many_0 {G : sj_G} {R : sj_R} {σ : sj_S} (h : wp_X12_many_0 G R σ) : sj_J G 2 me_X12_many R 0 [.ref (sj_ad G 56)] σ [] := by
  unfold wp_X12_many_0 at h
  refine sj_aload_n dX12_many_0 (i := 0) rfl rfl ?_
  refine sj_get (a := 56) (k9 := 1) (v := .ref (sj_ad G 57)) dX12_many_1 (by decide +kernel) rfl ?_
  refine sj_bipush (v := (nI 125)) dX12_many_4 (by decide +kernel) ?_
  refine sj_iald (a := 57) (j := 125) (x := (σ 57 125)) dX12_many_6 rfl (by decide +kernel) (vp_in_nI (by decide) (by decide)) (nI_clamp (by decide)) rfl ?_
  subst h
  exact sj_ret dX12_many_7 rfl rfl
theorem c_X12_many {G : sj_G} (ok : sj_ok G) {R : sj_R} {σ : sj_S} (h : wp_X12_many_0 G R σ) : sj_C G 2 me_X12_many [.ref (sj_ad G 56)] σ R :=
  sj_enter ok (by decide +kernel) rfl rfl (Nat.le_of_ble_eq_true rfl) (by simp [Value.category]) (t_X12_many_0 h)
def wp_X12_noLesson_0 (G : sj_G) (R : sj_R) (x1 : Int32) (x2 : Int32) (σ : sj_S) : Prop := ∃ v1 σ1, sj_C G 2 me_X12_many [.ref (sj_ad G 56)] σ (.ok v1, σ1) ∧ ∃ v2 σ2, sj_C G 2 me_X12_in [.int x1, .int (nI 0), .int (v1 - (nI 1))] σ1 (.ok v2, σ2) ∧ ∃ v3 σ3, sj_C G 2 me_X12_fails [.ref (sj_ad G 56), .int v2, .int x2] σ2 (.ok v3, σ3) ∧ R = (.ok v3, σ3) ∧ (v3 = nI 0 ∨ v3 = nI 1)
set_option maxRecDepth 20000 in
theorem t_X12_noLesson_0 {G : sj_G} {R : sj_R} {x1 : Int32} {x2 : Int32} {σ : sj_S} (h : wp_X12_noLesson_0 G R x1 x2 σ) : sj_J G 3 me_X12_noLesson R 0 [.ref (sj_ad G 56), .int x1, .int x2] σ [] := by
  unfold wp_X12_noLesson_0 at h
  refine sj_aload_n dX12_noLesson_0 (i := 0) rfl rfl ?_
  refine sj_iload_n dX12_noLesson_1 (i := 1) rfl rfl ?_
  refine sj_iconst (v := (nI 0)) dX12_noLesson_2 (by decide +kernel) ?_
  refine sj_aload_n dX12_noLesson_3 (i := 0) rfl rfl ?_
  obtain ⟨v1, σ1, hc1, h⟩ := h
  refine sj_callVi (M' := me_X12_many) (b := 56) (As := []) (rest := [.int (nI 0), .int x1, .ref (sj_ad G 56)]) dX12_noLesson_4 gX12_noLesson_X12_many rfl hd_X12_many (by decide +kernel) (by decide +kernel) rfl (Nat.le_of_ble_eq_true rfl) (by omega) rfl hc1 ?_
  refine sj_iconst (v := (nI 1)) dX12_noLesson_7 (by decide +kernel) ?_
  refine sj_isub dX12_noLesson_8 ?_
  obtain ⟨v2, σ2, hc2, h⟩ := h
  refine sj_callSi (M' := me_X12_in) (As := [.int x1, .int (nI 0), .int (v1 - (nI 1))]) (rest := [.ref (sj_ad G 56)]) dX12_noLesson_9 gX12_noLesson_X12_in rfl hd_X12_in (Nat.le_of_ble_eq_true rfl) (by omega) rfl hc2 ?_
  refine sj_iload_n dX12_noLesson_12 (i := 2) rfl rfl ?_
  obtain ⟨v3, σ3, hc3, h⟩ := h
  refine sj_callVi (M' := me_X12_fails) (b := 56) (As := [.int v2, .int x2]) (rest := []) dX12_noLesson_13 gX12_noLesson_X12_fails rfl hd_X12_fails (by decide +kernel) (by decide +kernel) rfl (Nat.le_of_ble_eq_true rfl) (by omega) rfl hc3 ?_
  obtain ⟨h, hz⟩ := h
  subst h
  exact sj_ret dX12_noLesson_16 rfl (sj_nb hz)
theorem c_X12_noLesson {G : sj_G} (ok : sj_ok G) {R : sj_R} {x1 : Int32} {x2 : Int32} {σ : sj_S} (h : wp_X12_noLesson_0 G R x1 x2 σ) : sj_C G 3 me_X12_noLesson [.ref (sj_ad G 56), .int x1, .int x2] σ R :=
  sj_enter ok (by decide +kernel) rfl rfl (Nat.le_of_ble_eq_true rfl) (by simp [Value.category]) (t_X12_noLesson_0 h)
def wp_X12_noTable_17 (G : sj_G) (R : sj_R) (x1 : Int32) (s0 : Int32) (σ : sj_S) : Prop := ∃ v1 σ1, sj_C G 2 me_X12_fails [.ref (sj_ad G 56), .int s0, .int x1] σ (.ok v1, σ1) ∧ R = (.ok v1, σ1) ∧ (v1 = nI 0 ∨ v1 = nI 1)
set_option maxRecDepth 20000 in
theorem t_X12_noTable_17 {G : sj_G} {R : sj_R} {x1 : Int32} {s0 : Int32} {σ : sj_S} (h : wp_X12_noTable_17 G R x1 s0 σ) : sj_J G 3 me_X12_noTable R 17 [.null, .int x1] σ [.int s0, .ref (sj_ad G 56)] := by
  unfold wp_X12_noTable_17 at h
  refine sj_iload_n dX12_noTable_17 (i := 1) rfl rfl ?_
  obtain ⟨v1, σ1, hc1, h⟩ := h
  refine sj_callVi (M' := me_X12_fails) (b := 56) (As := [.int s0, .int x1]) (rest := []) dX12_noTable_18 gX12_noTable_X12_fails rfl hd_X12_fails (by decide +kernel) (by decide +kernel) rfl (Nat.le_of_ble_eq_true rfl) (by omega) rfl hc1 ?_
  obtain ⟨h, hz⟩ := h
  subst h
  exact sj_ret dX12_noTable_21 rfl (sj_nb hz)
def wp_X12_noTable_0 (G : sj_G) (R : sj_R) (x1 : Int32) (σ : sj_S) : Prop := (wp_X12_noTable_17 G R x1 (if (σ 57 127) = (nI 1) then (nI 1) else (nI 0)) σ)
set_option maxRecDepth 20000 in
theorem t_X12_noTable_0 {G : sj_G} {R : sj_R} {x1 : Int32} {σ : sj_S} (h : wp_X12_noTable_0 G R x1 σ) : sj_J G 3 me_X12_noTable R 0 [.ref (sj_ad G 56), .int x1] σ [] := by
  unfold wp_X12_noTable_0 at h
  refine sj_aload_n dX12_noTable_0 (i := 0) rfl rfl ?_
  refine sj_aload_n dX12_noTable_1 (i := 0) rfl rfl ?_
  refine sj_get (a := 56) (k9 := 1) (v := .ref (sj_ad G 57)) dX12_noTable_2 (by decide +kernel) rfl ?_
  refine sj_bipush (v := (nI 127)) dX12_noTable_5 (by decide +kernel) ?_
  refine sj_iald (a := 57) (j := 127) (x := (σ 57 127)) dX12_noTable_7 rfl (by decide +kernel) (vp_in_nI (by decide) (by decide)) (nI_clamp (by decide)) rfl ?_
  refine sj_iconst (v := (nI 1)) dX12_noTable_8 (by decide +kernel) ?_
  refine sj_icmp_ne (tgt := 16) dX12_noTable_9 (by decide) (fun c1 => ?_) (fun c1 => ?_)
  · refine sj_iconst (v := (nI 0)) dX12_noTable_16 (by decide +kernel) ?_
    try simp only [if_neg c1] at h
    refine sj_fg [0] ?_
    exact t_X12_noTable_17 h
  · refine sj_iconst (v := (nI 1)) dX12_noTable_12 (by decide +kernel) ?_
    refine sj_goto (tgt := 17) dX12_noTable_13 (by decide) ?_
    try simp only [if_pos c1] at h
    refine sj_fg [0] ?_
    exact t_X12_noTable_17 h
theorem c_X12_noTable {G : sj_G} (ok : sj_ok G) {R : sj_R} {x1 : Int32} {σ : sj_S} (h : wp_X12_noTable_0 G R x1 σ) : sj_C G 3 me_X12_noTable [.ref (sj_ad G 56), .int x1] σ R :=
  sj_enter ok (by decide +kernel) rfl rfl (Nat.le_of_ble_eq_true rfl) (by simp [Value.category]) (t_X12_noTable_0 h)
def wp_X12_lesson_109 (G : sj_G) (R : sj_R) (σ : sj_S) : Prop := R = (.ok (nI 0), σ)
set_option maxRecDepth 20000 in
theorem t_X12_lesson_109 {G : sj_G} {R : sj_R} {σ : sj_S} (h : wp_X12_lesson_109 G R σ) : sj_J G 3 me_X12_lesson R 109 [.null, .null, .null, .null, .null, .null, .null] σ [] := by
  unfold wp_X12_lesson_109 at h
  refine sj_iconst (v := (nI 0)) dX12_lesson_109 (by decide +kernel) ?_
  subst h
  exact sj_ret dX12_lesson_110 rfl rfl
def wp_X12_lesson_184 (G : sj_G) (R : sj_R) (x6 : Int32) (s0 : Int32) (s1 : Int32) (σ : sj_S) : Prop := vp_in s1 128 ∧ R = (.ok x6, (sj_st (sj_st (sj_st σ 57 s1.toNatClampNeg s0) 57 125 (((sj_st σ 57 s1.toNatClampNeg s0) 57 125) + (nI 1))) 57 127 (nI 0)))
set_option maxRecDepth 20000 in
theorem t_X12_lesson_184 {G : sj_G} {R : sj_R} {x6 : Int32} {s0 : Int32} {s1 : Int32} {σ : sj_S} (h : wp_X12_lesson_184 G R x6 s0 s1 σ) : sj_J G 3 me_X12_lesson R 184 [.ref (sj_ad G 56), .null, .null, .null, .null, .null, .int x6] σ [.int s0, .int s1, .ref (sj_ad G 57)] := by
  unfold wp_X12_lesson_184 at h
  obtain ⟨b1, h⟩ := h
  refine sj_iast (a := 57) (j := s1.toNatClampNeg) dX12_lesson_184 rfl (by decide +kernel) b1 rfl ?_
  refine sj_aload_n dX12_lesson_185 (i := 0) rfl rfl ?_
  refine sj_get (a := 56) (k9 := 1) (v := .ref (sj_ad G 57)) dX12_lesson_186 (by decide +kernel) rfl ?_
  refine sj_bipush (v := (nI 125)) dX12_lesson_189 (by decide +kernel) ?_
  refine sj_dup2 dX12_lesson_191 rfl rfl ?_
  refine sj_iald (a := 57) (j := 125) (x := ((sj_st σ 57 s1.toNatClampNeg s0) 57 125)) dX12_lesson_192 rfl (by decide +kernel) (vp_in_nI (by decide) (by decide)) (nI_clamp (by decide)) rfl ?_
  refine sj_iconst (v := (nI 1)) dX12_lesson_193 (by decide +kernel) ?_
  refine sj_iadd dX12_lesson_194 ?_
  refine sj_iast (a := 57) (j := 125) dX12_lesson_195 rfl (by decide +kernel) (vp_in_nI (by decide) (by decide)) (nI_clamp (by decide)) ?_
  refine sj_aload_n dX12_lesson_196 (i := 0) rfl rfl ?_
  refine sj_get (a := 56) (k9 := 1) (v := .ref (sj_ad G 57)) dX12_lesson_197 (by decide +kernel) rfl ?_
  refine sj_bipush (v := (nI 127)) dX12_lesson_200 (by decide +kernel) ?_
  refine sj_iconst (v := (nI 0)) dX12_lesson_202 (by decide +kernel) ?_
  refine sj_iast (a := 57) (j := 127) dX12_lesson_203 rfl (by decide +kernel) (vp_in_nI (by decide) (by decide)) (nI_clamp (by decide)) ?_
  refine sj_iload dX12_lesson_204 rfl ?_
  subst h
  exact sj_ret dX12_lesson_206 rfl rfl
def wp_X12_lesson_102 (G : sj_G) (R : sj_R) (x1 : Int32) (x2 : Int32) (x3 : Int32) (x4 : Int32) (x5 : Int32) (s0 : Int32) (σ : sj_S) : Prop := ∃ v1 σ1, sj_C G 2 me_X12_fails [.ref (sj_ad G 56), .int s0, .int (nI 2)] σ (.ok v1, σ1) ∧ (v1 = 0 → ∃ σ3, sj_C G 2 me_X12_keeps [.ref (sj_ad G 56)] σ1 (.ok 0, σ3) ∧ ∃ v4 σ4, sj_C G 2 me_X12_many [.ref (sj_ad G 56)] σ3 (.ok v4, σ4) ∧ vp_in ((nI 0) + v4) 128 ∧ vp_in ((nI 9) + v4) 128 ∧ vp_in ((nI 18) + v4) 128 ∧ vp_in ((nI 27) + v4) 128 ∧ (wp_X12_lesson_184 G R v4 (if x5 = 0 then (nI 0) else (nI 1)) ((nI 36) + v4) (sj_st (sj_st (sj_st (sj_st σ4 57 ((nI 0) + v4).toNatClampNeg x1) 57 ((nI 9) + v4).toNatClampNeg x2) 57 ((nI 18) + v4).toNatClampNeg x3) 57 ((nI 27) + v4).toNatClampNeg x4))) ∧ (¬ (v1 = 0) → (wp_X12_lesson_109 G R σ1))
set_option maxRecDepth 20000 in
theorem t_X12_lesson_102 {G : sj_G} {R : sj_R} {x1 : Int32} {x2 : Int32} {x3 : Int32} {x4 : Int32} {x5 : Int32} {s0 : Int32} {σ : sj_S} (h : wp_X12_lesson_102 G R x1 x2 x3 x4 x5 s0 σ) : sj_J G 3 me_X12_lesson R 102 [.ref (sj_ad G 56), .int x1, .int x2, .int x3, .int x4, .int x5, .null] σ [.int s0, .ref (sj_ad G 56)] := by
  unfold wp_X12_lesson_102 at h
  refine sj_iconst (v := (nI 2)) dX12_lesson_102 (by decide +kernel) ?_
  obtain ⟨v1, σ1, hc1, h⟩ := h
  refine sj_callVi (M' := me_X12_fails) (b := 56) (As := [.int s0, .int (nI 2)]) (rest := []) dX12_lesson_103 gX12_lesson_X12_fails rfl hd_X12_fails (by decide +kernel) (by decide +kernel) rfl (Nat.le_of_ble_eq_true rfl) (by omega) rfl hc1 ?_
  refine sj_if_eq (tgt := 111) dX12_lesson_106 (by decide) (fun c2 => ?_) (fun c2 => ?_)
  · replace h := h.1 c2
    refine sj_aload_n dX12_lesson_111 (i := 0) rfl rfl ?_
    obtain ⟨σ3, hc3, h⟩ := h
    refine sj_callVv (M' := me_X12_keeps) (b := 56) (As := []) (rest := []) dX12_lesson_112 gX12_lesson_X12_keeps rfl hd_X12_keeps (by decide +kernel) (by decide +kernel) rfl (Nat.le_of_ble_eq_true rfl) (by omega) rfl hc3 ?_
    refine sj_aload_n dX12_lesson_115 (i := 0) rfl rfl ?_
    obtain ⟨v4, σ4, hc4, h⟩ := h
    refine sj_callVi (M' := me_X12_many) (b := 56) (As := []) (rest := []) dX12_lesson_116 gX12_lesson_X12_many rfl hd_X12_many (by decide +kernel) (by decide +kernel) rfl (Nat.le_of_ble_eq_true rfl) (by omega) rfl hc4 ?_
    refine sj_istore dX12_lesson_119 (by decide) ?_
    refine sj_aload_n dX12_lesson_121 (i := 0) rfl rfl ?_
    refine sj_get (a := 56) (k9 := 1) (v := .ref (sj_ad G 57)) dX12_lesson_122 (by decide +kernel) rfl ?_
    refine sj_iconst (v := (nI 0)) dX12_lesson_125 (by decide +kernel) ?_
    refine sj_iload dX12_lesson_126 rfl ?_
    refine sj_iadd dX12_lesson_128 ?_
    refine sj_iload_n dX12_lesson_129 (i := 1) rfl rfl ?_
    obtain ⟨b5, h⟩ := h
    refine sj_iast (a := 57) (j := ((nI 0) + v4).toNatClampNeg) dX12_lesson_130 rfl (by decide +kernel) b5 rfl ?_
    refine sj_aload_n dX12_lesson_131 (i := 0) rfl rfl ?_
    refine sj_get (a := 56) (k9 := 1) (v := .ref (sj_ad G 57)) dX12_lesson_132 (by decide +kernel) rfl ?_
    refine sj_bipush (v := (nI 9)) dX12_lesson_135 (by decide +kernel) ?_
    refine sj_iload dX12_lesson_137 rfl ?_
    refine sj_iadd dX12_lesson_139 ?_
    refine sj_iload_n dX12_lesson_140 (i := 2) rfl rfl ?_
    obtain ⟨b6, h⟩ := h
    refine sj_iast (a := 57) (j := ((nI 9) + v4).toNatClampNeg) dX12_lesson_141 rfl (by decide +kernel) b6 rfl ?_
    refine sj_aload_n dX12_lesson_142 (i := 0) rfl rfl ?_
    refine sj_get (a := 56) (k9 := 1) (v := .ref (sj_ad G 57)) dX12_lesson_143 (by decide +kernel) rfl ?_
    refine sj_bipush (v := (nI 18)) dX12_lesson_146 (by decide +kernel) ?_
    refine sj_iload dX12_lesson_148 rfl ?_
    refine sj_iadd dX12_lesson_150 ?_
    refine sj_iload_n dX12_lesson_151 (i := 3) rfl rfl ?_
    obtain ⟨b7, h⟩ := h
    refine sj_iast (a := 57) (j := ((nI 18) + v4).toNatClampNeg) dX12_lesson_152 rfl (by decide +kernel) b7 rfl ?_
    refine sj_aload_n dX12_lesson_153 (i := 0) rfl rfl ?_
    refine sj_get (a := 56) (k9 := 1) (v := .ref (sj_ad G 57)) dX12_lesson_154 (by decide +kernel) rfl ?_
    refine sj_bipush (v := (nI 27)) dX12_lesson_157 (by decide +kernel) ?_
    refine sj_iload dX12_lesson_159 rfl ?_
    refine sj_iadd dX12_lesson_161 ?_
    refine sj_iload dX12_lesson_162 rfl ?_
    obtain ⟨b8, h⟩ := h
    refine sj_iast (a := 57) (j := ((nI 27) + v4).toNatClampNeg) dX12_lesson_164 rfl (by decide +kernel) b8 rfl ?_
    refine sj_aload_n dX12_lesson_165 (i := 0) rfl rfl ?_
    refine sj_get (a := 56) (k9 := 1) (v := .ref (sj_ad G 57)) dX12_lesson_166 (by decide +kernel) rfl ?_
    refine sj_bipush (v := (nI 36)) dX12_lesson_169 (by decide +kernel) ?_
    refine sj_iload dX12_lesson_171 rfl ?_
    refine sj_iadd dX12_lesson_173 ?_
    refine sj_iload dX12_lesson_174 rfl ?_
    refine sj_if_eq (tgt := 183) dX12_lesson_176 (by decide) (fun c9 => ?_) (fun c9 => ?_)
    · refine sj_iconst (v := (nI 0)) dX12_lesson_183 (by decide +kernel) ?_
      try simp only [if_pos c9] at h
      refine sj_fg [1, 2, 3, 4, 5] ?_
      exact t_X12_lesson_184 h
    · refine sj_iconst (v := (nI 1)) dX12_lesson_179 (by decide +kernel) ?_
      refine sj_goto (tgt := 184) dX12_lesson_180 (by decide) ?_
      try simp only [if_neg c9] at h
      refine sj_fg [1, 2, 3, 4, 5] ?_
      exact t_X12_lesson_184 h
  · replace h := h.2 c2
    refine sj_fg [0, 1, 2, 3, 4, 5] ?_
    exact t_X12_lesson_109 h
def wp_X12_lesson_80 (G : sj_G) (R : sj_R) (x1 : Int32) (x2 : Int32) (x3 : Int32) (x4 : Int32) (x5 : Int32) (s0 : Int32) (σ : sj_S) : Prop := ∃ v1 σ1, sj_C G 2 me_X12_fails [.ref (sj_ad G 56), .int s0, .int (nI 1)] σ (.ok v1, σ1) ∧ (¬ v1 = 0 → (wp_X12_lesson_109 G R σ1)) ∧ (v1 = 0 → ∃ v3 σ3, sj_C G 2 me_X12_many [.ref (sj_ad G 56)] σ1 (.ok v3, σ3) ∧ (wp_X12_lesson_102 G R x1 x2 x3 x4 x5 (if (nI 9) ≤ v3 then (nI 0) else (nI 1)) σ3))
set_option maxRecDepth 20000 in
theorem t_X12_lesson_80 {G : sj_G} {R : sj_R} {x1 : Int32} {x2 : Int32} {x3 : Int32} {x4 : Int32} {x5 : Int32} {s0 : Int32} {σ : sj_S} (h : wp_X12_lesson_80 G R x1 x2 x3 x4 x5 s0 σ) : sj_J G 3 me_X12_lesson R 80 [.ref (sj_ad G 56), .int x1, .int x2, .int x3, .int x4, .int x5, .null] σ [.int s0, .ref (sj_ad G 56)] := by
  unfold wp_X12_lesson_80 at h
  refine sj_iconst (v := (nI 1)) dX12_lesson_80 (by decide +kernel) ?_
  obtain ⟨v1, σ1, hc1, h⟩ := h
  refine sj_callVi (M' := me_X12_fails) (b := 56) (As := [.int s0, .int (nI 1)]) (rest := []) dX12_lesson_81 gX12_lesson_X12_fails rfl hd_X12_fails (by decide +kernel) (by decide +kernel) rfl (Nat.le_of_ble_eq_true rfl) (by omega) rfl hc1 ?_
  refine sj_if_ne (tgt := 109) dX12_lesson_84 (by decide) (fun c2 => ?_) (fun c2 => ?_)
  · replace h := h.1 c2
    refine sj_fg [0, 1, 2, 3, 4, 5] ?_
    exact t_X12_lesson_109 h
  · replace h := h.2 c2
    refine sj_aload_n dX12_lesson_87 (i := 0) rfl rfl ?_
    refine sj_aload_n dX12_lesson_88 (i := 0) rfl rfl ?_
    obtain ⟨v3, σ3, hc3, h⟩ := h
    refine sj_callVi (M' := me_X12_many) (b := 56) (As := []) (rest := [.ref (sj_ad G 56)]) dX12_lesson_89 gX12_lesson_X12_many rfl hd_X12_many (by decide +kernel) (by decide +kernel) rfl (Nat.le_of_ble_eq_true rfl) (by omega) rfl hc3 ?_
    refine sj_bipush (v := (nI 9)) dX12_lesson_92 (by decide +kernel) ?_
    refine sj_icmp_ge (tgt := 101) dX12_lesson_94 (by decide) (fun c4 => ?_) (fun c4 => ?_)
    · refine sj_iconst (v := (nI 0)) dX12_lesson_101 (by decide +kernel) ?_
      try simp only [if_pos c4] at h
      exact t_X12_lesson_102 h
    · refine sj_iconst (v := (nI 1)) dX12_lesson_97 (by decide +kernel) ?_
      refine sj_goto (tgt := 102) dX12_lesson_98 (by decide) ?_
      try simp only [if_neg c4] at h
      exact t_X12_lesson_102 h
def wp_X12_lesson_48 (G : sj_G) (R : sj_R) (x1 : Int32) (x2 : Int32) (x3 : Int32) (x4 : Int32) (x5 : Int32) (s0 : Int32) (σ : sj_S) : Prop := ∃ v1 σ1, sj_C G 2 me_X12_fails [.ref (sj_ad G 56), .int s0, .int (nI 1)] σ (.ok v1, σ1) ∧ (v1 = 0 → vp_in ((nI 93) + x2) 128 ∧ (wp_X12_lesson_80 G R x1 x2 x3 x4 x5 (if (((σ1 57 ((nI 93) + x2).toNatClampNeg) >>> (x3 &&& 31)) &&& (nI 1)) = (nI 1) then (nI 1) else (nI 0)) σ1)) ∧ (¬ (v1 = 0) → R = (.ok (nI 0), σ1))
set_option maxRecDepth 20000 in
theorem t_X12_lesson_48 {G : sj_G} {R : sj_R} {x1 : Int32} {x2 : Int32} {x3 : Int32} {x4 : Int32} {x5 : Int32} {s0 : Int32} {σ : sj_S} (h : wp_X12_lesson_48 G R x1 x2 x3 x4 x5 s0 σ) : sj_J G 3 me_X12_lesson R 48 [.ref (sj_ad G 56), .int x1, .int x2, .int x3, .int x4, .int x5, .null] σ [.int s0, .ref (sj_ad G 56)] := by
  unfold wp_X12_lesson_48 at h
  refine sj_iconst (v := (nI 1)) dX12_lesson_48 (by decide +kernel) ?_
  obtain ⟨v1, σ1, hc1, h⟩ := h
  refine sj_callVi (M' := me_X12_fails) (b := 56) (As := [.int s0, .int (nI 1)]) (rest := []) dX12_lesson_49 gX12_lesson_X12_fails rfl hd_X12_fails (by decide +kernel) (by decide +kernel) rfl (Nat.le_of_ble_eq_true rfl) (by omega) rfl hc1 ?_
  refine sj_if_eq (tgt := 57) dX12_lesson_52 (by decide) (fun c2 => ?_) (fun c2 => ?_)
  · replace h := h.1 c2
    refine sj_aload_n dX12_lesson_57 (i := 0) rfl rfl ?_
    refine sj_aload_n dX12_lesson_58 (i := 0) rfl rfl ?_
    refine sj_get (a := 56) (k9 := 1) (v := .ref (sj_ad G 57)) dX12_lesson_59 (by decide +kernel) rfl ?_
    refine sj_bipush (v := (nI 93)) dX12_lesson_62 (by decide +kernel) ?_
    refine sj_iload_n dX12_lesson_64 (i := 2) rfl rfl ?_
    refine sj_iadd dX12_lesson_65 ?_
    obtain ⟨b3, h⟩ := h
    refine sj_iald (a := 57) (j := ((nI 93) + x2).toNatClampNeg) (x := (σ1 57 ((nI 93) + x2).toNatClampNeg)) dX12_lesson_66 rfl (by decide +kernel) b3 rfl rfl ?_
    refine sj_iload_n dX12_lesson_67 (i := 3) rfl rfl ?_
    refine sj_ishr dX12_lesson_68 ?_
    refine sj_iconst (v := (nI 1)) dX12_lesson_69 (by decide +kernel) ?_
    refine sj_iand dX12_lesson_70 ?_
    refine sj_iconst (v := (nI 1)) dX12_lesson_71 (by decide +kernel) ?_
    refine sj_icmp_ne (tgt := 79) dX12_lesson_72 (by decide) (fun c4 => ?_) (fun c4 => ?_)
    · refine sj_iconst (v := (nI 0)) dX12_lesson_79 (by decide +kernel) ?_
      try simp only [if_neg c4] at h
      exact t_X12_lesson_80 h
    · refine sj_iconst (v := (nI 1)) dX12_lesson_75 (by decide +kernel) ?_
      refine sj_goto (tgt := 80) dX12_lesson_76 (by decide) ?_
      try simp only [if_pos c4] at h
      exact t_X12_lesson_80 h
  · replace h := h.2 c2
    refine sj_iconst (v := (nI 0)) dX12_lesson_55 (by decide +kernel) ?_
    subst h
    exact sj_ret dX12_lesson_56 rfl rfl
def wp_X12_lesson_47 (G : sj_G) (R : sj_R) (x1 : Int32) (x2 : Int32) (x3 : Int32) (x4 : Int32) (x5 : Int32) (σ : sj_S) : Prop := (wp_X12_lesson_48 G R x1 x2 x3 x4 x5 (nI 0) σ)
set_option maxRecDepth 20000 in
theorem t_X12_lesson_47 {G : sj_G} {R : sj_R} {x1 : Int32} {x2 : Int32} {x3 : Int32} {x4 : Int32} {x5 : Int32} {σ : sj_S} (h : wp_X12_lesson_47 G R x1 x2 x3 x4 x5 σ) : sj_J G 3 me_X12_lesson R 47 [.ref (sj_ad G 56), .int x1, .int x2, .int x3, .int x4, .int x5, .null] σ [.ref (sj_ad G 56)] := by
  unfold wp_X12_lesson_47 at h
  refine sj_iconst (v := (nI 0)) dX12_lesson_47 (by decide +kernel) ?_
  exact t_X12_lesson_48 h
def wp_X12_lesson_0 (G : sj_G) (R : sj_R) (x1 : Int32) (x2 : Int32) (x3 : Int32) (x4 : Int32) (x5 : Int32) (σ : sj_S) : Prop := ∃ v1 σ1, sj_C G 2 me_X12_in [.int x1, .int (nI 0), .int (nI 3)] (sj_st σ 56 0 (nI 0)) (.ok v1, σ1) ∧ (v1 = 0 → (wp_X12_lesson_47 G R x1 x2 x3 x4 x5 σ1)) ∧ (¬ (v1 = 0) → ∃ v4 σ4, sj_C G 2 me_X12_in [.int x2, .int (nI 0), .int (nI 5)] σ1 (.ok v4, σ4) ∧ (v4 = 0 → (wp_X12_lesson_47 G R x1 x2 x3 x4 x5 σ4)) ∧ (¬ (v4 = 0) → ∃ v7 σ7, sj_C G 2 me_X12_in [.int x3, .int (nI 0), .int (nI 5)] σ4 (.ok v7, σ7) ∧ (v7 = 0 → (wp_X12_lesson_47 G R x1 x2 x3 x4 x5 σ7)) ∧ (¬ (v7 = 0) → ∃ v10 σ10, sj_C G 2 me_X12_in [.int x4, .int (-1), .int (nI 2)] σ7 (.ok v10, σ10) ∧ (wp_X12_lesson_48 G R x1 x2 x3 x4 x5 (if v10 = 0 then (nI 0) else (nI 1)) σ10))))
set_option maxRecDepth 20000 in
theorem t_X12_lesson_0 {G : sj_G} {R : sj_R} {x1 : Int32} {x2 : Int32} {x3 : Int32} {x4 : Int32} {x5 : Int32} {σ : sj_S} (h : wp_X12_lesson_0 G R x1 x2 x3 x4 x5 σ) : sj_J G 3 me_X12_lesson R 0 [.ref (sj_ad G 56), .int x1, .int x2, .int x3, .int x4, .int x5, .null] σ [] := by
  unfold wp_X12_lesson_0 at h
  refine sj_aload_n dX12_lesson_0 (i := 0) rfl rfl ?_
  refine sj_iconst (v := (nI 0)) dX12_lesson_1 (by decide +kernel) ?_
  refine sj_put (a := 56) (k9 := 0) dX12_lesson_2 (by decide +kernel) (by decide +kernel) rfl ?_
  refine sj_aload_n dX12_lesson_5 (i := 0) rfl rfl ?_
  refine sj_iload_n dX12_lesson_6 (i := 1) rfl rfl ?_
  refine sj_iconst (v := (nI 0)) dX12_lesson_7 (by decide +kernel) ?_
  refine sj_iconst (v := (nI 3)) dX12_lesson_8 (by decide +kernel) ?_
  obtain ⟨v1, σ1, hc1, h⟩ := h
  refine sj_callSi (M' := me_X12_in) (As := [.int x1, .int (nI 0), .int (nI 3)]) (rest := [.ref (sj_ad G 56)]) dX12_lesson_9 gX12_lesson_X12_in rfl hd_X12_in (Nat.le_of_ble_eq_true rfl) (by omega) rfl hc1 ?_
  refine sj_if_eq (tgt := 47) dX12_lesson_12 (by decide) (fun c3 => ?_) (fun c3 => ?_)
  · replace h := h.1 c3
    exact t_X12_lesson_47 h
  · replace h := h.2 c3
    refine sj_iload_n dX12_lesson_15 (i := 2) rfl rfl ?_
    refine sj_iconst (v := (nI 0)) dX12_lesson_16 (by decide +kernel) ?_
    refine sj_iconst (v := (nI 5)) dX12_lesson_17 (by decide +kernel) ?_
    obtain ⟨v4, σ4, hc4, h⟩ := h
    refine sj_callSi (M' := me_X12_in) (As := [.int x2, .int (nI 0), .int (nI 5)]) (rest := [.ref (sj_ad G 56)]) dX12_lesson_18 gX12_lesson_X12_in rfl hd_X12_in (Nat.le_of_ble_eq_true rfl) (by omega) rfl hc4 ?_
    refine sj_if_eq (tgt := 47) dX12_lesson_21 (by decide) (fun c6 => ?_) (fun c6 => ?_)
    · replace h := h.1 c6
      exact t_X12_lesson_47 h
    · replace h := h.2 c6
      refine sj_iload_n dX12_lesson_24 (i := 3) rfl rfl ?_
      refine sj_iconst (v := (nI 0)) dX12_lesson_25 (by decide +kernel) ?_
      refine sj_iconst (v := (nI 5)) dX12_lesson_26 (by decide +kernel) ?_
      obtain ⟨v7, σ7, hc7, h⟩ := h
      refine sj_callSi (M' := me_X12_in) (As := [.int x3, .int (nI 0), .int (nI 5)]) (rest := [.ref (sj_ad G 56)]) dX12_lesson_27 gX12_lesson_X12_in rfl hd_X12_in (Nat.le_of_ble_eq_true rfl) (by omega) rfl hc7 ?_
      refine sj_if_eq (tgt := 47) dX12_lesson_30 (by decide) (fun c9 => ?_) (fun c9 => ?_)
      · replace h := h.1 c9
        exact t_X12_lesson_47 h
      · replace h := h.2 c9
        refine sj_iload dX12_lesson_33 rfl ?_
        refine sj_iconst (v := (-1)) dX12_lesson_35 (by decide +kernel) ?_
        refine sj_iconst (v := (nI 2)) dX12_lesson_36 (by decide +kernel) ?_
        obtain ⟨v10, σ10, hc10, h⟩ := h
        refine sj_callSi (M' := me_X12_in) (As := [.int x4, .int (-1), .int (nI 2)]) (rest := [.ref (sj_ad G 56)]) dX12_lesson_37 gX12_lesson_X12_in rfl hd_X12_in (Nat.le_of_ble_eq_true rfl) (by omega) rfl hc10 ?_
        refine sj_if_eq (tgt := 47) dX12_lesson_40 (by decide) (fun c11 => ?_) (fun c11 => ?_)
        · refine sj_iconst (v := (nI 0)) dX12_lesson_47 (by decide +kernel) ?_
          try simp only [if_pos c11] at h
          exact t_X12_lesson_48 h
        · refine sj_iconst (v := (nI 1)) dX12_lesson_43 (by decide +kernel) ?_
          refine sj_goto (tgt := 48) dX12_lesson_44 (by decide) ?_
          try simp only [if_neg c11] at h
          exact t_X12_lesson_48 h
theorem c_X12_lesson {G : sj_G} (ok : sj_ok G) {R : sj_R} {x1 : Int32} {x2 : Int32} {x3 : Int32} {x4 : Int32} {x5 : Int32} {σ : sj_S} (h : wp_X12_lesson_0 G R x1 x2 x3 x4 x5 σ) : sj_C G 3 me_X12_lesson [.ref (sj_ad G 56), .int x1, .int x2, .int x3, .int x4, .int x5] σ R :=
  sj_enter ok (by decide +kernel) rfl rfl (Nat.le_of_ble_eq_true rfl) (by simp [Value.category]) (t_X12_lesson_0 h)
def wp_X12_closes_3 (G : sj_G) (R : sj_R) (x1 : Int32) (x3 : Int32) (x4 : Int32) (σ : sj_S) : Prop := (x3 ≤ (x4 + (nI 1)) → R = (.ok 0, σ)) ∧ (¬ (x3 ≤ (x4 + (nI 1))) → vp_in ((x1 + x4) + (nI 1)) 128 ∧ vp_in (x1 + x4) 128 ∧ sj_J G 2 me_X12_closes R 3 [.ref (sj_ad G 56), .int x1, .null, .int x3, .int (x4 + (nI 1))] (sj_st σ 57 (x1 + x4).toNatClampNeg (σ 57 ((x1 + x4) + (nI 1)).toNatClampNeg)) [])
set_option maxRecDepth 20000 in
theorem t_X12_closes_3 {G : sj_G} {R : sj_R} {x1 : Int32} {x3 : Int32} {x4 : Int32} {σ : sj_S} (h : wp_X12_closes_3 G R x1 x3 x4 σ) : sj_J G 2 me_X12_closes R 3 [.ref (sj_ad G 56), .int x1, .null, .int x3, .int x4] σ [] := by
  unfold wp_X12_closes_3 at h
  refine sj_iload dX12_closes_3 rfl ?_
  refine sj_iconst (v := (nI 1)) dX12_closes_5 (by decide +kernel) ?_
  refine sj_iadd dX12_closes_6 ?_
  refine sj_iload_n dX12_closes_7 (i := 3) rfl rfl ?_
  refine sj_icmp_ge (tgt := 37) dX12_closes_8 (by decide) (fun c1 => ?_) (fun c1 => ?_)
  · replace h := h.1 c1
    subst h
    exact sj_vret dX12_closes_37 rfl
  · replace h := h.2 c1
    refine sj_aload_n dX12_closes_11 (i := 0) rfl rfl ?_
    refine sj_get (a := 56) (k9 := 1) (v := .ref (sj_ad G 57)) dX12_closes_12 (by decide +kernel) rfl ?_
    refine sj_iload_n dX12_closes_15 (i := 1) rfl rfl ?_
    refine sj_iload dX12_closes_16 rfl ?_
    refine sj_iadd dX12_closes_18 ?_
    refine sj_aload_n dX12_closes_19 (i := 0) rfl rfl ?_
    refine sj_get (a := 56) (k9 := 1) (v := .ref (sj_ad G 57)) dX12_closes_20 (by decide +kernel) rfl ?_
    refine sj_iload_n dX12_closes_23 (i := 1) rfl rfl ?_
    refine sj_iload dX12_closes_24 rfl ?_
    refine sj_iadd dX12_closes_26 ?_
    refine sj_iconst (v := (nI 1)) dX12_closes_27 (by decide +kernel) ?_
    refine sj_iadd dX12_closes_28 ?_
    obtain ⟨b2, h⟩ := h
    refine sj_iald (a := 57) (j := ((x1 + x4) + (nI 1)).toNatClampNeg) (x := (σ 57 ((x1 + x4) + (nI 1)).toNatClampNeg)) dX12_closes_29 rfl (by decide +kernel) b2 rfl rfl ?_
    obtain ⟨b3, h⟩ := h
    refine sj_iast (a := 57) (j := (x1 + x4).toNatClampNeg) dX12_closes_30 rfl (by decide +kernel) b3 rfl ?_
    refine sj_iinc (v := (x4 + (nI 1))) dX12_closes_31 (by decide) rfl rfl ?_
    refine sj_goto (tgt := 3) dX12_closes_34 (by decide) ?_
    exact h
def wp_X12_closes_0 (G : sj_G) (R : sj_R) (x1 : Int32) (x2 : Int32) (x3 : Int32) (σ : sj_S) : Prop := sj_J G 2 me_X12_closes R 3 [.ref (sj_ad G 56), .int x1, .null, .int x3, .int x2] σ []
set_option maxRecDepth 20000 in
theorem t_X12_closes_0 {G : sj_G} {R : sj_R} {x1 : Int32} {x2 : Int32} {x3 : Int32} {σ : sj_S} (h : wp_X12_closes_0 G R x1 x2 x3 σ) : sj_J G 2 me_X12_closes R 0 [.ref (sj_ad G 56), .int x1, .int x2, .int x3, .null] σ [] := by
  unfold wp_X12_closes_0 at h
  refine sj_iload_n dX12_closes_0 (i := 2) rfl rfl ?_
  refine sj_istore dX12_closes_1 (by decide) ?_
  refine sj_fg [2] ?_
  exact h
theorem c_X12_closes {G : sj_G} (ok : sj_ok G) {R : sj_R} {x1 : Int32} {x2 : Int32} {x3 : Int32} {σ : sj_S} (h : wp_X12_closes_0 G R x1 x2 x3 σ) : sj_C G 2 me_X12_closes [.ref (sj_ad G 56), .int x1, .int x2, .int x3] σ R :=
  sj_enter ok (by decide +kernel) rfl rfl (Nat.le_of_ble_eq_true rfl) (by simp [Value.category]) (t_X12_closes_0 h)
def wp_X12_dropsWish_0 (G : sj_G) (R : sj_R) (x1 : Int32) (σ : sj_S) : Prop := ∃ σ1, sj_C G 2 me_X12_closes [.ref (sj_ad G 56), .int (nI 45), .int x1, .int (nI 12)] σ (.ok 0, σ1) ∧ ∃ σ2, sj_C G 2 me_X12_closes [.ref (sj_ad G 56), .int (nI 57), .int x1, .int (nI 12)] σ1 (.ok 0, σ2) ∧ ∃ σ3, sj_C G 2 me_X12_closes [.ref (sj_ad G 56), .int (nI 69), .int x1, .int (nI 12)] σ2 (.ok 0, σ3) ∧ ∃ σ4, sj_C G 2 me_X12_closes [.ref (sj_ad G 56), .int (nI 81), .int x1, .int (nI 12)] σ3 (.ok 0, σ4) ∧ R = (.ok 0, (sj_st σ4 57 126 ((σ4 57 126) - (nI 1))))
set_option maxRecDepth 20000 in
theorem t_X12_dropsWish_0 {G : sj_G} {R : sj_R} {x1 : Int32} {σ : sj_S} (h : wp_X12_dropsWish_0 G R x1 σ) : sj_J G 3 me_X12_dropsWish R 0 [.ref (sj_ad G 56), .int x1] σ [] := by
  unfold wp_X12_dropsWish_0 at h
  refine sj_aload_n dX12_dropsWish_0 (i := 0) rfl rfl ?_
  refine sj_bipush (v := (nI 45)) dX12_dropsWish_1 (by decide +kernel) ?_
  refine sj_iload_n dX12_dropsWish_3 (i := 1) rfl rfl ?_
  refine sj_bipush (v := (nI 12)) dX12_dropsWish_4 (by decide +kernel) ?_
  obtain ⟨σ1, hc1, h⟩ := h
  refine sj_callVv (M' := me_X12_closes) (b := 56) (As := [.int (nI 45), .int x1, .int (nI 12)]) (rest := []) dX12_dropsWish_6 gX12_dropsWish_X12_closes rfl hd_X12_closes (by decide +kernel) (by decide +kernel) rfl (Nat.le_of_ble_eq_true rfl) (by omega) rfl hc1 ?_
  refine sj_aload_n dX12_dropsWish_9 (i := 0) rfl rfl ?_
  refine sj_bipush (v := (nI 57)) dX12_dropsWish_10 (by decide +kernel) ?_
  refine sj_iload_n dX12_dropsWish_12 (i := 1) rfl rfl ?_
  refine sj_bipush (v := (nI 12)) dX12_dropsWish_13 (by decide +kernel) ?_
  obtain ⟨σ2, hc2, h⟩ := h
  refine sj_callVv (M' := me_X12_closes) (b := 56) (As := [.int (nI 57), .int x1, .int (nI 12)]) (rest := []) dX12_dropsWish_15 gX12_dropsWish_X12_closes rfl hd_X12_closes (by decide +kernel) (by decide +kernel) rfl (Nat.le_of_ble_eq_true rfl) (by omega) rfl hc2 ?_
  refine sj_aload_n dX12_dropsWish_18 (i := 0) rfl rfl ?_
  refine sj_bipush (v := (nI 69)) dX12_dropsWish_19 (by decide +kernel) ?_
  refine sj_iload_n dX12_dropsWish_21 (i := 1) rfl rfl ?_
  refine sj_bipush (v := (nI 12)) dX12_dropsWish_22 (by decide +kernel) ?_
  obtain ⟨σ3, hc3, h⟩ := h
  refine sj_callVv (M' := me_X12_closes) (b := 56) (As := [.int (nI 69), .int x1, .int (nI 12)]) (rest := []) dX12_dropsWish_24 gX12_dropsWish_X12_closes rfl hd_X12_closes (by decide +kernel) (by decide +kernel) rfl (Nat.le_of_ble_eq_true rfl) (by omega) rfl hc3 ?_
  refine sj_aload_n dX12_dropsWish_27 (i := 0) rfl rfl ?_
  refine sj_bipush (v := (nI 81)) dX12_dropsWish_28 (by decide +kernel) ?_
  refine sj_iload_n dX12_dropsWish_30 (i := 1) rfl rfl ?_
  refine sj_bipush (v := (nI 12)) dX12_dropsWish_31 (by decide +kernel) ?_
  obtain ⟨σ4, hc4, h⟩ := h
  refine sj_callVv (M' := me_X12_closes) (b := 56) (As := [.int (nI 81), .int x1, .int (nI 12)]) (rest := []) dX12_dropsWish_33 gX12_dropsWish_X12_closes rfl hd_X12_closes (by decide +kernel) (by decide +kernel) rfl (Nat.le_of_ble_eq_true rfl) (by omega) rfl hc4 ?_
  refine sj_aload_n dX12_dropsWish_36 (i := 0) rfl rfl ?_
  refine sj_get (a := 56) (k9 := 1) (v := .ref (sj_ad G 57)) dX12_dropsWish_37 (by decide +kernel) rfl ?_
  refine sj_bipush (v := (nI 126)) dX12_dropsWish_40 (by decide +kernel) ?_
  refine sj_dup2 dX12_dropsWish_42 rfl rfl ?_
  refine sj_iald (a := 57) (j := 126) (x := (σ4 57 126)) dX12_dropsWish_43 rfl (by decide +kernel) (vp_in_nI (by decide) (by decide)) (nI_clamp (by decide)) rfl ?_
  refine sj_iconst (v := (nI 1)) dX12_dropsWish_44 (by decide +kernel) ?_
  refine sj_isub dX12_dropsWish_45 ?_
  refine sj_iast (a := 57) (j := 126) dX12_dropsWish_46 rfl (by decide +kernel) (vp_in_nI (by decide) (by decide)) (nI_clamp (by decide)) ?_
  subst h
  exact sj_vret dX12_dropsWish_47 rfl
theorem c_X12_dropsWish {G : sj_G} (ok : sj_ok G) {R : sj_R} {x1 : Int32} {σ : sj_S} (h : wp_X12_dropsWish_0 G R x1 σ) : sj_C G 3 me_X12_dropsWish [.ref (sj_ad G 56), .int x1] σ R :=
  sj_enter ok (by decide +kernel) rfl rfl (Nat.le_of_ble_eq_true rfl) (by simp [Value.category]) (t_X12_dropsWish_0 h)
def wp_X12_isOfLesson_10 (G : sj_G) (R : sj_R) (s0 : Int32) (σ : sj_S) : Prop := R = (.ok s0, σ) ∧ (s0 = nI 0 ∨ s0 = nI 1)
set_option maxRecDepth 20000 in
theorem t_X12_isOfLesson_10 {G : sj_G} {R : sj_R} {s0 : Int32} {σ : sj_S} (h : wp_X12_isOfLesson_10 G R s0 σ) : sj_J G 2 me_X12_isOfLesson R 10 [.null, .null] σ [.int s0] := by
  unfold wp_X12_isOfLesson_10 at h
  obtain ⟨h, hz⟩ := h
  subst h
  exact sj_ret dX12_isOfLesson_10 rfl (sj_nb hz)
def wp_X12_isOfLesson_0 (G : sj_G) (R : sj_R) (x1 : Int32) (σ : sj_S) : Prop := (wp_X12_isOfLesson_10 G R (if x1 ≤ (nI 1) then (nI 0) else (nI 1)) σ)
set_option maxRecDepth 20000 in
theorem t_X12_isOfLesson_0 {G : sj_G} {R : sj_R} {x1 : Int32} {σ : sj_S} (h : wp_X12_isOfLesson_0 G R x1 σ) : sj_J G 2 me_X12_isOfLesson R 0 [.ref (sj_ad G 56), .int x1] σ [] := by
  unfold wp_X12_isOfLesson_0 at h
  refine sj_iload_n dX12_isOfLesson_0 (i := 1) rfl rfl ?_
  refine sj_iconst (v := (nI 1)) dX12_isOfLesson_1 (by decide +kernel) ?_
  refine sj_icmp_le (tgt := 9) dX12_isOfLesson_2 (by decide) (fun c1 => ?_) (fun c1 => ?_)
  · refine sj_iconst (v := (nI 0)) dX12_isOfLesson_9 (by decide +kernel) ?_
    try simp only [if_pos c1] at h
    refine sj_fg [0, 1] ?_
    exact t_X12_isOfLesson_10 h
  · refine sj_iconst (v := (nI 1)) dX12_isOfLesson_5 (by decide +kernel) ?_
    refine sj_goto (tgt := 10) dX12_isOfLesson_6 (by decide) ?_
    try simp only [if_neg c1] at h
    refine sj_fg [0, 1] ?_
    exact t_X12_isOfLesson_10 h
theorem c_X12_isOfLesson {G : sj_G} (ok : sj_ok G) {R : sj_R} {x1 : Int32} {σ : sj_S} (h : wp_X12_isOfLesson_0 G R x1 σ) : sj_C G 2 me_X12_isOfLesson [.ref (sj_ad G 56), .int x1] σ R :=
  sj_enter ok (by decide +kernel) rfl rfl (Nat.le_of_ble_eq_true rfl) (by simp [Value.category]) (t_X12_isOfLesson_0 h)
def wp_X12_isOfTwo_10 (G : sj_G) (R : sj_R) (s0 : Int32) (σ : sj_S) : Prop := R = (.ok s0, σ) ∧ (s0 = nI 0 ∨ s0 = nI 1)
set_option maxRecDepth 20000 in
theorem t_X12_isOfTwo_10 {G : sj_G} {R : sj_R} {s0 : Int32} {σ : sj_S} (h : wp_X12_isOfTwo_10 G R s0 σ) : sj_J G 2 me_X12_isOfTwo R 10 [.null, .null] σ [.int s0] := by
  unfold wp_X12_isOfTwo_10 at h
  obtain ⟨h, hz⟩ := h
  subst h
  exact sj_ret dX12_isOfTwo_10 rfl (sj_nb hz)
def wp_X12_isOfTwo_0 (G : sj_G) (R : sj_R) (x1 : Int32) (σ : sj_S) : Prop := (wp_X12_isOfTwo_10 G R (if x1 ≤ (nI 3) then (nI 0) else (nI 1)) σ)
set_option maxRecDepth 20000 in
theorem t_X12_isOfTwo_0 {G : sj_G} {R : sj_R} {x1 : Int32} {σ : sj_S} (h : wp_X12_isOfTwo_0 G R x1 σ) : sj_J G 2 me_X12_isOfTwo R 0 [.ref (sj_ad G 56), .int x1] σ [] := by
  unfold wp_X12_isOfTwo_0 at h
  refine sj_iload_n dX12_isOfTwo_0 (i := 1) rfl rfl ?_
  refine sj_iconst (v := (nI 3)) dX12_isOfTwo_1 (by decide +kernel) ?_
  refine sj_icmp_le (tgt := 9) dX12_isOfTwo_2 (by decide) (fun c1 => ?_) (fun c1 => ?_)
  · refine sj_iconst (v := (nI 0)) dX12_isOfTwo_9 (by decide +kernel) ?_
    try simp only [if_pos c1] at h
    refine sj_fg [0, 1] ?_
    exact t_X12_isOfTwo_10 h
  · refine sj_iconst (v := (nI 1)) dX12_isOfTwo_5 (by decide +kernel) ?_
    refine sj_goto (tgt := 10) dX12_isOfTwo_6 (by decide) ?_
    try simp only [if_neg c1] at h
    refine sj_fg [0, 1] ?_
    exact t_X12_isOfTwo_10 h
theorem c_X12_isOfTwo {G : sj_G} (ok : sj_ok G) {R : sj_R} {x1 : Int32} {σ : sj_S} (h : wp_X12_isOfTwo_0 G R x1 σ) : sj_C G 2 me_X12_isOfTwo [.ref (sj_ad G 56), .int x1] σ R :=
  sj_enter ok (by decide +kernel) rfl rfl (Nat.le_of_ble_eq_true rfl) (by simp [Value.category]) (t_X12_isOfTwo_0 h)
def wp_X12_dropLesson_162 (G : sj_G) (R : sj_R) (x1 : Int32) (x2 : Int32) (σ : sj_S) : Prop := sj_J G 4 me_X12_dropLesson R 30 [.ref (sj_ad G 56), .int x1, .int (x2 + (-1)), .null] σ []
set_option maxRecDepth 20000 in
theorem t_X12_dropLesson_162 {G : sj_G} {R : sj_R} {x1 : Int32} {x2 : Int32} {σ : sj_S} (h : wp_X12_dropLesson_162 G R x1 x2 σ) : sj_J G 4 me_X12_dropLesson R 162 [.ref (sj_ad G 56), .int x1, .int x2, .null] σ [] := by
  unfold wp_X12_dropLesson_162 at h
  refine sj_iinc (v := (x2 + (-1))) dX12_dropLesson_162 (by decide) rfl rfl ?_
  refine sj_goto (tgt := 30) dX12_dropLesson_165 (by decide) ?_
  exact h
def wp_X12_dropLesson_86 (G : sj_G) (R : sj_R) (x1 : Int32) (x2 : Int32) (σ : sj_S) : Prop := ∃ σ1, sj_C G 3 me_X12_dropsWish [.ref (sj_ad G 56), .int x2] σ (.ok 0, σ1) ∧ (wp_X12_dropLesson_162 G R x1 x2 σ1)
set_option maxRecDepth 20000 in
theorem t_X12_dropLesson_86 {G : sj_G} {R : sj_R} {x1 : Int32} {x2 : Int32} {σ : sj_S} (h : wp_X12_dropLesson_86 G R x1 x2 σ) : sj_J G 4 me_X12_dropLesson R 86 [.ref (sj_ad G 56), .int x1, .int x2, .null] σ [] := by
  unfold wp_X12_dropLesson_86 at h
  refine sj_aload_n dX12_dropLesson_86 (i := 0) rfl rfl ?_
  refine sj_iload_n dX12_dropLesson_87 (i := 2) rfl rfl ?_
  obtain ⟨σ1, hc1, h⟩ := h
  refine sj_callVv (M' := me_X12_dropsWish) (b := 56) (As := [.int x2]) (rest := []) dX12_dropLesson_88 gX12_dropLesson_X12_dropsWish rfl hd_X12_dropsWish (by decide +kernel) (by decide +kernel) rfl (Nat.le_of_ble_eq_true rfl) (by omega) rfl hc1 ?_
  refine sj_goto (tgt := 162) dX12_dropLesson_91 (by decide) ?_
  exact t_X12_dropLesson_162 h
def wp_X12_dropLesson_128 (G : sj_G) (R : sj_R) (x1 : Int32) (x2 : Int32) (x3 : Int32) (σ : sj_S) : Prop := ∃ v1 σ1, sj_C G 2 me_X12_isOfTwo [.ref (sj_ad G 56), .int x3] σ (.ok v1, σ1) ∧ ((¬ (v1 = 0)) → vp_in ((nI 69) + x2) 128) ∧ ((¬ (v1 = 0)) → (¬ ((σ1 57 ((nI 69) + x2).toNatClampNeg) ≤ x1)) → vp_in ((nI 69) + x2) 128 ∧ vp_in ((nI 69) + x2) 128) ∧ (wp_X12_dropLesson_162 G R x1 x2 (if v1 = 0 then σ1 else (if (σ1 57 ((nI 69) + x2).toNatClampNeg) ≤ x1 then σ1 else (sj_st σ1 57 ((nI 69) + x2).toNatClampNeg ((σ1 57 ((nI 69) + x2).toNatClampNeg) - (nI 1))))))
set_option maxRecDepth 20000 in
theorem t_X12_dropLesson_128 {G : sj_G} {R : sj_R} {x1 : Int32} {x2 : Int32} {x3 : Int32} {σ : sj_S} (h : wp_X12_dropLesson_128 G R x1 x2 x3 σ) : sj_J G 4 me_X12_dropLesson R 128 [.ref (sj_ad G 56), .int x1, .int x2, .int x3] σ [] := by
  unfold wp_X12_dropLesson_128 at h
  refine sj_aload_n dX12_dropLesson_128 (i := 0) rfl rfl ?_
  refine sj_iload_n dX12_dropLesson_129 (i := 3) rfl rfl ?_
  obtain ⟨v1, σ1, hc1, h⟩ := h
  refine sj_callVi (M' := me_X12_isOfTwo) (b := 56) (As := [.int x3]) (rest := []) dX12_dropLesson_130 gX12_dropLesson_X12_isOfTwo rfl hd_X12_isOfTwo (by decide +kernel) (by decide +kernel) rfl (Nat.le_of_ble_eq_true rfl) (by omega) rfl hc1 ?_
  obtain ⟨f7, f8, h⟩ := h
  refine sj_if_eq (tgt := 162) dX12_dropLesson_133 (by decide) (fun c2 => ?_) (fun c2 => ?_)
  · try simp only [if_pos c2] at h
    refine sj_fg [3] ?_
    exact t_X12_dropLesson_162 h
  · have b3 := f7 c2
    refine sj_aload_n dX12_dropLesson_136 (i := 0) rfl rfl ?_
    refine sj_get (a := 56) (k9 := 1) (v := .ref (sj_ad G 57)) dX12_dropLesson_137 (by decide +kernel) rfl ?_
    refine sj_bipush (v := (nI 69)) dX12_dropLesson_140 (by decide +kernel) ?_
    refine sj_iload_n dX12_dropLesson_142 (i := 2) rfl rfl ?_
    refine sj_iadd dX12_dropLesson_143 ?_
    refine sj_iald (a := 57) (j := ((nI 69) + x2).toNatClampNeg) (x := (σ1 57 ((nI 69) + x2).toNatClampNeg)) dX12_dropLesson_144 rfl (by decide +kernel) b3 rfl rfl ?_
    refine sj_iload_n dX12_dropLesson_145 (i := 1) rfl rfl ?_
    refine sj_icmp_le (tgt := 162) dX12_dropLesson_146 (by decide) (fun c4 => ?_) (fun c4 => ?_)
    · try simp only [if_neg c2, if_pos c4] at h
      refine sj_fg [3] ?_
      exact t_X12_dropLesson_162 h
    · obtain ⟨b5, b6⟩ := f8 c2 c4
      refine sj_aload_n dX12_dropLesson_149 (i := 0) rfl rfl ?_
      refine sj_get (a := 56) (k9 := 1) (v := .ref (sj_ad G 57)) dX12_dropLesson_150 (by decide +kernel) rfl ?_
      refine sj_bipush (v := (nI 69)) dX12_dropLesson_153 (by decide +kernel) ?_
      refine sj_iload_n dX12_dropLesson_155 (i := 2) rfl rfl ?_
      refine sj_iadd dX12_dropLesson_156 ?_
      refine sj_dup2 dX12_dropLesson_157 rfl rfl ?_
      refine sj_iald (a := 57) (j := ((nI 69) + x2).toNatClampNeg) (x := (σ1 57 ((nI 69) + x2).toNatClampNeg)) dX12_dropLesson_158 rfl (by decide +kernel) b5 rfl rfl ?_
      refine sj_iconst (v := (nI 1)) dX12_dropLesson_159 (by decide +kernel) ?_
      refine sj_isub dX12_dropLesson_160 ?_
      refine sj_iast (a := 57) (j := ((nI 69) + x2).toNatClampNeg) dX12_dropLesson_161 rfl (by decide +kernel) b6 rfl ?_
      try simp only [if_neg c2, if_neg c4] at h
      refine sj_fg [3] ?_
      exact t_X12_dropLesson_162 h
def wp_X12_dropLesson_94 (G : sj_G) (R : sj_R) (x1 : Int32) (x2 : Int32) (x3 : Int32) (σ : sj_S) : Prop := ∃ v1 σ1, sj_C G 2 me_X12_isOfLesson [.ref (sj_ad G 56), .int x3] σ (.ok v1, σ1) ∧ ((¬ (v1 = 0)) → vp_in ((nI 57) + x2) 128) ∧ ((¬ (v1 = 0)) → (¬ ((σ1 57 ((nI 57) + x2).toNatClampNeg) ≤ x1)) → vp_in ((nI 57) + x2) 128 ∧ vp_in ((nI 57) + x2) 128) ∧ (wp_X12_dropLesson_128 G R x1 x2 x3 (if v1 = 0 then σ1 else (if (σ1 57 ((nI 57) + x2).toNatClampNeg) ≤ x1 then σ1 else (sj_st σ1 57 ((nI 57) + x2).toNatClampNeg ((σ1 57 ((nI 57) + x2).toNatClampNeg) - (nI 1))))))
set_option maxRecDepth 20000 in
theorem t_X12_dropLesson_94 {G : sj_G} {R : sj_R} {x1 : Int32} {x2 : Int32} {x3 : Int32} {σ : sj_S} (h : wp_X12_dropLesson_94 G R x1 x2 x3 σ) : sj_J G 4 me_X12_dropLesson R 94 [.ref (sj_ad G 56), .int x1, .int x2, .int x3] σ [] := by
  unfold wp_X12_dropLesson_94 at h
  refine sj_aload_n dX12_dropLesson_94 (i := 0) rfl rfl ?_
  refine sj_iload_n dX12_dropLesson_95 (i := 3) rfl rfl ?_
  obtain ⟨v1, σ1, hc1, h⟩ := h
  refine sj_callVi (M' := me_X12_isOfLesson) (b := 56) (As := [.int x3]) (rest := []) dX12_dropLesson_96 gX12_dropLesson_X12_isOfLesson rfl hd_X12_isOfLesson (by decide +kernel) (by decide +kernel) rfl (Nat.le_of_ble_eq_true rfl) (by omega) rfl hc1 ?_
  obtain ⟨f7, f8, h⟩ := h
  refine sj_if_eq (tgt := 128) dX12_dropLesson_99 (by decide) (fun c2 => ?_) (fun c2 => ?_)
  · try simp only [if_pos c2] at h
    exact t_X12_dropLesson_128 h
  · have b3 := f7 c2
    refine sj_aload_n dX12_dropLesson_102 (i := 0) rfl rfl ?_
    refine sj_get (a := 56) (k9 := 1) (v := .ref (sj_ad G 57)) dX12_dropLesson_103 (by decide +kernel) rfl ?_
    refine sj_bipush (v := (nI 57)) dX12_dropLesson_106 (by decide +kernel) ?_
    refine sj_iload_n dX12_dropLesson_108 (i := 2) rfl rfl ?_
    refine sj_iadd dX12_dropLesson_109 ?_
    refine sj_iald (a := 57) (j := ((nI 57) + x2).toNatClampNeg) (x := (σ1 57 ((nI 57) + x2).toNatClampNeg)) dX12_dropLesson_110 rfl (by decide +kernel) b3 rfl rfl ?_
    refine sj_iload_n dX12_dropLesson_111 (i := 1) rfl rfl ?_
    refine sj_icmp_le (tgt := 128) dX12_dropLesson_112 (by decide) (fun c4 => ?_) (fun c4 => ?_)
    · try simp only [if_neg c2, if_pos c4] at h
      exact t_X12_dropLesson_128 h
    · obtain ⟨b5, b6⟩ := f8 c2 c4
      refine sj_aload_n dX12_dropLesson_115 (i := 0) rfl rfl ?_
      refine sj_get (a := 56) (k9 := 1) (v := .ref (sj_ad G 57)) dX12_dropLesson_116 (by decide +kernel) rfl ?_
      refine sj_bipush (v := (nI 57)) dX12_dropLesson_119 (by decide +kernel) ?_
      refine sj_iload_n dX12_dropLesson_121 (i := 2) rfl rfl ?_
      refine sj_iadd dX12_dropLesson_122 ?_
      refine sj_dup2 dX12_dropLesson_123 rfl rfl ?_
      refine sj_iald (a := 57) (j := ((nI 57) + x2).toNatClampNeg) (x := (σ1 57 ((nI 57) + x2).toNatClampNeg)) dX12_dropLesson_124 rfl (by decide +kernel) b5 rfl rfl ?_
      refine sj_iconst (v := (nI 1)) dX12_dropLesson_125 (by decide +kernel) ?_
      refine sj_isub dX12_dropLesson_126 ?_
      refine sj_iast (a := 57) (j := ((nI 57) + x2).toNatClampNeg) dX12_dropLesson_127 rfl (by decide +kernel) b6 rfl ?_
      try simp only [if_neg c2, if_neg c4] at h
      exact t_X12_dropLesson_128 h
def wp_X12_dropLesson_65 (G : sj_G) (R : sj_R) (x1 : Int32) (x2 : Int32) (x3 : Int32) (σ : sj_S) : Prop := ∃ v1 σ1, sj_C G 2 me_X12_isOfTwo [.ref (sj_ad G 56), .int x3] σ (.ok v1, σ1) ∧ (v1 = 0 → (wp_X12_dropLesson_94 G R x1 x2 x3 σ1)) ∧ (¬ (v1 = 0) → vp_in ((nI 69) + x2) 128 ∧ (¬ (σ1 57 ((nI 69) + x2).toNatClampNeg) = x1 → (wp_X12_dropLesson_94 G R x1 x2 x3 σ1)) ∧ ((σ1 57 ((nI 69) + x2).toNatClampNeg) = x1 → (wp_X12_dropLesson_86 G R x1 x2 σ1)))
set_option maxRecDepth 20000 in
theorem t_X12_dropLesson_65 {G : sj_G} {R : sj_R} {x1 : Int32} {x2 : Int32} {x3 : Int32} {σ : sj_S} (h : wp_X12_dropLesson_65 G R x1 x2 x3 σ) : sj_J G 4 me_X12_dropLesson R 65 [.ref (sj_ad G 56), .int x1, .int x2, .int x3] σ [] := by
  unfold wp_X12_dropLesson_65 at h
  refine sj_aload_n dX12_dropLesson_65 (i := 0) rfl rfl ?_
  refine sj_iload_n dX12_dropLesson_66 (i := 3) rfl rfl ?_
  obtain ⟨v1, σ1, hc1, h⟩ := h
  refine sj_callVi (M' := me_X12_isOfTwo) (b := 56) (As := [.int x3]) (rest := []) dX12_dropLesson_67 gX12_dropLesson_X12_isOfTwo rfl hd_X12_isOfTwo (by decide +kernel) (by decide +kernel) rfl (Nat.le_of_ble_eq_true rfl) (by omega) rfl hc1 ?_
  refine sj_if_eq (tgt := 94) dX12_dropLesson_70 (by decide) (fun c3 => ?_) (fun c3 => ?_)
  · replace h := h.1 c3
    exact t_X12_dropLesson_94 h
  · replace h := h.2 c3
    refine sj_aload_n dX12_dropLesson_73 (i := 0) rfl rfl ?_
    refine sj_get (a := 56) (k9 := 1) (v := .ref (sj_ad G 57)) dX12_dropLesson_74 (by decide +kernel) rfl ?_
    refine sj_bipush (v := (nI 69)) dX12_dropLesson_77 (by decide +kernel) ?_
    refine sj_iload_n dX12_dropLesson_79 (i := 2) rfl rfl ?_
    refine sj_iadd dX12_dropLesson_80 ?_
    obtain ⟨b4, h⟩ := h
    refine sj_iald (a := 57) (j := ((nI 69) + x2).toNatClampNeg) (x := (σ1 57 ((nI 69) + x2).toNatClampNeg)) dX12_dropLesson_81 rfl (by decide +kernel) b4 rfl rfl ?_
    refine sj_iload_n dX12_dropLesson_82 (i := 1) rfl rfl ?_
    refine sj_icmp_ne (tgt := 94) dX12_dropLesson_83 (by decide) (fun c6 => ?_) (fun c6 => ?_)
    · replace h := h.1 c6
      exact t_X12_dropLesson_94 h
    · replace h := h.2 c6
      refine sj_fg [3] ?_
      exact t_X12_dropLesson_86 h
def wp_X12_dropLesson_30 (G : sj_G) (R : sj_R) (x1 : Int32) (x2 : Int32) (σ : sj_S) : Prop := (x2 < 0 → ∃ σ2, sj_C G 2 me_X12_closes [.ref (sj_ad G 56), .int (nI 0), .int x1, .int (nI 9)] σ (.ok 0, σ2) ∧ ∃ σ3, sj_C G 2 me_X12_closes [.ref (sj_ad G 56), .int (nI 9), .int x1, .int (nI 9)] σ2 (.ok 0, σ3) ∧ ∃ σ4, sj_C G 2 me_X12_closes [.ref (sj_ad G 56), .int (nI 18), .int x1, .int (nI 9)] σ3 (.ok 0, σ4) ∧ ∃ σ5, sj_C G 2 me_X12_closes [.ref (sj_ad G 56), .int (nI 27), .int x1, .int (nI 9)] σ4 (.ok 0, σ5) ∧ ∃ σ6, sj_C G 2 me_X12_closes [.ref (sj_ad G 56), .int (nI 36), .int x1, .int (nI 9)] σ5 (.ok 0, σ6) ∧ ∃ v7 σ7, sj_C G 2 me_X12_many [.ref (sj_ad G 56)] (sj_st (sj_st σ6 57 125 ((σ6 57 125) - (nI 1))) 57 127 (nI 0)) (.ok v7, σ7) ∧ R = (.ok v7, σ7)) ∧ (¬ (x2 < 0) → vp_in ((nI 45) + x2) 128 ∧ ∃ v9 σ9, sj_C G 2 me_X12_isOfLesson [.ref (sj_ad G 56), .int (σ 57 ((nI 45) + x2).toNatClampNeg)] σ (.ok v9, σ9) ∧ (v9 = 0 → (wp_X12_dropLesson_65 G R x1 x2 (σ 57 ((nI 45) + x2).toNatClampNeg) σ9)) ∧ (¬ (v9 = 0) → vp_in ((nI 57) + x2) 128 ∧ ((σ9 57 ((nI 57) + x2).toNatClampNeg) = x1 → (wp_X12_dropLesson_86 G R x1 x2 σ9)) ∧ (¬ ((σ9 57 ((nI 57) + x2).toNatClampNeg) = x1) → (wp_X12_dropLesson_65 G R x1 x2 (σ 57 ((nI 45) + x2).toNatClampNeg) σ9))))
set_option maxRecDepth 20000 in
theorem t_X12_dropLesson_30 {G : sj_G} {R : sj_R} {x1 : Int32} {x2 : Int32} {σ : sj_S} (h : wp_X12_dropLesson_30 G R x1 x2 σ) : sj_J G 4 me_X12_dropLesson R 30 [.ref (sj_ad G 56), .int x1, .int x2, .null] σ [] := by
  unfold wp_X12_dropLesson_30 at h
  refine sj_iload_n dX12_dropLesson_30 (i := 2) rfl rfl ?_
  refine sj_if_lt (tgt := 168) dX12_dropLesson_31 (by decide) (fun c1 => ?_) (fun c1 => ?_)
  · replace h := h.1 c1
    refine sj_aload_n dX12_dropLesson_168 (i := 0) rfl rfl ?_
    refine sj_iconst (v := (nI 0)) dX12_dropLesson_169 (by decide +kernel) ?_
    refine sj_iload_n dX12_dropLesson_170 (i := 1) rfl rfl ?_
    refine sj_bipush (v := (nI 9)) dX12_dropLesson_171 (by decide +kernel) ?_
    obtain ⟨σ2, hc2, h⟩ := h
    refine sj_callVv (M' := me_X12_closes) (b := 56) (As := [.int (nI 0), .int x1, .int (nI 9)]) (rest := []) dX12_dropLesson_173 gX12_dropLesson_X12_closes rfl hd_X12_closes (by decide +kernel) (by decide +kernel) rfl (Nat.le_of_ble_eq_true rfl) (by omega) rfl hc2 ?_
    refine sj_aload_n dX12_dropLesson_176 (i := 0) rfl rfl ?_
    refine sj_bipush (v := (nI 9)) dX12_dropLesson_177 (by decide +kernel) ?_
    refine sj_iload_n dX12_dropLesson_179 (i := 1) rfl rfl ?_
    refine sj_bipush (v := (nI 9)) dX12_dropLesson_180 (by decide +kernel) ?_
    obtain ⟨σ3, hc3, h⟩ := h
    refine sj_callVv (M' := me_X12_closes) (b := 56) (As := [.int (nI 9), .int x1, .int (nI 9)]) (rest := []) dX12_dropLesson_182 gX12_dropLesson_X12_closes rfl hd_X12_closes (by decide +kernel) (by decide +kernel) rfl (Nat.le_of_ble_eq_true rfl) (by omega) rfl hc3 ?_
    refine sj_aload_n dX12_dropLesson_185 (i := 0) rfl rfl ?_
    refine sj_bipush (v := (nI 18)) dX12_dropLesson_186 (by decide +kernel) ?_
    refine sj_iload_n dX12_dropLesson_188 (i := 1) rfl rfl ?_
    refine sj_bipush (v := (nI 9)) dX12_dropLesson_189 (by decide +kernel) ?_
    obtain ⟨σ4, hc4, h⟩ := h
    refine sj_callVv (M' := me_X12_closes) (b := 56) (As := [.int (nI 18), .int x1, .int (nI 9)]) (rest := []) dX12_dropLesson_191 gX12_dropLesson_X12_closes rfl hd_X12_closes (by decide +kernel) (by decide +kernel) rfl (Nat.le_of_ble_eq_true rfl) (by omega) rfl hc4 ?_
    refine sj_aload_n dX12_dropLesson_194 (i := 0) rfl rfl ?_
    refine sj_bipush (v := (nI 27)) dX12_dropLesson_195 (by decide +kernel) ?_
    refine sj_iload_n dX12_dropLesson_197 (i := 1) rfl rfl ?_
    refine sj_bipush (v := (nI 9)) dX12_dropLesson_198 (by decide +kernel) ?_
    obtain ⟨σ5, hc5, h⟩ := h
    refine sj_callVv (M' := me_X12_closes) (b := 56) (As := [.int (nI 27), .int x1, .int (nI 9)]) (rest := []) dX12_dropLesson_200 gX12_dropLesson_X12_closes rfl hd_X12_closes (by decide +kernel) (by decide +kernel) rfl (Nat.le_of_ble_eq_true rfl) (by omega) rfl hc5 ?_
    refine sj_aload_n dX12_dropLesson_203 (i := 0) rfl rfl ?_
    refine sj_bipush (v := (nI 36)) dX12_dropLesson_204 (by decide +kernel) ?_
    refine sj_iload_n dX12_dropLesson_206 (i := 1) rfl rfl ?_
    refine sj_bipush (v := (nI 9)) dX12_dropLesson_207 (by decide +kernel) ?_
    obtain ⟨σ6, hc6, h⟩ := h
    refine sj_callVv (M' := me_X12_closes) (b := 56) (As := [.int (nI 36), .int x1, .int (nI 9)]) (rest := []) dX12_dropLesson_209 gX12_dropLesson_X12_closes rfl hd_X12_closes (by decide +kernel) (by decide +kernel) rfl (Nat.le_of_ble_eq_true rfl) (by omega) rfl hc6 ?_
    refine sj_aload_n dX12_dropLesson_212 (i := 0) rfl rfl ?_
    refine sj_get (a := 56) (k9 := 1) (v := .ref (sj_ad G 57)) dX12_dropLesson_213 (by decide +kernel) rfl ?_
    refine sj_bipush (v := (nI 125)) dX12_dropLesson_216 (by decide +kernel) ?_
    refine sj_dup2 dX12_dropLesson_218 rfl rfl ?_
    refine sj_iald (a := 57) (j := 125) (x := (σ6 57 125)) dX12_dropLesson_219 rfl (by decide +kernel) (vp_in_nI (by decide) (by decide)) (nI_clamp (by decide)) rfl ?_
    refine sj_iconst (v := (nI 1)) dX12_dropLesson_220 (by decide +kernel) ?_
    refine sj_isub dX12_dropLesson_221 ?_
    refine sj_iast (a := 57) (j := 125) dX12_dropLesson_222 rfl (by decide +kernel) (vp_in_nI (by decide) (by decide)) (nI_clamp (by decide)) ?_
    refine sj_aload_n dX12_dropLesson_223 (i := 0) rfl rfl ?_
    refine sj_get (a := 56) (k9 := 1) (v := .ref (sj_ad G 57)) dX12_dropLesson_224 (by decide +kernel) rfl ?_
    refine sj_bipush (v := (nI 127)) dX12_dropLesson_227 (by decide +kernel) ?_
    refine sj_iconst (v := (nI 0)) dX12_dropLesson_229 (by decide +kernel) ?_
    refine sj_iast (a := 57) (j := 127) dX12_dropLesson_230 rfl (by decide +kernel) (vp_in_nI (by decide) (by decide)) (nI_clamp (by decide)) ?_
    refine sj_aload_n dX12_dropLesson_231 (i := 0) rfl rfl ?_
    obtain ⟨v7, σ7, hc7, h⟩ := h
    refine sj_callVi (M' := me_X12_many) (b := 56) (As := []) (rest := []) dX12_dropLesson_232 gX12_dropLesson_X12_many rfl hd_X12_many (by decide +kernel) (by decide +kernel) rfl (Nat.le_of_ble_eq_true rfl) (by omega) rfl hc7 ?_
    subst h
    exact sj_ret dX12_dropLesson_235 rfl rfl
  · replace h := h.2 c1
    refine sj_aload_n dX12_dropLesson_34 (i := 0) rfl rfl ?_
    refine sj_get (a := 56) (k9 := 1) (v := .ref (sj_ad G 57)) dX12_dropLesson_35 (by decide +kernel) rfl ?_
    refine sj_bipush (v := (nI 45)) dX12_dropLesson_38 (by decide +kernel) ?_
    refine sj_iload_n dX12_dropLesson_40 (i := 2) rfl rfl ?_
    refine sj_iadd dX12_dropLesson_41 ?_
    obtain ⟨b8, h⟩ := h
    refine sj_iald (a := 57) (j := ((nI 45) + x2).toNatClampNeg) (x := (σ 57 ((nI 45) + x2).toNatClampNeg)) dX12_dropLesson_42 rfl (by decide +kernel) b8 rfl rfl ?_
    refine sj_istore_n dX12_dropLesson_43 (i := 3) rfl (by decide) ?_
    refine sj_aload_n dX12_dropLesson_44 (i := 0) rfl rfl ?_
    refine sj_iload_n dX12_dropLesson_45 (i := 3) rfl rfl ?_
    obtain ⟨v9, σ9, hc9, h⟩ := h
    refine sj_callVi (M' := me_X12_isOfLesson) (b := 56) (As := [.int (σ 57 ((nI 45) + x2).toNatClampNeg)]) (rest := []) dX12_dropLesson_46 gX12_dropLesson_X12_isOfLesson rfl hd_X12_isOfLesson (by decide +kernel) (by decide +kernel) rfl (Nat.le_of_ble_eq_true rfl) (by omega) rfl hc9 ?_
    refine sj_if_eq (tgt := 65) dX12_dropLesson_49 (by decide) (fun c11 => ?_) (fun c11 => ?_)
    · replace h := h.1 c11
      exact t_X12_dropLesson_65 h
    · replace h := h.2 c11
      refine sj_aload_n dX12_dropLesson_52 (i := 0) rfl rfl ?_
      refine sj_get (a := 56) (k9 := 1) (v := .ref (sj_ad G 57)) dX12_dropLesson_53 (by decide +kernel) rfl ?_
      refine sj_bipush (v := (nI 57)) dX12_dropLesson_56 (by decide +kernel) ?_
      refine sj_iload_n dX12_dropLesson_58 (i := 2) rfl rfl ?_
      refine sj_iadd dX12_dropLesson_59 ?_
      obtain ⟨b12, h⟩ := h
      refine sj_iald (a := 57) (j := ((nI 57) + x2).toNatClampNeg) (x := (σ9 57 ((nI 57) + x2).toNatClampNeg)) dX12_dropLesson_60 rfl (by decide +kernel) b12 rfl rfl ?_
      refine sj_iload_n dX12_dropLesson_61 (i := 1) rfl rfl ?_
      refine sj_icmp_eq (tgt := 86) dX12_dropLesson_62 (by decide) (fun c14 => ?_) (fun c14 => ?_)
      · replace h := h.1 c14
        refine sj_fg [3] ?_
        exact t_X12_dropLesson_86 h
      · replace h := h.2 c14
        exact t_X12_dropLesson_65 h
def wp_X12_dropLesson_0 (G : sj_G) (R : sj_R) (x1 : Int32) (σ : sj_S) : Prop := ∃ v1 σ1, sj_C G 3 me_X12_noLesson [.ref (sj_ad G 56), .int x1, .int (nI 1)] (sj_st σ 56 0 (nI 0)) (.ok v1, σ1) ∧ (v1 = 0 → ∃ σ3, sj_C G 2 me_X12_keeps [.ref (sj_ad G 56)] σ1 (.ok 0, σ3) ∧ sj_J G 4 me_X12_dropLesson R 30 [.ref (sj_ad G 56), .int x1, .int ((σ3 57 126) - (nI 1)), .null] σ3 []) ∧ (¬ (v1 = 0) → R = (.ok (nI 0), σ1))
set_option maxRecDepth 20000 in
theorem t_X12_dropLesson_0 {G : sj_G} {R : sj_R} {x1 : Int32} {σ : sj_S} (h : wp_X12_dropLesson_0 G R x1 σ) : sj_J G 4 me_X12_dropLesson R 0 [.ref (sj_ad G 56), .int x1, .null, .null] σ [] := by
  unfold wp_X12_dropLesson_0 at h
  refine sj_aload_n dX12_dropLesson_0 (i := 0) rfl rfl ?_
  refine sj_iconst (v := (nI 0)) dX12_dropLesson_1 (by decide +kernel) ?_
  refine sj_put (a := 56) (k9 := 0) dX12_dropLesson_2 (by decide +kernel) (by decide +kernel) rfl ?_
  refine sj_aload_n dX12_dropLesson_5 (i := 0) rfl rfl ?_
  refine sj_iload_n dX12_dropLesson_6 (i := 1) rfl rfl ?_
  refine sj_iconst (v := (nI 1)) dX12_dropLesson_7 (by decide +kernel) ?_
  obtain ⟨v1, σ1, hc1, h⟩ := h
  refine sj_callVi (M' := me_X12_noLesson) (b := 56) (As := [.int x1, .int (nI 1)]) (rest := []) dX12_dropLesson_8 gX12_dropLesson_X12_noLesson rfl hd_X12_noLesson (by decide +kernel) (by decide +kernel) rfl (Nat.le_of_ble_eq_true rfl) (by omega) rfl hc1 ?_
  refine sj_if_eq (tgt := 16) dX12_dropLesson_11 (by decide) (fun c2 => ?_) (fun c2 => ?_)
  · replace h := h.1 c2
    refine sj_aload_n dX12_dropLesson_16 (i := 0) rfl rfl ?_
    obtain ⟨σ3, hc3, h⟩ := h
    refine sj_callVv (M' := me_X12_keeps) (b := 56) (As := []) (rest := []) dX12_dropLesson_17 gX12_dropLesson_X12_keeps rfl hd_X12_keeps (by decide +kernel) (by decide +kernel) rfl (Nat.le_of_ble_eq_true rfl) (by omega) rfl hc3 ?_
    refine sj_aload_n dX12_dropLesson_20 (i := 0) rfl rfl ?_
    refine sj_get (a := 56) (k9 := 1) (v := .ref (sj_ad G 57)) dX12_dropLesson_21 (by decide +kernel) rfl ?_
    refine sj_bipush (v := (nI 126)) dX12_dropLesson_24 (by decide +kernel) ?_
    refine sj_iald (a := 57) (j := 126) (x := (σ3 57 126)) dX12_dropLesson_26 rfl (by decide +kernel) (vp_in_nI (by decide) (by decide)) (nI_clamp (by decide)) rfl ?_
    refine sj_iconst (v := (nI 1)) dX12_dropLesson_27 (by decide +kernel) ?_
    refine sj_isub dX12_dropLesson_28 ?_
    refine sj_istore_n dX12_dropLesson_29 (i := 2) rfl (by decide) ?_
    exact h
  · replace h := h.2 c2
    refine sj_iconst (v := (nI 0)) dX12_dropLesson_14 (by decide +kernel) ?_
    subst h
    exact sj_ret dX12_dropLesson_15 rfl rfl
theorem c_X12_dropLesson {G : sj_G} (ok : sj_ok G) {R : sj_R} {x1 : Int32} {σ : sj_S} (h : wp_X12_dropLesson_0 G R x1 σ) : sj_C G 4 me_X12_dropLesson [.ref (sj_ad G 56), .int x1] σ R :=
  sj_enter ok (by decide +kernel) rfl rfl (Nat.le_of_ble_eq_true rfl) (by simp [Value.category]) (t_X12_dropLesson_0 h)
def wp_X12_lessonOf_28 (G : sj_G) (R : sj_R) (σ : sj_S) : Prop := R = (.ok (nI 0), σ)
set_option maxRecDepth 20000 in
theorem t_X12_lessonOf_28 {G : sj_G} {R : sj_R} {σ : sj_S} (h : wp_X12_lessonOf_28 G R σ) : sj_J G 4 me_X12_lessonOf R 28 [.null, .null, .null] σ [] := by
  unfold wp_X12_lessonOf_28 at h
  refine sj_iconst (v := (nI 0)) dX12_lessonOf_28 (by decide +kernel) ?_
  subst h
  exact sj_ret dX12_lessonOf_29 rfl rfl
def wp_X12_lessonOf_0 (G : sj_G) (R : sj_R) (x1 : Int32) (x2 : Int32) (σ : sj_S) : Prop := ∃ v1 σ1, sj_C G 3 me_X12_noLesson [.ref (sj_ad G 56), .int x1, .int (nI 1)] (sj_st σ 56 0 (nI 0)) (.ok v1, σ1) ∧ (¬ v1 = 0 → (wp_X12_lessonOf_28 G R σ1)) ∧ (v1 = 0 → ∃ v3 σ3, sj_C G 2 me_X12_in [.int x2, .int (nI 0), .int (nI 4)] σ1 (.ok v3, σ3) ∧ ∃ v4 σ4, sj_C G 2 me_X12_fails [.ref (sj_ad G 56), .int v3, .int (nI 2)] σ3 (.ok v4, σ4) ∧ (v4 = 0 → vp_in (((nI 9) * x2) + x1) 128 ∧ R = (.ok (σ4 57 (((nI 9) * x2) + x1).toNatClampNeg), σ4)) ∧ (¬ (v4 = 0) → (wp_X12_lessonOf_28 G R σ4)))
set_option maxRecDepth 20000 in
theorem t_X12_lessonOf_0 {G : sj_G} {R : sj_R} {x1 : Int32} {x2 : Int32} {σ : sj_S} (h : wp_X12_lessonOf_0 G R x1 x2 σ) : sj_J G 4 me_X12_lessonOf R 0 [.ref (sj_ad G 56), .int x1, .int x2] σ [] := by
  unfold wp_X12_lessonOf_0 at h
  refine sj_aload_n dX12_lessonOf_0 (i := 0) rfl rfl ?_
  refine sj_iconst (v := (nI 0)) dX12_lessonOf_1 (by decide +kernel) ?_
  refine sj_put (a := 56) (k9 := 0) dX12_lessonOf_2 (by decide +kernel) (by decide +kernel) rfl ?_
  refine sj_aload_n dX12_lessonOf_5 (i := 0) rfl rfl ?_
  refine sj_iload_n dX12_lessonOf_6 (i := 1) rfl rfl ?_
  refine sj_iconst (v := (nI 1)) dX12_lessonOf_7 (by decide +kernel) ?_
  obtain ⟨v1, σ1, hc1, h⟩ := h
  refine sj_callVi (M' := me_X12_noLesson) (b := 56) (As := [.int x1, .int (nI 1)]) (rest := []) dX12_lessonOf_8 gX12_lessonOf_X12_noLesson rfl hd_X12_noLesson (by decide +kernel) (by decide +kernel) rfl (Nat.le_of_ble_eq_true rfl) (by omega) rfl hc1 ?_
  refine sj_if_ne (tgt := 28) dX12_lessonOf_11 (by decide) (fun c2 => ?_) (fun c2 => ?_)
  · replace h := h.1 c2
    refine sj_fg [0, 1, 2] ?_
    exact t_X12_lessonOf_28 h
  · replace h := h.2 c2
    refine sj_aload_n dX12_lessonOf_14 (i := 0) rfl rfl ?_
    refine sj_iload_n dX12_lessonOf_15 (i := 2) rfl rfl ?_
    refine sj_iconst (v := (nI 0)) dX12_lessonOf_16 (by decide +kernel) ?_
    refine sj_iconst (v := (nI 4)) dX12_lessonOf_17 (by decide +kernel) ?_
    obtain ⟨v3, σ3, hc3, h⟩ := h
    refine sj_callSi (M' := me_X12_in) (As := [.int x2, .int (nI 0), .int (nI 4)]) (rest := [.ref (sj_ad G 56)]) dX12_lessonOf_18 gX12_lessonOf_X12_in rfl hd_X12_in (Nat.le_of_ble_eq_true rfl) (by omega) rfl hc3 ?_
    refine sj_iconst (v := (nI 2)) dX12_lessonOf_21 (by decide +kernel) ?_
    obtain ⟨v4, σ4, hc4, h⟩ := h
    refine sj_callVi (M' := me_X12_fails) (b := 56) (As := [.int v3, .int (nI 2)]) (rest := []) dX12_lessonOf_22 gX12_lessonOf_X12_fails rfl hd_X12_fails (by decide +kernel) (by decide +kernel) rfl (Nat.le_of_ble_eq_true rfl) (by omega) rfl hc4 ?_
    refine sj_if_eq (tgt := 30) dX12_lessonOf_25 (by decide) (fun c5 => ?_) (fun c5 => ?_)
    · replace h := h.1 c5
      refine sj_aload_n dX12_lessonOf_30 (i := 0) rfl rfl ?_
      refine sj_get (a := 56) (k9 := 1) (v := .ref (sj_ad G 57)) dX12_lessonOf_31 (by decide +kernel) rfl ?_
      refine sj_bipush (v := (nI 9)) dX12_lessonOf_34 (by decide +kernel) ?_
      refine sj_iload_n dX12_lessonOf_36 (i := 2) rfl rfl ?_
      refine sj_imul dX12_lessonOf_37 ?_
      refine sj_iload_n dX12_lessonOf_38 (i := 1) rfl rfl ?_
      refine sj_iadd dX12_lessonOf_39 ?_
      obtain ⟨b6, h⟩ := h
      refine sj_iald (a := 57) (j := (((nI 9) * x2) + x1).toNatClampNeg) (x := (σ4 57 (((nI 9) * x2) + x1).toNatClampNeg)) dX12_lessonOf_40 rfl (by decide +kernel) b6 rfl rfl ?_
      subst h
      exact sj_ret dX12_lessonOf_41 rfl rfl
    · replace h := h.2 c5
      refine sj_fg [0, 1, 2] ?_
      exact t_X12_lessonOf_28 h
theorem c_X12_lessonOf {G : sj_G} (ok : sj_ok G) {R : sj_R} {x1 : Int32} {x2 : Int32} {σ : sj_S} (h : wp_X12_lessonOf_0 G R x1 x2 σ) : sj_C G 4 me_X12_lessonOf [.ref (sj_ad G 56), .int x1, .int x2] σ R :=
  sj_enter ok (by decide +kernel) rfl rfl (Nat.le_of_ble_eq_true rfl) (by simp [Value.category]) (t_X12_lessonOf_0 h)
def wp_X12_lessons_0 (G : sj_G) (R : sj_R) (σ : sj_S) : Prop := ∃ v1 σ1, sj_C G 2 me_X12_many [.ref (sj_ad G 56)] (sj_st σ 56 0 (nI 0)) (.ok v1, σ1) ∧ R = (.ok v1, σ1)
set_option maxRecDepth 20000 in
theorem t_X12_lessons_0 {G : sj_G} {R : sj_R} {σ : sj_S} (h : wp_X12_lessons_0 G R σ) : sj_J G 3 me_X12_lessons R 0 [.ref (sj_ad G 56)] σ [] := by
  unfold wp_X12_lessons_0 at h
  refine sj_aload_n dX12_lessons_0 (i := 0) rfl rfl ?_
  refine sj_iconst (v := (nI 0)) dX12_lessons_1 (by decide +kernel) ?_
  refine sj_put (a := 56) (k9 := 0) dX12_lessons_2 (by decide +kernel) (by decide +kernel) rfl ?_
  refine sj_aload_n dX12_lessons_5 (i := 0) rfl rfl ?_
  obtain ⟨v1, σ1, hc1, h⟩ := h
  refine sj_callVi (M' := me_X12_many) (b := 56) (As := []) (rest := []) dX12_lessons_6 gX12_lessons_X12_many rfl hd_X12_many (by decide +kernel) (by decide +kernel) rfl (Nat.le_of_ble_eq_true rfl) (by omega) rfl hc1 ?_
  subst h
  exact sj_ret dX12_lessons_9 rfl rfl
theorem c_X12_lessons {G : sj_G} (ok : sj_ok G) {R : sj_R} {σ : sj_S} (h : wp_X12_lessons_0 G R σ) : sj_C G 3 me_X12_lessons [.ref (sj_ad G 56)] σ R :=
  sj_enter ok (by decide +kernel) rfl rfl (Nat.le_of_ble_eq_true rfl) (by simp [Value.category]) (t_X12_lessons_0 h)
def wp_X12_noTeacher_0 (G : sj_G) (R : sj_R) (x1 : Int32) (σ : sj_S) : Prop := ∃ v1 σ1, sj_C G 2 me_X12_in [.int x1, .int (nI 0), .int (nI 5)] σ (.ok v1, σ1) ∧ ∃ v2 σ2, sj_C G 2 me_X12_fails [.ref (sj_ad G 56), .int v1, .int (nI 1)] σ1 (.ok v2, σ2) ∧ R = (.ok v2, σ2) ∧ (v2 = nI 0 ∨ v2 = nI 1)
set_option maxRecDepth 20000 in
theorem t_X12_noTeacher_0 {G : sj_G} {R : sj_R} {x1 : Int32} {σ : sj_S} (h : wp_X12_noTeacher_0 G R x1 σ) : sj_J G 3 me_X12_noTeacher R 0 [.ref (sj_ad G 56), .int x1] σ [] := by
  unfold wp_X12_noTeacher_0 at h
  refine sj_aload_n dX12_noTeacher_0 (i := 0) rfl rfl ?_
  refine sj_iload_n dX12_noTeacher_1 (i := 1) rfl rfl ?_
  refine sj_iconst (v := (nI 0)) dX12_noTeacher_2 (by decide +kernel) ?_
  refine sj_iconst (v := (nI 5)) dX12_noTeacher_3 (by decide +kernel) ?_
  obtain ⟨v1, σ1, hc1, h⟩ := h
  refine sj_callSi (M' := me_X12_in) (As := [.int x1, .int (nI 0), .int (nI 5)]) (rest := [.ref (sj_ad G 56)]) dX12_noTeacher_4 gX12_noTeacher_X12_in rfl hd_X12_in (Nat.le_of_ble_eq_true rfl) (by omega) rfl hc1 ?_
  refine sj_iconst (v := (nI 1)) dX12_noTeacher_7 (by decide +kernel) ?_
  obtain ⟨v2, σ2, hc2, h⟩ := h
  refine sj_callVi (M' := me_X12_fails) (b := 56) (As := [.int v1, .int (nI 1)]) (rest := []) dX12_noTeacher_8 gX12_noTeacher_X12_fails rfl hd_X12_fails (by decide +kernel) (by decide +kernel) rfl (Nat.le_of_ble_eq_true rfl) (by omega) rfl hc2 ?_
  obtain ⟨h, hz⟩ := h
  subst h
  exact sj_ret dX12_noTeacher_11 rfl (sj_nb hz)
theorem c_X12_noTeacher {G : sj_G} (ok : sj_ok G) {R : sj_R} {x1 : Int32} {σ : sj_S} (h : wp_X12_noTeacher_0 G R x1 σ) : sj_C G 3 me_X12_noTeacher [.ref (sj_ad G 56), .int x1] σ R :=
  sj_enter ok (by decide +kernel) rfl rfl (Nat.le_of_ble_eq_true rfl) (by simp [Value.category]) (t_X12_noTeacher_0 h)
def wp_X12_setSubjects_28 (G : sj_G) (R : sj_R) (σ : sj_S) : Prop := R = (.ok (nI 0), σ)
set_option maxRecDepth 20000 in
theorem t_X12_setSubjects_28 {G : sj_G} {R : sj_R} {σ : sj_S} (h : wp_X12_setSubjects_28 G R σ) : sj_J G 4 me_X12_setSubjects R 28 [.null, .null, .null, .null, .null] σ [] := by
  unfold wp_X12_setSubjects_28 at h
  refine sj_iconst (v := (nI 0)) dX12_setSubjects_28 (by decide +kernel) ?_
  subst h
  exact sj_ret dX12_setSubjects_29 rfl rfl
def wp_X12_setSubjects_82 (G : sj_G) (R : sj_R) (x1 : Int32) (x2 : Int32) (x4 : Int32) (s0 : Int32) (s1 : Int32) (σ : sj_S) : Prop := sj_J G 4 me_X12_setSubjects R 35 [.ref (sj_ad G 56), .int x1, .int x2, .int (s1 &&& s0), .int (x4 + (nI 1))] σ []
set_option maxRecDepth 20000 in
theorem t_X12_setSubjects_82 {G : sj_G} {R : sj_R} {x1 : Int32} {x2 : Int32} {x4 : Int32} {s0 : Int32} {s1 : Int32} {σ : sj_S} (h : wp_X12_setSubjects_82 G R x1 x2 x4 s0 s1 σ) : sj_J G 4 me_X12_setSubjects R 82 [.ref (sj_ad G 56), .int x1, .int x2, .null, .int x4] σ [.int s0, .int s1] := by
  unfold wp_X12_setSubjects_82 at h
  refine sj_iand dX12_setSubjects_82 ?_
  refine sj_istore_n dX12_setSubjects_83 (i := 3) rfl (by decide) ?_
  refine sj_iinc (v := (x4 + (nI 1))) dX12_setSubjects_84 (by decide) rfl rfl ?_
  refine sj_goto (tgt := 35) dX12_setSubjects_87 (by decide) ?_
  exact h
def wp_X12_setSubjects_35 (G : sj_G) (R : sj_R) (x1 : Int32) (x2 : Int32) (x3 : Int32) (x4 : Int32) (σ : sj_S) : Prop := ∃ v1 σ1, sj_C G 2 me_X12_many [.ref (sj_ad G 56)] σ (.ok v1, σ1) ∧ (v1 ≤ x4 → ∃ v3 σ3, sj_C G 2 me_X12_fails [.ref (sj_ad G 56), .int x3, .int (nI 2)] σ1 (.ok v3, σ3) ∧ (v3 = 0 → ∃ σ5, sj_C G 2 me_X12_keeps [.ref (sj_ad G 56)] σ3 (.ok 0, σ5) ∧ vp_in ((nI 93) + x1) 128 ∧ vp_in ((nI 93) + x1) 128 ∧ R = (.ok (σ5 57 ((nI 93) + x1).toNatClampNeg), (sj_st (sj_st σ5 57 ((nI 93) + x1).toNatClampNeg x2) 57 127 (nI 0)))) ∧ (¬ (v3 = 0) → R = (.ok (nI 0), σ3))) ∧ (¬ (v1 ≤ x4) → vp_in ((nI 9) + x4) 128 ∧ (((σ1 57 ((nI 9) + x4).toNatClampNeg) = x1) → vp_in ((nI 18) + x4) 128) ∧ (wp_X12_setSubjects_82 G R x1 x2 x4 (if (σ1 57 ((nI 9) + x4).toNatClampNeg) = x1 then (if ((x2 >>> ((σ1 57 ((nI 18) + x4).toNatClampNeg) &&& 31)) &&& (nI 1)) = (nI 1) then (nI 1) else (nI 0)) else (nI 1)) x3 σ1))
set_option maxRecDepth 20000 in
theorem t_X12_setSubjects_35 {G : sj_G} {R : sj_R} {x1 : Int32} {x2 : Int32} {x3 : Int32} {x4 : Int32} {σ : sj_S} (h : wp_X12_setSubjects_35 G R x1 x2 x3 x4 σ) : sj_J G 4 me_X12_setSubjects R 35 [.ref (sj_ad G 56), .int x1, .int x2, .int x3, .int x4] σ [] := by
  unfold wp_X12_setSubjects_35 at h
  refine sj_iload dX12_setSubjects_35 rfl ?_
  refine sj_aload_n dX12_setSubjects_37 (i := 0) rfl rfl ?_
  obtain ⟨v1, σ1, hc1, h⟩ := h
  refine sj_callVi (M' := me_X12_many) (b := 56) (As := []) (rest := [.int x4]) dX12_setSubjects_38 gX12_setSubjects_X12_many rfl hd_X12_many (by decide +kernel) (by decide +kernel) rfl (Nat.le_of_ble_eq_true rfl) (by omega) rfl hc1 ?_
  refine sj_icmp_ge (tgt := 90) dX12_setSubjects_41 (by decide) (fun c2 => ?_) (fun c2 => ?_)
  · replace h := h.1 c2
    refine sj_aload_n dX12_setSubjects_90 (i := 0) rfl rfl ?_
    refine sj_iload_n dX12_setSubjects_91 (i := 3) rfl rfl ?_
    refine sj_iconst (v := (nI 2)) dX12_setSubjects_92 (by decide +kernel) ?_
    obtain ⟨v3, σ3, hc3, h⟩ := h
    refine sj_callVi (M' := me_X12_fails) (b := 56) (As := [.int x3, .int (nI 2)]) (rest := []) dX12_setSubjects_93 gX12_setSubjects_X12_fails rfl hd_X12_fails (by decide +kernel) (by decide +kernel) rfl (Nat.le_of_ble_eq_true rfl) (by omega) rfl hc3 ?_
    refine sj_if_eq (tgt := 101) dX12_setSubjects_96 (by decide) (fun c4 => ?_) (fun c4 => ?_)
    · replace h := h.1 c4
      refine sj_aload_n dX12_setSubjects_101 (i := 0) rfl rfl ?_
      obtain ⟨σ5, hc5, h⟩ := h
      refine sj_callVv (M' := me_X12_keeps) (b := 56) (As := []) (rest := []) dX12_setSubjects_102 gX12_setSubjects_X12_keeps rfl hd_X12_keeps (by decide +kernel) (by decide +kernel) rfl (Nat.le_of_ble_eq_true rfl) (by omega) rfl hc5 ?_
      refine sj_aload_n dX12_setSubjects_105 (i := 0) rfl rfl ?_
      refine sj_get (a := 56) (k9 := 1) (v := .ref (sj_ad G 57)) dX12_setSubjects_106 (by decide +kernel) rfl ?_
      refine sj_bipush (v := (nI 93)) dX12_setSubjects_109 (by decide +kernel) ?_
      refine sj_iload_n dX12_setSubjects_111 (i := 1) rfl rfl ?_
      refine sj_iadd dX12_setSubjects_112 ?_
      obtain ⟨b6, h⟩ := h
      refine sj_iald (a := 57) (j := ((nI 93) + x1).toNatClampNeg) (x := (σ5 57 ((nI 93) + x1).toNatClampNeg)) dX12_setSubjects_113 rfl (by decide +kernel) b6 rfl rfl ?_
      refine sj_istore dX12_setSubjects_114 (by decide) ?_
      refine sj_aload_n dX12_setSubjects_116 (i := 0) rfl rfl ?_
      refine sj_get (a := 56) (k9 := 1) (v := .ref (sj_ad G 57)) dX12_setSubjects_117 (by decide +kernel) rfl ?_
      refine sj_bipush (v := (nI 93)) dX12_setSubjects_120 (by decide +kernel) ?_
      refine sj_iload_n dX12_setSubjects_122 (i := 1) rfl rfl ?_
      refine sj_iadd dX12_setSubjects_123 ?_
      refine sj_iload_n dX12_setSubjects_124 (i := 2) rfl rfl ?_
      obtain ⟨b7, h⟩ := h
      refine sj_iast (a := 57) (j := ((nI 93) + x1).toNatClampNeg) dX12_setSubjects_125 rfl (by decide +kernel) b7 rfl ?_
      refine sj_aload_n dX12_setSubjects_126 (i := 0) rfl rfl ?_
      refine sj_get (a := 56) (k9 := 1) (v := .ref (sj_ad G 57)) dX12_setSubjects_127 (by decide +kernel) rfl ?_
      refine sj_bipush (v := (nI 127)) dX12_setSubjects_130 (by decide +kernel) ?_
      refine sj_iconst (v := (nI 0)) dX12_setSubjects_132 (by decide +kernel) ?_
      refine sj_iast (a := 57) (j := 127) dX12_setSubjects_133 rfl (by decide +kernel) (vp_in_nI (by decide) (by decide)) (nI_clamp (by decide)) ?_
      refine sj_iload dX12_setSubjects_134 rfl ?_
      subst h
      exact sj_ret dX12_setSubjects_136 rfl rfl
    · replace h := h.2 c4
      refine sj_iconst (v := (nI 0)) dX12_setSubjects_99 (by decide +kernel) ?_
      subst h
      exact sj_ret dX12_setSubjects_100 rfl rfl
  · replace h := h.2 c2
    refine sj_iload_n dX12_setSubjects_44 (i := 3) rfl rfl ?_
    refine sj_aload_n dX12_setSubjects_45 (i := 0) rfl rfl ?_
    refine sj_get (a := 56) (k9 := 1) (v := .ref (sj_ad G 57)) dX12_setSubjects_46 (by decide +kernel) rfl ?_
    refine sj_bipush (v := (nI 9)) dX12_setSubjects_49 (by decide +kernel) ?_
    refine sj_iload dX12_setSubjects_51 rfl ?_
    refine sj_iadd dX12_setSubjects_53 ?_
    obtain ⟨b8, h⟩ := h
    refine sj_iald (a := 57) (j := ((nI 9) + x4).toNatClampNeg) (x := (σ1 57 ((nI 9) + x4).toNatClampNeg)) dX12_setSubjects_54 rfl (by decide +kernel) b8 rfl rfl ?_
    refine sj_iload_n dX12_setSubjects_55 (i := 1) rfl rfl ?_
    obtain ⟨f12, h⟩ := h
    refine sj_icmp_ne (tgt := 77) dX12_setSubjects_56 (by decide) (fun c9 => ?_) (fun c9 => ?_)
    · refine sj_iconst (v := (nI 1)) dX12_setSubjects_77 (by decide +kernel) ?_
      refine sj_goto (tgt := 82) dX12_setSubjects_78 (by decide) ?_
      try simp only [if_neg c9] at h
      refine sj_fg [3] ?_
      exact t_X12_setSubjects_82 h
    · have b10 := f12 c9
      refine sj_iload_n dX12_setSubjects_59 (i := 2) rfl rfl ?_
      refine sj_aload_n dX12_setSubjects_60 (i := 0) rfl rfl ?_
      refine sj_get (a := 56) (k9 := 1) (v := .ref (sj_ad G 57)) dX12_setSubjects_61 (by decide +kernel) rfl ?_
      refine sj_bipush (v := (nI 18)) dX12_setSubjects_64 (by decide +kernel) ?_
      refine sj_iload dX12_setSubjects_66 rfl ?_
      refine sj_iadd dX12_setSubjects_68 ?_
      refine sj_iald (a := 57) (j := ((nI 18) + x4).toNatClampNeg) (x := (σ1 57 ((nI 18) + x4).toNatClampNeg)) dX12_setSubjects_69 rfl (by decide +kernel) b10 rfl rfl ?_
      refine sj_ishr dX12_setSubjects_70 ?_
      refine sj_iconst (v := (nI 1)) dX12_setSubjects_71 (by decide +kernel) ?_
      refine sj_iand dX12_setSubjects_72 ?_
      refine sj_iconst (v := (nI 1)) dX12_setSubjects_73 (by decide +kernel) ?_
      refine sj_icmp_ne (tgt := 81) dX12_setSubjects_74 (by decide) (fun c11 => ?_) (fun c11 => ?_)
      · refine sj_iconst (v := (nI 0)) dX12_setSubjects_81 (by decide +kernel) ?_
        try simp only [if_pos c9, if_neg c11] at h
        refine sj_fg [3] ?_
        exact t_X12_setSubjects_82 h
      · refine sj_iconst (v := (nI 1)) dX12_setSubjects_77 (by decide +kernel) ?_
        refine sj_goto (tgt := 82) dX12_setSubjects_78 (by decide) ?_
        try simp only [if_pos c9, if_pos c11] at h
        refine sj_fg [3] ?_
        exact t_X12_setSubjects_82 h
def wp_X12_setSubjects_0 (G : sj_G) (R : sj_R) (x1 : Int32) (x2 : Int32) (σ : sj_S) : Prop := ∃ v1 σ1, sj_C G 3 me_X12_noTeacher [.ref (sj_ad G 56), .int x1] (sj_st σ 56 0 (nI 0)) (.ok v1, σ1) ∧ (¬ v1 = 0 → (wp_X12_setSubjects_28 G R σ1)) ∧ (v1 = 0 → ∃ v3 σ3, sj_C G 2 me_X12_in [.int x2, .int (nI 0), .int (nI 63)] σ1 (.ok v3, σ3) ∧ ∃ v4 σ4, sj_C G 2 me_X12_fails [.ref (sj_ad G 56), .int v3, .int (nI 1)] σ3 (.ok v4, σ4) ∧ (v4 = 0 → sj_J G 4 me_X12_setSubjects R 35 [.ref (sj_ad G 56), .int x1, .int x2, .int (nI 1), .int (nI 0)] σ4 []) ∧ (¬ (v4 = 0) → (wp_X12_setSubjects_28 G R σ4)))
set_option maxRecDepth 20000 in
theorem t_X12_setSubjects_0 {G : sj_G} {R : sj_R} {x1 : Int32} {x2 : Int32} {σ : sj_S} (h : wp_X12_setSubjects_0 G R x1 x2 σ) : sj_J G 4 me_X12_setSubjects R 0 [.ref (sj_ad G 56), .int x1, .int x2, .null, .null] σ [] := by
  unfold wp_X12_setSubjects_0 at h
  refine sj_aload_n dX12_setSubjects_0 (i := 0) rfl rfl ?_
  refine sj_iconst (v := (nI 0)) dX12_setSubjects_1 (by decide +kernel) ?_
  refine sj_put (a := 56) (k9 := 0) dX12_setSubjects_2 (by decide +kernel) (by decide +kernel) rfl ?_
  refine sj_aload_n dX12_setSubjects_5 (i := 0) rfl rfl ?_
  refine sj_iload_n dX12_setSubjects_6 (i := 1) rfl rfl ?_
  obtain ⟨v1, σ1, hc1, h⟩ := h
  refine sj_callVi (M' := me_X12_noTeacher) (b := 56) (As := [.int x1]) (rest := []) dX12_setSubjects_7 gX12_setSubjects_X12_noTeacher rfl hd_X12_noTeacher (by decide +kernel) (by decide +kernel) rfl (Nat.le_of_ble_eq_true rfl) (by omega) rfl hc1 ?_
  refine sj_if_ne (tgt := 28) dX12_setSubjects_10 (by decide) (fun c2 => ?_) (fun c2 => ?_)
  · replace h := h.1 c2
    refine sj_fg [0, 1, 2] ?_
    exact t_X12_setSubjects_28 h
  · replace h := h.2 c2
    refine sj_aload_n dX12_setSubjects_13 (i := 0) rfl rfl ?_
    refine sj_iload_n dX12_setSubjects_14 (i := 2) rfl rfl ?_
    refine sj_iconst (v := (nI 0)) dX12_setSubjects_15 (by decide +kernel) ?_
    refine sj_bipush (v := (nI 63)) dX12_setSubjects_16 (by decide +kernel) ?_
    obtain ⟨v3, σ3, hc3, h⟩ := h
    refine sj_callSi (M' := me_X12_in) (As := [.int x2, .int (nI 0), .int (nI 63)]) (rest := [.ref (sj_ad G 56)]) dX12_setSubjects_18 gX12_setSubjects_X12_in rfl hd_X12_in (Nat.le_of_ble_eq_true rfl) (by omega) rfl hc3 ?_
    refine sj_iconst (v := (nI 1)) dX12_setSubjects_21 (by decide +kernel) ?_
    obtain ⟨v4, σ4, hc4, h⟩ := h
    refine sj_callVi (M' := me_X12_fails) (b := 56) (As := [.int v3, .int (nI 1)]) (rest := []) dX12_setSubjects_22 gX12_setSubjects_X12_fails rfl hd_X12_fails (by decide +kernel) (by decide +kernel) rfl (Nat.le_of_ble_eq_true rfl) (by omega) rfl hc4 ?_
    refine sj_if_eq (tgt := 30) dX12_setSubjects_25 (by decide) (fun c5 => ?_) (fun c5 => ?_)
    · replace h := h.1 c5
      refine sj_iconst (v := (nI 1)) dX12_setSubjects_30 (by decide +kernel) ?_
      refine sj_istore_n dX12_setSubjects_31 (i := 3) rfl (by decide) ?_
      refine sj_iconst (v := (nI 0)) dX12_setSubjects_32 (by decide +kernel) ?_
      refine sj_istore dX12_setSubjects_33 (by decide) ?_
      exact h
    · replace h := h.2 c5
      refine sj_fg [0, 1, 2] ?_
      exact t_X12_setSubjects_28 h
theorem c_X12_setSubjects {G : sj_G} (ok : sj_ok G) {R : sj_R} {x1 : Int32} {x2 : Int32} {σ : sj_S} (h : wp_X12_setSubjects_0 G R x1 x2 σ) : sj_C G 4 me_X12_setSubjects [.ref (sj_ad G 56), .int x1, .int x2] σ R :=
  sj_enter ok (by decide +kernel) rfl rfl (Nat.le_of_ble_eq_true rfl) (by simp [Value.category]) (t_X12_setSubjects_0 h)
def wp_X12_setRooms_29 (G : sj_G) (R : sj_R) (x1 : Int32) (x2 : Int32) (s0 : Int32) (σ : sj_S) : Prop := ∃ v1 σ1, sj_C G 2 me_X12_fails [.ref (sj_ad G 56), .int s0, .int (nI 1)] σ (.ok v1, σ1) ∧ (v1 = 0 → ∃ σ3, sj_C G 2 me_X12_keeps [.ref (sj_ad G 56)] σ1 (.ok 0, σ3) ∧ vp_in ((nI 99) + x1) 128 ∧ vp_in ((nI 99) + x1) 128 ∧ R = (.ok (σ3 57 ((nI 99) + x1).toNatClampNeg), (sj_st (sj_st σ3 57 ((nI 99) + x1).toNatClampNeg x2) 57 127 (nI 0)))) ∧ (¬ (v1 = 0) → R = (.ok (nI 0), σ1))
set_option maxRecDepth 20000 in
theorem t_X12_setRooms_29 {G : sj_G} {R : sj_R} {x1 : Int32} {x2 : Int32} {s0 : Int32} {σ : sj_S} (h : wp_X12_setRooms_29 G R x1 x2 s0 σ) : sj_J G 3 me_X12_setRooms R 29 [.ref (sj_ad G 56), .int x1, .int x2, .null] σ [.int s0, .ref (sj_ad G 56)] := by
  unfold wp_X12_setRooms_29 at h
  refine sj_iconst (v := (nI 1)) dX12_setRooms_29 (by decide +kernel) ?_
  obtain ⟨v1, σ1, hc1, h⟩ := h
  refine sj_callVi (M' := me_X12_fails) (b := 56) (As := [.int s0, .int (nI 1)]) (rest := []) dX12_setRooms_30 gX12_setRooms_X12_fails rfl hd_X12_fails (by decide +kernel) (by decide +kernel) rfl (Nat.le_of_ble_eq_true rfl) (by omega) rfl hc1 ?_
  refine sj_if_eq (tgt := 38) dX12_setRooms_33 (by decide) (fun c2 => ?_) (fun c2 => ?_)
  · replace h := h.1 c2
    refine sj_aload_n dX12_setRooms_38 (i := 0) rfl rfl ?_
    obtain ⟨σ3, hc3, h⟩ := h
    refine sj_callVv (M' := me_X12_keeps) (b := 56) (As := []) (rest := []) dX12_setRooms_39 gX12_setRooms_X12_keeps rfl hd_X12_keeps (by decide +kernel) (by decide +kernel) rfl (Nat.le_of_ble_eq_true rfl) (by omega) rfl hc3 ?_
    refine sj_aload_n dX12_setRooms_42 (i := 0) rfl rfl ?_
    refine sj_get (a := 56) (k9 := 1) (v := .ref (sj_ad G 57)) dX12_setRooms_43 (by decide +kernel) rfl ?_
    refine sj_bipush (v := (nI 99)) dX12_setRooms_46 (by decide +kernel) ?_
    refine sj_iload_n dX12_setRooms_48 (i := 1) rfl rfl ?_
    refine sj_iadd dX12_setRooms_49 ?_
    obtain ⟨b4, h⟩ := h
    refine sj_iald (a := 57) (j := ((nI 99) + x1).toNatClampNeg) (x := (σ3 57 ((nI 99) + x1).toNatClampNeg)) dX12_setRooms_50 rfl (by decide +kernel) b4 rfl rfl ?_
    refine sj_istore_n dX12_setRooms_51 (i := 3) rfl (by decide) ?_
    refine sj_aload_n dX12_setRooms_52 (i := 0) rfl rfl ?_
    refine sj_get (a := 56) (k9 := 1) (v := .ref (sj_ad G 57)) dX12_setRooms_53 (by decide +kernel) rfl ?_
    refine sj_bipush (v := (nI 99)) dX12_setRooms_56 (by decide +kernel) ?_
    refine sj_iload_n dX12_setRooms_58 (i := 1) rfl rfl ?_
    refine sj_iadd dX12_setRooms_59 ?_
    refine sj_iload_n dX12_setRooms_60 (i := 2) rfl rfl ?_
    obtain ⟨b5, h⟩ := h
    refine sj_iast (a := 57) (j := ((nI 99) + x1).toNatClampNeg) dX12_setRooms_61 rfl (by decide +kernel) b5 rfl ?_
    refine sj_aload_n dX12_setRooms_62 (i := 0) rfl rfl ?_
    refine sj_get (a := 56) (k9 := 1) (v := .ref (sj_ad G 57)) dX12_setRooms_63 (by decide +kernel) rfl ?_
    refine sj_bipush (v := (nI 127)) dX12_setRooms_66 (by decide +kernel) ?_
    refine sj_iconst (v := (nI 0)) dX12_setRooms_68 (by decide +kernel) ?_
    refine sj_iast (a := 57) (j := 127) dX12_setRooms_69 rfl (by decide +kernel) (vp_in_nI (by decide) (by decide)) (nI_clamp (by decide)) ?_
    refine sj_iload_n dX12_setRooms_70 (i := 3) rfl rfl ?_
    subst h
    exact sj_ret dX12_setRooms_71 rfl rfl
  · replace h := h.2 c2
    refine sj_iconst (v := (nI 0)) dX12_setRooms_36 (by decide +kernel) ?_
    subst h
    exact sj_ret dX12_setRooms_37 rfl rfl
def wp_X12_setRooms_28 (G : sj_G) (R : sj_R) (x1 : Int32) (x2 : Int32) (σ : sj_S) : Prop := (wp_X12_setRooms_29 G R x1 x2 (nI 0) σ)
set_option maxRecDepth 20000 in
theorem t_X12_setRooms_28 {G : sj_G} {R : sj_R} {x1 : Int32} {x2 : Int32} {σ : sj_S} (h : wp_X12_setRooms_28 G R x1 x2 σ) : sj_J G 3 me_X12_setRooms R 28 [.ref (sj_ad G 56), .int x1, .int x2, .null] σ [.ref (sj_ad G 56)] := by
  unfold wp_X12_setRooms_28 at h
  refine sj_iconst (v := (nI 0)) dX12_setRooms_28 (by decide +kernel) ?_
  exact t_X12_setRooms_29 h
def wp_X12_setRooms_0 (G : sj_G) (R : sj_R) (x1 : Int32) (x2 : Int32) (σ : sj_S) : Prop := ∃ v1 σ1, sj_C G 2 me_X12_in [.int x1, .int (nI 0), .int (nI 2)] (sj_st σ 56 0 (nI 0)) (.ok v1, σ1) ∧ (v1 = 0 → (wp_X12_setRooms_28 G R x1 x2 σ1)) ∧ (¬ (v1 = 0) → ∃ v4 σ4, sj_C G 2 me_X12_in [.int x2, .int (nI 0), .int (nI 3)] σ1 (.ok v4, σ4) ∧ (wp_X12_setRooms_29 G R x1 x2 (if v4 = 0 then (nI 0) else (nI 1)) σ4))
set_option maxRecDepth 20000 in
theorem t_X12_setRooms_0 {G : sj_G} {R : sj_R} {x1 : Int32} {x2 : Int32} {σ : sj_S} (h : wp_X12_setRooms_0 G R x1 x2 σ) : sj_J G 3 me_X12_setRooms R 0 [.ref (sj_ad G 56), .int x1, .int x2, .null] σ [] := by
  unfold wp_X12_setRooms_0 at h
  refine sj_aload_n dX12_setRooms_0 (i := 0) rfl rfl ?_
  refine sj_iconst (v := (nI 0)) dX12_setRooms_1 (by decide +kernel) ?_
  refine sj_put (a := 56) (k9 := 0) dX12_setRooms_2 (by decide +kernel) (by decide +kernel) rfl ?_
  refine sj_aload_n dX12_setRooms_5 (i := 0) rfl rfl ?_
  refine sj_iload_n dX12_setRooms_6 (i := 1) rfl rfl ?_
  refine sj_iconst (v := (nI 0)) dX12_setRooms_7 (by decide +kernel) ?_
  refine sj_iconst (v := (nI 2)) dX12_setRooms_8 (by decide +kernel) ?_
  obtain ⟨v1, σ1, hc1, h⟩ := h
  refine sj_callSi (M' := me_X12_in) (As := [.int x1, .int (nI 0), .int (nI 2)]) (rest := [.ref (sj_ad G 56)]) dX12_setRooms_9 gX12_setRooms_X12_in rfl hd_X12_in (Nat.le_of_ble_eq_true rfl) (by omega) rfl hc1 ?_
  refine sj_if_eq (tgt := 28) dX12_setRooms_12 (by decide) (fun c3 => ?_) (fun c3 => ?_)
  · replace h := h.1 c3
    exact t_X12_setRooms_28 h
  · replace h := h.2 c3
    refine sj_iload_n dX12_setRooms_15 (i := 2) rfl rfl ?_
    refine sj_iconst (v := (nI 0)) dX12_setRooms_16 (by decide +kernel) ?_
    refine sj_iconst (v := (nI 3)) dX12_setRooms_17 (by decide +kernel) ?_
    obtain ⟨v4, σ4, hc4, h⟩ := h
    refine sj_callSi (M' := me_X12_in) (As := [.int x2, .int (nI 0), .int (nI 3)]) (rest := [.ref (sj_ad G 56)]) dX12_setRooms_18 gX12_setRooms_X12_in rfl hd_X12_in (Nat.le_of_ble_eq_true rfl) (by omega) rfl hc4 ?_
    refine sj_if_eq (tgt := 28) dX12_setRooms_21 (by decide) (fun c5 => ?_) (fun c5 => ?_)
    · refine sj_iconst (v := (nI 0)) dX12_setRooms_28 (by decide +kernel) ?_
      try simp only [if_pos c5] at h
      exact t_X12_setRooms_29 h
    · refine sj_iconst (v := (nI 1)) dX12_setRooms_24 (by decide +kernel) ?_
      refine sj_goto (tgt := 29) dX12_setRooms_25 (by decide) ?_
      try simp only [if_neg c5] at h
      exact t_X12_setRooms_29 h
theorem c_X12_setRooms {G : sj_G} (ok : sj_ok G) {R : sj_R} {x1 : Int32} {x2 : Int32} {σ : sj_S} (h : wp_X12_setRooms_0 G R x1 x2 σ) : sj_C G 3 me_X12_setRooms [.ref (sj_ad G 56), .int x1, .int x2] σ R :=
  sj_enter ok (by decide +kernel) rfl rfl (Nat.le_of_ble_eq_true rfl) (by simp [Value.category]) (t_X12_setRooms_0 h)
def wp_X12_wish_191 (G : sj_G) (R : sj_R) (σ : sj_S) : Prop := R = (.ok (nI 0), σ)
set_option maxRecDepth 20000 in
theorem t_X12_wish_191 {G : sj_G} {R : sj_R} {σ : sj_S} (h : wp_X12_wish_191 G R σ) : sj_J G 4 me_X12_wish R 191 [.null, .null, .null, .null, .null, .null] σ [] := by
  unfold wp_X12_wish_191 at h
  refine sj_iconst (v := (nI 0)) dX12_wish_191 (by decide +kernel) ?_
  subst h
  exact sj_ret dX12_wish_192 rfl rfl
def wp_X12_wish_184 (G : sj_G) (R : sj_R) (x1 : Int32) (x2 : Int32) (x3 : Int32) (x4 : Int32) (s0 : Int32) (σ : sj_S) : Prop := ∃ v1 σ1, sj_C G 2 me_X12_fails [.ref (sj_ad G 56), .int s0, .int (nI 3)] σ (.ok v1, σ1) ∧ (v1 = 0 → ∃ σ3, sj_C G 2 me_X12_keeps [.ref (sj_ad G 56)] σ1 (.ok 0, σ3) ∧ vp_in ((nI 45) + (σ3 57 126)) 128 ∧ vp_in ((nI 57) + (σ3 57 126)) 128 ∧ vp_in ((nI 69) + (σ3 57 126)) 128 ∧ vp_in ((nI 81) + (σ3 57 126)) 128 ∧ R = (.ok (σ3 57 126), (sj_st (sj_st (sj_st (sj_st (sj_st (sj_st σ3 57 ((nI 45) + (σ3 57 126)).toNatClampNeg x1) 57 ((nI 57) + (σ3 57 126)).toNatClampNeg x2) 57 ((nI 69) + (σ3 57 126)).toNatClampNeg x3) 57 ((nI 81) + (σ3 57 126)).toNatClampNeg x4) 57 126 (((sj_st (sj_st (sj_st (sj_st σ3 57 ((nI 45) + (σ3 57 126)).toNatClampNeg x1) 57 ((nI 57) + (σ3 57 126)).toNatClampNeg x2) 57 ((nI 69) + (σ3 57 126)).toNatClampNeg x3) 57 ((nI 81) + (σ3 57 126)).toNatClampNeg x4) 57 126) + (nI 1))) 57 127 (nI 0)))) ∧ (¬ (v1 = 0) → (wp_X12_wish_191 G R σ1))
set_option maxRecDepth 20000 in
theorem t_X12_wish_184 {G : sj_G} {R : sj_R} {x1 : Int32} {x2 : Int32} {x3 : Int32} {x4 : Int32} {s0 : Int32} {σ : sj_S} (h : wp_X12_wish_184 G R x1 x2 x3 x4 s0 σ) : sj_J G 4 me_X12_wish R 184 [.ref (sj_ad G 56), .int x1, .int x2, .int x3, .int x4, .null] σ [.int s0, .ref (sj_ad G 56)] := by
  unfold wp_X12_wish_184 at h
  refine sj_iconst (v := (nI 3)) dX12_wish_184 (by decide +kernel) ?_
  obtain ⟨v1, σ1, hc1, h⟩ := h
  refine sj_callVi (M' := me_X12_fails) (b := 56) (As := [.int s0, .int (nI 3)]) (rest := []) dX12_wish_185 gX12_wish_X12_fails rfl hd_X12_fails (by decide +kernel) (by decide +kernel) rfl (Nat.le_of_ble_eq_true rfl) (by omega) rfl hc1 ?_
  refine sj_if_eq (tgt := 193) dX12_wish_188 (by decide) (fun c2 => ?_) (fun c2 => ?_)
  · replace h := h.1 c2
    refine sj_aload_n dX12_wish_193 (i := 0) rfl rfl ?_
    obtain ⟨σ3, hc3, h⟩ := h
    refine sj_callVv (M' := me_X12_keeps) (b := 56) (As := []) (rest := []) dX12_wish_194 gX12_wish_X12_keeps rfl hd_X12_keeps (by decide +kernel) (by decide +kernel) rfl (Nat.le_of_ble_eq_true rfl) (by omega) rfl hc3 ?_
    refine sj_aload_n dX12_wish_197 (i := 0) rfl rfl ?_
    refine sj_get (a := 56) (k9 := 1) (v := .ref (sj_ad G 57)) dX12_wish_198 (by decide +kernel) rfl ?_
    refine sj_bipush (v := (nI 126)) dX12_wish_201 (by decide +kernel) ?_
    refine sj_iald (a := 57) (j := 126) (x := (σ3 57 126)) dX12_wish_203 rfl (by decide +kernel) (vp_in_nI (by decide) (by decide)) (nI_clamp (by decide)) rfl ?_
    refine sj_istore dX12_wish_204 (by decide) ?_
    refine sj_aload_n dX12_wish_206 (i := 0) rfl rfl ?_
    refine sj_get (a := 56) (k9 := 1) (v := .ref (sj_ad G 57)) dX12_wish_207 (by decide +kernel) rfl ?_
    refine sj_bipush (v := (nI 45)) dX12_wish_210 (by decide +kernel) ?_
    refine sj_iload dX12_wish_212 rfl ?_
    refine sj_iadd dX12_wish_214 ?_
    refine sj_iload_n dX12_wish_215 (i := 1) rfl rfl ?_
    obtain ⟨b4, h⟩ := h
    refine sj_iast (a := 57) (j := ((nI 45) + (σ3 57 126)).toNatClampNeg) dX12_wish_216 rfl (by decide +kernel) b4 rfl ?_
    refine sj_aload_n dX12_wish_217 (i := 0) rfl rfl ?_
    refine sj_get (a := 56) (k9 := 1) (v := .ref (sj_ad G 57)) dX12_wish_218 (by decide +kernel) rfl ?_
    refine sj_bipush (v := (nI 57)) dX12_wish_221 (by decide +kernel) ?_
    refine sj_iload dX12_wish_223 rfl ?_
    refine sj_iadd dX12_wish_225 ?_
    refine sj_iload_n dX12_wish_226 (i := 2) rfl rfl ?_
    obtain ⟨b5, h⟩ := h
    refine sj_iast (a := 57) (j := ((nI 57) + (σ3 57 126)).toNatClampNeg) dX12_wish_227 rfl (by decide +kernel) b5 rfl ?_
    refine sj_aload_n dX12_wish_228 (i := 0) rfl rfl ?_
    refine sj_get (a := 56) (k9 := 1) (v := .ref (sj_ad G 57)) dX12_wish_229 (by decide +kernel) rfl ?_
    refine sj_bipush (v := (nI 69)) dX12_wish_232 (by decide +kernel) ?_
    refine sj_iload dX12_wish_234 rfl ?_
    refine sj_iadd dX12_wish_236 ?_
    refine sj_iload_n dX12_wish_237 (i := 3) rfl rfl ?_
    obtain ⟨b6, h⟩ := h
    refine sj_iast (a := 57) (j := ((nI 69) + (σ3 57 126)).toNatClampNeg) dX12_wish_238 rfl (by decide +kernel) b6 rfl ?_
    refine sj_aload_n dX12_wish_239 (i := 0) rfl rfl ?_
    refine sj_get (a := 56) (k9 := 1) (v := .ref (sj_ad G 57)) dX12_wish_240 (by decide +kernel) rfl ?_
    refine sj_bipush (v := (nI 81)) dX12_wish_243 (by decide +kernel) ?_
    refine sj_iload dX12_wish_245 rfl ?_
    refine sj_iadd dX12_wish_247 ?_
    refine sj_iload dX12_wish_248 rfl ?_
    obtain ⟨b7, h⟩ := h
    refine sj_iast (a := 57) (j := ((nI 81) + (σ3 57 126)).toNatClampNeg) dX12_wish_250 rfl (by decide +kernel) b7 rfl ?_
    refine sj_aload_n dX12_wish_251 (i := 0) rfl rfl ?_
    refine sj_get (a := 56) (k9 := 1) (v := .ref (sj_ad G 57)) dX12_wish_252 (by decide +kernel) rfl ?_
    refine sj_bipush (v := (nI 126)) dX12_wish_255 (by decide +kernel) ?_
    refine sj_dup2 dX12_wish_257 rfl rfl ?_
    refine sj_iald (a := 57) (j := 126) (x := ((sj_st (sj_st (sj_st (sj_st σ3 57 ((nI 45) + (σ3 57 126)).toNatClampNeg x1) 57 ((nI 57) + (σ3 57 126)).toNatClampNeg x2) 57 ((nI 69) + (σ3 57 126)).toNatClampNeg x3) 57 ((nI 81) + (σ3 57 126)).toNatClampNeg x4) 57 126)) dX12_wish_258 rfl (by decide +kernel) (vp_in_nI (by decide) (by decide)) (nI_clamp (by decide)) rfl ?_
    refine sj_iconst (v := (nI 1)) dX12_wish_259 (by decide +kernel) ?_
    refine sj_iadd dX12_wish_260 ?_
    refine sj_iast (a := 57) (j := 126) dX12_wish_261 rfl (by decide +kernel) (vp_in_nI (by decide) (by decide)) (nI_clamp (by decide)) ?_
    refine sj_aload_n dX12_wish_262 (i := 0) rfl rfl ?_
    refine sj_get (a := 56) (k9 := 1) (v := .ref (sj_ad G 57)) dX12_wish_263 (by decide +kernel) rfl ?_
    refine sj_bipush (v := (nI 127)) dX12_wish_266 (by decide +kernel) ?_
    refine sj_iconst (v := (nI 0)) dX12_wish_268 (by decide +kernel) ?_
    refine sj_iast (a := 57) (j := 127) dX12_wish_269 rfl (by decide +kernel) (vp_in_nI (by decide) (by decide)) (nI_clamp (by decide)) ?_
    refine sj_iload dX12_wish_270 rfl ?_
    subst h
    exact sj_ret dX12_wish_272 rfl rfl
  · replace h := h.2 c2
    refine sj_fg [0, 1, 2, 3, 4] ?_
    exact t_X12_wish_191 h
def wp_X12_wish_166 (G : sj_G) (R : sj_R) (x1 : Int32) (x2 : Int32) (x3 : Int32) (x4 : Int32) (σ : sj_S) : Prop := (wp_X12_wish_184 G R x1 x2 x3 x4 (if (nI 12) ≤ (σ 57 126) then (nI 0) else (nI 1)) σ)
set_option maxRecDepth 20000 in
theorem t_X12_wish_166 {G : sj_G} {R : sj_R} {x1 : Int32} {x2 : Int32} {x3 : Int32} {x4 : Int32} {σ : sj_S} (h : wp_X12_wish_166 G R x1 x2 x3 x4 σ) : sj_J G 4 me_X12_wish R 166 [.ref (sj_ad G 56), .int x1, .int x2, .int x3, .int x4, .null] σ [] := by
  unfold wp_X12_wish_166 at h
  refine sj_aload_n dX12_wish_166 (i := 0) rfl rfl ?_
  refine sj_aload_n dX12_wish_167 (i := 0) rfl rfl ?_
  refine sj_get (a := 56) (k9 := 1) (v := .ref (sj_ad G 57)) dX12_wish_168 (by decide +kernel) rfl ?_
  refine sj_bipush (v := (nI 126)) dX12_wish_171 (by decide +kernel) ?_
  refine sj_iald (a := 57) (j := 126) (x := (σ 57 126)) dX12_wish_173 rfl (by decide +kernel) (vp_in_nI (by decide) (by decide)) (nI_clamp (by decide)) rfl ?_
  refine sj_bipush (v := (nI 12)) dX12_wish_174 (by decide +kernel) ?_
  refine sj_icmp_ge (tgt := 183) dX12_wish_176 (by decide) (fun c1 => ?_) (fun c1 => ?_)
  · refine sj_iconst (v := (nI 0)) dX12_wish_183 (by decide +kernel) ?_
    try simp only [if_pos c1] at h
    exact t_X12_wish_184 h
  · refine sj_iconst (v := (nI 1)) dX12_wish_179 (by decide +kernel) ?_
    refine sj_goto (tgt := 184) dX12_wish_180 (by decide) ?_
    try simp only [if_neg c1] at h
    exact t_X12_wish_184 h
def wp_X12_wish_149 (G : sj_G) (R : sj_R) (x1 : Int32) (x2 : Int32) (x3 : Int32) (x4 : Int32) (σ : sj_S) : Prop := ∃ v1 σ1, sj_C G 2 me_X12_isOfTwo [.ref (sj_ad G 56), .int x1] σ (.ok v1, σ1) ∧ (v1 = 0 → (wp_X12_wish_166 G R x1 x2 x3 x4 σ1)) ∧ (¬ (v1 = 0) → ∃ v3 σ3, sj_C G 3 me_X12_noLesson [.ref (sj_ad G 56), .int x3, .int (nI 2)] σ1 (.ok v3, σ3) ∧ (¬ v3 = 0 → (wp_X12_wish_191 G R σ3)) ∧ (v3 = 0 → (wp_X12_wish_166 G R x1 x2 x3 x4 σ3)))
set_option maxRecDepth 20000 in
theorem t_X12_wish_149 {G : sj_G} {R : sj_R} {x1 : Int32} {x2 : Int32} {x3 : Int32} {x4 : Int32} {σ : sj_S} (h : wp_X12_wish_149 G R x1 x2 x3 x4 σ) : sj_J G 4 me_X12_wish R 149 [.ref (sj_ad G 56), .int x1, .int x2, .int x3, .int x4, .null] σ [] := by
  unfold wp_X12_wish_149 at h
  refine sj_aload_n dX12_wish_149 (i := 0) rfl rfl ?_
  refine sj_iload_n dX12_wish_150 (i := 1) rfl rfl ?_
  obtain ⟨v1, σ1, hc1, h⟩ := h
  refine sj_callVi (M' := me_X12_isOfTwo) (b := 56) (As := [.int x1]) (rest := []) dX12_wish_151 gX12_wish_X12_isOfTwo rfl hd_X12_isOfTwo (by decide +kernel) (by decide +kernel) rfl (Nat.le_of_ble_eq_true rfl) (by omega) rfl hc1 ?_
  refine sj_if_eq (tgt := 166) dX12_wish_154 (by decide) (fun c2 => ?_) (fun c2 => ?_)
  · replace h := h.1 c2
    exact t_X12_wish_166 h
  · replace h := h.2 c2
    refine sj_aload_n dX12_wish_157 (i := 0) rfl rfl ?_
    refine sj_iload_n dX12_wish_158 (i := 3) rfl rfl ?_
    refine sj_iconst (v := (nI 2)) dX12_wish_159 (by decide +kernel) ?_
    obtain ⟨v3, σ3, hc3, h⟩ := h
    refine sj_callVi (M' := me_X12_noLesson) (b := 56) (As := [.int x3, .int (nI 2)]) (rest := []) dX12_wish_160 gX12_wish_X12_noLesson rfl hd_X12_noLesson (by decide +kernel) (by decide +kernel) rfl (Nat.le_of_ble_eq_true rfl) (by omega) rfl hc3 ?_
    refine sj_if_ne (tgt := 191) dX12_wish_163 (by decide) (fun c4 => ?_) (fun c4 => ?_)
    · replace h := h.1 c4
      refine sj_fg [0, 1, 2, 3, 4] ?_
      exact t_X12_wish_191 h
    · replace h := h.2 c4
      exact t_X12_wish_166 h
def wp_X12_wish_132 (G : sj_G) (R : sj_R) (x1 : Int32) (x2 : Int32) (x3 : Int32) (x4 : Int32) (σ : sj_S) : Prop := ∃ v1 σ1, sj_C G 2 me_X12_isOfLesson [.ref (sj_ad G 56), .int x1] σ (.ok v1, σ1) ∧ (v1 = 0 → (wp_X12_wish_149 G R x1 x2 x3 x4 σ1)) ∧ (¬ (v1 = 0) → ∃ v3 σ3, sj_C G 3 me_X12_noLesson [.ref (sj_ad G 56), .int x2, .int (nI 2)] σ1 (.ok v3, σ3) ∧ (¬ v3 = 0 → (wp_X12_wish_191 G R σ3)) ∧ (v3 = 0 → (wp_X12_wish_149 G R x1 x2 x3 x4 σ3)))
set_option maxRecDepth 20000 in
theorem t_X12_wish_132 {G : sj_G} {R : sj_R} {x1 : Int32} {x2 : Int32} {x3 : Int32} {x4 : Int32} {σ : sj_S} (h : wp_X12_wish_132 G R x1 x2 x3 x4 σ) : sj_J G 4 me_X12_wish R 132 [.ref (sj_ad G 56), .int x1, .int x2, .int x3, .int x4, .null] σ [] := by
  unfold wp_X12_wish_132 at h
  refine sj_aload_n dX12_wish_132 (i := 0) rfl rfl ?_
  refine sj_iload_n dX12_wish_133 (i := 1) rfl rfl ?_
  obtain ⟨v1, σ1, hc1, h⟩ := h
  refine sj_callVi (M' := me_X12_isOfLesson) (b := 56) (As := [.int x1]) (rest := []) dX12_wish_134 gX12_wish_X12_isOfLesson rfl hd_X12_isOfLesson (by decide +kernel) (by decide +kernel) rfl (Nat.le_of_ble_eq_true rfl) (by omega) rfl hc1 ?_
  refine sj_if_eq (tgt := 149) dX12_wish_137 (by decide) (fun c2 => ?_) (fun c2 => ?_)
  · replace h := h.1 c2
    exact t_X12_wish_149 h
  · replace h := h.2 c2
    refine sj_aload_n dX12_wish_140 (i := 0) rfl rfl ?_
    refine sj_iload_n dX12_wish_141 (i := 2) rfl rfl ?_
    refine sj_iconst (v := (nI 2)) dX12_wish_142 (by decide +kernel) ?_
    obtain ⟨v3, σ3, hc3, h⟩ := h
    refine sj_callVi (M' := me_X12_noLesson) (b := 56) (As := [.int x2, .int (nI 2)]) (rest := []) dX12_wish_143 gX12_wish_X12_noLesson rfl hd_X12_noLesson (by decide +kernel) (by decide +kernel) rfl (Nat.le_of_ble_eq_true rfl) (by omega) rfl hc3 ?_
    refine sj_if_ne (tgt := 191) dX12_wish_146 (by decide) (fun c4 => ?_) (fun c4 => ?_)
    · replace h := h.1 c4
      refine sj_fg [0, 1, 2, 3, 4] ?_
      exact t_X12_wish_191 h
    · replace h := h.2 c4
      exact t_X12_wish_149 h
def wp_X12_wish_123 (G : sj_G) (R : sj_R) (x1 : Int32) (x2 : Int32) (x3 : Int32) (x4 : Int32) (s0 : Int32) (σ : sj_S) : Prop := ∃ v1 σ1, sj_C G 2 me_X12_fails [.ref (sj_ad G 56), .int s0, .int (nI 1)] σ (.ok v1, σ1) ∧ (v1 = 0 → (wp_X12_wish_132 G R x1 x2 x3 x4 σ1)) ∧ (¬ (v1 = 0) → R = (.ok (nI 0), σ1))
set_option maxRecDepth 20000 in
theorem t_X12_wish_123 {G : sj_G} {R : sj_R} {x1 : Int32} {x2 : Int32} {x3 : Int32} {x4 : Int32} {s0 : Int32} {σ : sj_S} (h : wp_X12_wish_123 G R x1 x2 x3 x4 s0 σ) : sj_J G 4 me_X12_wish R 123 [.ref (sj_ad G 56), .int x1, .int x2, .int x3, .int x4, .null] σ [.int s0, .ref (sj_ad G 56)] := by
  unfold wp_X12_wish_123 at h
  refine sj_iconst (v := (nI 1)) dX12_wish_123 (by decide +kernel) ?_
  obtain ⟨v1, σ1, hc1, h⟩ := h
  refine sj_callVi (M' := me_X12_fails) (b := 56) (As := [.int s0, .int (nI 1)]) (rest := []) dX12_wish_124 gX12_wish_X12_fails rfl hd_X12_fails (by decide +kernel) (by decide +kernel) rfl (Nat.le_of_ble_eq_true rfl) (by omega) rfl hc1 ?_
  refine sj_if_eq (tgt := 132) dX12_wish_127 (by decide) (fun c2 => ?_) (fun c2 => ?_)
  · replace h := h.1 c2
    exact t_X12_wish_132 h
  · replace h := h.2 c2
    refine sj_iconst (v := (nI 0)) dX12_wish_130 (by decide +kernel) ?_
    subst h
    exact sj_ret dX12_wish_131 rfl rfl
def wp_X12_wish_104 (G : sj_G) (R : sj_R) (x1 : Int32) (x2 : Int32) (x3 : Int32) (x4 : Int32) (σ : sj_S) : Prop := ∃ v1 σ1, sj_C G 2 me_X12_isOfTwo [.ref (sj_ad G 56), .int x1] σ (.ok v1, σ1) ∧ (v1 = 0 → (wp_X12_wish_132 G R x1 x2 x3 x4 σ1)) ∧ (¬ (v1 = 0) → (wp_X12_wish_123 G R x1 x2 x3 x4 (if x2 = x3 then (nI 0) else (nI 1)) σ1))
set_option maxRecDepth 20000 in
theorem t_X12_wish_104 {G : sj_G} {R : sj_R} {x1 : Int32} {x2 : Int32} {x3 : Int32} {x4 : Int32} {σ : sj_S} (h : wp_X12_wish_104 G R x1 x2 x3 x4 σ) : sj_J G 4 me_X12_wish R 104 [.ref (sj_ad G 56), .int x1, .int x2, .int x3, .int x4, .null] σ [] := by
  unfold wp_X12_wish_104 at h
  refine sj_aload_n dX12_wish_104 (i := 0) rfl rfl ?_
  refine sj_iload_n dX12_wish_105 (i := 1) rfl rfl ?_
  obtain ⟨v1, σ1, hc1, h⟩ := h
  refine sj_callVi (M' := me_X12_isOfTwo) (b := 56) (As := [.int x1]) (rest := []) dX12_wish_106 gX12_wish_X12_isOfTwo rfl hd_X12_isOfTwo (by decide +kernel) (by decide +kernel) rfl (Nat.le_of_ble_eq_true rfl) (by omega) rfl hc1 ?_
  refine sj_if_eq (tgt := 132) dX12_wish_109 (by decide) (fun c2 => ?_) (fun c2 => ?_)
  · replace h := h.1 c2
    exact t_X12_wish_132 h
  · replace h := h.2 c2
    refine sj_aload_n dX12_wish_112 (i := 0) rfl rfl ?_
    refine sj_iload_n dX12_wish_113 (i := 2) rfl rfl ?_
    refine sj_iload_n dX12_wish_114 (i := 3) rfl rfl ?_
    refine sj_icmp_eq (tgt := 122) dX12_wish_115 (by decide) (fun c3 => ?_) (fun c3 => ?_)
    · refine sj_iconst (v := (nI 0)) dX12_wish_122 (by decide +kernel) ?_
      try simp only [if_pos c3] at h
      exact t_X12_wish_123 h
    · refine sj_iconst (v := (nI 1)) dX12_wish_118 (by decide +kernel) ?_
      refine sj_goto (tgt := 123) dX12_wish_119 (by decide) ?_
      try simp only [if_neg c3] at h
      exact t_X12_wish_123 h
def wp_X12_wish_92 (G : sj_G) (R : sj_R) (x1 : Int32) (x2 : Int32) (x3 : Int32) (x4 : Int32) (s0 : Int32) (s1 : Int32) (s2 : Int32) (σ : sj_S) : Prop := ∃ v1 σ1, sj_C G 2 me_X12_in [.int s2, .int s1, .int s0] σ (.ok v1, σ1) ∧ ∃ v2 σ2, sj_C G 2 me_X12_fails [.ref (sj_ad G 56), .int v1, .int (nI 1)] σ1 (.ok v2, σ2) ∧ (v2 = 0 → (wp_X12_wish_104 G R x1 x2 x3 x4 σ2)) ∧ (¬ (v2 = 0) → R = (.ok (nI 0), σ2))
set_option maxRecDepth 20000 in
theorem t_X12_wish_92 {G : sj_G} {R : sj_R} {x1 : Int32} {x2 : Int32} {x3 : Int32} {x4 : Int32} {s0 : Int32} {s1 : Int32} {s2 : Int32} {σ : sj_S} (h : wp_X12_wish_92 G R x1 x2 x3 x4 s0 s1 s2 σ) : sj_J G 4 me_X12_wish R 92 [.ref (sj_ad G 56), .int x1, .int x2, .int x3, .int x4, .null] σ [.int s0, .int s1, .int s2, .ref (sj_ad G 56)] := by
  unfold wp_X12_wish_92 at h
  obtain ⟨v1, σ1, hc1, h⟩ := h
  refine sj_callSi (M' := me_X12_in) (As := [.int s2, .int s1, .int s0]) (rest := [.ref (sj_ad G 56)]) dX12_wish_92 gX12_wish_X12_in rfl hd_X12_in (Nat.le_of_ble_eq_true rfl) (by omega) rfl hc1 ?_
  refine sj_iconst (v := (nI 1)) dX12_wish_95 (by decide +kernel) ?_
  obtain ⟨v2, σ2, hc2, h⟩ := h
  refine sj_callVi (M' := me_X12_fails) (b := 56) (As := [.int v1, .int (nI 1)]) (rest := []) dX12_wish_96 gX12_wish_X12_fails rfl hd_X12_fails (by decide +kernel) (by decide +kernel) rfl (Nat.le_of_ble_eq_true rfl) (by omega) rfl hc2 ?_
  refine sj_if_eq (tgt := 104) dX12_wish_99 (by decide) (fun c3 => ?_) (fun c3 => ?_)
  · replace h := h.1 c3
    exact t_X12_wish_104 h
  · replace h := h.2 c3
    refine sj_iconst (v := (nI 0)) dX12_wish_102 (by decide +kernel) ?_
    subst h
    exact sj_ret dX12_wish_103 rfl rfl
def wp_X12_wish_70 (G : sj_G) (R : sj_R) (x1 : Int32) (x2 : Int32) (x3 : Int32) (x4 : Int32) (σ : sj_S) : Prop := ∃ v1 σ1, sj_C G 2 me_X12_isOfTwo [.ref (sj_ad G 56), .int x1] σ (.ok v1, σ1) ∧ (¬ v1 = 0 → (wp_X12_wish_104 G R x1 x2 x3 x4 σ1)) ∧ (v1 = 0 → (wp_X12_wish_92 G R x1 x2 x3 x4 (if x1 = (nI 2) then (nI 4) else (nI 19)) (nI 0) x3 σ1))
set_option maxRecDepth 20000 in
theorem t_X12_wish_70 {G : sj_G} {R : sj_R} {x1 : Int32} {x2 : Int32} {x3 : Int32} {x4 : Int32} {σ : sj_S} (h : wp_X12_wish_70 G R x1 x2 x3 x4 σ) : sj_J G 4 me_X12_wish R 70 [.ref (sj_ad G 56), .int x1, .int x2, .int x3, .int x4, .null] σ [] := by
  unfold wp_X12_wish_70 at h
  refine sj_aload_n dX12_wish_70 (i := 0) rfl rfl ?_
  refine sj_iload_n dX12_wish_71 (i := 1) rfl rfl ?_
  obtain ⟨v1, σ1, hc1, h⟩ := h
  refine sj_callVi (M' := me_X12_isOfTwo) (b := 56) (As := [.int x1]) (rest := []) dX12_wish_72 gX12_wish_X12_isOfTwo rfl hd_X12_isOfTwo (by decide +kernel) (by decide +kernel) rfl (Nat.le_of_ble_eq_true rfl) (by omega) rfl hc1 ?_
  refine sj_if_ne (tgt := 104) dX12_wish_75 (by decide) (fun c2 => ?_) (fun c2 => ?_)
  · replace h := h.1 c2
    exact t_X12_wish_104 h
  · replace h := h.2 c2
    refine sj_aload_n dX12_wish_78 (i := 0) rfl rfl ?_
    refine sj_iload_n dX12_wish_79 (i := 3) rfl rfl ?_
    refine sj_iconst (v := (nI 0)) dX12_wish_80 (by decide +kernel) ?_
    refine sj_iload_n dX12_wish_81 (i := 1) rfl rfl ?_
    refine sj_iconst (v := (nI 2)) dX12_wish_82 (by decide +kernel) ?_
    refine sj_icmp_ne (tgt := 90) dX12_wish_83 (by decide) (fun c3 => ?_) (fun c3 => ?_)
    · refine sj_bipush (v := (nI 19)) dX12_wish_90 (by decide +kernel) ?_
      try simp only [if_neg c3] at h
      exact t_X12_wish_92 h
    · refine sj_iconst (v := (nI 4)) dX12_wish_86 (by decide +kernel) ?_
      refine sj_goto (tgt := 92) dX12_wish_87 (by decide) ?_
      try simp only [if_pos c3] at h
      exact t_X12_wish_92 h
def wp_X12_wish_58 (G : sj_G) (R : sj_R) (x1 : Int32) (x2 : Int32) (x3 : Int32) (x4 : Int32) (s0 : Int32) (s1 : Int32) (s2 : Int32) (σ : sj_S) : Prop := ∃ v1 σ1, sj_C G 2 me_X12_in [.int s2, .int s1, .int s0] σ (.ok v1, σ1) ∧ ∃ v2 σ2, sj_C G 2 me_X12_fails [.ref (sj_ad G 56), .int v1, .int (nI 1)] σ1 (.ok v2, σ2) ∧ (v2 = 0 → (wp_X12_wish_70 G R x1 x2 x3 x4 σ2)) ∧ (¬ (v2 = 0) → R = (.ok (nI 0), σ2))
set_option maxRecDepth 20000 in
theorem t_X12_wish_58 {G : sj_G} {R : sj_R} {x1 : Int32} {x2 : Int32} {x3 : Int32} {x4 : Int32} {s0 : Int32} {s1 : Int32} {s2 : Int32} {σ : sj_S} (h : wp_X12_wish_58 G R x1 x2 x3 x4 s0 s1 s2 σ) : sj_J G 4 me_X12_wish R 58 [.ref (sj_ad G 56), .int x1, .int x2, .int x3, .int x4, .null] σ [.int s0, .int s1, .int s2, .ref (sj_ad G 56)] := by
  unfold wp_X12_wish_58 at h
  obtain ⟨v1, σ1, hc1, h⟩ := h
  refine sj_callSi (M' := me_X12_in) (As := [.int s2, .int s1, .int s0]) (rest := [.ref (sj_ad G 56)]) dX12_wish_58 gX12_wish_X12_in rfl hd_X12_in (Nat.le_of_ble_eq_true rfl) (by omega) rfl hc1 ?_
  refine sj_iconst (v := (nI 1)) dX12_wish_61 (by decide +kernel) ?_
  obtain ⟨v2, σ2, hc2, h⟩ := h
  refine sj_callVi (M' := me_X12_fails) (b := 56) (As := [.int v1, .int (nI 1)]) (rest := []) dX12_wish_62 gX12_wish_X12_fails rfl hd_X12_fails (by decide +kernel) (by decide +kernel) rfl (Nat.le_of_ble_eq_true rfl) (by omega) rfl hc2 ?_
  refine sj_if_eq (tgt := 70) dX12_wish_65 (by decide) (fun c3 => ?_) (fun c3 => ?_)
  · replace h := h.1 c3
    exact t_X12_wish_70 h
  · replace h := h.2 c3
    refine sj_iconst (v := (nI 0)) dX12_wish_68 (by decide +kernel) ?_
    subst h
    exact sj_ret dX12_wish_69 rfl rfl
def wp_X12_wish_32 (G : sj_G) (R : sj_R) (x1 : Int32) (x2 : Int32) (x3 : Int32) (x4 : Int32) (s0 : Int32) (σ : sj_S) : Prop := ∃ v1 σ1, sj_C G 2 me_X12_fails [.ref (sj_ad G 56), .int s0, .int (nI 1)] σ (.ok v1, σ1) ∧ (v1 = 0 → ((nI 2) ≤ x1 → (wp_X12_wish_70 G R x1 x2 x3 x4 σ1)) ∧ (¬ ((nI 2) ≤ x1) → (wp_X12_wish_58 G R x1 x2 x3 x4 (if x1 = 0 then (nI 5) else (nI 3)) (nI 0) x2 σ1))) ∧ (¬ (v1 = 0) → R = (.ok (nI 0), σ1))
set_option maxRecDepth 20000 in
theorem t_X12_wish_32 {G : sj_G} {R : sj_R} {x1 : Int32} {x2 : Int32} {x3 : Int32} {x4 : Int32} {s0 : Int32} {σ : sj_S} (h : wp_X12_wish_32 G R x1 x2 x3 x4 s0 σ) : sj_J G 4 me_X12_wish R 32 [.ref (sj_ad G 56), .int x1, .int x2, .int x3, .int x4, .null] σ [.int s0, .ref (sj_ad G 56)] := by
  unfold wp_X12_wish_32 at h
  refine sj_iconst (v := (nI 1)) dX12_wish_32 (by decide +kernel) ?_
  obtain ⟨v1, σ1, hc1, h⟩ := h
  refine sj_callVi (M' := me_X12_fails) (b := 56) (As := [.int s0, .int (nI 1)]) (rest := []) dX12_wish_33 gX12_wish_X12_fails rfl hd_X12_fails (by decide +kernel) (by decide +kernel) rfl (Nat.le_of_ble_eq_true rfl) (by omega) rfl hc1 ?_
  refine sj_if_eq (tgt := 41) dX12_wish_36 (by decide) (fun c2 => ?_) (fun c2 => ?_)
  · replace h := h.1 c2
    refine sj_iload_n dX12_wish_41 (i := 1) rfl rfl ?_
    refine sj_iconst (v := (nI 2)) dX12_wish_42 (by decide +kernel) ?_
    refine sj_icmp_ge (tgt := 70) dX12_wish_43 (by decide) (fun c3 => ?_) (fun c3 => ?_)
    · replace h := h.1 c3
      exact t_X12_wish_70 h
    · replace h := h.2 c3
      refine sj_aload_n dX12_wish_46 (i := 0) rfl rfl ?_
      refine sj_iload_n dX12_wish_47 (i := 2) rfl rfl ?_
      refine sj_iconst (v := (nI 0)) dX12_wish_48 (by decide +kernel) ?_
      refine sj_iload_n dX12_wish_49 (i := 1) rfl rfl ?_
      refine sj_if_ne (tgt := 57) dX12_wish_50 (by decide) (fun c4 => ?_) (fun c4 => ?_)
      · refine sj_iconst (v := (nI 3)) dX12_wish_57 (by decide +kernel) ?_
        try simp only [if_neg c4] at h
        exact t_X12_wish_58 h
      · refine sj_iconst (v := (nI 5)) dX12_wish_53 (by decide +kernel) ?_
        refine sj_goto (tgt := 58) dX12_wish_54 (by decide) ?_
        try simp only [if_pos c4] at h
        exact t_X12_wish_58 h
  · replace h := h.2 c2
    refine sj_iconst (v := (nI 0)) dX12_wish_39 (by decide +kernel) ?_
    subst h
    exact sj_ret dX12_wish_40 rfl rfl
def wp_X12_wish_31 (G : sj_G) (R : sj_R) (x1 : Int32) (x2 : Int32) (x3 : Int32) (x4 : Int32) (σ : sj_S) : Prop := (wp_X12_wish_32 G R x1 x2 x3 x4 (nI 0) σ)
set_option maxRecDepth 20000 in
theorem t_X12_wish_31 {G : sj_G} {R : sj_R} {x1 : Int32} {x2 : Int32} {x3 : Int32} {x4 : Int32} {σ : sj_S} (h : wp_X12_wish_31 G R x1 x2 x3 x4 σ) : sj_J G 4 me_X12_wish R 31 [.ref (sj_ad G 56), .int x1, .int x2, .int x3, .int x4, .null] σ [.ref (sj_ad G 56)] := by
  unfold wp_X12_wish_31 at h
  refine sj_iconst (v := (nI 0)) dX12_wish_31 (by decide +kernel) ?_
  exact t_X12_wish_32 h
def wp_X12_wish_0 (G : sj_G) (R : sj_R) (x1 : Int32) (x2 : Int32) (x3 : Int32) (x4 : Int32) (σ : sj_S) : Prop := ∃ v1 σ1, sj_C G 2 me_X12_in [.int x1, .int (nI 0), .int (nI 6)] (sj_st σ 56 0 (nI 0)) (.ok v1, σ1) ∧ (v1 = 0 → (wp_X12_wish_31 G R x1 x2 x3 x4 σ1)) ∧ (¬ (v1 = 0) → ∃ v4 σ4, sj_C G 2 me_X12_in [.int x4, .int (nI 0), .int (nI 9)] σ1 (.ok v4, σ4) ∧ (wp_X12_wish_32 G R x1 x2 x3 x4 (if v4 = 0 then (nI 0) else (nI 1)) σ4))
set_option maxRecDepth 20000 in
theorem t_X12_wish_0 {G : sj_G} {R : sj_R} {x1 : Int32} {x2 : Int32} {x3 : Int32} {x4 : Int32} {σ : sj_S} (h : wp_X12_wish_0 G R x1 x2 x3 x4 σ) : sj_J G 4 me_X12_wish R 0 [.ref (sj_ad G 56), .int x1, .int x2, .int x3, .int x4, .null] σ [] := by
  unfold wp_X12_wish_0 at h
  refine sj_aload_n dX12_wish_0 (i := 0) rfl rfl ?_
  refine sj_iconst (v := (nI 0)) dX12_wish_1 (by decide +kernel) ?_
  refine sj_put (a := 56) (k9 := 0) dX12_wish_2 (by decide +kernel) (by decide +kernel) rfl ?_
  refine sj_aload_n dX12_wish_5 (i := 0) rfl rfl ?_
  refine sj_iload_n dX12_wish_6 (i := 1) rfl rfl ?_
  refine sj_iconst (v := (nI 0)) dX12_wish_7 (by decide +kernel) ?_
  refine sj_bipush (v := (nI 6)) dX12_wish_8 (by decide +kernel) ?_
  obtain ⟨v1, σ1, hc1, h⟩ := h
  refine sj_callSi (M' := me_X12_in) (As := [.int x1, .int (nI 0), .int (nI 6)]) (rest := [.ref (sj_ad G 56)]) dX12_wish_10 gX12_wish_X12_in rfl hd_X12_in (Nat.le_of_ble_eq_true rfl) (by omega) rfl hc1 ?_
  refine sj_if_eq (tgt := 31) dX12_wish_13 (by decide) (fun c3 => ?_) (fun c3 => ?_)
  · replace h := h.1 c3
    exact t_X12_wish_31 h
  · replace h := h.2 c3
    refine sj_iload dX12_wish_16 rfl ?_
    refine sj_iconst (v := (nI 0)) dX12_wish_18 (by decide +kernel) ?_
    refine sj_bipush (v := (nI 9)) dX12_wish_19 (by decide +kernel) ?_
    obtain ⟨v4, σ4, hc4, h⟩ := h
    refine sj_callSi (M' := me_X12_in) (As := [.int x4, .int (nI 0), .int (nI 9)]) (rest := [.ref (sj_ad G 56)]) dX12_wish_21 gX12_wish_X12_in rfl hd_X12_in (Nat.le_of_ble_eq_true rfl) (by omega) rfl hc4 ?_
    refine sj_if_eq (tgt := 31) dX12_wish_24 (by decide) (fun c5 => ?_) (fun c5 => ?_)
    · refine sj_iconst (v := (nI 0)) dX12_wish_31 (by decide +kernel) ?_
      try simp only [if_pos c5] at h
      exact t_X12_wish_32 h
    · refine sj_iconst (v := (nI 1)) dX12_wish_27 (by decide +kernel) ?_
      refine sj_goto (tgt := 32) dX12_wish_28 (by decide) ?_
      try simp only [if_neg c5] at h
      exact t_X12_wish_32 h
theorem c_X12_wish {G : sj_G} (ok : sj_ok G) {R : sj_R} {x1 : Int32} {x2 : Int32} {x3 : Int32} {x4 : Int32} {σ : sj_S} (h : wp_X12_wish_0 G R x1 x2 x3 x4 σ) : sj_C G 4 me_X12_wish [.ref (sj_ad G 56), .int x1, .int x2, .int x3, .int x4] σ R :=
  sj_enter ok (by decide +kernel) rfl rfl (Nat.le_of_ble_eq_true rfl) (by simp [Value.category]) (t_X12_wish_0 h)
def wp_X12_noWish_0 (G : sj_G) (R : sj_R) (x1 : Int32) (σ : sj_S) : Prop := ∃ v1 σ1, sj_C G 2 me_X12_in [.int x1, .int (nI 0), .int ((σ 57 126) - (nI 1))] σ (.ok v1, σ1) ∧ ∃ v2 σ2, sj_C G 2 me_X12_fails [.ref (sj_ad G 56), .int v1, .int (nI 1)] σ1 (.ok v2, σ2) ∧ R = (.ok v2, σ2) ∧ (v2 = nI 0 ∨ v2 = nI 1)
set_option maxRecDepth 20000 in
theorem t_X12_noWish_0 {G : sj_G} {R : sj_R} {x1 : Int32} {σ : sj_S} (h : wp_X12_noWish_0 G R x1 σ) : sj_J G 3 me_X12_noWish R 0 [.ref (sj_ad G 56), .int x1] σ [] := by
  unfold wp_X12_noWish_0 at h
  refine sj_aload_n dX12_noWish_0 (i := 0) rfl rfl ?_
  refine sj_iload_n dX12_noWish_1 (i := 1) rfl rfl ?_
  refine sj_iconst (v := (nI 0)) dX12_noWish_2 (by decide +kernel) ?_
  refine sj_aload_n dX12_noWish_3 (i := 0) rfl rfl ?_
  refine sj_get (a := 56) (k9 := 1) (v := .ref (sj_ad G 57)) dX12_noWish_4 (by decide +kernel) rfl ?_
  refine sj_bipush (v := (nI 126)) dX12_noWish_7 (by decide +kernel) ?_
  refine sj_iald (a := 57) (j := 126) (x := (σ 57 126)) dX12_noWish_9 rfl (by decide +kernel) (vp_in_nI (by decide) (by decide)) (nI_clamp (by decide)) rfl ?_
  refine sj_iconst (v := (nI 1)) dX12_noWish_10 (by decide +kernel) ?_
  refine sj_isub dX12_noWish_11 ?_
  obtain ⟨v1, σ1, hc1, h⟩ := h
  refine sj_callSi (M' := me_X12_in) (As := [.int x1, .int (nI 0), .int ((σ 57 126) - (nI 1))]) (rest := [.ref (sj_ad G 56)]) dX12_noWish_12 gX12_noWish_X12_in rfl hd_X12_in (Nat.le_of_ble_eq_true rfl) (by omega) rfl hc1 ?_
  refine sj_iconst (v := (nI 1)) dX12_noWish_15 (by decide +kernel) ?_
  obtain ⟨v2, σ2, hc2, h⟩ := h
  refine sj_callVi (M' := me_X12_fails) (b := 56) (As := [.int v1, .int (nI 1)]) (rest := []) dX12_noWish_16 gX12_noWish_X12_fails rfl hd_X12_fails (by decide +kernel) (by decide +kernel) rfl (Nat.le_of_ble_eq_true rfl) (by omega) rfl hc2 ?_
  obtain ⟨h, hz⟩ := h
  subst h
  exact sj_ret dX12_noWish_19 rfl (sj_nb hz)
theorem c_X12_noWish {G : sj_G} (ok : sj_ok G) {R : sj_R} {x1 : Int32} {σ : sj_S} (h : wp_X12_noWish_0 G R x1 σ) : sj_C G 3 me_X12_noWish [.ref (sj_ad G 56), .int x1] σ R :=
  sj_enter ok (by decide +kernel) rfl rfl (Nat.le_of_ble_eq_true rfl) (by simp [Value.category]) (t_X12_noWish_0 h)
def wp_X12_dropWish_0 (G : sj_G) (R : sj_R) (x1 : Int32) (σ : sj_S) : Prop := ∃ v1 σ1, sj_C G 3 me_X12_noWish [.ref (sj_ad G 56), .int x1] (sj_st σ 56 0 (nI 0)) (.ok v1, σ1) ∧ (v1 = 0 → ∃ σ3, sj_C G 2 me_X12_keeps [.ref (sj_ad G 56)] σ1 (.ok 0, σ3) ∧ ∃ σ4, sj_C G 3 me_X12_dropsWish [.ref (sj_ad G 56), .int x1] σ3 (.ok 0, σ4) ∧ R = (.ok (σ4 57 126), (sj_st σ4 57 127 (nI 0)))) ∧ (¬ (v1 = 0) → R = (.ok (nI 0), σ1))
set_option maxRecDepth 20000 in
theorem t_X12_dropWish_0 {G : sj_G} {R : sj_R} {x1 : Int32} {σ : sj_S} (h : wp_X12_dropWish_0 G R x1 σ) : sj_J G 4 me_X12_dropWish R 0 [.ref (sj_ad G 56), .int x1] σ [] := by
  unfold wp_X12_dropWish_0 at h
  refine sj_aload_n dX12_dropWish_0 (i := 0) rfl rfl ?_
  refine sj_iconst (v := (nI 0)) dX12_dropWish_1 (by decide +kernel) ?_
  refine sj_put (a := 56) (k9 := 0) dX12_dropWish_2 (by decide +kernel) (by decide +kernel) rfl ?_
  refine sj_aload_n dX12_dropWish_5 (i := 0) rfl rfl ?_
  refine sj_iload_n dX12_dropWish_6 (i := 1) rfl rfl ?_
  obtain ⟨v1, σ1, hc1, h⟩ := h
  refine sj_callVi (M' := me_X12_noWish) (b := 56) (As := [.int x1]) (rest := []) dX12_dropWish_7 gX12_dropWish_X12_noWish rfl hd_X12_noWish (by decide +kernel) (by decide +kernel) rfl (Nat.le_of_ble_eq_true rfl) (by omega) rfl hc1 ?_
  refine sj_if_eq (tgt := 15) dX12_dropWish_10 (by decide) (fun c2 => ?_) (fun c2 => ?_)
  · replace h := h.1 c2
    refine sj_aload_n dX12_dropWish_15 (i := 0) rfl rfl ?_
    obtain ⟨σ3, hc3, h⟩ := h
    refine sj_callVv (M' := me_X12_keeps) (b := 56) (As := []) (rest := []) dX12_dropWish_16 gX12_dropWish_X12_keeps rfl hd_X12_keeps (by decide +kernel) (by decide +kernel) rfl (Nat.le_of_ble_eq_true rfl) (by omega) rfl hc3 ?_
    refine sj_aload_n dX12_dropWish_19 (i := 0) rfl rfl ?_
    refine sj_iload_n dX12_dropWish_20 (i := 1) rfl rfl ?_
    obtain ⟨σ4, hc4, h⟩ := h
    refine sj_callVv (M' := me_X12_dropsWish) (b := 56) (As := [.int x1]) (rest := []) dX12_dropWish_21 gX12_dropWish_X12_dropsWish rfl hd_X12_dropsWish (by decide +kernel) (by decide +kernel) rfl (Nat.le_of_ble_eq_true rfl) (by omega) rfl hc4 ?_
    refine sj_aload_n dX12_dropWish_24 (i := 0) rfl rfl ?_
    refine sj_get (a := 56) (k9 := 1) (v := .ref (sj_ad G 57)) dX12_dropWish_25 (by decide +kernel) rfl ?_
    refine sj_bipush (v := (nI 127)) dX12_dropWish_28 (by decide +kernel) ?_
    refine sj_iconst (v := (nI 0)) dX12_dropWish_30 (by decide +kernel) ?_
    refine sj_iast (a := 57) (j := 127) dX12_dropWish_31 rfl (by decide +kernel) (vp_in_nI (by decide) (by decide)) (nI_clamp (by decide)) ?_
    refine sj_aload_n dX12_dropWish_32 (i := 0) rfl rfl ?_
    refine sj_get (a := 56) (k9 := 1) (v := .ref (sj_ad G 57)) dX12_dropWish_33 (by decide +kernel) rfl ?_
    refine sj_bipush (v := (nI 126)) dX12_dropWish_36 (by decide +kernel) ?_
    refine sj_iald (a := 57) (j := 126) (x := (σ4 57 126)) dX12_dropWish_38 rfl (by decide +kernel) (vp_in_nI (by decide) (by decide)) (nI_clamp (by decide)) rfl ?_
    subst h
    exact sj_ret dX12_dropWish_39 rfl rfl
  · replace h := h.2 c2
    refine sj_iconst (v := (nI 0)) dX12_dropWish_13 (by decide +kernel) ?_
    subst h
    exact sj_ret dX12_dropWish_14 rfl rfl
theorem c_X12_dropWish {G : sj_G} (ok : sj_ok G) {R : sj_R} {x1 : Int32} {σ : sj_S} (h : wp_X12_dropWish_0 G R x1 σ) : sj_C G 4 me_X12_dropWish [.ref (sj_ad G 56), .int x1] σ R :=
  sj_enter ok (by decide +kernel) rfl rfl (Nat.le_of_ble_eq_true rfl) (by simp [Value.category]) (t_X12_dropWish_0 h)
def wp_X12_wishOf_27 (G : sj_G) (R : sj_R) (σ : sj_S) : Prop := R = (.ok (nI 0), σ)
set_option maxRecDepth 20000 in
theorem t_X12_wishOf_27 {G : sj_G} {R : sj_R} {σ : sj_S} (h : wp_X12_wishOf_27 G R σ) : sj_J G 4 me_X12_wishOf R 27 [.null, .null, .null] σ [] := by
  unfold wp_X12_wishOf_27 at h
  refine sj_iconst (v := (nI 0)) dX12_wishOf_27 (by decide +kernel) ?_
  subst h
  exact sj_ret dX12_wishOf_28 rfl rfl
def wp_X12_wishOf_0 (G : sj_G) (R : sj_R) (x1 : Int32) (x2 : Int32) (σ : sj_S) : Prop := ∃ v1 σ1, sj_C G 3 me_X12_noWish [.ref (sj_ad G 56), .int x1] (sj_st σ 56 0 (nI 0)) (.ok v1, σ1) ∧ (¬ v1 = 0 → (wp_X12_wishOf_27 G R σ1)) ∧ (v1 = 0 → ∃ v3 σ3, sj_C G 2 me_X12_in [.int x2, .int (nI 0), .int (nI 3)] σ1 (.ok v3, σ3) ∧ ∃ v4 σ4, sj_C G 2 me_X12_fails [.ref (sj_ad G 56), .int v3, .int (nI 2)] σ3 (.ok v4, σ4) ∧ (v4 = 0 → vp_in (((nI 45) + ((nI 12) * x2)) + x1) 128 ∧ R = (.ok (σ4 57 (((nI 45) + ((nI 12) * x2)) + x1).toNatClampNeg), σ4)) ∧ (¬ (v4 = 0) → (wp_X12_wishOf_27 G R σ4)))
set_option maxRecDepth 20000 in
theorem t_X12_wishOf_0 {G : sj_G} {R : sj_R} {x1 : Int32} {x2 : Int32} {σ : sj_S} (h : wp_X12_wishOf_0 G R x1 x2 σ) : sj_J G 4 me_X12_wishOf R 0 [.ref (sj_ad G 56), .int x1, .int x2] σ [] := by
  unfold wp_X12_wishOf_0 at h
  refine sj_aload_n dX12_wishOf_0 (i := 0) rfl rfl ?_
  refine sj_iconst (v := (nI 0)) dX12_wishOf_1 (by decide +kernel) ?_
  refine sj_put (a := 56) (k9 := 0) dX12_wishOf_2 (by decide +kernel) (by decide +kernel) rfl ?_
  refine sj_aload_n dX12_wishOf_5 (i := 0) rfl rfl ?_
  refine sj_iload_n dX12_wishOf_6 (i := 1) rfl rfl ?_
  obtain ⟨v1, σ1, hc1, h⟩ := h
  refine sj_callVi (M' := me_X12_noWish) (b := 56) (As := [.int x1]) (rest := []) dX12_wishOf_7 gX12_wishOf_X12_noWish rfl hd_X12_noWish (by decide +kernel) (by decide +kernel) rfl (Nat.le_of_ble_eq_true rfl) (by omega) rfl hc1 ?_
  refine sj_if_ne (tgt := 27) dX12_wishOf_10 (by decide) (fun c2 => ?_) (fun c2 => ?_)
  · replace h := h.1 c2
    refine sj_fg [0, 1, 2] ?_
    exact t_X12_wishOf_27 h
  · replace h := h.2 c2
    refine sj_aload_n dX12_wishOf_13 (i := 0) rfl rfl ?_
    refine sj_iload_n dX12_wishOf_14 (i := 2) rfl rfl ?_
    refine sj_iconst (v := (nI 0)) dX12_wishOf_15 (by decide +kernel) ?_
    refine sj_iconst (v := (nI 3)) dX12_wishOf_16 (by decide +kernel) ?_
    obtain ⟨v3, σ3, hc3, h⟩ := h
    refine sj_callSi (M' := me_X12_in) (As := [.int x2, .int (nI 0), .int (nI 3)]) (rest := [.ref (sj_ad G 56)]) dX12_wishOf_17 gX12_wishOf_X12_in rfl hd_X12_in (Nat.le_of_ble_eq_true rfl) (by omega) rfl hc3 ?_
    refine sj_iconst (v := (nI 2)) dX12_wishOf_20 (by decide +kernel) ?_
    obtain ⟨v4, σ4, hc4, h⟩ := h
    refine sj_callVi (M' := me_X12_fails) (b := 56) (As := [.int v3, .int (nI 2)]) (rest := []) dX12_wishOf_21 gX12_wishOf_X12_fails rfl hd_X12_fails (by decide +kernel) (by decide +kernel) rfl (Nat.le_of_ble_eq_true rfl) (by omega) rfl hc4 ?_
    refine sj_if_eq (tgt := 29) dX12_wishOf_24 (by decide) (fun c5 => ?_) (fun c5 => ?_)
    · replace h := h.1 c5
      refine sj_aload_n dX12_wishOf_29 (i := 0) rfl rfl ?_
      refine sj_get (a := 56) (k9 := 1) (v := .ref (sj_ad G 57)) dX12_wishOf_30 (by decide +kernel) rfl ?_
      refine sj_bipush (v := (nI 45)) dX12_wishOf_33 (by decide +kernel) ?_
      refine sj_bipush (v := (nI 12)) dX12_wishOf_35 (by decide +kernel) ?_
      refine sj_iload_n dX12_wishOf_37 (i := 2) rfl rfl ?_
      refine sj_imul dX12_wishOf_38 ?_
      refine sj_iadd dX12_wishOf_39 ?_
      refine sj_iload_n dX12_wishOf_40 (i := 1) rfl rfl ?_
      refine sj_iadd dX12_wishOf_41 ?_
      obtain ⟨b6, h⟩ := h
      refine sj_iald (a := 57) (j := (((nI 45) + ((nI 12) * x2)) + x1).toNatClampNeg) (x := (σ4 57 (((nI 45) + ((nI 12) * x2)) + x1).toNatClampNeg)) dX12_wishOf_42 rfl (by decide +kernel) b6 rfl rfl ?_
      subst h
      exact sj_ret dX12_wishOf_43 rfl rfl
    · replace h := h.2 c5
      refine sj_fg [0, 1, 2] ?_
      exact t_X12_wishOf_27 h
theorem c_X12_wishOf {G : sj_G} (ok : sj_ok G) {R : sj_R} {x1 : Int32} {x2 : Int32} {σ : sj_S} (h : wp_X12_wishOf_0 G R x1 x2 σ) : sj_C G 4 me_X12_wishOf [.ref (sj_ad G 56), .int x1, .int x2] σ R :=
  sj_enter ok (by decide +kernel) rfl rfl (Nat.le_of_ble_eq_true rfl) (by simp [Value.category]) (t_X12_wishOf_0 h)
def wp_X12_wishes_0 (G : sj_G) (R : sj_R) (σ : sj_S) : Prop := R = (.ok (σ 57 126), (sj_st σ 56 0 (nI 0)))
set_option maxRecDepth 20000 in
theorem t_X12_wishes_0 {G : sj_G} {R : sj_R} {σ : sj_S} (h : wp_X12_wishes_0 G R σ) : sj_J G 2 me_X12_wishes R 0 [.ref (sj_ad G 56)] σ [] := by
  unfold wp_X12_wishes_0 at h
  refine sj_aload_n dX12_wishes_0 (i := 0) rfl rfl ?_
  refine sj_iconst (v := (nI 0)) dX12_wishes_1 (by decide +kernel) ?_
  refine sj_put (a := 56) (k9 := 0) dX12_wishes_2 (by decide +kernel) (by decide +kernel) rfl ?_
  refine sj_aload_n dX12_wishes_5 (i := 0) rfl rfl ?_
  refine sj_get (a := 56) (k9 := 1) (v := .ref (sj_ad G 57)) dX12_wishes_6 (by decide +kernel) rfl ?_
  refine sj_bipush (v := (nI 126)) dX12_wishes_9 (by decide +kernel) ?_
  refine sj_iald (a := 57) (j := 126) (x := (σ 57 126)) dX12_wishes_11 rfl (by decide +kernel) (vp_in_nI (by decide) (by decide)) (nI_clamp (by decide)) rfl ?_
  subst h
  exact sj_ret dX12_wishes_12 rfl rfl
theorem c_X12_wishes {G : sj_G} (ok : sj_ok G) {R : sj_R} {σ : sj_S} (h : wp_X12_wishes_0 G R σ) : sj_C G 2 me_X12_wishes [.ref (sj_ad G 56)] σ R :=
  sj_enter ok (by decide +kernel) rfl rfl (Nat.le_of_ble_eq_true rfl) (by simp [Value.category]) (t_X12_wishes_0 h)
def wp_X12_isDouble_18 (G : sj_G) (R : sj_R) (s0 : Int32) (σ : sj_S) : Prop := R = (.ok s0, σ) ∧ (s0 = nI 0 ∨ s0 = nI 1)
set_option maxRecDepth 20000 in
theorem t_X12_isDouble_18 {G : sj_G} {R : sj_R} {s0 : Int32} {σ : sj_S} (h : wp_X12_isDouble_18 G R s0 σ) : sj_J G 2 me_X12_isDouble R 18 [.null, .null] σ [.int s0] := by
  unfold wp_X12_isDouble_18 at h
  obtain ⟨h, hz⟩ := h
  subst h
  exact sj_ret dX12_isDouble_18 rfl (sj_nb hz)
def wp_X12_isDouble_0 (G : sj_G) (R : sj_R) (x1 : Int32) (σ : sj_S) : Prop := vp_in ((nI 36) + x1) 128 ∧ (wp_X12_isDouble_18 G R (if (σ 57 ((nI 36) + x1).toNatClampNeg) = (nI 1) then (nI 1) else (nI 0)) σ)
set_option maxRecDepth 20000 in
theorem t_X12_isDouble_0 {G : sj_G} {R : sj_R} {x1 : Int32} {σ : sj_S} (h : wp_X12_isDouble_0 G R x1 σ) : sj_J G 2 me_X12_isDouble R 0 [.ref (sj_ad G 56), .int x1] σ [] := by
  unfold wp_X12_isDouble_0 at h
  refine sj_aload_n dX12_isDouble_0 (i := 0) rfl rfl ?_
  refine sj_get (a := 56) (k9 := 1) (v := .ref (sj_ad G 57)) dX12_isDouble_1 (by decide +kernel) rfl ?_
  refine sj_bipush (v := (nI 36)) dX12_isDouble_4 (by decide +kernel) ?_
  refine sj_iload_n dX12_isDouble_6 (i := 1) rfl rfl ?_
  refine sj_iadd dX12_isDouble_7 ?_
  obtain ⟨b1, h⟩ := h
  refine sj_iald (a := 57) (j := ((nI 36) + x1).toNatClampNeg) (x := (σ 57 ((nI 36) + x1).toNatClampNeg)) dX12_isDouble_8 rfl (by decide +kernel) b1 rfl rfl ?_
  refine sj_iconst (v := (nI 1)) dX12_isDouble_9 (by decide +kernel) ?_
  refine sj_icmp_ne (tgt := 17) dX12_isDouble_10 (by decide) (fun c2 => ?_) (fun c2 => ?_)
  · refine sj_iconst (v := (nI 0)) dX12_isDouble_17 (by decide +kernel) ?_
    try simp only [if_neg c2] at h
    refine sj_fg [0, 1] ?_
    exact t_X12_isDouble_18 h
  · refine sj_iconst (v := (nI 1)) dX12_isDouble_13 (by decide +kernel) ?_
    refine sj_goto (tgt := 18) dX12_isDouble_14 (by decide) ?_
    try simp only [if_pos c2] at h
    refine sj_fg [0, 1] ?_
    exact t_X12_isDouble_18 h
theorem c_X12_isDouble {G : sj_G} (ok : sj_ok G) {R : sj_R} {x1 : Int32} {σ : sj_S} (h : wp_X12_isDouble_0 G R x1 σ) : sj_C G 2 me_X12_isDouble [.ref (sj_ad G 56), .int x1] σ R :=
  sj_enter ok (by decide +kernel) rfl rfl (Nat.le_of_ble_eq_true rfl) (by simp [Value.category]) (t_X12_isDouble_0 h)
def wp_X12_isAt_35 (G : sj_G) (R : sj_R) (s0 : Int32) (σ : sj_S) : Prop := R = (.ok s0, σ) ∧ (s0 = nI 0 ∨ s0 = nI 1)
set_option maxRecDepth 20000 in
theorem t_X12_isAt_35 {G : sj_G} {R : sj_R} {s0 : Int32} {σ : sj_S} (h : wp_X12_isAt_35 G R s0 σ) : sj_J G 3 me_X12_isAt R 35 [.null, .null, .null] σ [.int s0] := by
  unfold wp_X12_isAt_35 at h
  obtain ⟨h, hz⟩ := h
  subst h
  exact sj_ret dX12_isAt_35 rfl (sj_nb hz)
def wp_X12_isAt_30 (G : sj_G) (R : sj_R) (σ : sj_S) : Prop := (wp_X12_isAt_35 G R (nI 1) σ)
set_option maxRecDepth 20000 in
theorem t_X12_isAt_30 {G : sj_G} {R : sj_R} {σ : sj_S} (h : wp_X12_isAt_30 G R σ) : sj_J G 3 me_X12_isAt R 30 [.null, .null, .null] σ [] := by
  unfold wp_X12_isAt_30 at h
  refine sj_iconst (v := (nI 1)) dX12_isAt_30 (by decide +kernel) ?_
  refine sj_goto (tgt := 35) dX12_isAt_31 (by decide) ?_
  exact t_X12_isAt_35 h
def wp_X12_isAt_0 (G : sj_G) (R : sj_R) (x1 : Int32) (x2 : Int32) (σ : sj_S) : Prop := vp_in x1 9 ∧ ((σ 59 x1.toNatClampNeg) = x2 → (wp_X12_isAt_30 G R σ)) ∧ (¬ ((σ 59 x1.toNatClampNeg) = x2) → ∃ v4 σ4, sj_C G 2 me_X12_isDouble [.ref (sj_ad G 56), .int x1] σ (.ok v4, σ4) ∧ ((¬ (v4 = 0)) → vp_in x1 9) ∧ (wp_X12_isAt_35 G R (if v4 = 0 then (nI 0) else (if ((σ4 59 x1.toNatClampNeg) + (nI 1)) = x2 then (nI 1) else (nI 0))) σ4))
set_option maxRecDepth 20000 in
theorem t_X12_isAt_0 {G : sj_G} {R : sj_R} {x1 : Int32} {x2 : Int32} {σ : sj_S} (h : wp_X12_isAt_0 G R x1 x2 σ) : sj_J G 3 me_X12_isAt R 0 [.ref (sj_ad G 56), .int x1, .int x2] σ [] := by
  unfold wp_X12_isAt_0 at h
  refine sj_aload_n dX12_isAt_0 (i := 0) rfl rfl ?_
  refine sj_get (a := 56) (k9 := 4) (v := .ref (sj_ad G 59)) dX12_isAt_1 (by decide +kernel) rfl ?_
  refine sj_iload_n dX12_isAt_4 (i := 1) rfl rfl ?_
  obtain ⟨b1, h⟩ := h
  refine sj_iald (a := 59) (j := x1.toNatClampNeg) (x := (σ 59 x1.toNatClampNeg)) dX12_isAt_5 rfl (by decide +kernel) b1 rfl rfl ?_
  refine sj_iload_n dX12_isAt_6 (i := 2) rfl rfl ?_
  refine sj_icmp_eq (tgt := 30) dX12_isAt_7 (by decide) (fun c3 => ?_) (fun c3 => ?_)
  · replace h := h.1 c3
    refine sj_fg [0, 1, 2] ?_
    exact t_X12_isAt_30 h
  · replace h := h.2 c3
    refine sj_aload_n dX12_isAt_10 (i := 0) rfl rfl ?_
    refine sj_iload_n dX12_isAt_11 (i := 1) rfl rfl ?_
    obtain ⟨v4, σ4, hc4, h⟩ := h
    refine sj_callVi (M' := me_X12_isDouble) (b := 56) (As := [.int x1]) (rest := []) dX12_isAt_12 gX12_isAt_X12_isDouble rfl hd_X12_isDouble (by decide +kernel) (by decide +kernel) rfl (Nat.le_of_ble_eq_true rfl) (by omega) rfl hc4 ?_
    obtain ⟨f8, h⟩ := h
    refine sj_if_eq (tgt := 34) dX12_isAt_15 (by decide) (fun c5 => ?_) (fun c5 => ?_)
    · refine sj_iconst (v := (nI 0)) dX12_isAt_34 (by decide +kernel) ?_
      try simp only [if_pos c5] at h
      refine sj_fg [0, 1, 2] ?_
      exact t_X12_isAt_35 h
    · have b6 := f8 c5
      refine sj_aload_n dX12_isAt_18 (i := 0) rfl rfl ?_
      refine sj_get (a := 56) (k9 := 4) (v := .ref (sj_ad G 59)) dX12_isAt_19 (by decide +kernel) rfl ?_
      refine sj_iload_n dX12_isAt_22 (i := 1) rfl rfl ?_
      refine sj_iald (a := 59) (j := x1.toNatClampNeg) (x := (σ4 59 x1.toNatClampNeg)) dX12_isAt_23 rfl (by decide +kernel) b6 rfl rfl ?_
      refine sj_iconst (v := (nI 1)) dX12_isAt_24 (by decide +kernel) ?_
      refine sj_iadd dX12_isAt_25 ?_
      refine sj_iload_n dX12_isAt_26 (i := 2) rfl rfl ?_
      refine sj_icmp_ne (tgt := 34) dX12_isAt_27 (by decide) (fun c7 => ?_) (fun c7 => ?_)
      · refine sj_iconst (v := (nI 0)) dX12_isAt_34 (by decide +kernel) ?_
        try simp only [if_neg c5, if_neg c7] at h
        refine sj_fg [0, 1, 2] ?_
        exact t_X12_isAt_35 h
      · refine sj_iconst (v := (nI 1)) dX12_isAt_30 (by decide +kernel) ?_
        refine sj_goto (tgt := 35) dX12_isAt_31 (by decide) ?_
        try simp only [if_neg c5, if_pos c7] at h
        refine sj_fg [0, 1, 2] ?_
        exact t_X12_isAt_35 h
theorem c_X12_isAt {G : sj_G} (ok : sj_ok G) {R : sj_R} {x1 : Int32} {x2 : Int32} {σ : sj_S} (h : wp_X12_isAt_0 G R x1 x2 σ) : sj_C G 3 me_X12_isAt [.ref (sj_ad G 56), .int x1, .int x2] σ R :=
  sj_enter ok (by decide +kernel) rfl rfl (Nat.le_of_ble_eq_true rfl) (by simp [Value.category]) (t_X12_isAt_0 h)
def wp_X12_doMeet_43 (G : sj_G) (R : sj_R) (s0 : Int32) (σ : sj_S) : Prop := R = (.ok s0, σ) ∧ (s0 = nI 0 ∨ s0 = nI 1)
set_option maxRecDepth 20000 in
theorem t_X12_doMeet_43 {G : sj_G} {R : sj_R} {s0 : Int32} {σ : sj_S} (h : wp_X12_doMeet_43 G R s0 σ) : sj_J G 4 me_X12_doMeet R 43 [.null, .null, .null] σ [.int s0] := by
  unfold wp_X12_doMeet_43 at h
  obtain ⟨h, hz⟩ := h
  subst h
  exact sj_ret dX12_doMeet_43 rfl (sj_nb hz)
def wp_X12_doMeet_38 (G : sj_G) (R : sj_R) (σ : sj_S) : Prop := (wp_X12_doMeet_43 G R (nI 1) σ)
set_option maxRecDepth 20000 in
theorem t_X12_doMeet_38 {G : sj_G} {R : sj_R} {σ : sj_S} (h : wp_X12_doMeet_38 G R σ) : sj_J G 4 me_X12_doMeet R 38 [.null, .null, .null] σ [] := by
  unfold wp_X12_doMeet_38 at h
  refine sj_iconst (v := (nI 1)) dX12_doMeet_38 (by decide +kernel) ?_
  refine sj_goto (tgt := 43) dX12_doMeet_39 (by decide) ?_
  exact t_X12_doMeet_43 h
def wp_X12_doMeet_42 (G : sj_G) (R : sj_R) (σ : sj_S) : Prop := (wp_X12_doMeet_43 G R (nI 0) σ)
set_option maxRecDepth 20000 in
theorem t_X12_doMeet_42 {G : sj_G} {R : sj_R} {σ : sj_S} (h : wp_X12_doMeet_42 G R σ) : sj_J G 4 me_X12_doMeet R 42 [.null, .null, .null] σ [] := by
  unfold wp_X12_doMeet_42 at h
  refine sj_iconst (v := (nI 0)) dX12_doMeet_42 (by decide +kernel) ?_
  exact t_X12_doMeet_43 h
def wp_X12_doMeet_0 (G : sj_G) (R : sj_R) (x1 : Int32) (x2 : Int32) (σ : sj_S) : Prop := vp_in x2 9 ∧ ∃ v2 σ2, sj_C G 3 me_X12_isAt [.ref (sj_ad G 56), .int x1, .int (σ 59 x2.toNatClampNeg)] σ (.ok v2, σ2) ∧ (¬ v2 = 0 → (wp_X12_doMeet_38 G R σ2)) ∧ (v2 = 0 → ∃ v5 σ5, sj_C G 2 me_X12_isDouble [.ref (sj_ad G 56), .int x2] σ2 (.ok v5, σ5) ∧ (v5 = 0 → (wp_X12_doMeet_42 G R σ5)) ∧ (¬ (v5 = 0) → vp_in x2 9 ∧ ∃ v10 σ10, sj_C G 3 me_X12_isAt [.ref (sj_ad G 56), .int x1, .int ((σ5 59 x2.toNatClampNeg) + (nI 1))] σ5 (.ok v10, σ10) ∧ (wp_X12_doMeet_43 G R (if v10 = 0 then (nI 0) else (nI 1)) σ10)))
set_option maxRecDepth 20000 in
theorem t_X12_doMeet_0 {G : sj_G} {R : sj_R} {x1 : Int32} {x2 : Int32} {σ : sj_S} (h : wp_X12_doMeet_0 G R x1 x2 σ) : sj_J G 4 me_X12_doMeet R 0 [.ref (sj_ad G 56), .int x1, .int x2] σ [] := by
  unfold wp_X12_doMeet_0 at h
  refine sj_aload_n dX12_doMeet_0 (i := 0) rfl rfl ?_
  refine sj_iload_n dX12_doMeet_1 (i := 1) rfl rfl ?_
  refine sj_aload_n dX12_doMeet_2 (i := 0) rfl rfl ?_
  refine sj_get (a := 56) (k9 := 4) (v := .ref (sj_ad G 59)) dX12_doMeet_3 (by decide +kernel) rfl ?_
  refine sj_iload_n dX12_doMeet_6 (i := 2) rfl rfl ?_
  obtain ⟨b1, h⟩ := h
  refine sj_iald (a := 59) (j := x2.toNatClampNeg) (x := (σ 59 x2.toNatClampNeg)) dX12_doMeet_7 rfl (by decide +kernel) b1 rfl rfl ?_
  obtain ⟨v2, σ2, hc2, h⟩ := h
  refine sj_callVi (M' := me_X12_isAt) (b := 56) (As := [.int x1, .int (σ 59 x2.toNatClampNeg)]) (rest := []) dX12_doMeet_8 gX12_doMeet_X12_isAt rfl hd_X12_isAt (by decide +kernel) (by decide +kernel) rfl (Nat.le_of_ble_eq_true rfl) (by omega) rfl hc2 ?_
  refine sj_if_ne (tgt := 38) dX12_doMeet_11 (by decide) (fun c4 => ?_) (fun c4 => ?_)
  · replace h := h.1 c4
    refine sj_fg [0, 1, 2] ?_
    exact t_X12_doMeet_38 h
  · replace h := h.2 c4
    refine sj_aload_n dX12_doMeet_14 (i := 0) rfl rfl ?_
    refine sj_iload_n dX12_doMeet_15 (i := 2) rfl rfl ?_
    obtain ⟨v5, σ5, hc5, h⟩ := h
    refine sj_callVi (M' := me_X12_isDouble) (b := 56) (As := [.int x2]) (rest := []) dX12_doMeet_16 gX12_doMeet_X12_isDouble rfl hd_X12_isDouble (by decide +kernel) (by decide +kernel) rfl (Nat.le_of_ble_eq_true rfl) (by omega) rfl hc5 ?_
    refine sj_if_eq (tgt := 42) dX12_doMeet_19 (by decide) (fun c8 => ?_) (fun c8 => ?_)
    · replace h := h.1 c8
      refine sj_fg [0, 1, 2] ?_
      exact t_X12_doMeet_42 h
    · replace h := h.2 c8
      refine sj_aload_n dX12_doMeet_22 (i := 0) rfl rfl ?_
      refine sj_iload_n dX12_doMeet_23 (i := 1) rfl rfl ?_
      refine sj_aload_n dX12_doMeet_24 (i := 0) rfl rfl ?_
      refine sj_get (a := 56) (k9 := 4) (v := .ref (sj_ad G 59)) dX12_doMeet_25 (by decide +kernel) rfl ?_
      refine sj_iload_n dX12_doMeet_28 (i := 2) rfl rfl ?_
      obtain ⟨b9, h⟩ := h
      refine sj_iald (a := 59) (j := x2.toNatClampNeg) (x := (σ5 59 x2.toNatClampNeg)) dX12_doMeet_29 rfl (by decide +kernel) b9 rfl rfl ?_
      refine sj_iconst (v := (nI 1)) dX12_doMeet_30 (by decide +kernel) ?_
      refine sj_iadd dX12_doMeet_31 ?_
      obtain ⟨v10, σ10, hc10, h⟩ := h
      refine sj_callVi (M' := me_X12_isAt) (b := 56) (As := [.int x1, .int ((σ5 59 x2.toNatClampNeg) + (nI 1))]) (rest := []) dX12_doMeet_32 gX12_doMeet_X12_isAt rfl hd_X12_isAt (by decide +kernel) (by decide +kernel) rfl (Nat.le_of_ble_eq_true rfl) (by omega) rfl hc10 ?_
      refine sj_if_eq (tgt := 42) dX12_doMeet_35 (by decide) (fun c11 => ?_) (fun c11 => ?_)
      · refine sj_iconst (v := (nI 0)) dX12_doMeet_42 (by decide +kernel) ?_
        try simp only [if_pos c11] at h
        refine sj_fg [0, 1, 2] ?_
        exact t_X12_doMeet_43 h
      · refine sj_iconst (v := (nI 1)) dX12_doMeet_38 (by decide +kernel) ?_
        refine sj_goto (tgt := 43) dX12_doMeet_39 (by decide) ?_
        try simp only [if_neg c11] at h
        refine sj_fg [0, 1, 2] ?_
        exact t_X12_doMeet_43 h
theorem c_X12_doMeet {G : sj_G} (ok : sj_ok G) {R : sj_R} {x1 : Int32} {x2 : Int32} {σ : sj_S} (h : wp_X12_doMeet_0 G R x1 x2 σ) : sj_C G 4 me_X12_doMeet [.ref (sj_ad G 56), .int x1, .int x2] σ R :=
  sj_enter ok (by decide +kernel) rfl rfl (Nat.le_of_ble_eq_true rfl) (by simp [Value.category]) (t_X12_doMeet_0 h)
def wp_X12_holdsFor_88 (G : sj_G) (R : sj_R) (s0 : Int32) (σ : sj_S) : Prop := R = (.ok s0, σ) ∧ (s0 = nI 0 ∨ s0 = nI 1)
set_option maxRecDepth 20000 in
theorem t_X12_holdsFor_88 {G : sj_G} {R : sj_R} {s0 : Int32} {σ : sj_S} (h : wp_X12_holdsFor_88 G R s0 σ) : sj_J G 4 me_X12_holdsFor R 88 [.null, .null, .null, .null, .null] σ [.int s0] := by
  unfold wp_X12_holdsFor_88 at h
  obtain ⟨h, hz⟩ := h
  subst h
  exact sj_ret dX12_holdsFor_88 rfl (sj_nb hz)
def wp_X12_holdsFor_83 (G : sj_G) (R : sj_R) (σ : sj_S) : Prop := (wp_X12_holdsFor_88 G R (nI 1) σ)
set_option maxRecDepth 20000 in
theorem t_X12_holdsFor_83 {G : sj_G} {R : sj_R} {σ : sj_S} (h : wp_X12_holdsFor_83 G R σ) : sj_J G 4 me_X12_holdsFor R 83 [.null, .null, .null, .null, .null] σ [] := by
  unfold wp_X12_holdsFor_83 at h
  refine sj_iconst (v := (nI 1)) dX12_holdsFor_83 (by decide +kernel) ?_
  refine sj_goto (tgt := 88) dX12_holdsFor_84 (by decide) ?_
  exact t_X12_holdsFor_88 h
def wp_X12_holdsFor_116 (G : sj_G) (R : sj_R) (s0 : Int32) (σ : sj_S) : Prop := R = (.ok s0, σ) ∧ (s0 = nI 0 ∨ s0 = nI 1)
set_option maxRecDepth 20000 in
theorem t_X12_holdsFor_116 {G : sj_G} {R : sj_R} {s0 : Int32} {σ : sj_S} (h : wp_X12_holdsFor_116 G R s0 σ) : sj_J G 4 me_X12_holdsFor R 116 [.null, .null, .null, .null, .null] σ [.int s0] := by
  unfold wp_X12_holdsFor_116 at h
  obtain ⟨h, hz⟩ := h
  subst h
  exact sj_ret dX12_holdsFor_116 rfl (sj_nb hz)
def wp_X12_holdsFor_111 (G : sj_G) (R : sj_R) (σ : sj_S) : Prop := (wp_X12_holdsFor_116 G R (nI 1) σ)
set_option maxRecDepth 20000 in
theorem t_X12_holdsFor_111 {G : sj_G} {R : sj_R} {σ : sj_S} (h : wp_X12_holdsFor_111 G R σ) : sj_J G 4 me_X12_holdsFor R 111 [.null, .null, .null, .null, .null] σ [] := by
  unfold wp_X12_holdsFor_111 at h
  refine sj_iconst (v := (nI 1)) dX12_holdsFor_111 (by decide +kernel) ?_
  refine sj_goto (tgt := 116) dX12_holdsFor_112 (by decide) ?_
  exact t_X12_holdsFor_116 h
def wp_X12_holdsFor_140 (G : sj_G) (R : sj_R) (s0 : Int32) (σ : sj_S) : Prop := R = (.ok s0, σ) ∧ (s0 = nI 0 ∨ s0 = nI 1)
set_option maxRecDepth 20000 in
theorem t_X12_holdsFor_140 {G : sj_G} {R : sj_R} {s0 : Int32} {σ : sj_S} (h : wp_X12_holdsFor_140 G R s0 σ) : sj_J G 4 me_X12_holdsFor R 140 [.null, .null, .null, .null, .null] σ [.int s0] := by
  unfold wp_X12_holdsFor_140 at h
  obtain ⟨h, hz⟩ := h
  subst h
  exact sj_ret dX12_holdsFor_140 rfl (sj_nb hz)
def wp_X12_holdsFor_162 (G : sj_G) (R : sj_R) (s0 : Int32) (σ : sj_S) : Prop := R = (.ok s0, σ) ∧ (s0 = nI 0 ∨ s0 = nI 1)
set_option maxRecDepth 20000 in
theorem t_X12_holdsFor_162 {G : sj_G} {R : sj_R} {s0 : Int32} {σ : sj_S} (h : wp_X12_holdsFor_162 G R s0 σ) : sj_J G 4 me_X12_holdsFor R 162 [.null, .null, .null, .null, .null] σ [.int s0] := by
  unfold wp_X12_holdsFor_162 at h
  obtain ⟨h, hz⟩ := h
  subst h
  exact sj_ret dX12_holdsFor_162 rfl (sj_nb hz)
def wp_X12_holdsFor_0 (G : sj_G) (R : sj_R) (x1 : Int32) (x2 : Int32) (σ : sj_S) : Prop := vp_in ((nI 57) + x1) 128 ∧ vp_in ((nI 69) + x1) 128 ∧ vp_in ((nI 45) + x1) 128 ∧ ((σ 57 ((nI 45) + x1).toNatClampNeg) = nI 0 → vp_in ((nI 9) + x2) 128 ∧ (¬ (σ 57 ((nI 9) + x2).toNatClampNeg) = (σ 57 ((nI 57) + x1).toNatClampNeg) → (wp_X12_holdsFor_83 G R σ)) ∧ ((σ 57 ((nI 9) + x2).toNatClampNeg) = (σ 57 ((nI 57) + x1).toNatClampNeg) → ∃ v7 σ7, sj_C G 3 me_X12_isAt [.ref (sj_ad G 56), .int x2, .int (σ 57 ((nI 69) + x1).toNatClampNeg)] σ (.ok v7, σ7) ∧ (wp_X12_holdsFor_88 G R (if v7 = 0 then (nI 1) else (nI 0)) σ7))) ∧ ((σ 57 ((nI 45) + x1).toNatClampNeg) = nI 1 → vp_in ((nI 0) + x2) 128 ∧ (¬ (σ 57 ((nI 0) + x2).toNatClampNeg) = (σ 57 ((nI 57) + x1).toNatClampNeg) → (wp_X12_holdsFor_111 G R σ)) ∧ ((σ 57 ((nI 0) + x2).toNatClampNeg) = (σ 57 ((nI 57) + x1).toNatClampNeg) → ∃ v12 σ12, sj_C G 3 me_X12_isAt [.ref (sj_ad G 56), .int x2, .int (σ 57 ((nI 69) + x1).toNatClampNeg)] σ (.ok v12, σ12) ∧ (wp_X12_holdsFor_116 G R (if v12 = 0 then (nI 1) else (nI 0)) σ12))) ∧ ((σ 57 ((nI 45) + x1).toNatClampNeg) = nI 2 → ((x2 = (σ 57 ((nI 57) + x1).toNatClampNeg)) → vp_in x2 9) ∧ (wp_X12_holdsFor_140 G R (if x2 = (σ 57 ((nI 57) + x1).toNatClampNeg) then (if ((σ 59 x2.toNatClampNeg) / (nI 4)) = (σ 57 ((nI 69) + x1).toNatClampNeg) then (nI 0) else (nI 1)) else (nI 1)) σ)) ∧ ((σ 57 ((nI 45) + x1).toNatClampNeg) = nI 3 → ((x2 = (σ 57 ((nI 57) + x1).toNatClampNeg)) → vp_in x2 9) ∧ (wp_X12_holdsFor_162 G R (if x2 = (σ 57 ((nI 57) + x1).toNatClampNeg) then (if (σ 59 x2.toNatClampNeg) = (σ 57 ((nI 69) + x1).toNatClampNeg) then (nI 1) else (nI 0)) else (nI 1)) σ)) ∧ (¬ (σ 57 ((nI 45) + x1).toNatClampNeg) = nI 0 → ¬ (σ 57 ((nI 45) + x1).toNatClampNeg) = nI 1 → ¬ (σ 57 ((nI 45) + x1).toNatClampNeg) = nI 2 → ¬ (σ 57 ((nI 45) + x1).toNatClampNeg) = nI 3 → R = (.ok (nI 1), σ))
set_option maxRecDepth 20000 in
theorem t_X12_holdsFor_0 {G : sj_G} {R : sj_R} {x1 : Int32} {x2 : Int32} {σ : sj_S} (h : wp_X12_holdsFor_0 G R x1 x2 σ) : sj_J G 4 me_X12_holdsFor R 0 [.ref (sj_ad G 56), .int x1, .int x2, .null, .null] σ [] := by
  unfold wp_X12_holdsFor_0 at h
  refine sj_aload_n dX12_holdsFor_0 (i := 0) rfl rfl ?_
  refine sj_get (a := 56) (k9 := 1) (v := .ref (sj_ad G 57)) dX12_holdsFor_1 (by decide +kernel) rfl ?_
  refine sj_bipush (v := (nI 57)) dX12_holdsFor_4 (by decide +kernel) ?_
  refine sj_iload_n dX12_holdsFor_6 (i := 1) rfl rfl ?_
  refine sj_iadd dX12_holdsFor_7 ?_
  obtain ⟨b1, h⟩ := h
  refine sj_iald (a := 57) (j := ((nI 57) + x1).toNatClampNeg) (x := (σ 57 ((nI 57) + x1).toNatClampNeg)) dX12_holdsFor_8 rfl (by decide +kernel) b1 rfl rfl ?_
  refine sj_istore_n dX12_holdsFor_9 (i := 3) rfl (by decide) ?_
  refine sj_aload_n dX12_holdsFor_10 (i := 0) rfl rfl ?_
  refine sj_get (a := 56) (k9 := 1) (v := .ref (sj_ad G 57)) dX12_holdsFor_11 (by decide +kernel) rfl ?_
  refine sj_bipush (v := (nI 69)) dX12_holdsFor_14 (by decide +kernel) ?_
  refine sj_iload_n dX12_holdsFor_16 (i := 1) rfl rfl ?_
  refine sj_iadd dX12_holdsFor_17 ?_
  obtain ⟨b2, h⟩ := h
  refine sj_iald (a := 57) (j := ((nI 69) + x1).toNatClampNeg) (x := (σ 57 ((nI 69) + x1).toNatClampNeg)) dX12_holdsFor_18 rfl (by decide +kernel) b2 rfl rfl ?_
  refine sj_istore dX12_holdsFor_19 (by decide) ?_
  refine sj_aload_n dX12_holdsFor_21 (i := 0) rfl rfl ?_
  refine sj_get (a := 56) (k9 := 1) (v := .ref (sj_ad G 57)) dX12_holdsFor_22 (by decide +kernel) rfl ?_
  refine sj_bipush (v := (nI 45)) dX12_holdsFor_25 (by decide +kernel) ?_
  refine sj_iload_n dX12_holdsFor_27 (i := 1) rfl rfl ?_
  refine sj_iadd dX12_holdsFor_28 ?_
  obtain ⟨b3, h⟩ := h
  refine sj_iald (a := 57) (j := ((nI 45) + x1).toNatClampNeg) (x := (σ 57 ((nI 45) + x1).toNatClampNeg)) dX12_holdsFor_29 rfl (by decide +kernel) b3 rfl rfl ?_
  by_cases e30_0 : (σ 57 ((nI 45) + x1).toNatClampNeg) = nI 0
  · replace h := h.1 e30_0
    refine sj_tableIn (tgt := 60) dX12_holdsFor_30 (by rw [e30_0]; decide +kernel) (by rw [e30_0]; decide +kernel) (by rw [e30_0]; rfl) (by decide) ?_
    refine sj_aload_n dX12_holdsFor_60 (i := 0) rfl rfl ?_
    refine sj_get (a := 56) (k9 := 1) (v := .ref (sj_ad G 57)) dX12_holdsFor_61 (by decide +kernel) rfl ?_
    refine sj_bipush (v := (nI 9)) dX12_holdsFor_64 (by decide +kernel) ?_
    refine sj_iload_n dX12_holdsFor_66 (i := 2) rfl rfl ?_
    refine sj_iadd dX12_holdsFor_67 ?_
    obtain ⟨b4, h⟩ := h
    refine sj_iald (a := 57) (j := ((nI 9) + x2).toNatClampNeg) (x := (σ 57 ((nI 9) + x2).toNatClampNeg)) dX12_holdsFor_68 rfl (by decide +kernel) b4 rfl rfl ?_
    refine sj_iload_n dX12_holdsFor_69 (i := 3) rfl rfl ?_
    refine sj_icmp_ne (tgt := 83) dX12_holdsFor_70 (by decide) (fun c6 => ?_) (fun c6 => ?_)
    · replace h := h.1 c6
      refine sj_fg [0, 1, 2, 3, 4] ?_
      exact t_X12_holdsFor_83 h
    · replace h := h.2 c6
      refine sj_aload_n dX12_holdsFor_73 (i := 0) rfl rfl ?_
      refine sj_iload_n dX12_holdsFor_74 (i := 2) rfl rfl ?_
      refine sj_iload dX12_holdsFor_75 rfl ?_
      obtain ⟨v7, σ7, hc7, h⟩ := h
      refine sj_callVi (M' := me_X12_isAt) (b := 56) (As := [.int x2, .int (σ 57 ((nI 69) + x1).toNatClampNeg)]) (rest := []) dX12_holdsFor_77 gX12_holdsFor_X12_isAt rfl hd_X12_isAt (by decide +kernel) (by decide +kernel) rfl (Nat.le_of_ble_eq_true rfl) (by omega) rfl hc7 ?_
      refine sj_if_ne (tgt := 87) dX12_holdsFor_80 (by decide) (fun c8 => ?_) (fun c8 => ?_)
      · refine sj_iconst (v := (nI 0)) dX12_holdsFor_87 (by decide +kernel) ?_
        try simp only [if_neg c8] at h
        refine sj_fg [0, 1, 2, 3, 4] ?_
        exact t_X12_holdsFor_88 h
      · refine sj_iconst (v := (nI 1)) dX12_holdsFor_83 (by decide +kernel) ?_
        refine sj_goto (tgt := 88) dX12_holdsFor_84 (by decide) ?_
        try simp only [if_pos c8] at h
        refine sj_fg [0, 1, 2, 3, 4] ?_
        exact t_X12_holdsFor_88 h
  by_cases e30_1 : (σ 57 ((nI 45) + x1).toNatClampNeg) = nI 1
  · replace h := h.2.1 e30_1
    refine sj_tableIn (tgt := 89) dX12_holdsFor_30 (by rw [e30_1]; decide +kernel) (by rw [e30_1]; decide +kernel) (by rw [e30_1]; rfl) (by decide) ?_
    refine sj_aload_n dX12_holdsFor_89 (i := 0) rfl rfl ?_
    refine sj_get (a := 56) (k9 := 1) (v := .ref (sj_ad G 57)) dX12_holdsFor_90 (by decide +kernel) rfl ?_
    refine sj_iconst (v := (nI 0)) dX12_holdsFor_93 (by decide +kernel) ?_
    refine sj_iload_n dX12_holdsFor_94 (i := 2) rfl rfl ?_
    refine sj_iadd dX12_holdsFor_95 ?_
    obtain ⟨b9, h⟩ := h
    refine sj_iald (a := 57) (j := ((nI 0) + x2).toNatClampNeg) (x := (σ 57 ((nI 0) + x2).toNatClampNeg)) dX12_holdsFor_96 rfl (by decide +kernel) b9 rfl rfl ?_
    refine sj_iload_n dX12_holdsFor_97 (i := 3) rfl rfl ?_
    refine sj_icmp_ne (tgt := 111) dX12_holdsFor_98 (by decide) (fun c11 => ?_) (fun c11 => ?_)
    · replace h := h.1 c11
      refine sj_fg [0, 1, 2, 3, 4] ?_
      exact t_X12_holdsFor_111 h
    · replace h := h.2 c11
      refine sj_aload_n dX12_holdsFor_101 (i := 0) rfl rfl ?_
      refine sj_iload_n dX12_holdsFor_102 (i := 2) rfl rfl ?_
      refine sj_iload dX12_holdsFor_103 rfl ?_
      obtain ⟨v12, σ12, hc12, h⟩ := h
      refine sj_callVi (M' := me_X12_isAt) (b := 56) (As := [.int x2, .int (σ 57 ((nI 69) + x1).toNatClampNeg)]) (rest := []) dX12_holdsFor_105 gX12_holdsFor_X12_isAt rfl hd_X12_isAt (by decide +kernel) (by decide +kernel) rfl (Nat.le_of_ble_eq_true rfl) (by omega) rfl hc12 ?_
      refine sj_if_ne (tgt := 115) dX12_holdsFor_108 (by decide) (fun c13 => ?_) (fun c13 => ?_)
      · refine sj_iconst (v := (nI 0)) dX12_holdsFor_115 (by decide +kernel) ?_
        try simp only [if_neg c13] at h
        refine sj_fg [0, 1, 2, 3, 4] ?_
        exact t_X12_holdsFor_116 h
      · refine sj_iconst (v := (nI 1)) dX12_holdsFor_111 (by decide +kernel) ?_
        refine sj_goto (tgt := 116) dX12_holdsFor_112 (by decide) ?_
        try simp only [if_pos c13] at h
        refine sj_fg [0, 1, 2, 3, 4] ?_
        exact t_X12_holdsFor_116 h
  by_cases e30_2 : (σ 57 ((nI 45) + x1).toNatClampNeg) = nI 2
  · replace h := h.2.2.1 e30_2
    refine sj_tableIn (tgt := 117) dX12_holdsFor_30 (by rw [e30_2]; decide +kernel) (by rw [e30_2]; decide +kernel) (by rw [e30_2]; rfl) (by decide) ?_
    refine sj_iload_n dX12_holdsFor_117 (i := 2) rfl rfl ?_
    refine sj_iload_n dX12_holdsFor_118 (i := 3) rfl rfl ?_
    obtain ⟨f17, h⟩ := h
    refine sj_icmp_ne (tgt := 135) dX12_holdsFor_119 (by decide) (fun c14 => ?_) (fun c14 => ?_)
    · refine sj_iconst (v := (nI 1)) dX12_holdsFor_135 (by decide +kernel) ?_
      refine sj_goto (tgt := 140) dX12_holdsFor_136 (by decide) ?_
      try simp only [if_neg c14] at h
      refine sj_fg [0, 1, 2, 3, 4] ?_
      exact t_X12_holdsFor_140 h
    · have b15 := f17 c14
      refine sj_aload_n dX12_holdsFor_122 (i := 0) rfl rfl ?_
      refine sj_get (a := 56) (k9 := 4) (v := .ref (sj_ad G 59)) dX12_holdsFor_123 (by decide +kernel) rfl ?_
      refine sj_iload_n dX12_holdsFor_126 (i := 2) rfl rfl ?_
      refine sj_iald (a := 59) (j := x2.toNatClampNeg) (x := (σ 59 x2.toNatClampNeg)) dX12_holdsFor_127 rfl (by decide +kernel) b15 rfl rfl ?_
      refine sj_iconst (v := (nI 4)) dX12_holdsFor_128 (by decide +kernel) ?_
      refine sj_idiv dX12_holdsFor_129 (by decide +kernel) ?_
      refine sj_iload dX12_holdsFor_130 rfl ?_
      refine sj_icmp_eq (tgt := 139) dX12_holdsFor_132 (by decide) (fun c16 => ?_) (fun c16 => ?_)
      · refine sj_iconst (v := (nI 0)) dX12_holdsFor_139 (by decide +kernel) ?_
        try simp only [if_pos c14, if_pos c16] at h
        refine sj_fg [0, 1, 2, 3, 4] ?_
        exact t_X12_holdsFor_140 h
      · refine sj_iconst (v := (nI 1)) dX12_holdsFor_135 (by decide +kernel) ?_
        refine sj_goto (tgt := 140) dX12_holdsFor_136 (by decide) ?_
        try simp only [if_pos c14, if_neg c16] at h
        refine sj_fg [0, 1, 2, 3, 4] ?_
        exact t_X12_holdsFor_140 h
  by_cases e30_3 : (σ 57 ((nI 45) + x1).toNatClampNeg) = nI 3
  · replace h := h.2.2.2.1 e30_3
    refine sj_tableIn (tgt := 141) dX12_holdsFor_30 (by rw [e30_3]; decide +kernel) (by rw [e30_3]; decide +kernel) (by rw [e30_3]; rfl) (by decide) ?_
    refine sj_iload_n dX12_holdsFor_141 (i := 2) rfl rfl ?_
    refine sj_iload_n dX12_holdsFor_142 (i := 3) rfl rfl ?_
    obtain ⟨f21, h⟩ := h
    refine sj_icmp_ne (tgt := 157) dX12_holdsFor_143 (by decide) (fun c18 => ?_) (fun c18 => ?_)
    · refine sj_iconst (v := (nI 1)) dX12_holdsFor_157 (by decide +kernel) ?_
      refine sj_goto (tgt := 162) dX12_holdsFor_158 (by decide) ?_
      try simp only [if_neg c18] at h
      refine sj_fg [0, 1, 2, 3, 4] ?_
      exact t_X12_holdsFor_162 h
    · have b19 := f21 c18
      refine sj_aload_n dX12_holdsFor_146 (i := 0) rfl rfl ?_
      refine sj_get (a := 56) (k9 := 4) (v := .ref (sj_ad G 59)) dX12_holdsFor_147 (by decide +kernel) rfl ?_
      refine sj_iload_n dX12_holdsFor_150 (i := 2) rfl rfl ?_
      refine sj_iald (a := 59) (j := x2.toNatClampNeg) (x := (σ 59 x2.toNatClampNeg)) dX12_holdsFor_151 rfl (by decide +kernel) b19 rfl rfl ?_
      refine sj_iload dX12_holdsFor_152 rfl ?_
      refine sj_icmp_ne (tgt := 161) dX12_holdsFor_154 (by decide) (fun c20 => ?_) (fun c20 => ?_)
      · refine sj_iconst (v := (nI 0)) dX12_holdsFor_161 (by decide +kernel) ?_
        try simp only [if_pos c18, if_neg c20] at h
        refine sj_fg [0, 1, 2, 3, 4] ?_
        exact t_X12_holdsFor_162 h
      · refine sj_iconst (v := (nI 1)) dX12_holdsFor_157 (by decide +kernel) ?_
        refine sj_goto (tgt := 162) dX12_holdsFor_158 (by decide) ?_
        try simp only [if_pos c18, if_pos c20] at h
        refine sj_fg [0, 1, 2, 3, 4] ?_
        exact t_X12_holdsFor_162 h
  replace h := h.2.2.2.2 e30_0 e30_1 e30_2 e30_3
  refine sj_tableOut (tgt := 163) dX12_holdsFor_30 (sj_sw 4 (by decide) (fun k hk => by rcases (by omega : k = 0 ∨ k = 1 ∨ k = 2 ∨ k = 3) with e9 | e9 | e9 | e9 <;> subst e9 <;> assumption)) (by decide) ?_
  refine sj_iconst (v := (nI 1)) dX12_holdsFor_163 (by decide +kernel) ?_
  subst h
  exact sj_ret dX12_holdsFor_164 rfl rfl
theorem c_X12_holdsFor {G : sj_G} (ok : sj_ok G) {R : sj_R} {x1 : Int32} {x2 : Int32} {σ : sj_S} (h : wp_X12_holdsFor_0 G R x1 x2 σ) : sj_C G 4 me_X12_holdsFor [.ref (sj_ad G 56), .int x1, .int x2] σ R :=
  sj_enter ok (by decide +kernel) rfl rfl (Nat.le_of_ble_eq_true rfl) (by simp [Value.category]) (t_X12_holdsFor_0 h)
def wp_X12_holdsForTwo_97 (G : sj_G) (R : sj_R) (s0 : Int32) (σ : sj_S) : Prop := R = (.ok s0, σ) ∧ (s0 = nI 0 ∨ s0 = nI 1)
set_option maxRecDepth 20000 in
theorem t_X12_holdsForTwo_97 {G : sj_G} {R : sj_R} {s0 : Int32} {σ : sj_S} (h : wp_X12_holdsForTwo_97 G R s0 σ) : sj_J G 2 me_X12_holdsForTwo R 97 [.null, .null, .null, .null, .null] σ [.int s0] := by
  unfold wp_X12_holdsForTwo_97 at h
  obtain ⟨h, hz⟩ := h
  subst h
  exact sj_ret dX12_holdsForTwo_97 rfl (sj_nb hz)
def wp_X12_holdsForTwo_0 (G : sj_G) (R : sj_R) (x1 : Int32) (σ : sj_S) : Prop := vp_in ((nI 57) + x1) 128 ∧ vp_in (σ 57 ((nI 57) + x1).toNatClampNeg) 9 ∧ vp_in ((nI 69) + x1) 128 ∧ vp_in (σ 57 ((nI 69) + x1).toNatClampNeg) 9 ∧ vp_in ((nI 45) + x1) 128 ∧ (wp_X12_holdsForTwo_97 G R (if (σ 57 ((nI 45) + x1).toNatClampNeg) = (nI 4) then (if ((σ 59 (σ 57 ((nI 57) + x1).toNatClampNeg).toNatClampNeg) / (nI 4)) = ((σ 59 (σ 57 ((nI 69) + x1).toNatClampNeg).toNatClampNeg) / (nI 4)) then (nI 1) else (nI 0)) else (if (σ 57 ((nI 45) + x1).toNatClampNeg) = (nI 5) then (if ((σ 59 (σ 57 ((nI 57) + x1).toNatClampNeg).toNatClampNeg) / (nI 4)) = ((σ 59 (σ 57 ((nI 69) + x1).toNatClampNeg).toNatClampNeg) / (nI 4)) then (nI 0) else (nI 1)) else (if (σ 59 (σ 57 ((nI 69) + x1).toNatClampNeg).toNatClampNeg) ≤ (σ 59 (σ 57 ((nI 57) + x1).toNatClampNeg).toNatClampNeg) then (nI 0) else (nI 1)))) σ)
set_option maxRecDepth 20000 in
theorem t_X12_holdsForTwo_0 {G : sj_G} {R : sj_R} {x1 : Int32} {σ : sj_S} (h : wp_X12_holdsForTwo_0 G R x1 σ) : sj_J G 2 me_X12_holdsForTwo R 0 [.ref (sj_ad G 56), .int x1, .null, .null, .null] σ [] := by
  unfold wp_X12_holdsForTwo_0 at h
  refine sj_aload_n dX12_holdsForTwo_0 (i := 0) rfl rfl ?_
  refine sj_get (a := 56) (k9 := 4) (v := .ref (sj_ad G 59)) dX12_holdsForTwo_1 (by decide +kernel) rfl ?_
  refine sj_aload_n dX12_holdsForTwo_4 (i := 0) rfl rfl ?_
  refine sj_get (a := 56) (k9 := 1) (v := .ref (sj_ad G 57)) dX12_holdsForTwo_5 (by decide +kernel) rfl ?_
  refine sj_bipush (v := (nI 57)) dX12_holdsForTwo_8 (by decide +kernel) ?_
  refine sj_iload_n dX12_holdsForTwo_10 (i := 1) rfl rfl ?_
  refine sj_iadd dX12_holdsForTwo_11 ?_
  obtain ⟨b1, h⟩ := h
  refine sj_iald (a := 57) (j := ((nI 57) + x1).toNatClampNeg) (x := (σ 57 ((nI 57) + x1).toNatClampNeg)) dX12_holdsForTwo_12 rfl (by decide +kernel) b1 rfl rfl ?_
  obtain ⟨b2, h⟩ := h
  refine sj_iald (a := 59) (j := (σ 57 ((nI 57) + x1).toNatClampNeg).toNatClampNeg) (x := (σ 59 (σ 57 ((nI 57) + x1).toNatClampNeg).toNatClampNeg)) dX12_holdsForTwo_13 rfl (by decide +kernel) b2 rfl rfl ?_
  refine sj_istore_n dX12_holdsForTwo_14 (i := 2) rfl (by decide) ?_
  refine sj_aload_n dX12_holdsForTwo_15 (i := 0) rfl rfl ?_
  refine sj_get (a := 56) (k9 := 4) (v := .ref (sj_ad G 59)) dX12_holdsForTwo_16 (by decide +kernel) rfl ?_
  refine sj_aload_n dX12_holdsForTwo_19 (i := 0) rfl rfl ?_
  refine sj_get (a := 56) (k9 := 1) (v := .ref (sj_ad G 57)) dX12_holdsForTwo_20 (by decide +kernel) rfl ?_
  refine sj_bipush (v := (nI 69)) dX12_holdsForTwo_23 (by decide +kernel) ?_
  refine sj_iload_n dX12_holdsForTwo_25 (i := 1) rfl rfl ?_
  refine sj_iadd dX12_holdsForTwo_26 ?_
  obtain ⟨b3, h⟩ := h
  refine sj_iald (a := 57) (j := ((nI 69) + x1).toNatClampNeg) (x := (σ 57 ((nI 69) + x1).toNatClampNeg)) dX12_holdsForTwo_27 rfl (by decide +kernel) b3 rfl rfl ?_
  obtain ⟨b4, h⟩ := h
  refine sj_iald (a := 59) (j := (σ 57 ((nI 69) + x1).toNatClampNeg).toNatClampNeg) (x := (σ 59 (σ 57 ((nI 69) + x1).toNatClampNeg).toNatClampNeg)) dX12_holdsForTwo_28 rfl (by decide +kernel) b4 rfl rfl ?_
  refine sj_istore_n dX12_holdsForTwo_29 (i := 3) rfl (by decide) ?_
  refine sj_aload_n dX12_holdsForTwo_30 (i := 0) rfl rfl ?_
  refine sj_get (a := 56) (k9 := 1) (v := .ref (sj_ad G 57)) dX12_holdsForTwo_31 (by decide +kernel) rfl ?_
  refine sj_bipush (v := (nI 45)) dX12_holdsForTwo_34 (by decide +kernel) ?_
  refine sj_iload_n dX12_holdsForTwo_36 (i := 1) rfl rfl ?_
  refine sj_iadd dX12_holdsForTwo_37 ?_
  obtain ⟨b5, h⟩ := h
  refine sj_iald (a := 57) (j := ((nI 45) + x1).toNatClampNeg) (x := (σ 57 ((nI 45) + x1).toNatClampNeg)) dX12_holdsForTwo_38 rfl (by decide +kernel) b5 rfl rfl ?_
  refine sj_istore dX12_holdsForTwo_39 (by decide) ?_
  refine sj_iload dX12_holdsForTwo_41 rfl ?_
  refine sj_iconst (v := (nI 4)) dX12_holdsForTwo_43 (by decide +kernel) ?_
  refine sj_icmp_ne (tgt := 64) dX12_holdsForTwo_44 (by decide) (fun c6 => ?_) (fun c6 => ?_)
  · refine sj_iload dX12_holdsForTwo_64 rfl ?_
    refine sj_iconst (v := (nI 5)) dX12_holdsForTwo_66 (by decide +kernel) ?_
    refine sj_icmp_ne (tgt := 87) dX12_holdsForTwo_67 (by decide) (fun c7 => ?_) (fun c7 => ?_)
    · refine sj_iload_n dX12_holdsForTwo_87 (i := 2) rfl rfl ?_
      refine sj_iload_n dX12_holdsForTwo_88 (i := 3) rfl rfl ?_
      refine sj_icmp_ge (tgt := 96) dX12_holdsForTwo_89 (by decide) (fun c8 => ?_) (fun c8 => ?_)
      · refine sj_iconst (v := (nI 0)) dX12_holdsForTwo_96 (by decide +kernel) ?_
        try simp only [if_neg c6, if_neg c7, if_pos c8] at h
        refine sj_fg [0, 1, 2, 3, 4] ?_
        exact t_X12_holdsForTwo_97 h
      · refine sj_iconst (v := (nI 1)) dX12_holdsForTwo_92 (by decide +kernel) ?_
        refine sj_goto (tgt := 97) dX12_holdsForTwo_93 (by decide) ?_
        try simp only [if_neg c6, if_neg c7, if_neg c8] at h
        refine sj_fg [0, 1, 2, 3, 4] ?_
        exact t_X12_holdsForTwo_97 h
    · refine sj_iload_n dX12_holdsForTwo_70 (i := 2) rfl rfl ?_
      refine sj_iconst (v := (nI 4)) dX12_holdsForTwo_71 (by decide +kernel) ?_
      refine sj_idiv dX12_holdsForTwo_72 (by decide +kernel) ?_
      refine sj_iload_n dX12_holdsForTwo_73 (i := 3) rfl rfl ?_
      refine sj_iconst (v := (nI 4)) dX12_holdsForTwo_74 (by decide +kernel) ?_
      refine sj_idiv dX12_holdsForTwo_75 (by decide +kernel) ?_
      refine sj_icmp_eq (tgt := 83) dX12_holdsForTwo_76 (by decide) (fun c9 => ?_) (fun c9 => ?_)
      · refine sj_iconst (v := (nI 0)) dX12_holdsForTwo_83 (by decide +kernel) ?_
        refine sj_goto (tgt := 97) dX12_holdsForTwo_84 (by decide) ?_
        try simp only [if_neg c6, if_pos c7, if_pos c9] at h
        refine sj_fg [0, 1, 2, 3, 4] ?_
        exact t_X12_holdsForTwo_97 h
      · refine sj_iconst (v := (nI 1)) dX12_holdsForTwo_79 (by decide +kernel) ?_
        refine sj_goto (tgt := 97) dX12_holdsForTwo_80 (by decide) ?_
        try simp only [if_neg c6, if_pos c7, if_neg c9] at h
        refine sj_fg [0, 1, 2, 3, 4] ?_
        exact t_X12_holdsForTwo_97 h
  · refine sj_iload_n dX12_holdsForTwo_47 (i := 2) rfl rfl ?_
    refine sj_iconst (v := (nI 4)) dX12_holdsForTwo_48 (by decide +kernel) ?_
    refine sj_idiv dX12_holdsForTwo_49 (by decide +kernel) ?_
    refine sj_iload_n dX12_holdsForTwo_50 (i := 3) rfl rfl ?_
    refine sj_iconst (v := (nI 4)) dX12_holdsForTwo_51 (by decide +kernel) ?_
    refine sj_idiv dX12_holdsForTwo_52 (by decide +kernel) ?_
    refine sj_icmp_ne (tgt := 60) dX12_holdsForTwo_53 (by decide) (fun c10 => ?_) (fun c10 => ?_)
    · refine sj_iconst (v := (nI 0)) dX12_holdsForTwo_60 (by decide +kernel) ?_
      refine sj_goto (tgt := 97) dX12_holdsForTwo_61 (by decide) ?_
      try simp only [if_pos c6, if_neg c10] at h
      refine sj_fg [0, 1, 2, 3, 4] ?_
      exact t_X12_holdsForTwo_97 h
    · refine sj_iconst (v := (nI 1)) dX12_holdsForTwo_56 (by decide +kernel) ?_
      refine sj_goto (tgt := 97) dX12_holdsForTwo_57 (by decide) ?_
      try simp only [if_pos c6, if_pos c10] at h
      refine sj_fg [0, 1, 2, 3, 4] ?_
      exact t_X12_holdsForTwo_97 h
theorem c_X12_holdsForTwo {G : sj_G} (ok : sj_ok G) {R : sj_R} {x1 : Int32} {σ : sj_S} (h : wp_X12_holdsForTwo_0 G R x1 σ) : sj_C G 2 me_X12_holdsForTwo [.ref (sj_ad G 56), .int x1] σ R :=
  sj_enter ok (by decide +kernel) rfl rfl (Nat.le_of_ble_eq_true rfl) (by simp [Value.category]) (t_X12_holdsForTwo_0 h)
def wp_X12_holdsNow_24 (G : sj_G) (R : sj_R) (x1 : Int32) (x2 : Int32) (σ : sj_S) : Prop := ∃ v1 σ1, sj_C G 2 me_X12_many [.ref (sj_ad G 56)] σ (.ok v1, σ1) ∧ (v1 ≤ x2 → R = (.ok (nI 1), σ1)) ∧ (¬ (v1 ≤ x2) → ∃ v3 σ3, sj_C G 4 me_X12_holdsFor [.ref (sj_ad G 56), .int x1, .int x2] σ1 (.ok v3, σ3) ∧ (¬ v3 = 0 → sj_J G 5 me_X12_holdsNow R 24 [.ref (sj_ad G 56), .int x1, .int (x2 + (nI 1))] σ3 []) ∧ (v3 = 0 → R = (.ok (nI 0), σ3)))
set_option maxRecDepth 20000 in
theorem t_X12_holdsNow_24 {G : sj_G} {R : sj_R} {x1 : Int32} {x2 : Int32} {σ : sj_S} (h : wp_X12_holdsNow_24 G R x1 x2 σ) : sj_J G 5 me_X12_holdsNow R 24 [.ref (sj_ad G 56), .int x1, .int x2] σ [] := by
  unfold wp_X12_holdsNow_24 at h
  refine sj_iload_n dX12_holdsNow_24 (i := 2) rfl rfl ?_
  refine sj_aload_n dX12_holdsNow_25 (i := 0) rfl rfl ?_
  obtain ⟨v1, σ1, hc1, h⟩ := h
  refine sj_callVi (M' := me_X12_many) (b := 56) (As := []) (rest := [.int x2]) dX12_holdsNow_26 gX12_holdsNow_X12_many rfl hd_X12_many (by decide +kernel) (by decide +kernel) rfl (Nat.le_of_ble_eq_true rfl) (by omega) rfl hc1 ?_
  refine sj_icmp_ge (tgt := 49) dX12_holdsNow_29 (by decide) (fun c2 => ?_) (fun c2 => ?_)
  · replace h := h.1 c2
    refine sj_iconst (v := (nI 1)) dX12_holdsNow_49 (by decide +kernel) ?_
    subst h
    exact sj_ret dX12_holdsNow_50 rfl rfl
  · replace h := h.2 c2
    refine sj_aload_n dX12_holdsNow_32 (i := 0) rfl rfl ?_
    refine sj_iload_n dX12_holdsNow_33 (i := 1) rfl rfl ?_
    refine sj_iload_n dX12_holdsNow_34 (i := 2) rfl rfl ?_
    obtain ⟨v3, σ3, hc3, h⟩ := h
    refine sj_callVi (M' := me_X12_holdsFor) (b := 56) (As := [.int x1, .int x2]) (rest := []) dX12_holdsNow_35 gX12_holdsNow_X12_holdsFor rfl hd_X12_holdsFor (by decide +kernel) (by decide +kernel) rfl (Nat.le_of_ble_eq_true rfl) (by omega) rfl hc3 ?_
    refine sj_if_ne (tgt := 43) dX12_holdsNow_38 (by decide) (fun c4 => ?_) (fun c4 => ?_)
    · replace h := h.1 c4
      refine sj_iinc (v := (x2 + (nI 1))) dX12_holdsNow_43 (by decide) rfl rfl ?_
      refine sj_goto (tgt := 24) dX12_holdsNow_46 (by decide) ?_
      exact h
    · replace h := h.2 c4
      refine sj_iconst (v := (nI 0)) dX12_holdsNow_41 (by decide +kernel) ?_
      subst h
      exact sj_ret dX12_holdsNow_42 rfl rfl
def wp_X12_holdsNow_0 (G : sj_G) (R : sj_R) (x1 : Int32) (σ : sj_S) : Prop := vp_in ((nI 45) + x1) 128 ∧ ∃ v2 σ2, sj_C G 2 me_X12_isOfTwo [.ref (sj_ad G 56), .int (σ 57 ((nI 45) + x1).toNatClampNeg)] σ (.ok v2, σ2) ∧ (v2 = 0 → sj_J G 5 me_X12_holdsNow R 24 [.ref (sj_ad G 56), .int x1, .int (nI 0)] σ2 []) ∧ (¬ (v2 = 0) → ∃ v4 σ4, sj_C G 2 me_X12_holdsForTwo [.ref (sj_ad G 56), .int x1] σ2 (.ok v4, σ4) ∧ R = (.ok v4, σ4) ∧ (v4 = nI 0 ∨ v4 = nI 1))
set_option maxRecDepth 20000 in
theorem t_X12_holdsNow_0 {G : sj_G} {R : sj_R} {x1 : Int32} {σ : sj_S} (h : wp_X12_holdsNow_0 G R x1 σ) : sj_J G 5 me_X12_holdsNow R 0 [.ref (sj_ad G 56), .int x1, .null] σ [] := by
  unfold wp_X12_holdsNow_0 at h
  refine sj_aload_n dX12_holdsNow_0 (i := 0) rfl rfl ?_
  refine sj_aload_n dX12_holdsNow_1 (i := 0) rfl rfl ?_
  refine sj_get (a := 56) (k9 := 1) (v := .ref (sj_ad G 57)) dX12_holdsNow_2 (by decide +kernel) rfl ?_
  refine sj_bipush (v := (nI 45)) dX12_holdsNow_5 (by decide +kernel) ?_
  refine sj_iload_n dX12_holdsNow_7 (i := 1) rfl rfl ?_
  refine sj_iadd dX12_holdsNow_8 ?_
  obtain ⟨b1, h⟩ := h
  refine sj_iald (a := 57) (j := ((nI 45) + x1).toNatClampNeg) (x := (σ 57 ((nI 45) + x1).toNatClampNeg)) dX12_holdsNow_9 rfl (by decide +kernel) b1 rfl rfl ?_
  obtain ⟨v2, σ2, hc2, h⟩ := h
  refine sj_callVi (M' := me_X12_isOfTwo) (b := 56) (As := [.int (σ 57 ((nI 45) + x1).toNatClampNeg)]) (rest := []) dX12_holdsNow_10 gX12_holdsNow_X12_isOfTwo rfl hd_X12_isOfTwo (by decide +kernel) (by decide +kernel) rfl (Nat.le_of_ble_eq_true rfl) (by omega) rfl hc2 ?_
  refine sj_if_eq (tgt := 22) dX12_holdsNow_13 (by decide) (fun c3 => ?_) (fun c3 => ?_)
  · replace h := h.1 c3
    refine sj_iconst (v := (nI 0)) dX12_holdsNow_22 (by decide +kernel) ?_
    refine sj_istore_n dX12_holdsNow_23 (i := 2) rfl (by decide) ?_
    exact h
  · replace h := h.2 c3
    refine sj_aload_n dX12_holdsNow_16 (i := 0) rfl rfl ?_
    refine sj_iload_n dX12_holdsNow_17 (i := 1) rfl rfl ?_
    obtain ⟨v4, σ4, hc4, h⟩ := h
    refine sj_callVi (M' := me_X12_holdsForTwo) (b := 56) (As := [.int x1]) (rest := []) dX12_holdsNow_18 gX12_holdsNow_X12_holdsForTwo rfl hd_X12_holdsForTwo (by decide +kernel) (by decide +kernel) rfl (Nat.le_of_ble_eq_true rfl) (by omega) rfl hc4 ?_
    obtain ⟨h, hz⟩ := h
    subst h
    exact sj_ret dX12_holdsNow_21 rfl (sj_nb hz)
theorem c_X12_holdsNow {G : sj_G} (ok : sj_ok G) {R : sj_R} {x1 : Int32} {σ : sj_S} (h : wp_X12_holdsNow_0 G R x1 σ) : sj_C G 5 me_X12_holdsNow [.ref (sj_ad G 56), .int x1] σ R :=
  sj_enter ok (by decide +kernel) rfl rfl (Nat.le_of_ble_eq_true rfl) (by simp [Value.category]) (t_X12_holdsNow_0 h)
def wp_X12_isHard_26 (G : sj_G) (R : sj_R) (s0 : Int32) (σ : sj_S) : Prop := R = (.ok s0, σ) ∧ (s0 = nI 0 ∨ s0 = nI 1)
set_option maxRecDepth 20000 in
theorem t_X12_isHard_26 {G : sj_G} {R : sj_R} {s0 : Int32} {σ : sj_S} (h : wp_X12_isHard_26 G R s0 σ) : sj_J G 2 me_X12_isHard R 26 [.null, .null] σ [.int s0] := by
  unfold wp_X12_isHard_26 at h
  obtain ⟨h, hz⟩ := h
  subst h
  exact sj_ret dX12_isHard_26 rfl (sj_nb hz)
def wp_X12_isHard_0 (G : sj_G) (R : sj_R) (x1 : Int32) (σ : sj_S) : Prop := vp_in ((nI 81) + x1) 128 ∧ (((σ 57 ((nI 81) + x1).toNatClampNeg) = 0) → vp_in x1 12) ∧ (wp_X12_isHard_26 G R (if (σ 57 ((nI 81) + x1).toNatClampNeg) = 0 then (if (σ 60 x1.toNatClampNeg) = 0 then (nI 1) else (nI 0)) else (nI 0)) σ)
set_option maxRecDepth 20000 in
theorem t_X12_isHard_0 {G : sj_G} {R : sj_R} {x1 : Int32} {σ : sj_S} (h : wp_X12_isHard_0 G R x1 σ) : sj_J G 2 me_X12_isHard R 0 [.ref (sj_ad G 56), .int x1] σ [] := by
  unfold wp_X12_isHard_0 at h
  refine sj_aload_n dX12_isHard_0 (i := 0) rfl rfl ?_
  refine sj_get (a := 56) (k9 := 1) (v := .ref (sj_ad G 57)) dX12_isHard_1 (by decide +kernel) rfl ?_
  refine sj_bipush (v := (nI 81)) dX12_isHard_4 (by decide +kernel) ?_
  refine sj_iload_n dX12_isHard_6 (i := 1) rfl rfl ?_
  refine sj_iadd dX12_isHard_7 ?_
  obtain ⟨b1, h⟩ := h
  refine sj_iald (a := 57) (j := ((nI 81) + x1).toNatClampNeg) (x := (σ 57 ((nI 81) + x1).toNatClampNeg)) dX12_isHard_8 rfl (by decide +kernel) b1 rfl rfl ?_
  obtain ⟨f5, h⟩ := h
  refine sj_if_ne (tgt := 25) dX12_isHard_9 (by decide) (fun c2 => ?_) (fun c2 => ?_)
  · refine sj_iconst (v := (nI 0)) dX12_isHard_25 (by decide +kernel) ?_
    try simp only [if_neg c2] at h
    refine sj_fg [0, 1] ?_
    exact t_X12_isHard_26 h
  · have b3 := f5 c2
    refine sj_aload_n dX12_isHard_12 (i := 0) rfl rfl ?_
    refine sj_get (a := 56) (k9 := 5) (v := .ref (sj_ad G 60)) dX12_isHard_13 (by decide +kernel) rfl ?_
    refine sj_iload_n dX12_isHard_16 (i := 1) rfl rfl ?_
    refine sj_zald (a := 60) (j := x1.toNatClampNeg) (x := (σ 60 x1.toNatClampNeg)) dX12_isHard_17 rfl (by decide +kernel) b3 rfl rfl ?_
    refine sj_if_ne (tgt := 25) dX12_isHard_18 (by decide) (fun c4 => ?_) (fun c4 => ?_)
    · refine sj_iconst (v := (nI 0)) dX12_isHard_25 (by decide +kernel) ?_
      try simp only [if_pos c2, if_neg c4] at h
      refine sj_fg [0, 1] ?_
      exact t_X12_isHard_26 h
    · refine sj_iconst (v := (nI 1)) dX12_isHard_21 (by decide +kernel) ?_
      refine sj_goto (tgt := 26) dX12_isHard_22 (by decide) ?_
      try simp only [if_pos c2, if_pos c4] at h
      refine sj_fg [0, 1] ?_
      exact t_X12_isHard_26 h
theorem c_X12_isHard {G : sj_G} (ok : sj_ok G) {R : sj_R} {x1 : Int32} {σ : sj_S} (h : wp_X12_isHard_0 G R x1 σ) : sj_C G 2 me_X12_isHard [.ref (sj_ad G 56), .int x1] σ R :=
  sj_enter ok (by decide +kernel) rfl rfl (Nat.le_of_ble_eq_true rfl) (by simp [Value.category]) (t_X12_isHard_0 h)
def wp_X12_canStand_22 (G : sj_G) (R : sj_R) (x1 : Int32) (σ : sj_S) : Prop := sj_J G 5 me_X12_canStand R 24 [.ref (sj_ad G 56), .int x1, .int (nI 0)] σ []
set_option maxRecDepth 20000 in
theorem t_X12_canStand_22 {G : sj_G} {R : sj_R} {x1 : Int32} {σ : sj_S} (h : wp_X12_canStand_22 G R x1 σ) : sj_J G 5 me_X12_canStand R 22 [.ref (sj_ad G 56), .int x1, .null] σ [] := by
  unfold wp_X12_canStand_22 at h
  refine sj_iconst (v := (nI 0)) dX12_canStand_22 (by decide +kernel) ?_
  refine sj_istore_n dX12_canStand_23 (i := 2) rfl (by decide) ?_
  exact h
def wp_X12_canStand_70 (G : sj_G) (R : sj_R) (x1 : Int32) (x2 : Int32) (σ : sj_S) : Prop := sj_J G 5 me_X12_canStand R 24 [.ref (sj_ad G 56), .int x1, .int (x2 + (nI 1))] σ []
set_option maxRecDepth 20000 in
theorem t_X12_canStand_70 {G : sj_G} {R : sj_R} {x1 : Int32} {x2 : Int32} {σ : sj_S} (h : wp_X12_canStand_70 G R x1 x2 σ) : sj_J G 5 me_X12_canStand R 70 [.ref (sj_ad G 56), .int x1, .int x2] σ [] := by
  unfold wp_X12_canStand_70 at h
  refine sj_iinc (v := (x2 + (nI 1))) dX12_canStand_70 (by decide) rfl rfl ?_
  refine sj_goto (tgt := 24) dX12_canStand_73 (by decide) ?_
  exact h
def wp_X12_canStand_24 (G : sj_G) (R : sj_R) (x1 : Int32) (x2 : Int32) (σ : sj_S) : Prop := ((σ 57 126) ≤ x2 → R = (.ok (nI 1), σ)) ∧ (¬ ((σ 57 126) ≤ x2) → ∃ v2 σ2, sj_C G 2 me_X12_isHard [.ref (sj_ad G 56), .int x2] σ (.ok v2, σ2) ∧ (v2 = 0 → (wp_X12_canStand_70 G R x1 x2 σ2)) ∧ (¬ (v2 = 0) → vp_in ((nI 45) + x2) 128 ∧ ∃ v5 σ5, sj_C G 2 me_X12_isOfTwo [.ref (sj_ad G 56), .int (σ2 57 ((nI 45) + x2).toNatClampNeg)] σ2 (.ok v5, σ5) ∧ (¬ v5 = 0 → (wp_X12_canStand_70 G R x1 x2 σ5)) ∧ (v5 = 0 → ∃ v7 σ7, sj_C G 4 me_X12_holdsFor [.ref (sj_ad G 56), .int x2, .int x1] σ5 (.ok v7, σ7) ∧ (¬ v7 = 0 → (wp_X12_canStand_70 G R x1 x2 σ7)) ∧ (v7 = 0 → R = (.ok (nI 0), σ7)))))
set_option maxRecDepth 20000 in
theorem t_X12_canStand_24 {G : sj_G} {R : sj_R} {x1 : Int32} {x2 : Int32} {σ : sj_S} (h : wp_X12_canStand_24 G R x1 x2 σ) : sj_J G 5 me_X12_canStand R 24 [.ref (sj_ad G 56), .int x1, .int x2] σ [] := by
  unfold wp_X12_canStand_24 at h
  refine sj_iload_n dX12_canStand_24 (i := 2) rfl rfl ?_
  refine sj_aload_n dX12_canStand_25 (i := 0) rfl rfl ?_
  refine sj_get (a := 56) (k9 := 1) (v := .ref (sj_ad G 57)) dX12_canStand_26 (by decide +kernel) rfl ?_
  refine sj_bipush (v := (nI 126)) dX12_canStand_29 (by decide +kernel) ?_
  refine sj_iald (a := 57) (j := 126) (x := (σ 57 126)) dX12_canStand_31 rfl (by decide +kernel) (vp_in_nI (by decide) (by decide)) (nI_clamp (by decide)) rfl ?_
  refine sj_icmp_ge (tgt := 76) dX12_canStand_32 (by decide) (fun c1 => ?_) (fun c1 => ?_)
  · replace h := h.1 c1
    refine sj_iconst (v := (nI 1)) dX12_canStand_76 (by decide +kernel) ?_
    subst h
    exact sj_ret dX12_canStand_77 rfl rfl
  · replace h := h.2 c1
    refine sj_aload_n dX12_canStand_35 (i := 0) rfl rfl ?_
    refine sj_iload_n dX12_canStand_36 (i := 2) rfl rfl ?_
    obtain ⟨v2, σ2, hc2, h⟩ := h
    refine sj_callVi (M' := me_X12_isHard) (b := 56) (As := [.int x2]) (rest := []) dX12_canStand_37 gX12_canStand_X12_isHard rfl hd_X12_isHard (by decide +kernel) (by decide +kernel) rfl (Nat.le_of_ble_eq_true rfl) (by omega) rfl hc2 ?_
    refine sj_if_eq (tgt := 70) dX12_canStand_40 (by decide) (fun c3 => ?_) (fun c3 => ?_)
    · replace h := h.1 c3
      exact t_X12_canStand_70 h
    · replace h := h.2 c3
      refine sj_aload_n dX12_canStand_43 (i := 0) rfl rfl ?_
      refine sj_aload_n dX12_canStand_44 (i := 0) rfl rfl ?_
      refine sj_get (a := 56) (k9 := 1) (v := .ref (sj_ad G 57)) dX12_canStand_45 (by decide +kernel) rfl ?_
      refine sj_bipush (v := (nI 45)) dX12_canStand_48 (by decide +kernel) ?_
      refine sj_iload_n dX12_canStand_50 (i := 2) rfl rfl ?_
      refine sj_iadd dX12_canStand_51 ?_
      obtain ⟨b4, h⟩ := h
      refine sj_iald (a := 57) (j := ((nI 45) + x2).toNatClampNeg) (x := (σ2 57 ((nI 45) + x2).toNatClampNeg)) dX12_canStand_52 rfl (by decide +kernel) b4 rfl rfl ?_
      obtain ⟨v5, σ5, hc5, h⟩ := h
      refine sj_callVi (M' := me_X12_isOfTwo) (b := 56) (As := [.int (σ2 57 ((nI 45) + x2).toNatClampNeg)]) (rest := []) dX12_canStand_53 gX12_canStand_X12_isOfTwo rfl hd_X12_isOfTwo (by decide +kernel) (by decide +kernel) rfl (Nat.le_of_ble_eq_true rfl) (by omega) rfl hc5 ?_
      refine sj_if_ne (tgt := 70) dX12_canStand_56 (by decide) (fun c6 => ?_) (fun c6 => ?_)
      · replace h := h.1 c6
        exact t_X12_canStand_70 h
      · replace h := h.2 c6
        refine sj_aload_n dX12_canStand_59 (i := 0) rfl rfl ?_
        refine sj_iload_n dX12_canStand_60 (i := 2) rfl rfl ?_
        refine sj_iload_n dX12_canStand_61 (i := 1) rfl rfl ?_
        obtain ⟨v7, σ7, hc7, h⟩ := h
        refine sj_callVi (M' := me_X12_holdsFor) (b := 56) (As := [.int x2, .int x1]) (rest := []) dX12_canStand_62 gX12_canStand_X12_holdsFor rfl hd_X12_holdsFor (by decide +kernel) (by decide +kernel) rfl (Nat.le_of_ble_eq_true rfl) (by omega) rfl hc7 ?_
        refine sj_if_ne (tgt := 70) dX12_canStand_65 (by decide) (fun c8 => ?_) (fun c8 => ?_)
        · replace h := h.1 c8
          exact t_X12_canStand_70 h
        · replace h := h.2 c8
          refine sj_iconst (v := (nI 0)) dX12_canStand_68 (by decide +kernel) ?_
          subst h
          exact sj_ret dX12_canStand_69 rfl rfl
def wp_X12_canStand_0 (G : sj_G) (R : sj_R) (x1 : Int32) (σ : sj_S) : Prop := ∃ v1 σ1, sj_C G 2 me_X12_isDouble [.ref (sj_ad G 56), .int x1] σ (.ok v1, σ1) ∧ (v1 = 0 → (wp_X12_canStand_22 G R x1 σ1)) ∧ (¬ (v1 = 0) → vp_in x1 9 ∧ (¬ ((σ1 59 x1.toNatClampNeg) - (σ1 59 x1.toNatClampNeg) / (nI 4) * (nI 4)) = (nI 3) → (wp_X12_canStand_22 G R x1 σ1)) ∧ (((σ1 59 x1.toNatClampNeg) - (σ1 59 x1.toNatClampNeg) / (nI 4) * (nI 4)) = (nI 3) → R = (.ok (nI 0), σ1)))
set_option maxRecDepth 20000 in
theorem t_X12_canStand_0 {G : sj_G} {R : sj_R} {x1 : Int32} {σ : sj_S} (h : wp_X12_canStand_0 G R x1 σ) : sj_J G 5 me_X12_canStand R 0 [.ref (sj_ad G 56), .int x1, .null] σ [] := by
  unfold wp_X12_canStand_0 at h
  refine sj_aload_n dX12_canStand_0 (i := 0) rfl rfl ?_
  refine sj_iload_n dX12_canStand_1 (i := 1) rfl rfl ?_
  obtain ⟨v1, σ1, hc1, h⟩ := h
  refine sj_callVi (M' := me_X12_isDouble) (b := 56) (As := [.int x1]) (rest := []) dX12_canStand_2 gX12_canStand_X12_isDouble rfl hd_X12_isDouble (by decide +kernel) (by decide +kernel) rfl (Nat.le_of_ble_eq_true rfl) (by omega) rfl hc1 ?_
  refine sj_if_eq (tgt := 22) dX12_canStand_5 (by decide) (fun c2 => ?_) (fun c2 => ?_)
  · replace h := h.1 c2
    exact t_X12_canStand_22 h
  · replace h := h.2 c2
    refine sj_aload_n dX12_canStand_8 (i := 0) rfl rfl ?_
    refine sj_get (a := 56) (k9 := 4) (v := .ref (sj_ad G 59)) dX12_canStand_9 (by decide +kernel) rfl ?_
    refine sj_iload_n dX12_canStand_12 (i := 1) rfl rfl ?_
    obtain ⟨b3, h⟩ := h
    refine sj_iald (a := 59) (j := x1.toNatClampNeg) (x := (σ1 59 x1.toNatClampNeg)) dX12_canStand_13 rfl (by decide +kernel) b3 rfl rfl ?_
    refine sj_iconst (v := (nI 4)) dX12_canStand_14 (by decide +kernel) ?_
    refine sj_irem dX12_canStand_15 (by decide +kernel) ?_
    refine sj_iconst (v := (nI 3)) dX12_canStand_16 (by decide +kernel) ?_
    refine sj_icmp_ne (tgt := 22) dX12_canStand_17 (by decide) (fun c4 => ?_) (fun c4 => ?_)
    · replace h := h.1 c4
      exact t_X12_canStand_22 h
    · replace h := h.2 c4
      refine sj_iconst (v := (nI 0)) dX12_canStand_20 (by decide +kernel) ?_
      subst h
      exact sj_ret dX12_canStand_21 rfl rfl
theorem c_X12_canStand {G : sj_G} (ok : sj_ok G) {R : sj_R} {x1 : Int32} {σ : sj_S} (h : wp_X12_canStand_0 G R x1 σ) : sj_C G 5 me_X12_canStand [.ref (sj_ad G 56), .int x1] σ R :=
  sj_enter ok (by decide +kernel) rfl rfl (Nat.le_of_ble_eq_true rfl) (by simp [Value.category]) (t_X12_canStand_0 h)
def wp_X12_canStandBoth_107 (G : sj_G) (R : sj_R) (x1 : Int32) (x2 : Int32) (σ : sj_S) : Prop := sj_J G 5 me_X12_canStandBoth R 110 [.ref (sj_ad G 56), .int x1, .int x2, .null, .int (nI 0), .null] σ []
set_option maxRecDepth 20000 in
theorem t_X12_canStandBoth_107 {G : sj_G} {R : sj_R} {x1 : Int32} {x2 : Int32} {σ : sj_S} (h : wp_X12_canStandBoth_107 G R x1 x2 σ) : sj_J G 5 me_X12_canStandBoth R 107 [.ref (sj_ad G 56), .int x1, .int x2, .null, .null, .null] σ [] := by
  unfold wp_X12_canStandBoth_107 at h
  refine sj_iconst (v := (nI 0)) dX12_canStandBoth_107 (by decide +kernel) ?_
  refine sj_istore dX12_canStandBoth_108 (by decide) ?_
  exact h
def wp_X12_canStandBoth_61 (G : sj_G) (R : sj_R) (x1 : Int32) (x2 : Int32) (x3 : Int32) (σ : sj_S) : Prop := (x3 = 0 → (wp_X12_canStandBoth_107 G R x1 x2 σ)) ∧ (¬ (x3 = 0) → vp_in ((nI 18) + x1) 128 ∧ vp_in ((nI 18) + x2) 128 ∧ (¬ (σ 57 ((nI 18) + x1).toNatClampNeg) = (σ 57 ((nI 18) + x2).toNatClampNeg) → (wp_X12_canStandBoth_107 G R x1 x2 σ)) ∧ ((σ 57 ((nI 18) + x1).toNatClampNeg) = (σ 57 ((nI 18) + x2).toNatClampNeg) → vp_in x1 9 ∧ vp_in x2 9 ∧ (¬ ((σ 59 x1.toNatClampNeg) / (nI 4)) = ((σ 59 x2.toNatClampNeg) / (nI 4)) → (wp_X12_canStandBoth_107 G R x1 x2 σ)) ∧ (((σ 59 x1.toNatClampNeg) / (nI 4)) = ((σ 59 x2.toNatClampNeg) / (nI 4)) → R = (.ok (nI 0), σ))))
set_option maxRecDepth 20000 in
theorem t_X12_canStandBoth_61 {G : sj_G} {R : sj_R} {x1 : Int32} {x2 : Int32} {x3 : Int32} {σ : sj_S} (h : wp_X12_canStandBoth_61 G R x1 x2 x3 σ) : sj_J G 5 me_X12_canStandBoth R 61 [.ref (sj_ad G 56), .int x1, .int x2, .int x3, .null, .null] σ [] := by
  unfold wp_X12_canStandBoth_61 at h
  refine sj_iload_n dX12_canStandBoth_61 (i := 3) rfl rfl ?_
  refine sj_if_eq (tgt := 107) dX12_canStandBoth_62 (by decide) (fun c1 => ?_) (fun c1 => ?_)
  · replace h := h.1 c1
    refine sj_fg [3] ?_
    exact t_X12_canStandBoth_107 h
  · replace h := h.2 c1
    refine sj_aload_n dX12_canStandBoth_65 (i := 0) rfl rfl ?_
    refine sj_get (a := 56) (k9 := 1) (v := .ref (sj_ad G 57)) dX12_canStandBoth_66 (by decide +kernel) rfl ?_
    refine sj_bipush (v := (nI 18)) dX12_canStandBoth_69 (by decide +kernel) ?_
    refine sj_iload_n dX12_canStandBoth_71 (i := 1) rfl rfl ?_
    refine sj_iadd dX12_canStandBoth_72 ?_
    obtain ⟨b2, h⟩ := h
    refine sj_iald (a := 57) (j := ((nI 18) + x1).toNatClampNeg) (x := (σ 57 ((nI 18) + x1).toNatClampNeg)) dX12_canStandBoth_73 rfl (by decide +kernel) b2 rfl rfl ?_
    refine sj_aload_n dX12_canStandBoth_74 (i := 0) rfl rfl ?_
    refine sj_get (a := 56) (k9 := 1) (v := .ref (sj_ad G 57)) dX12_canStandBoth_75 (by decide +kernel) rfl ?_
    refine sj_bipush (v := (nI 18)) dX12_canStandBoth_78 (by decide +kernel) ?_
    refine sj_iload_n dX12_canStandBoth_80 (i := 2) rfl rfl ?_
    refine sj_iadd dX12_canStandBoth_81 ?_
    obtain ⟨b3, h⟩ := h
    refine sj_iald (a := 57) (j := ((nI 18) + x2).toNatClampNeg) (x := (σ 57 ((nI 18) + x2).toNatClampNeg)) dX12_canStandBoth_82 rfl (by decide +kernel) b3 rfl rfl ?_
    refine sj_icmp_ne (tgt := 107) dX12_canStandBoth_83 (by decide) (fun c4 => ?_) (fun c4 => ?_)
    · replace h := h.1 c4
      refine sj_fg [3] ?_
      exact t_X12_canStandBoth_107 h
    · replace h := h.2 c4
      refine sj_aload_n dX12_canStandBoth_86 (i := 0) rfl rfl ?_
      refine sj_get (a := 56) (k9 := 4) (v := .ref (sj_ad G 59)) dX12_canStandBoth_87 (by decide +kernel) rfl ?_
      refine sj_iload_n dX12_canStandBoth_90 (i := 1) rfl rfl ?_
      obtain ⟨b5, h⟩ := h
      refine sj_iald (a := 59) (j := x1.toNatClampNeg) (x := (σ 59 x1.toNatClampNeg)) dX12_canStandBoth_91 rfl (by decide +kernel) b5 rfl rfl ?_
      refine sj_iconst (v := (nI 4)) dX12_canStandBoth_92 (by decide +kernel) ?_
      refine sj_idiv dX12_canStandBoth_93 (by decide +kernel) ?_
      refine sj_aload_n dX12_canStandBoth_94 (i := 0) rfl rfl ?_
      refine sj_get (a := 56) (k9 := 4) (v := .ref (sj_ad G 59)) dX12_canStandBoth_95 (by decide +kernel) rfl ?_
      refine sj_iload_n dX12_canStandBoth_98 (i := 2) rfl rfl ?_
      obtain ⟨b6, h⟩ := h
      refine sj_iald (a := 59) (j := x2.toNatClampNeg) (x := (σ 59 x2.toNatClampNeg)) dX12_canStandBoth_99 rfl (by decide +kernel) b6 rfl rfl ?_
      refine sj_iconst (v := (nI 4)) dX12_canStandBoth_100 (by decide +kernel) ?_
      refine sj_idiv dX12_canStandBoth_101 (by decide +kernel) ?_
      refine sj_icmp_ne (tgt := 107) dX12_canStandBoth_102 (by decide) (fun c7 => ?_) (fun c7 => ?_)
      · replace h := h.1 c7
        refine sj_fg [3] ?_
        exact t_X12_canStandBoth_107 h
      · replace h := h.2 c7
        refine sj_iconst (v := (nI 0)) dX12_canStandBoth_105 (by decide +kernel) ?_
        subst h
        exact sj_ret dX12_canStandBoth_106 rfl rfl
def wp_X12_canStandBoth_50 (G : sj_G) (R : sj_R) (x1 : Int32) (x2 : Int32) (x3 : Int32) (σ : sj_S) : Prop := ∃ v1 σ1, sj_C G 4 me_X12_doMeet [.ref (sj_ad G 56), .int x1, .int x2] σ (.ok v1, σ1) ∧ (v1 = 0 → (wp_X12_canStandBoth_61 G R x1 x2 x3 σ1)) ∧ (¬ (v1 = 0) → R = (.ok (nI 0), σ1))
set_option maxRecDepth 20000 in
theorem t_X12_canStandBoth_50 {G : sj_G} {R : sj_R} {x1 : Int32} {x2 : Int32} {x3 : Int32} {σ : sj_S} (h : wp_X12_canStandBoth_50 G R x1 x2 x3 σ) : sj_J G 5 me_X12_canStandBoth R 50 [.ref (sj_ad G 56), .int x1, .int x2, .int x3, .null, .null] σ [] := by
  unfold wp_X12_canStandBoth_50 at h
  refine sj_aload_n dX12_canStandBoth_50 (i := 0) rfl rfl ?_
  refine sj_iload_n dX12_canStandBoth_51 (i := 1) rfl rfl ?_
  refine sj_iload_n dX12_canStandBoth_52 (i := 2) rfl rfl ?_
  obtain ⟨v1, σ1, hc1, h⟩ := h
  refine sj_callVi (M' := me_X12_doMeet) (b := 56) (As := [.int x1, .int x2]) (rest := []) dX12_canStandBoth_53 gX12_canStandBoth_X12_doMeet rfl hd_X12_doMeet (by decide +kernel) (by decide +kernel) rfl (Nat.le_of_ble_eq_true rfl) (by omega) rfl hc1 ?_
  refine sj_if_eq (tgt := 61) dX12_canStandBoth_56 (by decide) (fun c2 => ?_) (fun c2 => ?_)
  · replace h := h.1 c2
    exact t_X12_canStandBoth_61 h
  · replace h := h.2 c2
    refine sj_iconst (v := (nI 0)) dX12_canStandBoth_59 (by decide +kernel) ?_
    subst h
    exact sj_ret dX12_canStandBoth_60 rfl rfl
def wp_X12_canStandBoth_24 (G : sj_G) (R : sj_R) (x1 : Int32) (x2 : Int32) (s0 : Int32) (σ : sj_S) : Prop := (¬ s0 = 0 → (wp_X12_canStandBoth_50 G R x1 x2 s0 σ)) ∧ (s0 = 0 → vp_in ((nI 9) + x1) 128 ∧ vp_in ((nI 9) + x2) 128 ∧ (¬ (σ 57 ((nI 9) + x1).toNatClampNeg) = (σ 57 ((nI 9) + x2).toNatClampNeg) → (wp_X12_canStandBoth_61 G R x1 x2 s0 σ)) ∧ ((σ 57 ((nI 9) + x1).toNatClampNeg) = (σ 57 ((nI 9) + x2).toNatClampNeg) → (wp_X12_canStandBoth_50 G R x1 x2 s0 σ)))
set_option maxRecDepth 20000 in
theorem t_X12_canStandBoth_24 {G : sj_G} {R : sj_R} {x1 : Int32} {x2 : Int32} {s0 : Int32} {σ : sj_S} (h : wp_X12_canStandBoth_24 G R x1 x2 s0 σ) : sj_J G 5 me_X12_canStandBoth R 24 [.ref (sj_ad G 56), .int x1, .int x2, .null, .null, .null] σ [.int s0] := by
  unfold wp_X12_canStandBoth_24 at h
  refine sj_istore_n dX12_canStandBoth_24 (i := 3) rfl (by decide) ?_
  refine sj_iload_n dX12_canStandBoth_25 (i := 3) rfl rfl ?_
  refine sj_if_ne (tgt := 50) dX12_canStandBoth_26 (by decide) (fun c1 => ?_) (fun c1 => ?_)
  · replace h := h.1 c1
    exact t_X12_canStandBoth_50 h
  · replace h := h.2 c1
    refine sj_aload_n dX12_canStandBoth_29 (i := 0) rfl rfl ?_
    refine sj_get (a := 56) (k9 := 1) (v := .ref (sj_ad G 57)) dX12_canStandBoth_30 (by decide +kernel) rfl ?_
    refine sj_bipush (v := (nI 9)) dX12_canStandBoth_33 (by decide +kernel) ?_
    refine sj_iload_n dX12_canStandBoth_35 (i := 1) rfl rfl ?_
    refine sj_iadd dX12_canStandBoth_36 ?_
    obtain ⟨b2, h⟩ := h
    refine sj_iald (a := 57) (j := ((nI 9) + x1).toNatClampNeg) (x := (σ 57 ((nI 9) + x1).toNatClampNeg)) dX12_canStandBoth_37 rfl (by decide +kernel) b2 rfl rfl ?_
    refine sj_aload_n dX12_canStandBoth_38 (i := 0) rfl rfl ?_
    refine sj_get (a := 56) (k9 := 1) (v := .ref (sj_ad G 57)) dX12_canStandBoth_39 (by decide +kernel) rfl ?_
    refine sj_bipush (v := (nI 9)) dX12_canStandBoth_42 (by decide +kernel) ?_
    refine sj_iload_n dX12_canStandBoth_44 (i := 2) rfl rfl ?_
    refine sj_iadd dX12_canStandBoth_45 ?_
    obtain ⟨b3, h⟩ := h
    refine sj_iald (a := 57) (j := ((nI 9) + x2).toNatClampNeg) (x := (σ 57 ((nI 9) + x2).toNatClampNeg)) dX12_canStandBoth_46 rfl (by decide +kernel) b3 rfl rfl ?_
    refine sj_icmp_ne (tgt := 61) dX12_canStandBoth_47 (by decide) (fun c4 => ?_) (fun c4 => ?_)
    · replace h := h.1 c4
      exact t_X12_canStandBoth_61 h
    · replace h := h.2 c4
      exact t_X12_canStandBoth_50 h
def wp_X12_canStandBoth_230 (G : sj_G) (R : sj_R) (x1 : Int32) (x2 : Int32) (x4 : Int32) (σ : sj_S) : Prop := sj_J G 5 me_X12_canStandBoth R 110 [.ref (sj_ad G 56), .int x1, .int x2, .null, .int (x4 + (nI 1)), .null] σ []
set_option maxRecDepth 20000 in
theorem t_X12_canStandBoth_230 {G : sj_G} {R : sj_R} {x1 : Int32} {x2 : Int32} {x4 : Int32} {σ : sj_S} (h : wp_X12_canStandBoth_230 G R x1 x2 x4 σ) : sj_J G 5 me_X12_canStandBoth R 230 [.ref (sj_ad G 56), .int x1, .int x2, .null, .int x4, .null] σ [] := by
  unfold wp_X12_canStandBoth_230 at h
  refine sj_iinc (v := (x4 + (nI 1))) dX12_canStandBoth_230 (by decide) rfl rfl ?_
  refine sj_goto (tgt := 110) dX12_canStandBoth_233 (by decide) ?_
  exact h
def wp_X12_canStandBoth_212 (G : sj_G) (R : sj_R) (x1 : Int32) (x2 : Int32) (x4 : Int32) (s0 : Int32) (σ : sj_S) : Prop := (s0 = 0 → (wp_X12_canStandBoth_230 G R x1 x2 x4 σ)) ∧ (¬ (s0 = 0) → ∃ v2 σ2, sj_C G 2 me_X12_holdsForTwo [.ref (sj_ad G 56), .int x4] σ (.ok v2, σ2) ∧ (¬ v2 = 0 → (wp_X12_canStandBoth_230 G R x1 x2 x4 σ2)) ∧ (v2 = 0 → R = (.ok (nI 0), σ2)))
set_option maxRecDepth 20000 in
theorem t_X12_canStandBoth_212 {G : sj_G} {R : sj_R} {x1 : Int32} {x2 : Int32} {x4 : Int32} {s0 : Int32} {σ : sj_S} (h : wp_X12_canStandBoth_212 G R x1 x2 x4 s0 σ) : sj_J G 5 me_X12_canStandBoth R 212 [.ref (sj_ad G 56), .int x1, .int x2, .null, .int x4, .null] σ [.int s0] := by
  unfold wp_X12_canStandBoth_212 at h
  refine sj_istore dX12_canStandBoth_212 (by decide) ?_
  refine sj_iload dX12_canStandBoth_214 rfl ?_
  refine sj_if_eq (tgt := 230) dX12_canStandBoth_216 (by decide) (fun c1 => ?_) (fun c1 => ?_)
  · replace h := h.1 c1
    refine sj_fg [5] ?_
    exact t_X12_canStandBoth_230 h
  · replace h := h.2 c1
    refine sj_aload_n dX12_canStandBoth_219 (i := 0) rfl rfl ?_
    refine sj_iload dX12_canStandBoth_220 rfl ?_
    obtain ⟨v2, σ2, hc2, h⟩ := h
    refine sj_callVi (M' := me_X12_holdsForTwo) (b := 56) (As := [.int x4]) (rest := []) dX12_canStandBoth_222 gX12_canStandBoth_X12_holdsForTwo rfl hd_X12_holdsForTwo (by decide +kernel) (by decide +kernel) rfl (Nat.le_of_ble_eq_true rfl) (by omega) rfl hc2 ?_
    refine sj_if_ne (tgt := 230) dX12_canStandBoth_225 (by decide) (fun c3 => ?_) (fun c3 => ?_)
    · replace h := h.1 c3
      refine sj_fg [5] ?_
      exact t_X12_canStandBoth_230 h
    · replace h := h.2 c3
      refine sj_iconst (v := (nI 0)) dX12_canStandBoth_228 (by decide +kernel) ?_
      subst h
      exact sj_ret dX12_canStandBoth_229 rfl rfl
def wp_X12_canStandBoth_110 (G : sj_G) (R : sj_R) (x1 : Int32) (x2 : Int32) (x4 : Int32) (σ : sj_S) : Prop := ((σ 57 126) ≤ x4 → R = (.ok (nI 1), σ)) ∧ (¬ ((σ 57 126) ≤ x4) → ∃ v2 σ2, sj_C G 2 me_X12_isHard [.ref (sj_ad G 56), .int x4] σ (.ok v2, σ2) ∧ (v2 = 0 → (wp_X12_canStandBoth_230 G R x1 x2 x4 σ2)) ∧ (¬ (v2 = 0) → vp_in ((nI 45) + x4) 128 ∧ ∃ v5 σ5, sj_C G 2 me_X12_isOfTwo [.ref (sj_ad G 56), .int (σ2 57 ((nI 45) + x4).toNatClampNeg)] σ2 (.ok v5, σ5) ∧ (¬ v5 = 0 → vp_in ((nI 57) + x4) 128 ∧ ((¬ ((σ5 57 ((nI 57) + x4).toNatClampNeg) = x1)) → vp_in ((nI 57) + x4) 128) ∧ ((¬ ((σ5 57 ((nI 57) + x4).toNatClampNeg) = x1)) → ((σ5 57 ((nI 57) + x4).toNatClampNeg) = x2) → vp_in ((nI 69) + x4) 128) ∧ (((σ5 57 ((nI 57) + x4).toNatClampNeg) = x1) → vp_in ((nI 69) + x4) 128) ∧ (((σ5 57 ((nI 57) + x4).toNatClampNeg) = x1) → (¬ ((σ5 57 ((nI 69) + x4).toNatClampNeg) = x2)) → vp_in ((nI 57) + x4) 128) ∧ (((σ5 57 ((nI 57) + x4).toNatClampNeg) = x1) → (¬ ((σ5 57 ((nI 69) + x4).toNatClampNeg) = x2)) → ((σ5 57 ((nI 57) + x4).toNatClampNeg) = x2) → vp_in ((nI 69) + x4) 128) ∧ (wp_X12_canStandBoth_212 G R x1 x2 x4 (if (σ5 57 ((nI 57) + x4).toNatClampNeg) = x1 then (if (σ5 57 ((nI 69) + x4).toNatClampNeg) = x2 then (nI 1) else (if (σ5 57 ((nI 57) + x4).toNatClampNeg) = x2 then (if (σ5 57 ((nI 69) + x4).toNatClampNeg) = x1 then (nI 1) else (nI 0)) else (nI 0))) else (if (σ5 57 ((nI 57) + x4).toNatClampNeg) = x2 then (if (σ5 57 ((nI 69) + x4).toNatClampNeg) = x1 then (nI 1) else (nI 0)) else (nI 0))) σ5)) ∧ (v5 = 0 → (wp_X12_canStandBoth_230 G R x1 x2 x4 σ5))))
set_option maxRecDepth 20000 in
theorem t_X12_canStandBoth_110 {G : sj_G} {R : sj_R} {x1 : Int32} {x2 : Int32} {x4 : Int32} {σ : sj_S} (h : wp_X12_canStandBoth_110 G R x1 x2 x4 σ) : sj_J G 5 me_X12_canStandBoth R 110 [.ref (sj_ad G 56), .int x1, .int x2, .null, .int x4, .null] σ [] := by
  unfold wp_X12_canStandBoth_110 at h
  refine sj_iload dX12_canStandBoth_110 rfl ?_
  refine sj_aload_n dX12_canStandBoth_112 (i := 0) rfl rfl ?_
  refine sj_get (a := 56) (k9 := 1) (v := .ref (sj_ad G 57)) dX12_canStandBoth_113 (by decide +kernel) rfl ?_
  refine sj_bipush (v := (nI 126)) dX12_canStandBoth_116 (by decide +kernel) ?_
  refine sj_iald (a := 57) (j := 126) (x := (σ 57 126)) dX12_canStandBoth_118 rfl (by decide +kernel) (vp_in_nI (by decide) (by decide)) (nI_clamp (by decide)) rfl ?_
  refine sj_icmp_ge (tgt := 236) dX12_canStandBoth_119 (by decide) (fun c1 => ?_) (fun c1 => ?_)
  · replace h := h.1 c1
    refine sj_iconst (v := (nI 1)) dX12_canStandBoth_236 (by decide +kernel) ?_
    subst h
    exact sj_ret dX12_canStandBoth_237 rfl rfl
  · replace h := h.2 c1
    refine sj_aload_n dX12_canStandBoth_122 (i := 0) rfl rfl ?_
    refine sj_iload dX12_canStandBoth_123 rfl ?_
    obtain ⟨v2, σ2, hc2, h⟩ := h
    refine sj_callVi (M' := me_X12_isHard) (b := 56) (As := [.int x4]) (rest := []) dX12_canStandBoth_125 gX12_canStandBoth_X12_isHard rfl hd_X12_isHard (by decide +kernel) (by decide +kernel) rfl (Nat.le_of_ble_eq_true rfl) (by omega) rfl hc2 ?_
    refine sj_if_eq (tgt := 230) dX12_canStandBoth_128 (by decide) (fun c3 => ?_) (fun c3 => ?_)
    · replace h := h.1 c3
      exact t_X12_canStandBoth_230 h
    · replace h := h.2 c3
      refine sj_aload_n dX12_canStandBoth_131 (i := 0) rfl rfl ?_
      refine sj_aload_n dX12_canStandBoth_132 (i := 0) rfl rfl ?_
      refine sj_get (a := 56) (k9 := 1) (v := .ref (sj_ad G 57)) dX12_canStandBoth_133 (by decide +kernel) rfl ?_
      refine sj_bipush (v := (nI 45)) dX12_canStandBoth_136 (by decide +kernel) ?_
      refine sj_iload dX12_canStandBoth_138 rfl ?_
      refine sj_iadd dX12_canStandBoth_140 ?_
      obtain ⟨b4, h⟩ := h
      refine sj_iald (a := 57) (j := ((nI 45) + x4).toNatClampNeg) (x := (σ2 57 ((nI 45) + x4).toNatClampNeg)) dX12_canStandBoth_141 rfl (by decide +kernel) b4 rfl rfl ?_
      obtain ⟨v5, σ5, hc5, h⟩ := h
      refine sj_callVi (M' := me_X12_isOfTwo) (b := 56) (As := [.int (σ2 57 ((nI 45) + x4).toNatClampNeg)]) (rest := []) dX12_canStandBoth_142 gX12_canStandBoth_X12_isOfTwo rfl hd_X12_isOfTwo (by decide +kernel) (by decide +kernel) rfl (Nat.le_of_ble_eq_true rfl) (by omega) rfl hc5 ?_
      refine sj_if_ne (tgt := 151) dX12_canStandBoth_145 (by decide) (fun c6 => ?_) (fun c6 => ?_)
      · replace h := h.1 c6
        refine sj_aload_n dX12_canStandBoth_151 (i := 0) rfl rfl ?_
        refine sj_get (a := 56) (k9 := 1) (v := .ref (sj_ad G 57)) dX12_canStandBoth_152 (by decide +kernel) rfl ?_
        refine sj_bipush (v := (nI 57)) dX12_canStandBoth_155 (by decide +kernel) ?_
        refine sj_iload dX12_canStandBoth_157 rfl ?_
        refine sj_iadd dX12_canStandBoth_159 ?_
        obtain ⟨b7, h⟩ := h
        refine sj_iald (a := 57) (j := ((nI 57) + x4).toNatClampNeg) (x := (σ5 57 ((nI 57) + x4).toNatClampNeg)) dX12_canStandBoth_160 rfl (by decide +kernel) b7 rfl rfl ?_
        refine sj_iload_n dX12_canStandBoth_161 (i := 1) rfl rfl ?_
        obtain ⟨f19, f20, f21, f22, f23, h⟩ := h
        refine sj_icmp_ne (tgt := 179) dX12_canStandBoth_162 (by decide) (fun c8 => ?_) (fun c8 => ?_)
        · have b9 := f19 c8
          refine sj_aload_n dX12_canStandBoth_179 (i := 0) rfl rfl ?_
          refine sj_get (a := 56) (k9 := 1) (v := .ref (sj_ad G 57)) dX12_canStandBoth_180 (by decide +kernel) rfl ?_
          refine sj_bipush (v := (nI 57)) dX12_canStandBoth_183 (by decide +kernel) ?_
          refine sj_iload dX12_canStandBoth_185 rfl ?_
          refine sj_iadd dX12_canStandBoth_187 ?_
          refine sj_iald (a := 57) (j := ((nI 57) + x4).toNatClampNeg) (x := (σ5 57 ((nI 57) + x4).toNatClampNeg)) dX12_canStandBoth_188 rfl (by decide +kernel) b9 rfl rfl ?_
          refine sj_iload_n dX12_canStandBoth_189 (i := 2) rfl rfl ?_
          refine sj_icmp_ne (tgt := 211) dX12_canStandBoth_190 (by decide) (fun c10 => ?_) (fun c10 => ?_)
          · refine sj_iconst (v := (nI 0)) dX12_canStandBoth_211 (by decide +kernel) ?_
            try simp only [if_neg c8, if_neg c10] at h
            exact t_X12_canStandBoth_212 h
          · have b11 := f20 c8 c10
            refine sj_aload_n dX12_canStandBoth_193 (i := 0) rfl rfl ?_
            refine sj_get (a := 56) (k9 := 1) (v := .ref (sj_ad G 57)) dX12_canStandBoth_194 (by decide +kernel) rfl ?_
            refine sj_bipush (v := (nI 69)) dX12_canStandBoth_197 (by decide +kernel) ?_
            refine sj_iload dX12_canStandBoth_199 rfl ?_
            refine sj_iadd dX12_canStandBoth_201 ?_
            refine sj_iald (a := 57) (j := ((nI 69) + x4).toNatClampNeg) (x := (σ5 57 ((nI 69) + x4).toNatClampNeg)) dX12_canStandBoth_202 rfl (by decide +kernel) b11 rfl rfl ?_
            refine sj_iload_n dX12_canStandBoth_203 (i := 1) rfl rfl ?_
            refine sj_icmp_ne (tgt := 211) dX12_canStandBoth_204 (by decide) (fun c12 => ?_) (fun c12 => ?_)
            · refine sj_iconst (v := (nI 0)) dX12_canStandBoth_211 (by decide +kernel) ?_
              try simp only [if_neg c8, if_pos c10, if_neg c12] at h
              exact t_X12_canStandBoth_212 h
            · refine sj_iconst (v := (nI 1)) dX12_canStandBoth_207 (by decide +kernel) ?_
              refine sj_goto (tgt := 212) dX12_canStandBoth_208 (by decide) ?_
              try simp only [if_neg c8, if_pos c10, if_pos c12] at h
              exact t_X12_canStandBoth_212 h
        · have b13 := f21 c8
          refine sj_aload_n dX12_canStandBoth_165 (i := 0) rfl rfl ?_
          refine sj_get (a := 56) (k9 := 1) (v := .ref (sj_ad G 57)) dX12_canStandBoth_166 (by decide +kernel) rfl ?_
          refine sj_bipush (v := (nI 69)) dX12_canStandBoth_169 (by decide +kernel) ?_
          refine sj_iload dX12_canStandBoth_171 rfl ?_
          refine sj_iadd dX12_canStandBoth_173 ?_
          refine sj_iald (a := 57) (j := ((nI 69) + x4).toNatClampNeg) (x := (σ5 57 ((nI 69) + x4).toNatClampNeg)) dX12_canStandBoth_174 rfl (by decide +kernel) b13 rfl rfl ?_
          refine sj_iload_n dX12_canStandBoth_175 (i := 2) rfl rfl ?_
          refine sj_icmp_eq (tgt := 207) dX12_canStandBoth_176 (by decide) (fun c14 => ?_) (fun c14 => ?_)
          · refine sj_iconst (v := (nI 1)) dX12_canStandBoth_207 (by decide +kernel) ?_
            refine sj_goto (tgt := 212) dX12_canStandBoth_208 (by decide) ?_
            try simp only [if_pos c8, if_pos c14] at h
            exact t_X12_canStandBoth_212 h
          · have b15 := f22 c8 c14
            refine sj_aload_n dX12_canStandBoth_179 (i := 0) rfl rfl ?_
            refine sj_get (a := 56) (k9 := 1) (v := .ref (sj_ad G 57)) dX12_canStandBoth_180 (by decide +kernel) rfl ?_
            refine sj_bipush (v := (nI 57)) dX12_canStandBoth_183 (by decide +kernel) ?_
            refine sj_iload dX12_canStandBoth_185 rfl ?_
            refine sj_iadd dX12_canStandBoth_187 ?_
            refine sj_iald (a := 57) (j := ((nI 57) + x4).toNatClampNeg) (x := (σ5 57 ((nI 57) + x4).toNatClampNeg)) dX12_canStandBoth_188 rfl (by decide +kernel) b15 rfl rfl ?_
            refine sj_iload_n dX12_canStandBoth_189 (i := 2) rfl rfl ?_
            refine sj_icmp_ne (tgt := 211) dX12_canStandBoth_190 (by decide) (fun c16 => ?_) (fun c16 => ?_)
            · refine sj_iconst (v := (nI 0)) dX12_canStandBoth_211 (by decide +kernel) ?_
              try simp only [if_pos c8, if_neg c14, if_neg c16] at h
              exact t_X12_canStandBoth_212 h
            · have b17 := f23 c8 c14 c16
              refine sj_aload_n dX12_canStandBoth_193 (i := 0) rfl rfl ?_
              refine sj_get (a := 56) (k9 := 1) (v := .ref (sj_ad G 57)) dX12_canStandBoth_194 (by decide +kernel) rfl ?_
              refine sj_bipush (v := (nI 69)) dX12_canStandBoth_197 (by decide +kernel) ?_
              refine sj_iload dX12_canStandBoth_199 rfl ?_
              refine sj_iadd dX12_canStandBoth_201 ?_
              refine sj_iald (a := 57) (j := ((nI 69) + x4).toNatClampNeg) (x := (σ5 57 ((nI 69) + x4).toNatClampNeg)) dX12_canStandBoth_202 rfl (by decide +kernel) b17 rfl rfl ?_
              refine sj_iload_n dX12_canStandBoth_203 (i := 1) rfl rfl ?_
              refine sj_icmp_ne (tgt := 211) dX12_canStandBoth_204 (by decide) (fun c18 => ?_) (fun c18 => ?_)
              · refine sj_iconst (v := (nI 0)) dX12_canStandBoth_211 (by decide +kernel) ?_
                try simp only [if_pos c8, if_neg c14, if_pos c16, if_neg c18] at h
                exact t_X12_canStandBoth_212 h
              · refine sj_iconst (v := (nI 1)) dX12_canStandBoth_207 (by decide +kernel) ?_
                refine sj_goto (tgt := 212) dX12_canStandBoth_208 (by decide) ?_
                try simp only [if_pos c8, if_neg c14, if_pos c16, if_pos c18] at h
                exact t_X12_canStandBoth_212 h
      · replace h := h.2 c6
        refine sj_goto (tgt := 230) dX12_canStandBoth_148 (by decide) ?_
        exact t_X12_canStandBoth_230 h
def wp_X12_canStandBoth_0 (G : sj_G) (R : sj_R) (x1 : Int32) (x2 : Int32) (σ : sj_S) : Prop := vp_in ((nI 0) + x1) 128 ∧ vp_in ((nI 0) + x2) 128 ∧ (wp_X12_canStandBoth_24 G R x1 x2 (if (σ 57 ((nI 0) + x1).toNatClampNeg) = (σ 57 ((nI 0) + x2).toNatClampNeg) then (nI 1) else (nI 0)) σ)
set_option maxRecDepth 20000 in
theorem t_X12_canStandBoth_0 {G : sj_G} {R : sj_R} {x1 : Int32} {x2 : Int32} {σ : sj_S} (h : wp_X12_canStandBoth_0 G R x1 x2 σ) : sj_J G 5 me_X12_canStandBoth R 0 [.ref (sj_ad G 56), .int x1, .int x2, .null, .null, .null] σ [] := by
  unfold wp_X12_canStandBoth_0 at h
  refine sj_aload_n dX12_canStandBoth_0 (i := 0) rfl rfl ?_
  refine sj_get (a := 56) (k9 := 1) (v := .ref (sj_ad G 57)) dX12_canStandBoth_1 (by decide +kernel) rfl ?_
  refine sj_iconst (v := (nI 0)) dX12_canStandBoth_4 (by decide +kernel) ?_
  refine sj_iload_n dX12_canStandBoth_5 (i := 1) rfl rfl ?_
  refine sj_iadd dX12_canStandBoth_6 ?_
  obtain ⟨b1, h⟩ := h
  refine sj_iald (a := 57) (j := ((nI 0) + x1).toNatClampNeg) (x := (σ 57 ((nI 0) + x1).toNatClampNeg)) dX12_canStandBoth_7 rfl (by decide +kernel) b1 rfl rfl ?_
  refine sj_aload_n dX12_canStandBoth_8 (i := 0) rfl rfl ?_
  refine sj_get (a := 56) (k9 := 1) (v := .ref (sj_ad G 57)) dX12_canStandBoth_9 (by decide +kernel) rfl ?_
  refine sj_iconst (v := (nI 0)) dX12_canStandBoth_12 (by decide +kernel) ?_
  refine sj_iload_n dX12_canStandBoth_13 (i := 2) rfl rfl ?_
  refine sj_iadd dX12_canStandBoth_14 ?_
  obtain ⟨b2, h⟩ := h
  refine sj_iald (a := 57) (j := ((nI 0) + x2).toNatClampNeg) (x := (σ 57 ((nI 0) + x2).toNatClampNeg)) dX12_canStandBoth_15 rfl (by decide +kernel) b2 rfl rfl ?_
  refine sj_icmp_ne (tgt := 23) dX12_canStandBoth_16 (by decide) (fun c3 => ?_) (fun c3 => ?_)
  · refine sj_iconst (v := (nI 0)) dX12_canStandBoth_23 (by decide +kernel) ?_
    try simp only [if_neg c3] at h
    exact t_X12_canStandBoth_24 h
  · refine sj_iconst (v := (nI 1)) dX12_canStandBoth_19 (by decide +kernel) ?_
    refine sj_goto (tgt := 24) dX12_canStandBoth_20 (by decide) ?_
    try simp only [if_pos c3] at h
    exact t_X12_canStandBoth_24 h
theorem c_X12_canStandBoth {G : sj_G} (ok : sj_ok G) {R : sj_R} {x1 : Int32} {x2 : Int32} {σ : sj_S} (h : wp_X12_canStandBoth_0 G R x1 x2 σ) : sj_C G 5 me_X12_canStandBoth [.ref (sj_ad G 56), .int x1, .int x2] σ R :=
  sj_enter ok (by decide +kernel) rfl rfl (Nat.le_of_ble_eq_true rfl) (by simp [Value.category]) (t_X12_canStandBoth_0 h)
def wp_X12_hasRoom_120 (G : sj_G) (R : sj_R) (σ : sj_S) : Prop := R = (.ok (nI 1), σ)
set_option maxRecDepth 20000 in
theorem t_X12_hasRoom_120 {G : sj_G} {R : sj_R} {σ : sj_S} (h : wp_X12_hasRoom_120 G R σ) : sj_J G 4 me_X12_hasRoom R 120 [.null, .null, .null, .null, .null, .null, .null] σ [] := by
  unfold wp_X12_hasRoom_120 at h
  refine sj_iconst (v := (nI 1)) dX12_hasRoom_120 (by decide +kernel) ?_
  subst h
  exact sj_ret dX12_hasRoom_121 rfl rfl
def wp_X12_hasRoom_13 (G : sj_G) (R : sj_R) (x1 : Int32) (x2 : Int32) (x3 : Int32) (x4 : Int32) (σ : sj_S) : Prop := (x3 = (-1) → (wp_X12_hasRoom_120 G R σ)) ∧ (¬ (x3 = (-1)) → vp_in ((nI 36) + x1) 128 ∧ ((σ 57 ((nI 36) + x1).toNatClampNeg) < x4 → (wp_X12_hasRoom_120 G R σ)) ∧ (¬ ((σ 57 ((nI 36) + x1).toNatClampNeg) < x4) → sj_J G 4 me_X12_hasRoom R 38 [.ref (sj_ad G 56), .int x1, .int x2, .int x3, .int x4, .int (nI 1), .int (nI 0)] σ []))
set_option maxRecDepth 20000 in
theorem t_X12_hasRoom_13 {G : sj_G} {R : sj_R} {x1 : Int32} {x2 : Int32} {x3 : Int32} {x4 : Int32} {σ : sj_S} (h : wp_X12_hasRoom_13 G R x1 x2 x3 x4 σ) : sj_J G 4 me_X12_hasRoom R 13 [.ref (sj_ad G 56), .int x1, .int x2, .int x3, .int x4, .null, .null] σ [] := by
  unfold wp_X12_hasRoom_13 at h
  refine sj_iload_n dX12_hasRoom_13 (i := 3) rfl rfl ?_
  refine sj_iconst (v := (-1)) dX12_hasRoom_14 (by decide +kernel) ?_
  refine sj_icmp_eq (tgt := 120) dX12_hasRoom_15 (by decide) (fun c1 => ?_) (fun c1 => ?_)
  · replace h := h.1 c1
    refine sj_fg [0, 1, 2, 3, 4] ?_
    exact t_X12_hasRoom_120 h
  · replace h := h.2 c1
    refine sj_iload dX12_hasRoom_18 rfl ?_
    refine sj_aload_n dX12_hasRoom_20 (i := 0) rfl rfl ?_
    refine sj_get (a := 56) (k9 := 1) (v := .ref (sj_ad G 57)) dX12_hasRoom_21 (by decide +kernel) rfl ?_
    refine sj_bipush (v := (nI 36)) dX12_hasRoom_24 (by decide +kernel) ?_
    refine sj_iload_n dX12_hasRoom_26 (i := 1) rfl rfl ?_
    refine sj_iadd dX12_hasRoom_27 ?_
    obtain ⟨b2, h⟩ := h
    refine sj_iald (a := 57) (j := ((nI 36) + x1).toNatClampNeg) (x := (σ 57 ((nI 36) + x1).toNatClampNeg)) dX12_hasRoom_28 rfl (by decide +kernel) b2 rfl rfl ?_
    refine sj_icmp_gt (tgt := 120) dX12_hasRoom_29 (by decide) (fun c3 => ?_) (fun c3 => ?_)
    · replace h := h.1 c3
      refine sj_fg [0, 1, 2, 3, 4] ?_
      exact t_X12_hasRoom_120 h
    · replace h := h.2 c3
      refine sj_iconst (v := (nI 1)) dX12_hasRoom_32 (by decide +kernel) ?_
      refine sj_istore dX12_hasRoom_33 (by decide) ?_
      refine sj_iconst (v := (nI 0)) dX12_hasRoom_35 (by decide +kernel) ?_
      refine sj_istore dX12_hasRoom_36 (by decide) ?_
      exact h
def wp_X12_hasRoom_89 (G : sj_G) (R : sj_R) (x1 : Int32) (x2 : Int32) (x3 : Int32) (x4 : Int32) (x6 : Int32) (s0 : Int32) (s1 : Int32) (σ : sj_S) : Prop := sj_J G 4 me_X12_hasRoom R 38 [.ref (sj_ad G 56), .int x1, .int x2, .int x3, .int x4, .int (s1 + s0), .int (x6 + (nI 1))] σ []
set_option maxRecDepth 20000 in
theorem t_X12_hasRoom_89 {G : sj_G} {R : sj_R} {x1 : Int32} {x2 : Int32} {x3 : Int32} {x4 : Int32} {x6 : Int32} {s0 : Int32} {s1 : Int32} {σ : sj_S} (h : wp_X12_hasRoom_89 G R x1 x2 x3 x4 x6 s0 s1 σ) : sj_J G 4 me_X12_hasRoom R 89 [.ref (sj_ad G 56), .int x1, .int x2, .int x3, .int x4, .null, .int x6] σ [.int s0, .int s1] := by
  unfold wp_X12_hasRoom_89 at h
  refine sj_iadd dX12_hasRoom_89 ?_
  refine sj_istore dX12_hasRoom_90 (by decide) ?_
  refine sj_iinc (v := (x6 + (nI 1))) dX12_hasRoom_92 (by decide) rfl rfl ?_
  refine sj_goto (tgt := 38) dX12_hasRoom_95 (by decide) ?_
  exact h
def wp_X12_hasRoom_88 (G : sj_G) (R : sj_R) (x1 : Int32) (x2 : Int32) (x3 : Int32) (x4 : Int32) (x6 : Int32) (s0 : Int32) (σ : sj_S) : Prop := (wp_X12_hasRoom_89 G R x1 x2 x3 x4 x6 (nI 0) s0 σ)
set_option maxRecDepth 20000 in
theorem t_X12_hasRoom_88 {G : sj_G} {R : sj_R} {x1 : Int32} {x2 : Int32} {x3 : Int32} {x4 : Int32} {x6 : Int32} {s0 : Int32} {σ : sj_S} (h : wp_X12_hasRoom_88 G R x1 x2 x3 x4 x6 s0 σ) : sj_J G 4 me_X12_hasRoom R 88 [.ref (sj_ad G 56), .int x1, .int x2, .int x3, .int x4, .null, .int x6] σ [.int s0] := by
  unfold wp_X12_hasRoom_88 at h
  refine sj_iconst (v := (nI 0)) dX12_hasRoom_88 (by decide +kernel) ?_
  exact t_X12_hasRoom_89 h
def wp_X12_hasRoom_38 (G : sj_G) (R : sj_R) (x1 : Int32) (x2 : Int32) (x3 : Int32) (x4 : Int32) (x5 : Int32) (x6 : Int32) (σ : sj_S) : Prop := (x2 ≤ x6 → vp_in ((nI 99) + x3) 128 ∧ (x5 ≤ (σ 57 ((nI 99) + x3).toNatClampNeg) → sj_J G 4 me_X12_hasRoom R 13 [.ref (sj_ad G 56), .int x1, .int x2, .int x3, .int (x4 + (nI 1)), .null, .null] σ []) ∧ (¬ (x5 ≤ (σ 57 ((nI 99) + x3).toNatClampNeg)) → R = (.ok (nI 0), σ))) ∧ (¬ (x2 ≤ x6) → (x6 = x1 → (wp_X12_hasRoom_88 G R x1 x2 x3 x4 x6 x5 σ)) ∧ (¬ (x6 = x1) → vp_in ((nI 27) + x6) 128 ∧ (¬ (σ 57 ((nI 27) + x6).toNatClampNeg) = x3 → (wp_X12_hasRoom_88 G R x1 x2 x3 x4 x6 x5 σ)) ∧ ((σ 57 ((nI 27) + x6).toNatClampNeg) = x3 → vp_in x1 9 ∧ ∃ v14 σ14, sj_C G 3 me_X12_isAt [.ref (sj_ad G 56), .int x6, .int ((σ 59 x1.toNatClampNeg) + x4)] σ (.ok v14, σ14) ∧ (wp_X12_hasRoom_89 G R x1 x2 x3 x4 x6 (if v14 = 0 then (nI 0) else (nI 1)) x5 σ14))))
set_option maxRecDepth 20000 in
theorem t_X12_hasRoom_38 {G : sj_G} {R : sj_R} {x1 : Int32} {x2 : Int32} {x3 : Int32} {x4 : Int32} {x5 : Int32} {x6 : Int32} {σ : sj_S} (h : wp_X12_hasRoom_38 G R x1 x2 x3 x4 x5 x6 σ) : sj_J G 4 me_X12_hasRoom R 38 [.ref (sj_ad G 56), .int x1, .int x2, .int x3, .int x4, .int x5, .int x6] σ [] := by
  unfold wp_X12_hasRoom_38 at h
  refine sj_iload dX12_hasRoom_38 rfl ?_
  refine sj_iload_n dX12_hasRoom_40 (i := 2) rfl rfl ?_
  refine sj_icmp_ge (tgt := 98) dX12_hasRoom_41 (by decide) (fun c1 => ?_) (fun c1 => ?_)
  · replace h := h.1 c1
    refine sj_iload dX12_hasRoom_98 rfl ?_
    refine sj_aload_n dX12_hasRoom_100 (i := 0) rfl rfl ?_
    refine sj_get (a := 56) (k9 := 1) (v := .ref (sj_ad G 57)) dX12_hasRoom_101 (by decide +kernel) rfl ?_
    refine sj_bipush (v := (nI 99)) dX12_hasRoom_104 (by decide +kernel) ?_
    refine sj_iload_n dX12_hasRoom_106 (i := 3) rfl rfl ?_
    refine sj_iadd dX12_hasRoom_107 ?_
    obtain ⟨b2, h⟩ := h
    refine sj_iald (a := 57) (j := ((nI 99) + x3).toNatClampNeg) (x := (σ 57 ((nI 99) + x3).toNatClampNeg)) dX12_hasRoom_108 rfl (by decide +kernel) b2 rfl rfl ?_
    refine sj_icmp_le (tgt := 114) dX12_hasRoom_109 (by decide) (fun c3 => ?_) (fun c3 => ?_)
    · replace h := h.1 c3
      refine sj_iinc (v := (x4 + (nI 1))) dX12_hasRoom_114 (by decide) rfl rfl ?_
      refine sj_goto (tgt := 13) dX12_hasRoom_117 (by decide) ?_
      refine sj_fg [5, 6] ?_
      exact h
    · replace h := h.2 c3
      refine sj_iconst (v := (nI 0)) dX12_hasRoom_112 (by decide +kernel) ?_
      subst h
      exact sj_ret dX12_hasRoom_113 rfl rfl
  · replace h := h.2 c1
    refine sj_iload dX12_hasRoom_44 rfl ?_
    refine sj_iload dX12_hasRoom_46 rfl ?_
    refine sj_iload_n dX12_hasRoom_48 (i := 1) rfl rfl ?_
    refine sj_icmp_eq (tgt := 88) dX12_hasRoom_49 (by decide) (fun c8 => ?_) (fun c8 => ?_)
    · replace h := h.1 c8
      refine sj_fg [5] ?_
      exact t_X12_hasRoom_88 h
    · replace h := h.2 c8
      refine sj_aload_n dX12_hasRoom_52 (i := 0) rfl rfl ?_
      refine sj_get (a := 56) (k9 := 1) (v := .ref (sj_ad G 57)) dX12_hasRoom_53 (by decide +kernel) rfl ?_
      refine sj_bipush (v := (nI 27)) dX12_hasRoom_56 (by decide +kernel) ?_
      refine sj_iload dX12_hasRoom_58 rfl ?_
      refine sj_iadd dX12_hasRoom_60 ?_
      obtain ⟨b9, h⟩ := h
      refine sj_iald (a := 57) (j := ((nI 27) + x6).toNatClampNeg) (x := (σ 57 ((nI 27) + x6).toNatClampNeg)) dX12_hasRoom_61 rfl (by decide +kernel) b9 rfl rfl ?_
      refine sj_iload_n dX12_hasRoom_62 (i := 3) rfl rfl ?_
      refine sj_icmp_ne (tgt := 88) dX12_hasRoom_63 (by decide) (fun c12 => ?_) (fun c12 => ?_)
      · replace h := h.1 c12
        refine sj_fg [5] ?_
        exact t_X12_hasRoom_88 h
      · replace h := h.2 c12
        refine sj_aload_n dX12_hasRoom_66 (i := 0) rfl rfl ?_
        refine sj_iload dX12_hasRoom_67 rfl ?_
        refine sj_aload_n dX12_hasRoom_69 (i := 0) rfl rfl ?_
        refine sj_get (a := 56) (k9 := 4) (v := .ref (sj_ad G 59)) dX12_hasRoom_70 (by decide +kernel) rfl ?_
        refine sj_iload_n dX12_hasRoom_73 (i := 1) rfl rfl ?_
        obtain ⟨b13, h⟩ := h
        refine sj_iald (a := 59) (j := x1.toNatClampNeg) (x := (σ 59 x1.toNatClampNeg)) dX12_hasRoom_74 rfl (by decide +kernel) b13 rfl rfl ?_
        refine sj_iload dX12_hasRoom_75 rfl ?_
        refine sj_iadd dX12_hasRoom_77 ?_
        obtain ⟨v14, σ14, hc14, h⟩ := h
        refine sj_callVi (M' := me_X12_isAt) (b := 56) (As := [.int x6, .int ((σ 59 x1.toNatClampNeg) + x4)]) (rest := [.int x5]) dX12_hasRoom_78 gX12_hasRoom_X12_isAt rfl hd_X12_isAt (by decide +kernel) (by decide +kernel) rfl (Nat.le_of_ble_eq_true rfl) (by omega) rfl hc14 ?_
        refine sj_if_eq (tgt := 88) dX12_hasRoom_81 (by decide) (fun c15 => ?_) (fun c15 => ?_)
        · refine sj_iconst (v := (nI 0)) dX12_hasRoom_88 (by decide +kernel) ?_
          try simp only [if_pos c15] at h
          refine sj_fg [5] ?_
          exact t_X12_hasRoom_89 h
        · refine sj_iconst (v := (nI 1)) dX12_hasRoom_84 (by decide +kernel) ?_
          refine sj_goto (tgt := 89) dX12_hasRoom_85 (by decide) ?_
          try simp only [if_neg c15] at h
          refine sj_fg [5] ?_
          exact t_X12_hasRoom_89 h
def wp_X12_hasRoom_0 (G : sj_G) (R : sj_R) (x1 : Int32) (x2 : Int32) (σ : sj_S) : Prop := vp_in ((nI 27) + x1) 128 ∧ sj_J G 4 me_X12_hasRoom R 13 [.ref (sj_ad G 56), .int x1, .int x2, .int (σ 57 ((nI 27) + x1).toNatClampNeg), .int (nI 0), .null, .null] σ []
set_option maxRecDepth 20000 in
theorem t_X12_hasRoom_0 {G : sj_G} {R : sj_R} {x1 : Int32} {x2 : Int32} {σ : sj_S} (h : wp_X12_hasRoom_0 G R x1 x2 σ) : sj_J G 4 me_X12_hasRoom R 0 [.ref (sj_ad G 56), .int x1, .int x2, .null, .null, .null, .null] σ [] := by
  unfold wp_X12_hasRoom_0 at h
  refine sj_aload_n dX12_hasRoom_0 (i := 0) rfl rfl ?_
  refine sj_get (a := 56) (k9 := 1) (v := .ref (sj_ad G 57)) dX12_hasRoom_1 (by decide +kernel) rfl ?_
  refine sj_bipush (v := (nI 27)) dX12_hasRoom_4 (by decide +kernel) ?_
  refine sj_iload_n dX12_hasRoom_6 (i := 1) rfl rfl ?_
  refine sj_iadd dX12_hasRoom_7 ?_
  obtain ⟨b1, h⟩ := h
  refine sj_iald (a := 57) (j := ((nI 27) + x1).toNatClampNeg) (x := (σ 57 ((nI 27) + x1).toNatClampNeg)) dX12_hasRoom_8 rfl (by decide +kernel) b1 rfl rfl ?_
  refine sj_istore_n dX12_hasRoom_9 (i := 3) rfl (by decide) ?_
  refine sj_iconst (v := (nI 0)) dX12_hasRoom_10 (by decide +kernel) ?_
  refine sj_istore dX12_hasRoom_11 (by decide) ?_
  exact h
theorem c_X12_hasRoom {G : sj_G} (ok : sj_ok G) {R : sj_R} {x1 : Int32} {x2 : Int32} {σ : sj_S} (h : wp_X12_hasRoom_0 G R x1 x2 σ) : sj_C G 4 me_X12_hasRoom [.ref (sj_ad G 56), .int x1, .int x2] σ R :=
  sj_enter ok (by decide +kernel) rfl rfl (Nat.le_of_ble_eq_true rfl) (by simp [Value.category]) (t_X12_hasRoom_0 h)
def wp_X12_isRight_30 (G : sj_G) (R : sj_R) (σ : sj_S) : Prop := R = (.ok (nI 0), σ)
set_option maxRecDepth 20000 in
theorem t_X12_isRight_30 {G : sj_G} {R : sj_R} {σ : sj_S} (h : wp_X12_isRight_30 G R σ) : sj_J G 6 me_X12_isRight R 30 [.null, .null, .null] σ [] := by
  unfold wp_X12_isRight_30 at h
  refine sj_iconst (v := (nI 0)) dX12_isRight_30 (by decide +kernel) ?_
  subst h
  exact sj_ret dX12_isRight_31 rfl rfl
def wp_X12_isRight_2 (G : sj_G) (R : sj_R) (x1 : Int32) (σ : sj_S) : Prop := ∃ v1 σ1, sj_C G 2 me_X12_many [.ref (sj_ad G 56)] σ (.ok v1, σ1) ∧ (v1 ≤ x1 → R = (.ok (nI 1), σ1)) ∧ (¬ (v1 ≤ x1) → ∃ v3 σ3, sj_C G 5 me_X12_canStand [.ref (sj_ad G 56), .int x1] σ1 (.ok v3, σ3) ∧ (v3 = 0 → (wp_X12_isRight_30 G R σ3)) ∧ (¬ (v3 = 0) → ∃ v5 σ5, sj_C G 2 me_X12_many [.ref (sj_ad G 56)] σ3 (.ok v5, σ5) ∧ ∃ v6 σ6, sj_C G 4 me_X12_hasRoom [.ref (sj_ad G 56), .int x1, .int v5] σ5 (.ok v6, σ6) ∧ (¬ v6 = 0 → sj_J G 6 me_X12_isRight R 34 [.ref (sj_ad G 56), .int x1, .int (nI 0)] σ6 []) ∧ (v6 = 0 → (wp_X12_isRight_30 G R σ6))))
set_option maxRecDepth 20000 in
theorem t_X12_isRight_2 {G : sj_G} {R : sj_R} {x1 : Int32} {σ : sj_S} (h : wp_X12_isRight_2 G R x1 σ) : sj_J G 6 me_X12_isRight R 2 [.ref (sj_ad G 56), .int x1, .null] σ [] := by
  unfold wp_X12_isRight_2 at h
  refine sj_iload_n dX12_isRight_2 (i := 1) rfl rfl ?_
  refine sj_aload_n dX12_isRight_3 (i := 0) rfl rfl ?_
  obtain ⟨v1, σ1, hc1, h⟩ := h
  refine sj_callVi (M' := me_X12_many) (b := 56) (As := []) (rest := [.int x1]) dX12_isRight_4 gX12_isRight_X12_many rfl hd_X12_many (by decide +kernel) (by decide +kernel) rfl (Nat.le_of_ble_eq_true rfl) (by omega) rfl hc1 ?_
  refine sj_icmp_ge (tgt := 62) dX12_isRight_7 (by decide) (fun c2 => ?_) (fun c2 => ?_)
  · replace h := h.1 c2
    refine sj_iconst (v := (nI 1)) dX12_isRight_62 (by decide +kernel) ?_
    subst h
    exact sj_ret dX12_isRight_63 rfl rfl
  · replace h := h.2 c2
    refine sj_aload_n dX12_isRight_10 (i := 0) rfl rfl ?_
    refine sj_iload_n dX12_isRight_11 (i := 1) rfl rfl ?_
    obtain ⟨v3, σ3, hc3, h⟩ := h
    refine sj_callVi (M' := me_X12_canStand) (b := 56) (As := [.int x1]) (rest := []) dX12_isRight_12 gX12_isRight_X12_canStand rfl hd_X12_canStand (by decide +kernel) (by decide +kernel) rfl (Nat.le_of_ble_eq_true rfl) (by omega) rfl hc3 ?_
    refine sj_if_eq (tgt := 30) dX12_isRight_15 (by decide) (fun c4 => ?_) (fun c4 => ?_)
    · replace h := h.1 c4
      refine sj_fg [0, 1] ?_
      exact t_X12_isRight_30 h
    · replace h := h.2 c4
      refine sj_aload_n dX12_isRight_18 (i := 0) rfl rfl ?_
      refine sj_iload_n dX12_isRight_19 (i := 1) rfl rfl ?_
      refine sj_aload_n dX12_isRight_20 (i := 0) rfl rfl ?_
      obtain ⟨v5, σ5, hc5, h⟩ := h
      refine sj_callVi (M' := me_X12_many) (b := 56) (As := []) (rest := [.int x1, .ref (sj_ad G 56)]) dX12_isRight_21 gX12_isRight_X12_many rfl hd_X12_many (by decide +kernel) (by decide +kernel) rfl (Nat.le_of_ble_eq_true rfl) (by omega) rfl hc5 ?_
      obtain ⟨v6, σ6, hc6, h⟩ := h
      refine sj_callVi (M' := me_X12_hasRoom) (b := 56) (As := [.int x1, .int v5]) (rest := []) dX12_isRight_24 gX12_isRight_X12_hasRoom rfl hd_X12_hasRoom (by decide +kernel) (by decide +kernel) rfl (Nat.le_of_ble_eq_true rfl) (by omega) rfl hc6 ?_
      refine sj_if_ne (tgt := 32) dX12_isRight_27 (by decide) (fun c7 => ?_) (fun c7 => ?_)
      · replace h := h.1 c7
        refine sj_iconst (v := (nI 0)) dX12_isRight_32 (by decide +kernel) ?_
        refine sj_istore_n dX12_isRight_33 (i := 2) rfl (by decide) ?_
        exact h
      · replace h := h.2 c7
        refine sj_fg [0, 1] ?_
        exact t_X12_isRight_30 h
def wp_X12_isRight_34 (G : sj_G) (R : sj_R) (x1 : Int32) (x2 : Int32) (σ : sj_S) : Prop := (x1 ≤ x2 → sj_J G 6 me_X12_isRight R 2 [.ref (sj_ad G 56), .int (x1 + (nI 1)), .null] σ []) ∧ (¬ (x1 ≤ x2) → ∃ v2 σ2, sj_C G 5 me_X12_canStandBoth [.ref (sj_ad G 56), .int x1, .int x2] σ (.ok v2, σ2) ∧ (¬ v2 = 0 → sj_J G 6 me_X12_isRight R 34 [.ref (sj_ad G 56), .int x1, .int (x2 + (nI 1))] σ2 []) ∧ (v2 = 0 → R = (.ok (nI 0), σ2)))
set_option maxRecDepth 20000 in
theorem t_X12_isRight_34 {G : sj_G} {R : sj_R} {x1 : Int32} {x2 : Int32} {σ : sj_S} (h : wp_X12_isRight_34 G R x1 x2 σ) : sj_J G 6 me_X12_isRight R 34 [.ref (sj_ad G 56), .int x1, .int x2] σ [] := by
  unfold wp_X12_isRight_34 at h
  refine sj_iload_n dX12_isRight_34 (i := 2) rfl rfl ?_
  refine sj_iload_n dX12_isRight_35 (i := 1) rfl rfl ?_
  refine sj_icmp_ge (tgt := 56) dX12_isRight_36 (by decide) (fun c1 => ?_) (fun c1 => ?_)
  · replace h := h.1 c1
    refine sj_iinc (v := (x1 + (nI 1))) dX12_isRight_56 (by decide) rfl rfl ?_
    refine sj_goto (tgt := 2) dX12_isRight_59 (by decide) ?_
    refine sj_fg [2] ?_
    exact h
  · replace h := h.2 c1
    refine sj_aload_n dX12_isRight_39 (i := 0) rfl rfl ?_
    refine sj_iload_n dX12_isRight_40 (i := 1) rfl rfl ?_
    refine sj_iload_n dX12_isRight_41 (i := 2) rfl rfl ?_
    obtain ⟨v2, σ2, hc2, h⟩ := h
    refine sj_callVi (M' := me_X12_canStandBoth) (b := 56) (As := [.int x1, .int x2]) (rest := []) dX12_isRight_42 gX12_isRight_X12_canStandBoth rfl hd_X12_canStandBoth (by decide +kernel) (by decide +kernel) rfl (Nat.le_of_ble_eq_true rfl) (by omega) rfl hc2 ?_
    refine sj_if_ne (tgt := 50) dX12_isRight_45 (by decide) (fun c3 => ?_) (fun c3 => ?_)
    · replace h := h.1 c3
      refine sj_iinc (v := (x2 + (nI 1))) dX12_isRight_50 (by decide) rfl rfl ?_
      refine sj_goto (tgt := 34) dX12_isRight_53 (by decide) ?_
      exact h
    · replace h := h.2 c3
      refine sj_iconst (v := (nI 0)) dX12_isRight_48 (by decide +kernel) ?_
      subst h
      exact sj_ret dX12_isRight_49 rfl rfl
def wp_X12_isRight_0 (G : sj_G) (R : sj_R) (σ : sj_S) : Prop := sj_J G 6 me_X12_isRight R 2 [.ref (sj_ad G 56), .int (nI 0), .null] σ []
set_option maxRecDepth 20000 in
theorem t_X12_isRight_0 {G : sj_G} {R : sj_R} {σ : sj_S} (h : wp_X12_isRight_0 G R σ) : sj_J G 6 me_X12_isRight R 0 [.ref (sj_ad G 56), .null, .null] σ [] := by
  unfold wp_X12_isRight_0 at h
  refine sj_iconst (v := (nI 0)) dX12_isRight_0 (by decide +kernel) ?_
  refine sj_istore_n dX12_isRight_1 (i := 1) rfl (by decide) ?_
  exact h
theorem c_X12_isRight {G : sj_G} (ok : sj_ok G) {R : sj_R} {σ : sj_S} (h : wp_X12_isRight_0 G R σ) : sj_C G 6 me_X12_isRight [.ref (sj_ad G 56)] σ R :=
  sj_enter ok (by decide +kernel) rfl rfl (Nat.le_of_ble_eq_true rfl) (by simp [Value.category]) (t_X12_isRight_0 h)
def wp_X12_looksAtTable_2 (G : sj_G) (R : sj_R) (x1 : Int32) (σ : sj_S) : Prop := ∃ v1 σ1, sj_C G 2 me_X12_many [.ref (sj_ad G 56)] σ (.ok v1, σ1) ∧ (v1 ≤ x1 → sj_J G 3 me_X12_looksAtTable R 33 [.ref (sj_ad G 56), .int (nI 0)] σ1 []) ∧ (¬ (v1 ≤ x1) → vp_in ((nI 116) + x1) 128 ∧ vp_in x1 9 ∧ sj_J G 3 me_X12_looksAtTable R 2 [.ref (sj_ad G 56), .int (x1 + (nI 1))] (sj_st σ1 59 x1.toNatClampNeg (σ1 57 ((nI 116) + x1).toNatClampNeg)) [])
set_option maxRecDepth 20000 in
theorem t_X12_looksAtTable_2 {G : sj_G} {R : sj_R} {x1 : Int32} {σ : sj_S} (h : wp_X12_looksAtTable_2 G R x1 σ) : sj_J G 3 me_X12_looksAtTable R 2 [.ref (sj_ad G 56), .int x1] σ [] := by
  unfold wp_X12_looksAtTable_2 at h
  refine sj_iload_n dX12_looksAtTable_2 (i := 1) rfl rfl ?_
  refine sj_aload_n dX12_looksAtTable_3 (i := 0) rfl rfl ?_
  obtain ⟨v1, σ1, hc1, h⟩ := h
  refine sj_callVi (M' := me_X12_many) (b := 56) (As := []) (rest := [.int x1]) dX12_looksAtTable_4 gX12_looksAtTable_X12_many rfl hd_X12_many (by decide +kernel) (by decide +kernel) rfl (Nat.le_of_ble_eq_true rfl) (by omega) rfl hc1 ?_
  refine sj_icmp_ge (tgt := 31) dX12_looksAtTable_7 (by decide) (fun c2 => ?_) (fun c2 => ?_)
  · replace h := h.1 c2
    refine sj_iconst (v := (nI 0)) dX12_looksAtTable_31 (by decide +kernel) ?_
    refine sj_istore_n dX12_looksAtTable_32 (i := 1) rfl (by decide) ?_
    exact h
  · replace h := h.2 c2
    refine sj_aload_n dX12_looksAtTable_10 (i := 0) rfl rfl ?_
    refine sj_get (a := 56) (k9 := 4) (v := .ref (sj_ad G 59)) dX12_looksAtTable_11 (by decide +kernel) rfl ?_
    refine sj_iload_n dX12_looksAtTable_14 (i := 1) rfl rfl ?_
    refine sj_aload_n dX12_looksAtTable_15 (i := 0) rfl rfl ?_
    refine sj_get (a := 56) (k9 := 1) (v := .ref (sj_ad G 57)) dX12_looksAtTable_16 (by decide +kernel) rfl ?_
    refine sj_bipush (v := (nI 116)) dX12_looksAtTable_19 (by decide +kernel) ?_
    refine sj_iload_n dX12_looksAtTable_21 (i := 1) rfl rfl ?_
    refine sj_iadd dX12_looksAtTable_22 ?_
    obtain ⟨b3, h⟩ := h
    refine sj_iald (a := 57) (j := ((nI 116) + x1).toNatClampNeg) (x := (σ1 57 ((nI 116) + x1).toNatClampNeg)) dX12_looksAtTable_23 rfl (by decide +kernel) b3 rfl rfl ?_
    obtain ⟨b4, h⟩ := h
    refine sj_iast (a := 59) (j := x1.toNatClampNeg) dX12_looksAtTable_24 rfl (by decide +kernel) b4 rfl ?_
    refine sj_iinc (v := (x1 + (nI 1))) dX12_looksAtTable_25 (by decide) rfl rfl ?_
    refine sj_goto (tgt := 2) dX12_looksAtTable_28 (by decide) ?_
    exact h
def wp_X12_looksAtTable_33 (G : sj_G) (R : sj_R) (x1 : Int32) (σ : sj_S) : Prop := ((nI 12) ≤ x1 → R = (.ok 0, σ)) ∧ (¬ ((nI 12) ≤ x1) → vp_in x1 12 ∧ sj_J G 3 me_X12_looksAtTable R 33 [.ref (sj_ad G 56), .int (x1 + (nI 1))] (sj_st σ 60 x1.toNatClampNeg (nI 0)) [])
set_option maxRecDepth 20000 in
theorem t_X12_looksAtTable_33 {G : sj_G} {R : sj_R} {x1 : Int32} {σ : sj_S} (h : wp_X12_looksAtTable_33 G R x1 σ) : sj_J G 3 me_X12_looksAtTable R 33 [.ref (sj_ad G 56), .int x1] σ [] := by
  unfold wp_X12_looksAtTable_33 at h
  refine sj_iload_n dX12_looksAtTable_33 (i := 1) rfl rfl ?_
  refine sj_bipush (v := (nI 12)) dX12_looksAtTable_34 (by decide +kernel) ?_
  refine sj_icmp_ge (tgt := 52) dX12_looksAtTable_36 (by decide) (fun c1 => ?_) (fun c1 => ?_)
  · replace h := h.1 c1
    subst h
    exact sj_vret dX12_looksAtTable_52 rfl
  · replace h := h.2 c1
    refine sj_aload_n dX12_looksAtTable_39 (i := 0) rfl rfl ?_
    refine sj_get (a := 56) (k9 := 5) (v := .ref (sj_ad G 60)) dX12_looksAtTable_40 (by decide +kernel) rfl ?_
    refine sj_iload_n dX12_looksAtTable_43 (i := 1) rfl rfl ?_
    refine sj_iconst (v := (nI 0)) dX12_looksAtTable_44 (by decide +kernel) ?_
    obtain ⟨b2, h⟩ := h
    refine sj_zast (a := 60) (j := x1.toNatClampNeg) dX12_looksAtTable_45 rfl (by decide +kernel) b2 rfl rfl ?_
    refine sj_iinc (v := (x1 + (nI 1))) dX12_looksAtTable_46 (by decide) rfl rfl ?_
    refine sj_goto (tgt := 33) dX12_looksAtTable_49 (by decide) ?_
    exact h
def wp_X12_looksAtTable_0 (G : sj_G) (R : sj_R) (σ : sj_S) : Prop := sj_J G 3 me_X12_looksAtTable R 2 [.ref (sj_ad G 56), .int (nI 0)] σ []
set_option maxRecDepth 20000 in
theorem t_X12_looksAtTable_0 {G : sj_G} {R : sj_R} {σ : sj_S} (h : wp_X12_looksAtTable_0 G R σ) : sj_J G 3 me_X12_looksAtTable R 0 [.ref (sj_ad G 56), .null] σ [] := by
  unfold wp_X12_looksAtTable_0 at h
  refine sj_iconst (v := (nI 0)) dX12_looksAtTable_0 (by decide +kernel) ?_
  refine sj_istore_n dX12_looksAtTable_1 (i := 1) rfl (by decide) ?_
  exact h
theorem c_X12_looksAtTable {G : sj_G} (ok : sj_ok G) {R : sj_R} {σ : sj_S} (h : wp_X12_looksAtTable_0 G R σ) : sj_C G 3 me_X12_looksAtTable [.ref (sj_ad G 56)] σ R :=
  sj_enter ok (by decide +kernel) rfl rfl (Nat.le_of_ble_eq_true rfl) (by simp [Value.category]) (t_X12_looksAtTable_0 h)
def wp_X12_fits_12 (G : sj_G) (R : sj_R) (x1 : Int32) (x2 : Int32) (σ : sj_S) : Prop := (x1 ≤ x2 → ∃ v2 σ2, sj_C G 4 me_X12_hasRoom [.ref (sj_ad G 56), .int x1, .int x1] σ (.ok v2, σ2) ∧ (v2 = 0 → sj_J G 6 me_X12_fits R 62 [.ref (sj_ad G 56), .int x1, .int (nI 0)] σ2 []) ∧ (¬ (v2 = 0) → R = (.ok (nI 1), σ2))) ∧ (¬ (x1 ≤ x2) → ∃ v4 σ4, sj_C G 5 me_X12_canStandBoth [.ref (sj_ad G 56), .int x1, .int x2] σ (.ok v4, σ4) ∧ (v4 = 0 → vp_in x1 9 ∧ vp_in x1 9 ∧ R = (.ok (nI 0), (sj_st σ4 61 x1.toNatClampNeg ((σ4 61 x1.toNatClampNeg) ||| ((nI 1) <<< (x2 &&& 31)))))) ∧ (¬ (v4 = 0) → sj_J G 6 me_X12_fits R 12 [.ref (sj_ad G 56), .int x1, .int (x2 + (nI 1))] σ4 []))
set_option maxRecDepth 20000 in
theorem t_X12_fits_12 {G : sj_G} {R : sj_R} {x1 : Int32} {x2 : Int32} {σ : sj_S} (h : wp_X12_fits_12 G R x1 x2 σ) : sj_J G 6 me_X12_fits R 12 [.ref (sj_ad G 56), .int x1, .int x2] σ [] := by
  unfold wp_X12_fits_12 at h
  refine sj_iload_n dX12_fits_12 (i := 2) rfl rfl ?_
  refine sj_iload_n dX12_fits_13 (i := 1) rfl rfl ?_
  refine sj_icmp_ge (tgt := 49) dX12_fits_14 (by decide) (fun c1 => ?_) (fun c1 => ?_)
  · replace h := h.1 c1
    refine sj_aload_n dX12_fits_49 (i := 0) rfl rfl ?_
    refine sj_iload_n dX12_fits_50 (i := 1) rfl rfl ?_
    refine sj_iload_n dX12_fits_51 (i := 1) rfl rfl ?_
    obtain ⟨v2, σ2, hc2, h⟩ := h
    refine sj_callVi (M' := me_X12_hasRoom) (b := 56) (As := [.int x1, .int x1]) (rest := []) dX12_fits_52 gX12_fits_X12_hasRoom rfl hd_X12_hasRoom (by decide +kernel) (by decide +kernel) rfl (Nat.le_of_ble_eq_true rfl) (by omega) rfl hc2 ?_
    refine sj_if_eq (tgt := 60) dX12_fits_55 (by decide) (fun c3 => ?_) (fun c3 => ?_)
    · replace h := h.1 c3
      refine sj_iconst (v := (nI 0)) dX12_fits_60 (by decide +kernel) ?_
      refine sj_istore_n dX12_fits_61 (i := 2) rfl (by decide) ?_
      exact h
    · replace h := h.2 c3
      refine sj_iconst (v := (nI 1)) dX12_fits_58 (by decide +kernel) ?_
      subst h
      exact sj_ret dX12_fits_59 rfl rfl
  · replace h := h.2 c1
    refine sj_aload_n dX12_fits_17 (i := 0) rfl rfl ?_
    refine sj_iload_n dX12_fits_18 (i := 1) rfl rfl ?_
    refine sj_iload_n dX12_fits_19 (i := 2) rfl rfl ?_
    obtain ⟨v4, σ4, hc4, h⟩ := h
    refine sj_callVi (M' := me_X12_canStandBoth) (b := 56) (As := [.int x1, .int x2]) (rest := []) dX12_fits_20 gX12_fits_X12_canStandBoth rfl hd_X12_canStandBoth (by decide +kernel) (by decide +kernel) rfl (Nat.le_of_ble_eq_true rfl) (by omega) rfl hc4 ?_
    refine sj_if_eq (tgt := 29) dX12_fits_23 (by decide) (fun c5 => ?_) (fun c5 => ?_)
    · replace h := h.1 c5
      refine sj_aload_n dX12_fits_29 (i := 0) rfl rfl ?_
      refine sj_get (a := 56) (k9 := 6) (v := .ref (sj_ad G 61)) dX12_fits_30 (by decide +kernel) rfl ?_
      refine sj_iload_n dX12_fits_33 (i := 1) rfl rfl ?_
      refine sj_dup2 dX12_fits_34 rfl rfl ?_
      obtain ⟨b6, h⟩ := h
      refine sj_iald (a := 61) (j := x1.toNatClampNeg) (x := (σ4 61 x1.toNatClampNeg)) dX12_fits_35 rfl (by decide +kernel) b6 rfl rfl ?_
      refine sj_iconst (v := (nI 1)) dX12_fits_36 (by decide +kernel) ?_
      refine sj_iload_n dX12_fits_37 (i := 2) rfl rfl ?_
      refine sj_ishl dX12_fits_38 ?_
      refine sj_ior dX12_fits_39 ?_
      obtain ⟨b7, h⟩ := h
      refine sj_iast (a := 61) (j := x1.toNatClampNeg) dX12_fits_40 rfl (by decide +kernel) b7 rfl ?_
      refine sj_iconst (v := (nI 0)) dX12_fits_41 (by decide +kernel) ?_
      subst h
      exact sj_ret dX12_fits_42 rfl rfl
    · replace h := h.2 c5
      refine sj_goto (tgt := 43) dX12_fits_26 (by decide) ?_
      refine sj_iinc (v := (x2 + (nI 1))) dX12_fits_43 (by decide) rfl rfl ?_
      refine sj_goto (tgt := 12) dX12_fits_46 (by decide) ?_
      exact h
def wp_X12_fits_111 (G : sj_G) (R : sj_R) (x1 : Int32) (x2 : Int32) (s0 : Int32) (s1 : Int32) (s2 : Int32) (σ : sj_S) : Prop := vp_in s2 9 ∧ sj_J G 6 me_X12_fits R 62 [.ref (sj_ad G 56), .int x1, .int (x2 + (nI 1))] (sj_st σ 61 s2.toNatClampNeg (s1 ||| s0)) []
set_option maxRecDepth 20000 in
theorem t_X12_fits_111 {G : sj_G} {R : sj_R} {x1 : Int32} {x2 : Int32} {s0 : Int32} {s1 : Int32} {s2 : Int32} {σ : sj_S} (h : wp_X12_fits_111 G R x1 x2 s0 s1 s2 σ) : sj_J G 6 me_X12_fits R 111 [.ref (sj_ad G 56), .int x1, .int x2] σ [.int s0, .int s1, .int s2, .ref (sj_ad G 61)] := by
  unfold wp_X12_fits_111 at h
  refine sj_ior dX12_fits_111 ?_
  obtain ⟨b1, h⟩ := h
  refine sj_iast (a := 61) (j := s2.toNatClampNeg) dX12_fits_112 rfl (by decide +kernel) b1 rfl ?_
  refine sj_iinc (v := (x2 + (nI 1))) dX12_fits_113 (by decide) rfl rfl ?_
  refine sj_goto (tgt := 62) dX12_fits_116 (by decide) ?_
  exact h
def wp_X12_fits_110 (G : sj_G) (R : sj_R) (x1 : Int32) (x2 : Int32) (s0 : Int32) (s1 : Int32) (σ : sj_S) : Prop := (wp_X12_fits_111 G R x1 x2 (nI 0) s0 s1 σ)
set_option maxRecDepth 20000 in
theorem t_X12_fits_110 {G : sj_G} {R : sj_R} {x1 : Int32} {x2 : Int32} {s0 : Int32} {s1 : Int32} {σ : sj_S} (h : wp_X12_fits_110 G R x1 x2 s0 s1 σ) : sj_J G 6 me_X12_fits R 110 [.ref (sj_ad G 56), .int x1, .int x2] σ [.int s0, .int s1, .ref (sj_ad G 61)] := by
  unfold wp_X12_fits_110 at h
  refine sj_iconst (v := (nI 0)) dX12_fits_110 (by decide +kernel) ?_
  exact t_X12_fits_111 h
def wp_X12_fits_62 (G : sj_G) (R : sj_R) (x1 : Int32) (x2 : Int32) (σ : sj_S) : Prop := (x1 ≤ x2 → R = (.ok (nI 0), σ)) ∧ (¬ (x1 ≤ x2) → vp_in x1 9 ∧ vp_in ((nI 27) + x2) 128 ∧ vp_in ((nI 27) + x1) 128 ∧ (¬ (σ 57 ((nI 27) + x2).toNatClampNeg) = (σ 57 ((nI 27) + x1).toNatClampNeg) → (wp_X12_fits_110 G R x1 x2 (σ 61 x1.toNatClampNeg) x1 σ)) ∧ ((σ 57 ((nI 27) + x2).toNatClampNeg) = (σ 57 ((nI 27) + x1).toNatClampNeg) → ∃ v7 σ7, sj_C G 4 me_X12_doMeet [.ref (sj_ad G 56), .int x1, .int x2] σ (.ok v7, σ7) ∧ (wp_X12_fits_111 G R x1 x2 (if v7 = 0 then (nI 0) else ((nI 1) <<< (x2 &&& 31))) (σ 61 x1.toNatClampNeg) x1 σ7)))
set_option maxRecDepth 20000 in
theorem t_X12_fits_62 {G : sj_G} {R : sj_R} {x1 : Int32} {x2 : Int32} {σ : sj_S} (h : wp_X12_fits_62 G R x1 x2 σ) : sj_J G 6 me_X12_fits R 62 [.ref (sj_ad G 56), .int x1, .int x2] σ [] := by
  unfold wp_X12_fits_62 at h
  refine sj_iload_n dX12_fits_62 (i := 2) rfl rfl ?_
  refine sj_iload_n dX12_fits_63 (i := 1) rfl rfl ?_
  refine sj_icmp_ge (tgt := 119) dX12_fits_64 (by decide) (fun c1 => ?_) (fun c1 => ?_)
  · replace h := h.1 c1
    refine sj_iconst (v := (nI 0)) dX12_fits_119 (by decide +kernel) ?_
    subst h
    exact sj_ret dX12_fits_120 rfl rfl
  · replace h := h.2 c1
    refine sj_aload_n dX12_fits_67 (i := 0) rfl rfl ?_
    refine sj_get (a := 56) (k9 := 6) (v := .ref (sj_ad G 61)) dX12_fits_68 (by decide +kernel) rfl ?_
    refine sj_iload_n dX12_fits_71 (i := 1) rfl rfl ?_
    refine sj_dup2 dX12_fits_72 rfl rfl ?_
    obtain ⟨b2, h⟩ := h
    refine sj_iald (a := 61) (j := x1.toNatClampNeg) (x := (σ 61 x1.toNatClampNeg)) dX12_fits_73 rfl (by decide +kernel) b2 rfl rfl ?_
    refine sj_aload_n dX12_fits_74 (i := 0) rfl rfl ?_
    refine sj_get (a := 56) (k9 := 1) (v := .ref (sj_ad G 57)) dX12_fits_75 (by decide +kernel) rfl ?_
    refine sj_bipush (v := (nI 27)) dX12_fits_78 (by decide +kernel) ?_
    refine sj_iload_n dX12_fits_80 (i := 2) rfl rfl ?_
    refine sj_iadd dX12_fits_81 ?_
    obtain ⟨b3, h⟩ := h
    refine sj_iald (a := 57) (j := ((nI 27) + x2).toNatClampNeg) (x := (σ 57 ((nI 27) + x2).toNatClampNeg)) dX12_fits_82 rfl (by decide +kernel) b3 rfl rfl ?_
    refine sj_aload_n dX12_fits_83 (i := 0) rfl rfl ?_
    refine sj_get (a := 56) (k9 := 1) (v := .ref (sj_ad G 57)) dX12_fits_84 (by decide +kernel) rfl ?_
    refine sj_bipush (v := (nI 27)) dX12_fits_87 (by decide +kernel) ?_
    refine sj_iload_n dX12_fits_89 (i := 1) rfl rfl ?_
    refine sj_iadd dX12_fits_90 ?_
    obtain ⟨b4, h⟩ := h
    refine sj_iald (a := 57) (j := ((nI 27) + x1).toNatClampNeg) (x := (σ 57 ((nI 27) + x1).toNatClampNeg)) dX12_fits_91 rfl (by decide +kernel) b4 rfl rfl ?_
    refine sj_icmp_ne (tgt := 110) dX12_fits_92 (by decide) (fun c6 => ?_) (fun c6 => ?_)
    · replace h := h.1 c6
      exact t_X12_fits_110 h
    · replace h := h.2 c6
      refine sj_aload_n dX12_fits_95 (i := 0) rfl rfl ?_
      refine sj_iload_n dX12_fits_96 (i := 1) rfl rfl ?_
      refine sj_iload_n dX12_fits_97 (i := 2) rfl rfl ?_
      obtain ⟨v7, σ7, hc7, h⟩ := h
      refine sj_callVi (M' := me_X12_doMeet) (b := 56) (As := [.int x1, .int x2]) (rest := [.int (σ 61 x1.toNatClampNeg), .int x1, .ref (sj_ad G 61)]) dX12_fits_98 gX12_fits_X12_doMeet rfl hd_X12_doMeet (by decide +kernel) (by decide +kernel) rfl (Nat.le_of_ble_eq_true rfl) (by omega) rfl hc7 ?_
      refine sj_if_eq (tgt := 110) dX12_fits_101 (by decide) (fun c8 => ?_) (fun c8 => ?_)
      · refine sj_iconst (v := (nI 0)) dX12_fits_110 (by decide +kernel) ?_
        try simp only [if_pos c8] at h
        exact t_X12_fits_111 h
      · refine sj_iconst (v := (nI 1)) dX12_fits_104 (by decide +kernel) ?_
        refine sj_iload_n dX12_fits_105 (i := 2) rfl rfl ?_
        refine sj_ishl dX12_fits_106 ?_
        refine sj_goto (tgt := 111) dX12_fits_107 (by decide) ?_
        try simp only [if_neg c8] at h
        exact t_X12_fits_111 h
def wp_X12_fits_0 (G : sj_G) (R : sj_R) (x1 : Int32) (σ : sj_S) : Prop := ∃ v1 σ1, sj_C G 5 me_X12_canStand [.ref (sj_ad G 56), .int x1] σ (.ok v1, σ1) ∧ (¬ v1 = 0 → sj_J G 6 me_X12_fits R 12 [.ref (sj_ad G 56), .int x1, .int (nI 0)] σ1 []) ∧ (v1 = 0 → R = (.ok (nI 0), σ1))
set_option maxRecDepth 20000 in
theorem t_X12_fits_0 {G : sj_G} {R : sj_R} {x1 : Int32} {σ : sj_S} (h : wp_X12_fits_0 G R x1 σ) : sj_J G 6 me_X12_fits R 0 [.ref (sj_ad G 56), .int x1, .null] σ [] := by
  unfold wp_X12_fits_0 at h
  refine sj_aload_n dX12_fits_0 (i := 0) rfl rfl ?_
  refine sj_iload_n dX12_fits_1 (i := 1) rfl rfl ?_
  obtain ⟨v1, σ1, hc1, h⟩ := h
  refine sj_callVi (M' := me_X12_canStand) (b := 56) (As := [.int x1]) (rest := []) dX12_fits_2 gX12_fits_X12_canStand rfl hd_X12_canStand (by decide +kernel) (by decide +kernel) rfl (Nat.le_of_ble_eq_true rfl) (by omega) rfl hc1 ?_
  refine sj_if_ne (tgt := 10) dX12_fits_5 (by decide) (fun c2 => ?_) (fun c2 => ?_)
  · replace h := h.1 c2
    refine sj_iconst (v := (nI 0)) dX12_fits_10 (by decide +kernel) ?_
    refine sj_istore_n dX12_fits_11 (i := 2) rfl (by decide) ?_
    exact h
  · replace h := h.2 c2
    refine sj_iconst (v := (nI 0)) dX12_fits_8 (by decide +kernel) ?_
    subst h
    exact sj_ret dX12_fits_9 rfl rfl
theorem c_X12_fits {G : sj_G} (ok : sj_ok G) {R : sj_R} {x1 : Int32} {σ : sj_S} (h : wp_X12_fits_0 G R x1 σ) : sj_C G 6 me_X12_fits [.ref (sj_ad G 56), .int x1] σ R :=
  sj_enter ok (by decide +kernel) rfl rfl (Nat.le_of_ble_eq_true rfl) (by simp [Value.category]) (t_X12_fits_0 h)
def wp_X12_isTooMuch_2 (G : sj_G) (R : sj_R) (x1 : Int32) (σ : sj_S) : Prop := ∃ v1 σ1, sj_C G 2 me_X12_many [.ref (sj_ad G 56)] σ (.ok v1, σ1) ∧ (v1 ≤ x1 → R = (.ok (nI 0), σ1)) ∧ (¬ (v1 ≤ x1) → sj_J G 4 me_X12_isTooMuch R 20 [.ref (sj_ad G 56), .int x1, .int (nI 0), .int (nI 0), .int (nI 0), .int (nI 0), .null] σ1 [])
set_option maxRecDepth 20000 in
theorem t_X12_isTooMuch_2 {G : sj_G} {R : sj_R} {x1 : Int32} {σ : sj_S} (h : wp_X12_isTooMuch_2 G R x1 σ) : sj_J G 4 me_X12_isTooMuch R 2 [.ref (sj_ad G 56), .int x1, .null, .null, .null, .null, .null] σ [] := by
  unfold wp_X12_isTooMuch_2 at h
  refine sj_iload_n dX12_isTooMuch_2 (i := 1) rfl rfl ?_
  refine sj_aload_n dX12_isTooMuch_3 (i := 0) rfl rfl ?_
  obtain ⟨v1, σ1, hc1, h⟩ := h
  refine sj_callVi (M' := me_X12_many) (b := 56) (As := []) (rest := [.int x1]) dX12_isTooMuch_4 gX12_isTooMuch_X12_many rfl hd_X12_many (by decide +kernel) (by decide +kernel) rfl (Nat.le_of_ble_eq_true rfl) (by omega) rfl hc1 ?_
  refine sj_icmp_ge (tgt := 213) dX12_isTooMuch_7 (by decide) (fun c2 => ?_) (fun c2 => ?_)
  · replace h := h.1 c2
    refine sj_iconst (v := (nI 0)) dX12_isTooMuch_213 (by decide +kernel) ?_
    subst h
    exact sj_ret dX12_isTooMuch_214 rfl rfl
  · replace h := h.2 c2
    refine sj_iconst (v := (nI 0)) dX12_isTooMuch_10 (by decide +kernel) ?_
    refine sj_istore_n dX12_isTooMuch_11 (i := 2) rfl (by decide) ?_
    refine sj_iconst (v := (nI 0)) dX12_isTooMuch_12 (by decide +kernel) ?_
    refine sj_istore_n dX12_isTooMuch_13 (i := 3) rfl (by decide) ?_
    refine sj_iconst (v := (nI 0)) dX12_isTooMuch_14 (by decide +kernel) ?_
    refine sj_istore dX12_isTooMuch_15 (by decide) ?_
    refine sj_iconst (v := (nI 0)) dX12_isTooMuch_17 (by decide +kernel) ?_
    refine sj_istore dX12_isTooMuch_18 (by decide) ?_
    exact h
def wp_X12_isTooMuch_155 (G : sj_G) (R : sj_R) (x1 : Int32) (x2 : Int32) (x3 : Int32) (x5 : Int32) (s0 : Int32) (s1 : Int32) (σ : sj_S) : Prop := sj_J G 4 me_X12_isTooMuch R 20 [.ref (sj_ad G 56), .int x1, .int x2, .int x3, .int (s1 + s0), .int (x5 + (nI 1)), .null] σ []
set_option maxRecDepth 20000 in
theorem t_X12_isTooMuch_155 {G : sj_G} {R : sj_R} {x1 : Int32} {x2 : Int32} {x3 : Int32} {x5 : Int32} {s0 : Int32} {s1 : Int32} {σ : sj_S} (h : wp_X12_isTooMuch_155 G R x1 x2 x3 x5 s0 s1 σ) : sj_J G 4 me_X12_isTooMuch R 155 [.ref (sj_ad G 56), .int x1, .int x2, .int x3, .null, .int x5, .null] σ [.int s0, .int s1] := by
  unfold wp_X12_isTooMuch_155 at h
  refine sj_iadd dX12_isTooMuch_155 ?_
  refine sj_istore dX12_isTooMuch_156 (by decide) ?_
  refine sj_iinc (v := (x5 + (nI 1))) dX12_isTooMuch_158 (by decide) rfl rfl ?_
  refine sj_goto (tgt := 20) dX12_isTooMuch_161 (by decide) ?_
  exact h
def wp_X12_isTooMuch_113 (G : sj_G) (R : sj_R) (x1 : Int32) (x2 : Int32) (x4 : Int32) (x5 : Int32) (s0 : Int32) (s1 : Int32) (σ : sj_S) : Prop := vp_in ((nI 9) + x5) 128 ∧ vp_in ((nI 9) + x1) 128 ∧ (((σ 57 ((nI 9) + x5).toNatClampNeg) = (σ 57 ((nI 9) + x1).toNatClampNeg)) → vp_in ((nI 36) + x5) 128) ∧ (wp_X12_isTooMuch_155 G R x1 x2 (s1 + s0) x5 (if (σ 57 ((nI 9) + x5).toNatClampNeg) = (σ 57 ((nI 9) + x1).toNatClampNeg) then ((nI 1) + (σ 57 ((nI 36) + x5).toNatClampNeg)) else (nI 0)) x4 σ)
set_option maxRecDepth 20000 in
theorem t_X12_isTooMuch_113 {G : sj_G} {R : sj_R} {x1 : Int32} {x2 : Int32} {x4 : Int32} {x5 : Int32} {s0 : Int32} {s1 : Int32} {σ : sj_S} (h : wp_X12_isTooMuch_113 G R x1 x2 x4 x5 s0 s1 σ) : sj_J G 4 me_X12_isTooMuch R 113 [.ref (sj_ad G 56), .int x1, .int x2, .null, .int x4, .int x5, .null] σ [.int s0, .int s1] := by
  unfold wp_X12_isTooMuch_113 at h
  refine sj_iadd dX12_isTooMuch_113 ?_
  refine sj_istore_n dX12_isTooMuch_114 (i := 3) rfl (by decide) ?_
  refine sj_iload dX12_isTooMuch_115 rfl ?_
  refine sj_aload_n dX12_isTooMuch_117 (i := 0) rfl rfl ?_
  refine sj_get (a := 56) (k9 := 1) (v := .ref (sj_ad G 57)) dX12_isTooMuch_118 (by decide +kernel) rfl ?_
  refine sj_bipush (v := (nI 9)) dX12_isTooMuch_121 (by decide +kernel) ?_
  refine sj_iload dX12_isTooMuch_123 rfl ?_
  refine sj_iadd dX12_isTooMuch_125 ?_
  obtain ⟨b1, h⟩ := h
  refine sj_iald (a := 57) (j := ((nI 9) + x5).toNatClampNeg) (x := (σ 57 ((nI 9) + x5).toNatClampNeg)) dX12_isTooMuch_126 rfl (by decide +kernel) b1 rfl rfl ?_
  refine sj_aload_n dX12_isTooMuch_127 (i := 0) rfl rfl ?_
  refine sj_get (a := 56) (k9 := 1) (v := .ref (sj_ad G 57)) dX12_isTooMuch_128 (by decide +kernel) rfl ?_
  refine sj_bipush (v := (nI 9)) dX12_isTooMuch_131 (by decide +kernel) ?_
  refine sj_iload_n dX12_isTooMuch_133 (i := 1) rfl rfl ?_
  refine sj_iadd dX12_isTooMuch_134 ?_
  obtain ⟨b2, h⟩ := h
  refine sj_iald (a := 57) (j := ((nI 9) + x1).toNatClampNeg) (x := (σ 57 ((nI 9) + x1).toNatClampNeg)) dX12_isTooMuch_135 rfl (by decide +kernel) b2 rfl rfl ?_
  obtain ⟨f5, h⟩ := h
  refine sj_icmp_ne (tgt := 154) dX12_isTooMuch_136 (by decide) (fun c3 => ?_) (fun c3 => ?_)
  · refine sj_iconst (v := (nI 0)) dX12_isTooMuch_154 (by decide +kernel) ?_
    try simp only [if_neg c3] at h
    refine sj_fg [4] ?_
    exact t_X12_isTooMuch_155 h
  · have b4 := f5 c3
    refine sj_iconst (v := (nI 1)) dX12_isTooMuch_139 (by decide +kernel) ?_
    refine sj_aload_n dX12_isTooMuch_140 (i := 0) rfl rfl ?_
    refine sj_get (a := 56) (k9 := 1) (v := .ref (sj_ad G 57)) dX12_isTooMuch_141 (by decide +kernel) rfl ?_
    refine sj_bipush (v := (nI 36)) dX12_isTooMuch_144 (by decide +kernel) ?_
    refine sj_iload dX12_isTooMuch_146 rfl ?_
    refine sj_iadd dX12_isTooMuch_148 ?_
    refine sj_iald (a := 57) (j := ((nI 36) + x5).toNatClampNeg) (x := (σ 57 ((nI 36) + x5).toNatClampNeg)) dX12_isTooMuch_149 rfl (by decide +kernel) b4 rfl rfl ?_
    refine sj_iadd dX12_isTooMuch_150 ?_
    refine sj_goto (tgt := 155) dX12_isTooMuch_151 (by decide) ?_
    try simp only [if_pos c3] at h
    refine sj_fg [4] ?_
    exact t_X12_isTooMuch_155 h
def wp_X12_isTooMuch_89 (G : sj_G) (R : sj_R) (x1 : Int32) (x3 : Int32) (x4 : Int32) (x5 : Int32) (x6 : Int32) (s0 : Int32) (s1 : Int32) (σ : sj_S) : Prop := ((¬ (x6 = 0)) → vp_in ((nI 36) + x5) 128) ∧ (wp_X12_isTooMuch_113 G R x1 (s1 + s0) x4 x5 (if x6 = 0 then (nI 0) else ((nI 1) + (σ 57 ((nI 36) + x5).toNatClampNeg))) x3 σ)
set_option maxRecDepth 20000 in
theorem t_X12_isTooMuch_89 {G : sj_G} {R : sj_R} {x1 : Int32} {x3 : Int32} {x4 : Int32} {x5 : Int32} {x6 : Int32} {s0 : Int32} {s1 : Int32} {σ : sj_S} (h : wp_X12_isTooMuch_89 G R x1 x3 x4 x5 x6 s0 s1 σ) : sj_J G 4 me_X12_isTooMuch R 89 [.ref (sj_ad G 56), .int x1, .null, .int x3, .int x4, .int x5, .int x6] σ [.int s0, .int s1] := by
  unfold wp_X12_isTooMuch_89 at h
  refine sj_iadd dX12_isTooMuch_89 ?_
  refine sj_istore_n dX12_isTooMuch_90 (i := 2) rfl (by decide) ?_
  refine sj_iload_n dX12_isTooMuch_91 (i := 3) rfl rfl ?_
  refine sj_iload dX12_isTooMuch_92 rfl ?_
  obtain ⟨f3, h⟩ := h
  refine sj_if_eq (tgt := 112) dX12_isTooMuch_94 (by decide) (fun c1 => ?_) (fun c1 => ?_)
  · refine sj_iconst (v := (nI 0)) dX12_isTooMuch_112 (by decide +kernel) ?_
    try simp only [if_pos c1] at h
    refine sj_fg [3, 6] ?_
    exact t_X12_isTooMuch_113 h
  · have b2 := f3 c1
    refine sj_iconst (v := (nI 1)) dX12_isTooMuch_97 (by decide +kernel) ?_
    refine sj_aload_n dX12_isTooMuch_98 (i := 0) rfl rfl ?_
    refine sj_get (a := 56) (k9 := 1) (v := .ref (sj_ad G 57)) dX12_isTooMuch_99 (by decide +kernel) rfl ?_
    refine sj_bipush (v := (nI 36)) dX12_isTooMuch_102 (by decide +kernel) ?_
    refine sj_iload dX12_isTooMuch_104 rfl ?_
    refine sj_iadd dX12_isTooMuch_106 ?_
    refine sj_iald (a := 57) (j := ((nI 36) + x5).toNatClampNeg) (x := (σ 57 ((nI 36) + x5).toNatClampNeg)) dX12_isTooMuch_107 rfl (by decide +kernel) b2 rfl rfl ?_
    refine sj_iadd dX12_isTooMuch_108 ?_
    refine sj_goto (tgt := 113) dX12_isTooMuch_109 (by decide) ?_
    try simp only [if_neg c1] at h
    refine sj_fg [3, 6] ?_
    exact t_X12_isTooMuch_113 h
def wp_X12_isTooMuch_54 (G : sj_G) (R : sj_R) (x1 : Int32) (x2 : Int32) (x3 : Int32) (x4 : Int32) (x5 : Int32) (s0 : Int32) (σ : sj_S) : Prop := ((¬ (s0 = 0)) → vp_in ((nI 18) + x5) 128 ∧ vp_in ((nI 18) + x1) 128) ∧ (wp_X12_isTooMuch_89 G R x1 x3 x4 x5 s0 (if s0 = 0 then (nI 0) else (if (σ 57 ((nI 18) + x5).toNatClampNeg) = (σ 57 ((nI 18) + x1).toNatClampNeg) then (nI 1) else (nI 0))) x2 σ)
set_option maxRecDepth 20000 in
theorem t_X12_isTooMuch_54 {G : sj_G} {R : sj_R} {x1 : Int32} {x2 : Int32} {x3 : Int32} {x4 : Int32} {x5 : Int32} {s0 : Int32} {σ : sj_S} (h : wp_X12_isTooMuch_54 G R x1 x2 x3 x4 x5 s0 σ) : sj_J G 4 me_X12_isTooMuch R 54 [.ref (sj_ad G 56), .int x1, .int x2, .int x3, .int x4, .int x5, .null] σ [.int s0] := by
  unfold wp_X12_isTooMuch_54 at h
  refine sj_istore dX12_isTooMuch_54 (by decide) ?_
  refine sj_iload_n dX12_isTooMuch_56 (i := 2) rfl rfl ?_
  refine sj_iload dX12_isTooMuch_57 rfl ?_
  obtain ⟨f5, h⟩ := h
  refine sj_if_eq (tgt := 88) dX12_isTooMuch_59 (by decide) (fun c1 => ?_) (fun c1 => ?_)
  · refine sj_iconst (v := (nI 0)) dX12_isTooMuch_88 (by decide +kernel) ?_
    try simp only [if_pos c1] at h
    refine sj_fg [2] ?_
    exact t_X12_isTooMuch_89 h
  · obtain ⟨b2, b3⟩ := f5 c1
    refine sj_aload_n dX12_isTooMuch_62 (i := 0) rfl rfl ?_
    refine sj_get (a := 56) (k9 := 1) (v := .ref (sj_ad G 57)) dX12_isTooMuch_63 (by decide +kernel) rfl ?_
    refine sj_bipush (v := (nI 18)) dX12_isTooMuch_66 (by decide +kernel) ?_
    refine sj_iload dX12_isTooMuch_68 rfl ?_
    refine sj_iadd dX12_isTooMuch_70 ?_
    refine sj_iald (a := 57) (j := ((nI 18) + x5).toNatClampNeg) (x := (σ 57 ((nI 18) + x5).toNatClampNeg)) dX12_isTooMuch_71 rfl (by decide +kernel) b2 rfl rfl ?_
    refine sj_aload_n dX12_isTooMuch_72 (i := 0) rfl rfl ?_
    refine sj_get (a := 56) (k9 := 1) (v := .ref (sj_ad G 57)) dX12_isTooMuch_73 (by decide +kernel) rfl ?_
    refine sj_bipush (v := (nI 18)) dX12_isTooMuch_76 (by decide +kernel) ?_
    refine sj_iload_n dX12_isTooMuch_78 (i := 1) rfl rfl ?_
    refine sj_iadd dX12_isTooMuch_79 ?_
    refine sj_iald (a := 57) (j := ((nI 18) + x1).toNatClampNeg) (x := (σ 57 ((nI 18) + x1).toNatClampNeg)) dX12_isTooMuch_80 rfl (by decide +kernel) b3 rfl rfl ?_
    refine sj_icmp_ne (tgt := 88) dX12_isTooMuch_81 (by decide) (fun c4 => ?_) (fun c4 => ?_)
    · refine sj_iconst (v := (nI 0)) dX12_isTooMuch_88 (by decide +kernel) ?_
      try simp only [if_neg c1, if_neg c4] at h
      refine sj_fg [2] ?_
      exact t_X12_isTooMuch_89 h
    · refine sj_iconst (v := (nI 1)) dX12_isTooMuch_84 (by decide +kernel) ?_
      refine sj_goto (tgt := 89) dX12_isTooMuch_85 (by decide) ?_
      try simp only [if_neg c1, if_pos c4] at h
      refine sj_fg [2] ?_
      exact t_X12_isTooMuch_89 h
def wp_X12_isTooMuch_205 (G : sj_G) (R : sj_R) (σ : sj_S) : Prop := R = (.ok (nI 1), σ)
set_option maxRecDepth 20000 in
theorem t_X12_isTooMuch_205 {G : sj_G} {R : sj_R} {σ : sj_S} (h : wp_X12_isTooMuch_205 G R σ) : sj_J G 4 me_X12_isTooMuch R 205 [.null, .null, .null, .null, .null, .null, .null] σ [] := by
  unfold wp_X12_isTooMuch_205 at h
  refine sj_iconst (v := (nI 1)) dX12_isTooMuch_205 (by decide +kernel) ?_
  subst h
  exact sj_ret dX12_isTooMuch_206 rfl rfl
def wp_X12_isTooMuch_20 (G : sj_G) (R : sj_R) (x1 : Int32) (x2 : Int32) (x3 : Int32) (x4 : Int32) (x5 : Int32) (σ : sj_S) : Prop := ∃ v1 σ1, sj_C G 2 me_X12_many [.ref (sj_ad G 56)] σ (.ok v1, σ1) ∧ (v1 ≤ x5 → ((nI 5) < x2 → (wp_X12_isTooMuch_205 G R σ1)) ∧ (¬ ((nI 5) < x2) → vp_in ((nI 0) + x1) 128 ∧ ∃ v5 σ5, sj_C G 3 me_X12_hours [.ref (sj_ad G 56), .int (nI 1), .int (σ1 57 ((nI 0) + x1).toNatClampNeg)] σ1 (.ok v5, σ5) ∧ (v5 < x3 → (wp_X12_isTooMuch_205 G R σ5)) ∧ (¬ (v5 < x3) → vp_in ((nI 9) + x1) 128 ∧ ∃ v8 σ8, sj_C G 3 me_X12_hours [.ref (sj_ad G 56), .int (nI 0), .int (σ5 57 ((nI 9) + x1).toNatClampNeg)] σ5 (.ok v8, σ8) ∧ (x4 ≤ v8 → sj_J G 4 me_X12_isTooMuch R 2 [.ref (sj_ad G 56), .int (x1 + (nI 1)), .null, .null, .null, .null, .null] σ8 []) ∧ (¬ (x4 ≤ v8) → (wp_X12_isTooMuch_205 G R σ8))))) ∧ (¬ (v1 ≤ x5) → vp_in ((nI 0) + x5) 128 ∧ vp_in ((nI 0) + x1) 128 ∧ (wp_X12_isTooMuch_54 G R x1 x2 x3 x4 x5 (if (σ1 57 ((nI 0) + x5).toNatClampNeg) = (σ1 57 ((nI 0) + x1).toNatClampNeg) then (nI 1) else (nI 0)) σ1))
set_option maxRecDepth 20000 in
theorem t_X12_isTooMuch_20 {G : sj_G} {R : sj_R} {x1 : Int32} {x2 : Int32} {x3 : Int32} {x4 : Int32} {x5 : Int32} {σ : sj_S} (h : wp_X12_isTooMuch_20 G R x1 x2 x3 x4 x5 σ) : sj_J G 4 me_X12_isTooMuch R 20 [.ref (sj_ad G 56), .int x1, .int x2, .int x3, .int x4, .int x5, .null] σ [] := by
  unfold wp_X12_isTooMuch_20 at h
  refine sj_iload dX12_isTooMuch_20 rfl ?_
  refine sj_aload_n dX12_isTooMuch_22 (i := 0) rfl rfl ?_
  obtain ⟨v1, σ1, hc1, h⟩ := h
  refine sj_callVi (M' := me_X12_many) (b := 56) (As := []) (rest := [.int x5]) dX12_isTooMuch_23 gX12_isTooMuch_X12_many rfl hd_X12_many (by decide +kernel) (by decide +kernel) rfl (Nat.le_of_ble_eq_true rfl) (by omega) rfl hc1 ?_
  refine sj_icmp_ge (tgt := 164) dX12_isTooMuch_26 (by decide) (fun c2 => ?_) (fun c2 => ?_)
  · replace h := h.1 c2
    refine sj_iload_n dX12_isTooMuch_164 (i := 2) rfl rfl ?_
    refine sj_iconst (v := (nI 5)) dX12_isTooMuch_165 (by decide +kernel) ?_
    refine sj_icmp_gt (tgt := 205) dX12_isTooMuch_166 (by decide) (fun c3 => ?_) (fun c3 => ?_)
    · replace h := h.1 c3
      refine sj_fg [0, 1, 2, 3, 4, 5] ?_
      exact t_X12_isTooMuch_205 h
    · replace h := h.2 c3
      refine sj_iload_n dX12_isTooMuch_169 (i := 3) rfl rfl ?_
      refine sj_aload_n dX12_isTooMuch_170 (i := 0) rfl rfl ?_
      refine sj_iconst (v := (nI 1)) dX12_isTooMuch_171 (by decide +kernel) ?_
      refine sj_aload_n dX12_isTooMuch_172 (i := 0) rfl rfl ?_
      refine sj_get (a := 56) (k9 := 1) (v := .ref (sj_ad G 57)) dX12_isTooMuch_173 (by decide +kernel) rfl ?_
      refine sj_iconst (v := (nI 0)) dX12_isTooMuch_176 (by decide +kernel) ?_
      refine sj_iload_n dX12_isTooMuch_177 (i := 1) rfl rfl ?_
      refine sj_iadd dX12_isTooMuch_178 ?_
      obtain ⟨b4, h⟩ := h
      refine sj_iald (a := 57) (j := ((nI 0) + x1).toNatClampNeg) (x := (σ1 57 ((nI 0) + x1).toNatClampNeg)) dX12_isTooMuch_179 rfl (by decide +kernel) b4 rfl rfl ?_
      obtain ⟨v5, σ5, hc5, h⟩ := h
      refine sj_callVi (M' := me_X12_hours) (b := 56) (As := [.int (nI 1), .int (σ1 57 ((nI 0) + x1).toNatClampNeg)]) (rest := [.int x3]) dX12_isTooMuch_180 gX12_isTooMuch_X12_hours rfl hd_X12_hours (by decide +kernel) (by decide +kernel) rfl (Nat.le_of_ble_eq_true rfl) (by omega) rfl hc5 ?_
      refine sj_icmp_gt (tgt := 205) dX12_isTooMuch_183 (by decide) (fun c6 => ?_) (fun c6 => ?_)
      · replace h := h.1 c6
        refine sj_fg [0, 1, 2, 3, 4, 5] ?_
        exact t_X12_isTooMuch_205 h
      · replace h := h.2 c6
        refine sj_iload dX12_isTooMuch_186 rfl ?_
        refine sj_aload_n dX12_isTooMuch_188 (i := 0) rfl rfl ?_
        refine sj_iconst (v := (nI 0)) dX12_isTooMuch_189 (by decide +kernel) ?_
        refine sj_aload_n dX12_isTooMuch_190 (i := 0) rfl rfl ?_
        refine sj_get (a := 56) (k9 := 1) (v := .ref (sj_ad G 57)) dX12_isTooMuch_191 (by decide +kernel) rfl ?_
        refine sj_bipush (v := (nI 9)) dX12_isTooMuch_194 (by decide +kernel) ?_
        refine sj_iload_n dX12_isTooMuch_196 (i := 1) rfl rfl ?_
        refine sj_iadd dX12_isTooMuch_197 ?_
        obtain ⟨b7, h⟩ := h
        refine sj_iald (a := 57) (j := ((nI 9) + x1).toNatClampNeg) (x := (σ5 57 ((nI 9) + x1).toNatClampNeg)) dX12_isTooMuch_198 rfl (by decide +kernel) b7 rfl rfl ?_
        obtain ⟨v8, σ8, hc8, h⟩ := h
        refine sj_callVi (M' := me_X12_hours) (b := 56) (As := [.int (nI 0), .int (σ5 57 ((nI 9) + x1).toNatClampNeg)]) (rest := [.int x4]) dX12_isTooMuch_199 gX12_isTooMuch_X12_hours rfl hd_X12_hours (by decide +kernel) (by decide +kernel) rfl (Nat.le_of_ble_eq_true rfl) (by omega) rfl hc8 ?_
        refine sj_icmp_le (tgt := 207) dX12_isTooMuch_202 (by decide) (fun c9 => ?_) (fun c9 => ?_)
        · replace h := h.1 c9
          refine sj_iinc (v := (x1 + (nI 1))) dX12_isTooMuch_207 (by decide) rfl rfl ?_
          refine sj_goto (tgt := 2) dX12_isTooMuch_210 (by decide) ?_
          refine sj_fg [2, 3, 4, 5] ?_
          exact h
        · replace h := h.2 c9
          refine sj_fg [0, 1, 2, 3, 4, 5] ?_
          exact t_X12_isTooMuch_205 h
  · replace h := h.2 c2
    refine sj_aload_n dX12_isTooMuch_29 (i := 0) rfl rfl ?_
    refine sj_get (a := 56) (k9 := 1) (v := .ref (sj_ad G 57)) dX12_isTooMuch_30 (by decide +kernel) rfl ?_
    refine sj_iconst (v := (nI 0)) dX12_isTooMuch_33 (by decide +kernel) ?_
    refine sj_iload dX12_isTooMuch_34 rfl ?_
    refine sj_iadd dX12_isTooMuch_36 ?_
    obtain ⟨b10, h⟩ := h
    refine sj_iald (a := 57) (j := ((nI 0) + x5).toNatClampNeg) (x := (σ1 57 ((nI 0) + x5).toNatClampNeg)) dX12_isTooMuch_37 rfl (by decide +kernel) b10 rfl rfl ?_
    refine sj_aload_n dX12_isTooMuch_38 (i := 0) rfl rfl ?_
    refine sj_get (a := 56) (k9 := 1) (v := .ref (sj_ad G 57)) dX12_isTooMuch_39 (by decide +kernel) rfl ?_
    refine sj_iconst (v := (nI 0)) dX12_isTooMuch_42 (by decide +kernel) ?_
    refine sj_iload_n dX12_isTooMuch_43 (i := 1) rfl rfl ?_
    refine sj_iadd dX12_isTooMuch_44 ?_
    obtain ⟨b11, h⟩ := h
    refine sj_iald (a := 57) (j := ((nI 0) + x1).toNatClampNeg) (x := (σ1 57 ((nI 0) + x1).toNatClampNeg)) dX12_isTooMuch_45 rfl (by decide +kernel) b11 rfl rfl ?_
    refine sj_icmp_ne (tgt := 53) dX12_isTooMuch_46 (by decide) (fun c12 => ?_) (fun c12 => ?_)
    · refine sj_iconst (v := (nI 0)) dX12_isTooMuch_53 (by decide +kernel) ?_
      try simp only [if_neg c12] at h
      exact t_X12_isTooMuch_54 h
    · refine sj_iconst (v := (nI 1)) dX12_isTooMuch_49 (by decide +kernel) ?_
      refine sj_goto (tgt := 54) dX12_isTooMuch_50 (by decide) ?_
      try simp only [if_pos c12] at h
      exact t_X12_isTooMuch_54 h
def wp_X12_isTooMuch_0 (G : sj_G) (R : sj_R) (σ : sj_S) : Prop := sj_J G 4 me_X12_isTooMuch R 2 [.ref (sj_ad G 56), .int (nI 0), .null, .null, .null, .null, .null] σ []
set_option maxRecDepth 20000 in
theorem t_X12_isTooMuch_0 {G : sj_G} {R : sj_R} {σ : sj_S} (h : wp_X12_isTooMuch_0 G R σ) : sj_J G 4 me_X12_isTooMuch R 0 [.ref (sj_ad G 56), .null, .null, .null, .null, .null, .null] σ [] := by
  unfold wp_X12_isTooMuch_0 at h
  refine sj_iconst (v := (nI 0)) dX12_isTooMuch_0 (by decide +kernel) ?_
  refine sj_istore_n dX12_isTooMuch_1 (i := 1) rfl (by decide) ?_
  exact h
theorem c_X12_isTooMuch {G : sj_G} (ok : sj_ok G) {R : sj_R} {σ : sj_S} (h : wp_X12_isTooMuch_0 G R σ) : sj_C G 4 me_X12_isTooMuch [.ref (sj_ad G 56)] σ R :=
  sj_enter ok (by decide +kernel) rfl rfl (Nat.le_of_ble_eq_true rfl) (by simp [Value.category]) (t_X12_isTooMuch_0 h)
def wp_X12_hours_5 (G : sj_G) (R : sj_R) (x1 : Int32) (x2 : Int32) (x3 : Int32) (x4 : Int32) (σ : sj_S) : Prop := ((nI 20) ≤ x4 → R = (.ok x3, σ)) ∧ (¬ ((nI 20) ≤ x4) → sj_J G 3 me_X12_hours R 18 [.ref (sj_ad G 56), .int x1, .int x2, .int x3, .int x4, .int (nI 1), .int (nI 0)] σ [])
set_option maxRecDepth 20000 in
theorem t_X12_hours_5 {G : sj_G} {R : sj_R} {x1 : Int32} {x2 : Int32} {x3 : Int32} {x4 : Int32} {σ : sj_S} (h : wp_X12_hours_5 G R x1 x2 x3 x4 σ) : sj_J G 3 me_X12_hours R 5 [.ref (sj_ad G 56), .int x1, .int x2, .int x3, .int x4, .null, .null] σ [] := by
  unfold wp_X12_hours_5 at h
  refine sj_iload dX12_hours_5 rfl ?_
  refine sj_bipush (v := (nI 20)) dX12_hours_7 (by decide +kernel) ?_
  refine sj_icmp_ge (tgt := 117) dX12_hours_9 (by decide) (fun c1 => ?_) (fun c1 => ?_)
  · replace h := h.1 c1
    refine sj_iload_n dX12_hours_117 (i := 3) rfl rfl ?_
    subst h
    exact sj_ret dX12_hours_118 rfl rfl
  · replace h := h.2 c1
    refine sj_iconst (v := (nI 1)) dX12_hours_12 (by decide +kernel) ?_
    refine sj_istore dX12_hours_13 (by decide) ?_
    refine sj_iconst (v := (nI 0)) dX12_hours_15 (by decide +kernel) ?_
    refine sj_istore dX12_hours_16 (by decide) ?_
    exact h
def wp_X12_hours_89 (G : sj_G) (R : sj_R) (x1 : Int32) (x2 : Int32) (x3 : Int32) (x4 : Int32) (x6 : Int32) (s0 : Int32) (s1 : Int32) (σ : sj_S) : Prop := sj_J G 3 me_X12_hours R 18 [.ref (sj_ad G 56), .int x1, .int x2, .int x3, .int x4, .int (s1 &&& s0), .int (x6 + (nI 1))] σ []
set_option maxRecDepth 20000 in
theorem t_X12_hours_89 {G : sj_G} {R : sj_R} {x1 : Int32} {x2 : Int32} {x3 : Int32} {x4 : Int32} {x6 : Int32} {s0 : Int32} {s1 : Int32} {σ : sj_S} (h : wp_X12_hours_89 G R x1 x2 x3 x4 x6 s0 s1 σ) : sj_J G 3 me_X12_hours R 89 [.ref (sj_ad G 56), .int x1, .int x2, .int x3, .int x4, .null, .int x6] σ [.int s0, .int s1] := by
  unfold wp_X12_hours_89 at h
  refine sj_iand dX12_hours_89 ?_
  refine sj_istore dX12_hours_90 (by decide) ?_
  refine sj_iinc (v := (x6 + (nI 1))) dX12_hours_92 (by decide) rfl rfl ?_
  refine sj_goto (tgt := 18) dX12_hours_95 (by decide) ?_
  exact h
def wp_X12_hours_109 (G : sj_G) (R : sj_R) (x1 : Int32) (x2 : Int32) (x4 : Int32) (s0 : Int32) (s1 : Int32) (σ : sj_S) : Prop := sj_J G 3 me_X12_hours R 5 [.ref (sj_ad G 56), .int x1, .int x2, .int (s1 + s0), .int (x4 + (nI 1)), .null, .null] σ []
set_option maxRecDepth 20000 in
theorem t_X12_hours_109 {G : sj_G} {R : sj_R} {x1 : Int32} {x2 : Int32} {x4 : Int32} {s0 : Int32} {s1 : Int32} {σ : sj_S} (h : wp_X12_hours_109 G R x1 x2 x4 s0 s1 σ) : sj_J G 3 me_X12_hours R 109 [.ref (sj_ad G 56), .int x1, .int x2, .null, .int x4, .null, .null] σ [.int s0, .int s1] := by
  unfold wp_X12_hours_109 at h
  refine sj_iadd dX12_hours_109 ?_
  refine sj_istore_n dX12_hours_110 (i := 3) rfl (by decide) ?_
  refine sj_iinc (v := (x4 + (nI 1))) dX12_hours_111 (by decide) rfl rfl ?_
  refine sj_goto (tgt := 5) dX12_hours_114 (by decide) ?_
  exact h
def wp_X12_hours_18 (G : sj_G) (R : sj_R) (x1 : Int32) (x2 : Int32) (x3 : Int32) (x4 : Int32) (x5 : Int32) (x6 : Int32) (σ : sj_S) : Prop := ((σ 57 126) ≤ x6 → (wp_X12_hours_109 G R x1 x2 x4 (if x5 = 0 then (nI 0) else (nI 1)) x3 σ)) ∧ (¬ ((σ 57 126) ≤ x6) → ∃ v3 σ3, sj_C G 2 me_X12_isHard [.ref (sj_ad G 56), .int x6] σ (.ok v3, σ3) ∧ ((¬ (v3 = 0)) → vp_in ((nI 45) + x6) 128) ∧ ((¬ (v3 = 0)) → ((σ3 57 ((nI 45) + x6).toNatClampNeg) = x1) → vp_in ((nI 57) + x6) 128) ∧ ((¬ (v3 = 0)) → ((σ3 57 ((nI 45) + x6).toNatClampNeg) = x1) → ((σ3 57 ((nI 57) + x6).toNatClampNeg) = x2) → vp_in ((nI 69) + x6) 128) ∧ (wp_X12_hours_89 G R x1 x2 x3 x4 x6 (if v3 = 0 then (nI 1) else (if (σ3 57 ((nI 45) + x6).toNatClampNeg) = x1 then (if (σ3 57 ((nI 57) + x6).toNatClampNeg) = x2 then (if (σ3 57 ((nI 69) + x6).toNatClampNeg) = x4 then (nI 0) else (nI 1)) else (nI 1)) else (nI 1))) x5 σ3))
set_option maxRecDepth 20000 in
theorem t_X12_hours_18 {G : sj_G} {R : sj_R} {x1 : Int32} {x2 : Int32} {x3 : Int32} {x4 : Int32} {x5 : Int32} {x6 : Int32} {σ : sj_S} (h : wp_X12_hours_18 G R x1 x2 x3 x4 x5 x6 σ) : sj_J G 3 me_X12_hours R 18 [.ref (sj_ad G 56), .int x1, .int x2, .int x3, .int x4, .int x5, .int x6] σ [] := by
  unfold wp_X12_hours_18 at h
  refine sj_iload dX12_hours_18 rfl ?_
  refine sj_aload_n dX12_hours_20 (i := 0) rfl rfl ?_
  refine sj_get (a := 56) (k9 := 1) (v := .ref (sj_ad G 57)) dX12_hours_21 (by decide +kernel) rfl ?_
  refine sj_bipush (v := (nI 126)) dX12_hours_24 (by decide +kernel) ?_
  refine sj_iald (a := 57) (j := 126) (x := (σ 57 126)) dX12_hours_26 rfl (by decide +kernel) (vp_in_nI (by decide) (by decide)) (nI_clamp (by decide)) rfl ?_
  refine sj_icmp_ge (tgt := 98) dX12_hours_27 (by decide) (fun c1 => ?_) (fun c1 => ?_)
  · replace h := h.1 c1
    refine sj_iload_n dX12_hours_98 (i := 3) rfl rfl ?_
    refine sj_iload dX12_hours_99 rfl ?_
    refine sj_if_eq (tgt := 108) dX12_hours_101 (by decide) (fun c2 => ?_) (fun c2 => ?_)
    · refine sj_iconst (v := (nI 0)) dX12_hours_108 (by decide +kernel) ?_
      try simp only [if_pos c2] at h
      refine sj_fg [3, 5, 6] ?_
      exact t_X12_hours_109 h
    · refine sj_iconst (v := (nI 1)) dX12_hours_104 (by decide +kernel) ?_
      refine sj_goto (tgt := 109) dX12_hours_105 (by decide) ?_
      try simp only [if_neg c2] at h
      refine sj_fg [3, 5, 6] ?_
      exact t_X12_hours_109 h
  · replace h := h.2 c1
    refine sj_iload dX12_hours_30 rfl ?_
    refine sj_aload_n dX12_hours_32 (i := 0) rfl rfl ?_
    refine sj_iload dX12_hours_33 rfl ?_
    obtain ⟨v3, σ3, hc3, h⟩ := h
    refine sj_callVi (M' := me_X12_isHard) (b := 56) (As := [.int x6]) (rest := [.int x5]) dX12_hours_35 gX12_hours_X12_isHard rfl hd_X12_isHard (by decide +kernel) (by decide +kernel) rfl (Nat.le_of_ble_eq_true rfl) (by omega) rfl hc3 ?_
    obtain ⟨f11, f12, f13, h⟩ := h
    refine sj_if_eq (tgt := 84) dX12_hours_38 (by decide) (fun c4 => ?_) (fun c4 => ?_)
    · refine sj_iconst (v := (nI 1)) dX12_hours_84 (by decide +kernel) ?_
      refine sj_goto (tgt := 89) dX12_hours_85 (by decide) ?_
      try simp only [if_pos c4] at h
      refine sj_fg [5] ?_
      exact t_X12_hours_89 h
    · have b5 := f11 c4
      refine sj_aload_n dX12_hours_41 (i := 0) rfl rfl ?_
      refine sj_get (a := 56) (k9 := 1) (v := .ref (sj_ad G 57)) dX12_hours_42 (by decide +kernel) rfl ?_
      refine sj_bipush (v := (nI 45)) dX12_hours_45 (by decide +kernel) ?_
      refine sj_iload dX12_hours_47 rfl ?_
      refine sj_iadd dX12_hours_49 ?_
      refine sj_iald (a := 57) (j := ((nI 45) + x6).toNatClampNeg) (x := (σ3 57 ((nI 45) + x6).toNatClampNeg)) dX12_hours_50 rfl (by decide +kernel) b5 rfl rfl ?_
      refine sj_iload_n dX12_hours_51 (i := 1) rfl rfl ?_
      refine sj_icmp_ne (tgt := 84) dX12_hours_52 (by decide) (fun c6 => ?_) (fun c6 => ?_)
      · refine sj_iconst (v := (nI 1)) dX12_hours_84 (by decide +kernel) ?_
        refine sj_goto (tgt := 89) dX12_hours_85 (by decide) ?_
        try simp only [if_neg c4, if_neg c6] at h
        refine sj_fg [5] ?_
        exact t_X12_hours_89 h
      · have b7 := f12 c4 c6
        refine sj_aload_n dX12_hours_55 (i := 0) rfl rfl ?_
        refine sj_get (a := 56) (k9 := 1) (v := .ref (sj_ad G 57)) dX12_hours_56 (by decide +kernel) rfl ?_
        refine sj_bipush (v := (nI 57)) dX12_hours_59 (by decide +kernel) ?_
        refine sj_iload dX12_hours_61 rfl ?_
        refine sj_iadd dX12_hours_63 ?_
        refine sj_iald (a := 57) (j := ((nI 57) + x6).toNatClampNeg) (x := (σ3 57 ((nI 57) + x6).toNatClampNeg)) dX12_hours_64 rfl (by decide +kernel) b7 rfl rfl ?_
        refine sj_iload_n dX12_hours_65 (i := 2) rfl rfl ?_
        refine sj_icmp_ne (tgt := 84) dX12_hours_66 (by decide) (fun c8 => ?_) (fun c8 => ?_)
        · refine sj_iconst (v := (nI 1)) dX12_hours_84 (by decide +kernel) ?_
          refine sj_goto (tgt := 89) dX12_hours_85 (by decide) ?_
          try simp only [if_neg c4, if_pos c6, if_neg c8] at h
          refine sj_fg [5] ?_
          exact t_X12_hours_89 h
        · have b9 := f13 c4 c6 c8
          refine sj_aload_n dX12_hours_69 (i := 0) rfl rfl ?_
          refine sj_get (a := 56) (k9 := 1) (v := .ref (sj_ad G 57)) dX12_hours_70 (by decide +kernel) rfl ?_
          refine sj_bipush (v := (nI 69)) dX12_hours_73 (by decide +kernel) ?_
          refine sj_iload dX12_hours_75 rfl ?_
          refine sj_iadd dX12_hours_77 ?_
          refine sj_iald (a := 57) (j := ((nI 69) + x6).toNatClampNeg) (x := (σ3 57 ((nI 69) + x6).toNatClampNeg)) dX12_hours_78 rfl (by decide +kernel) b9 rfl rfl ?_
          refine sj_iload dX12_hours_79 rfl ?_
          refine sj_icmp_eq (tgt := 88) dX12_hours_81 (by decide) (fun c10 => ?_) (fun c10 => ?_)
          · refine sj_iconst (v := (nI 0)) dX12_hours_88 (by decide +kernel) ?_
            try simp only [if_neg c4, if_pos c6, if_pos c8, if_pos c10] at h
            refine sj_fg [5] ?_
            exact t_X12_hours_89 h
          · refine sj_iconst (v := (nI 1)) dX12_hours_84 (by decide +kernel) ?_
            refine sj_goto (tgt := 89) dX12_hours_85 (by decide) ?_
            try simp only [if_neg c4, if_pos c6, if_pos c8, if_neg c10] at h
            refine sj_fg [5] ?_
            exact t_X12_hours_89 h
def wp_X12_hours_0 (G : sj_G) (R : sj_R) (x1 : Int32) (x2 : Int32) (σ : sj_S) : Prop := sj_J G 3 me_X12_hours R 5 [.ref (sj_ad G 56), .int x1, .int x2, .int (nI 0), .int (nI 0), .null, .null] σ []
set_option maxRecDepth 20000 in
theorem t_X12_hours_0 {G : sj_G} {R : sj_R} {x1 : Int32} {x2 : Int32} {σ : sj_S} (h : wp_X12_hours_0 G R x1 x2 σ) : sj_J G 3 me_X12_hours R 0 [.ref (sj_ad G 56), .int x1, .int x2, .null, .null, .null, .null] σ [] := by
  unfold wp_X12_hours_0 at h
  refine sj_iconst (v := (nI 0)) dX12_hours_0 (by decide +kernel) ?_
  refine sj_istore_n dX12_hours_1 (i := 3) rfl (by decide) ?_
  refine sj_iconst (v := (nI 0)) dX12_hours_2 (by decide +kernel) ?_
  refine sj_istore dX12_hours_3 (by decide) ?_
  exact h
theorem c_X12_hours {G : sj_G} (ok : sj_ok G) {R : sj_R} {x1 : Int32} {x2 : Int32} {σ : sj_S} (h : wp_X12_hours_0 G R x1 x2 σ) : sj_C G 3 me_X12_hours [.ref (sj_ad G 56), .int x1, .int x2] σ R :=
  sj_enter ok (by decide +kernel) rfl rfl (Nat.le_of_ble_eq_true rfl) (by simp [Value.category]) (t_X12_hours_0 h)
def wp_X12_highest_4 (G : sj_G) (R : sj_R) (x1 : Int32) (x2 : Int32) (σ : sj_S) : Prop := (x2 ≤ 0 → R = (.ok x1, σ)) ∧ (¬ (x2 ≤ 0) → sj_J G 2 me_X12_highest R 4 [.null, .int (x1 + (nI 1)), .int (x2 >>> ((nI 1) &&& 31))] σ [])
set_option maxRecDepth 20000 in
theorem t_X12_highest_4 {G : sj_G} {R : sj_R} {x1 : Int32} {x2 : Int32} {σ : sj_S} (h : wp_X12_highest_4 G R x1 x2 σ) : sj_J G 2 me_X12_highest R 4 [.null, .int x1, .int x2] σ [] := by
  unfold wp_X12_highest_4 at h
  refine sj_iload_n dX12_highest_4 (i := 2) rfl rfl ?_
  refine sj_if_le (tgt := 18) dX12_highest_5 (by decide) (fun c1 => ?_) (fun c1 => ?_)
  · replace h := h.1 c1
    refine sj_iload_n dX12_highest_18 (i := 1) rfl rfl ?_
    subst h
    exact sj_ret dX12_highest_19 rfl rfl
  · replace h := h.2 c1
    refine sj_iinc (v := (x1 + (nI 1))) dX12_highest_8 (by decide) rfl rfl ?_
    refine sj_iload_n dX12_highest_11 (i := 2) rfl rfl ?_
    refine sj_iconst (v := (nI 1)) dX12_highest_12 (by decide +kernel) ?_
    refine sj_ishr dX12_highest_13 ?_
    refine sj_istore_n dX12_highest_14 (i := 2) rfl (by decide) ?_
    refine sj_goto (tgt := 4) dX12_highest_15 (by decide) ?_
    exact h
def wp_X12_highest_0 (G : sj_G) (R : sj_R) (x0 : Int32) (σ : sj_S) : Prop := sj_J G 2 me_X12_highest R 4 [.null, .int (-1), .int x0] σ []
set_option maxRecDepth 20000 in
theorem t_X12_highest_0 {G : sj_G} {R : sj_R} {x0 : Int32} {σ : sj_S} (h : wp_X12_highest_0 G R x0 σ) : sj_J G 2 me_X12_highest R 0 [.int x0, .null, .null] σ [] := by
  unfold wp_X12_highest_0 at h
  refine sj_iconst (v := (-1)) dX12_highest_0 (by decide +kernel) ?_
  refine sj_istore_n dX12_highest_1 (i := 1) rfl (by decide) ?_
  refine sj_iload_n dX12_highest_2 (i := 0) rfl rfl ?_
  refine sj_istore_n dX12_highest_3 (i := 2) rfl (by decide) ?_
  refine sj_fg [0] ?_
  exact h
theorem c_X12_highest {G : sj_G} (ok : sj_ok G) {R : sj_R} {x0 : Int32} {σ : sj_S} (h : wp_X12_highest_0 G R x0 σ) : sj_C G 2 me_X12_highest [.int x0] σ R :=
  sj_enter ok (by decide +kernel) rfl rfl (Nat.le_of_ble_eq_true rfl) (by simp [Value.category]) (t_X12_highest_0 h)
def wp_X12_looks_23 (G : sj_G) (R : sj_R) (x1 : Int32) (σ : sj_S) : Prop := ∃ v1 σ1, sj_C G 2 me_X12_many [.ref (sj_ad G 56)] σ (.ok v1, σ1) ∧ (v1 ≤ x1 → R = (.ok (nI 1), σ1)) ∧ (¬ (v1 ≤ x1) → vp_in x1 9 ∧ vp_in x1 9 ∧ sj_J G 7 me_X12_looks R 41 [.ref (sj_ad G 56), .int x1, .null] (sj_st σ1 59 x1.toNatClampNeg ((σ1 59 x1.toNatClampNeg) + (nI 1))) [])
set_option maxRecDepth 20000 in
theorem t_X12_looks_23 {G : sj_G} {R : sj_R} {x1 : Int32} {σ : sj_S} (h : wp_X12_looks_23 G R x1 σ) : sj_J G 7 me_X12_looks R 23 [.ref (sj_ad G 56), .int x1, .null] σ [] := by
  unfold wp_X12_looks_23 at h
  refine sj_iload_n dX12_looks_23 (i := 1) rfl rfl ?_
  refine sj_aload_n dX12_looks_24 (i := 0) rfl rfl ?_
  obtain ⟨v1, σ1, hc1, h⟩ := h
  refine sj_callVi (M' := me_X12_many) (b := 56) (As := []) (rest := [.int x1]) dX12_looks_25 gX12_looks_X12_many rfl hd_X12_many (by decide +kernel) (by decide +kernel) rfl (Nat.le_of_ble_eq_true rfl) (by omega) rfl hc1 ?_
  refine sj_icmp_ge (tgt := 146) dX12_looks_28 (by decide) (fun c2 => ?_) (fun c2 => ?_)
  · replace h := h.1 c2
    refine sj_iconst (v := (nI 1)) dX12_looks_146 (by decide +kernel) ?_
    subst h
    exact sj_ret dX12_looks_147 rfl rfl
  · replace h := h.2 c2
    refine sj_aload_n dX12_looks_31 (i := 0) rfl rfl ?_
    refine sj_get (a := 56) (k9 := 4) (v := .ref (sj_ad G 59)) dX12_looks_32 (by decide +kernel) rfl ?_
    refine sj_iload_n dX12_looks_35 (i := 1) rfl rfl ?_
    refine sj_dup2 dX12_looks_36 rfl rfl ?_
    obtain ⟨b3, h⟩ := h
    refine sj_iald (a := 59) (j := x1.toNatClampNeg) (x := (σ1 59 x1.toNatClampNeg)) dX12_looks_37 rfl (by decide +kernel) b3 rfl rfl ?_
    refine sj_iconst (v := (nI 1)) dX12_looks_38 (by decide +kernel) ?_
    refine sj_iadd dX12_looks_39 ?_
    obtain ⟨b4, h⟩ := h
    refine sj_iast (a := 59) (j := x1.toNatClampNeg) dX12_looks_40 rfl (by decide +kernel) b4 rfl ?_
    exact h
def wp_X12_looks_73 (G : sj_G) (R : sj_R) (x1 : Int32) (σ : sj_S) : Prop := vp_in x1 9 ∧ ((nI 20) ≤ (σ 59 x1.toNatClampNeg) → vp_in x1 9 ∧ ∃ v4 σ4, sj_C G 2 me_X12_highest [.int (σ 61 x1.toNatClampNeg)] σ (.ok v4, σ4) ∧ (¬ v4 = (-1) → vp_in v4 9 ∧ vp_in x1 9 ∧ vp_in v4 9 ∧ sj_J G 7 me_X12_looks R 23 [.ref (sj_ad G 56), .int v4, .null] (sj_st σ4 61 v4.toNatClampNeg ((σ4 61 v4.toNatClampNeg) ||| ((σ4 61 x1.toNatClampNeg) &&& (((nI 1) <<< (v4 &&& 31)) - (nI 1))))) []) ∧ (v4 = (-1) → R = (.ok (nI 0), σ4))) ∧ (¬ ((nI 20) ≤ (σ 59 x1.toNatClampNeg)) → ∃ v9 σ9, sj_C G 2 me_X12_many [.ref (sj_ad G 56)] σ (.ok v9, σ9) ∧ (v9 ≤ (x1 + (nI 1)) → sj_J G 7 me_X12_looks R 23 [.ref (sj_ad G 56), .int (x1 + (nI 1)), .null] σ9 []) ∧ (¬ (v9 ≤ (x1 + (nI 1))) → ∃ σ11, sj_C G 2 me_X12_begins [.ref (sj_ad G 56), .int (x1 + (nI 1))] σ9 (.ok 0, σ11) ∧ sj_J G 7 me_X12_looks R 23 [.ref (sj_ad G 56), .int (x1 + (nI 1)), .null] σ11 []))
set_option maxRecDepth 20000 in
theorem t_X12_looks_73 {G : sj_G} {R : sj_R} {x1 : Int32} {σ : sj_S} (h : wp_X12_looks_73 G R x1 σ) : sj_J G 7 me_X12_looks R 73 [.ref (sj_ad G 56), .int x1, .null] σ [] := by
  unfold wp_X12_looks_73 at h
  refine sj_aload_n dX12_looks_73 (i := 0) rfl rfl ?_
  refine sj_get (a := 56) (k9 := 4) (v := .ref (sj_ad G 59)) dX12_looks_74 (by decide +kernel) rfl ?_
  refine sj_iload_n dX12_looks_77 (i := 1) rfl rfl ?_
  obtain ⟨b1, h⟩ := h
  refine sj_iald (a := 59) (j := x1.toNatClampNeg) (x := (σ 59 x1.toNatClampNeg)) dX12_looks_78 rfl (by decide +kernel) b1 rfl rfl ?_
  refine sj_bipush (v := (nI 20)) dX12_looks_79 (by decide +kernel) ?_
  refine sj_icmp_ge (tgt := 103) dX12_looks_81 (by decide) (fun c2 => ?_) (fun c2 => ?_)
  · replace h := h.1 c2
    refine sj_aload_n dX12_looks_103 (i := 0) rfl rfl ?_
    refine sj_get (a := 56) (k9 := 6) (v := .ref (sj_ad G 61)) dX12_looks_104 (by decide +kernel) rfl ?_
    refine sj_iload_n dX12_looks_107 (i := 1) rfl rfl ?_
    obtain ⟨b3, h⟩ := h
    refine sj_iald (a := 61) (j := x1.toNatClampNeg) (x := (σ 61 x1.toNatClampNeg)) dX12_looks_108 rfl (by decide +kernel) b3 rfl rfl ?_
    obtain ⟨v4, σ4, hc4, h⟩ := h
    refine sj_callSi (M' := me_X12_highest) (As := [.int (σ 61 x1.toNatClampNeg)]) (rest := []) dX12_looks_109 gX12_looks_X12_highest rfl hd_X12_highest (Nat.le_of_ble_eq_true rfl) (by omega) rfl hc4 ?_
    refine sj_istore_n dX12_looks_112 (i := 2) rfl (by decide) ?_
    refine sj_iload_n dX12_looks_113 (i := 2) rfl rfl ?_
    refine sj_iconst (v := (-1)) dX12_looks_114 (by decide +kernel) ?_
    refine sj_icmp_ne (tgt := 120) dX12_looks_115 (by decide) (fun c5 => ?_) (fun c5 => ?_)
    · replace h := h.1 c5
      refine sj_aload_n dX12_looks_120 (i := 0) rfl rfl ?_
      refine sj_get (a := 56) (k9 := 6) (v := .ref (sj_ad G 61)) dX12_looks_121 (by decide +kernel) rfl ?_
      refine sj_iload_n dX12_looks_124 (i := 2) rfl rfl ?_
      refine sj_dup2 dX12_looks_125 rfl rfl ?_
      obtain ⟨b6, h⟩ := h
      refine sj_iald (a := 61) (j := v4.toNatClampNeg) (x := (σ4 61 v4.toNatClampNeg)) dX12_looks_126 rfl (by decide +kernel) b6 rfl rfl ?_
      refine sj_aload_n dX12_looks_127 (i := 0) rfl rfl ?_
      refine sj_get (a := 56) (k9 := 6) (v := .ref (sj_ad G 61)) dX12_looks_128 (by decide +kernel) rfl ?_
      refine sj_iload_n dX12_looks_131 (i := 1) rfl rfl ?_
      obtain ⟨b7, h⟩ := h
      refine sj_iald (a := 61) (j := x1.toNatClampNeg) (x := (σ4 61 x1.toNatClampNeg)) dX12_looks_132 rfl (by decide +kernel) b7 rfl rfl ?_
      refine sj_iconst (v := (nI 1)) dX12_looks_133 (by decide +kernel) ?_
      refine sj_iload_n dX12_looks_134 (i := 2) rfl rfl ?_
      refine sj_ishl dX12_looks_135 ?_
      refine sj_iconst (v := (nI 1)) dX12_looks_136 (by decide +kernel) ?_
      refine sj_isub dX12_looks_137 ?_
      refine sj_iand dX12_looks_138 ?_
      refine sj_ior dX12_looks_139 ?_
      obtain ⟨b8, h⟩ := h
      refine sj_iast (a := 61) (j := v4.toNatClampNeg) dX12_looks_140 rfl (by decide +kernel) b8 rfl ?_
      refine sj_iload_n dX12_looks_141 (i := 2) rfl rfl ?_
      refine sj_istore_n dX12_looks_142 (i := 1) rfl (by decide) ?_
      refine sj_goto (tgt := 23) dX12_looks_143 (by decide) ?_
      refine sj_fg [2] ?_
      exact h
    · replace h := h.2 c5
      refine sj_iconst (v := (nI 0)) dX12_looks_118 (by decide +kernel) ?_
      subst h
      exact sj_ret dX12_looks_119 rfl rfl
  · replace h := h.2 c2
    refine sj_iinc (v := (x1 + (nI 1))) dX12_looks_84 (by decide) rfl rfl ?_
    refine sj_iload_n dX12_looks_87 (i := 1) rfl rfl ?_
    refine sj_aload_n dX12_looks_88 (i := 0) rfl rfl ?_
    obtain ⟨v9, σ9, hc9, h⟩ := h
    refine sj_callVi (M' := me_X12_many) (b := 56) (As := []) (rest := [.int (x1 + (nI 1))]) dX12_looks_89 gX12_looks_X12_many rfl hd_X12_many (by decide +kernel) (by decide +kernel) rfl (Nat.le_of_ble_eq_true rfl) (by omega) rfl hc9 ?_
    refine sj_icmp_ge (tgt := 23) dX12_looks_92 (by decide) (fun c10 => ?_) (fun c10 => ?_)
    · replace h := h.1 c10
      exact h
    · replace h := h.2 c10
      refine sj_aload_n dX12_looks_95 (i := 0) rfl rfl ?_
      refine sj_iload_n dX12_looks_96 (i := 1) rfl rfl ?_
      obtain ⟨σ11, hc11, h⟩ := h
      refine sj_callVv (M' := me_X12_begins) (b := 56) (As := [.int (x1 + (nI 1))]) (rest := []) dX12_looks_97 gX12_looks_X12_begins rfl hd_X12_begins (by decide +kernel) (by decide +kernel) rfl (Nat.le_of_ble_eq_true rfl) (by omega) rfl hc11 ?_
      refine sj_goto (tgt := 23) dX12_looks_100 (by decide) ?_
      exact h
def wp_X12_looks_41 (G : sj_G) (R : sj_R) (x1 : Int32) (σ : sj_S) : Prop := vp_in x1 9 ∧ ((nI 20) ≤ (σ 59 x1.toNatClampNeg) → (wp_X12_looks_73 G R x1 σ)) ∧ (¬ ((nI 20) ≤ (σ 59 x1.toNatClampNeg)) → ∃ v4 σ4, sj_C G 6 me_X12_fits [.ref (sj_ad G 56), .int x1] σ (.ok v4, σ4) ∧ (¬ v4 = 0 → (wp_X12_looks_73 G R x1 σ4)) ∧ (v4 = 0 → vp_in x1 9 ∧ vp_in x1 9 ∧ sj_J G 7 me_X12_looks R 41 [.ref (sj_ad G 56), .int x1, .null] (sj_st σ4 59 x1.toNatClampNeg ((σ4 59 x1.toNatClampNeg) + (nI 1))) []))
set_option maxRecDepth 20000 in
theorem t_X12_looks_41 {G : sj_G} {R : sj_R} {x1 : Int32} {σ : sj_S} (h : wp_X12_looks_41 G R x1 σ) : sj_J G 7 me_X12_looks R 41 [.ref (sj_ad G 56), .int x1, .null] σ [] := by
  unfold wp_X12_looks_41 at h
  refine sj_aload_n dX12_looks_41 (i := 0) rfl rfl ?_
  refine sj_get (a := 56) (k9 := 4) (v := .ref (sj_ad G 59)) dX12_looks_42 (by decide +kernel) rfl ?_
  refine sj_iload_n dX12_looks_45 (i := 1) rfl rfl ?_
  obtain ⟨b1, h⟩ := h
  refine sj_iald (a := 59) (j := x1.toNatClampNeg) (x := (σ 59 x1.toNatClampNeg)) dX12_looks_46 rfl (by decide +kernel) b1 rfl rfl ?_
  refine sj_bipush (v := (nI 20)) dX12_looks_47 (by decide +kernel) ?_
  refine sj_icmp_ge (tgt := 73) dX12_looks_49 (by decide) (fun c3 => ?_) (fun c3 => ?_)
  · replace h := h.1 c3
    exact t_X12_looks_73 h
  · replace h := h.2 c3
    refine sj_aload_n dX12_looks_52 (i := 0) rfl rfl ?_
    refine sj_iload_n dX12_looks_53 (i := 1) rfl rfl ?_
    obtain ⟨v4, σ4, hc4, h⟩ := h
    refine sj_callVi (M' := me_X12_fits) (b := 56) (As := [.int x1]) (rest := []) dX12_looks_54 gX12_looks_X12_fits rfl hd_X12_fits (by decide +kernel) (by decide +kernel) rfl (Nat.le_of_ble_eq_true rfl) (by omega) rfl hc4 ?_
    refine sj_if_ne (tgt := 73) dX12_looks_57 (by decide) (fun c8 => ?_) (fun c8 => ?_)
    · replace h := h.1 c8
      exact t_X12_looks_73 h
    · replace h := h.2 c8
      refine sj_aload_n dX12_looks_60 (i := 0) rfl rfl ?_
      refine sj_get (a := 56) (k9 := 4) (v := .ref (sj_ad G 59)) dX12_looks_61 (by decide +kernel) rfl ?_
      refine sj_iload_n dX12_looks_64 (i := 1) rfl rfl ?_
      refine sj_dup2 dX12_looks_65 rfl rfl ?_
      obtain ⟨b9, h⟩ := h
      refine sj_iald (a := 59) (j := x1.toNatClampNeg) (x := (σ4 59 x1.toNatClampNeg)) dX12_looks_66 rfl (by decide +kernel) b9 rfl rfl ?_
      refine sj_iconst (v := (nI 1)) dX12_looks_67 (by decide +kernel) ?_
      refine sj_iadd dX12_looks_68 ?_
      obtain ⟨b10, h⟩ := h
      refine sj_iast (a := 59) (j := x1.toNatClampNeg) dX12_looks_69 rfl (by decide +kernel) b10 rfl ?_
      refine sj_goto (tgt := 41) dX12_looks_70 (by decide) ?_
      exact h
