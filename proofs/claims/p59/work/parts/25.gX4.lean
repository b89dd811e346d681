def wp_X4_forget_0 (G : sj_G) (R : sj_R) (σ : sj_S) : Prop := R = (.ok 0, (sj_st σ 30 3 (-1)))
set_option maxRecDepth 20000 in
theorem t_X4_forget_0 {G : sj_G} {R : sj_R} {σ : sj_S} (h : wp_X4_forget_0 G R σ) : sj_J G 2 me_X4_forget R 0 [.ref (sj_ad G 30)] σ [] := by
  unfold wp_X4_forget_0 at h
  refine sj_aload_n dX4_forget_0 (i := 0) rfl rfl ?_
  refine sj_iconst (v := (-1)) dX4_forget_1 (by decide +kernel) ?_
  refine sj_put (a := 30) (k9 := 3) dX4_forget_2 (by decide +kernel) (by decide +kernel) rfl ?_
  subst h
  exact sj_vret dX4_forget_5 rfl
theorem c_X4_forget {G : sj_G} (ok : sj_ok G) {R : sj_R} {σ : sj_S} (h : wp_X4_forget_0 G R σ) : sj_C G 2 me_X4_forget [.ref (sj_ad G 30)] σ R :=
  sj_enter ok (by decide +kernel) rfl rfl (Nat.le_of_ble_eq_true rfl) (by simp [Value.category]) (t_X4_forget_0 h)
def wp_X4_seekFirst_23 (G : sj_G) (R : sj_R) (x2 : Int32) (σ : sj_S) : Prop := ((σ 18 0) ≤ x2 → R = (.ok (nI 1), σ)) ∧ (¬ ((σ 18 0) ≤ x2) → vp_in x2 9 ∧ sj_J G 122 me_X4_seekFirst R 50 [.ref (sj_ad G 30), .null, .int x2, .int (σ 19 x2.toNatClampNeg), .int (nI 1), .int (nI 0)] σ [])
set_option maxRecDepth 20000 in
theorem t_X4_seekFirst_23 {G : sj_G} {R : sj_R} {x2 : Int32} {σ : sj_S} (h : wp_X4_seekFirst_23 G R x2 σ) : sj_J G 122 me_X4_seekFirst R 23 [.ref (sj_ad G 30), .null, .int x2, .null, .null, .null] σ [] := by
  unfold wp_X4_seekFirst_23 at h
  refine sj_iload_n dX4_seekFirst_23 (i := 2) rfl rfl ?_
  refine sj_aload_n dX4_seekFirst_24 (i := 0) rfl rfl ?_
  refine sj_get (a := 30) (k9 := 0) (v := .ref (sj_ad G 18)) dX4_seekFirst_25 (by decide +kernel) rfl ?_
  refine sj_get (a := 18) (k9 := 0) (v := .int (σ 18 0)) dX4_seekFirst_28 (by decide +kernel) rfl ?_
  refine sj_icmp_ge (tgt := 118) dX4_seekFirst_31 (by decide) (fun c1 => ?_) (fun c1 => ?_)
  · replace h := h.1 c1
    refine sj_iconst (v := (nI 1)) dX4_seekFirst_118 (by decide +kernel) ?_
    subst h
    exact sj_ret dX4_seekFirst_119 rfl rfl
  · replace h := h.2 c1
    refine sj_aload_n dX4_seekFirst_34 (i := 0) rfl rfl ?_
    refine sj_get (a := 30) (k9 := 0) (v := .ref (sj_ad G 18)) dX4_seekFirst_35 (by decide +kernel) rfl ?_
    refine sj_get (a := 18) (k9 := 1) (v := .ref (sj_ad G 19)) dX4_seekFirst_38 (by decide +kernel) rfl ?_
    refine sj_iload_n dX4_seekFirst_41 (i := 2) rfl rfl ?_
    obtain ⟨b2, h⟩ := h
    refine sj_iald (a := 19) (j := x2.toNatClampNeg) (x := (σ 19 x2.toNatClampNeg)) dX4_seekFirst_42 rfl (by decide +kernel) b2 rfl rfl ?_
    refine sj_istore_n dX4_seekFirst_43 (i := 3) rfl (by decide) ?_
    refine sj_iconst (v := (nI 1)) dX4_seekFirst_44 (by decide +kernel) ?_
    refine sj_istore dX4_seekFirst_45 (by decide) ?_
    refine sj_iconst (v := (nI 0)) dX4_seekFirst_47 (by decide +kernel) ?_
    refine sj_istore dX4_seekFirst_48 (by decide) ?_
    exact h
def wp_X4_seekFirst_95 (G : sj_G) (R : sj_R) (x2 : Int32) (σ : sj_S) : Prop := vp_in x2 9 ∧ vp_in x2 9 ∧ sj_J G 122 me_X4_seekFirst R 23 [.ref (sj_ad G 30), .null, .int (x2 + (nI 1)), .null, .null, .null] (sj_st σ 19 x2.toNatClampNeg ((nI 1) <<< ((σ 31 x2.toNatClampNeg) &&& 31))) []
set_option maxRecDepth 20000 in
theorem t_X4_seekFirst_95 {G : sj_G} {R : sj_R} {x2 : Int32} {σ : sj_S} (h : wp_X4_seekFirst_95 G R x2 σ) : sj_J G 122 me_X4_seekFirst R 95 [.ref (sj_ad G 30), .null, .int x2, .null, .null, .null] σ [] := by
  unfold wp_X4_seekFirst_95 at h
  refine sj_aload_n dX4_seekFirst_95 (i := 0) rfl rfl ?_
  refine sj_get (a := 30) (k9 := 0) (v := .ref (sj_ad G 18)) dX4_seekFirst_96 (by decide +kernel) rfl ?_
  refine sj_get (a := 18) (k9 := 1) (v := .ref (sj_ad G 19)) dX4_seekFirst_99 (by decide +kernel) rfl ?_
  refine sj_iload_n dX4_seekFirst_102 (i := 2) rfl rfl ?_
  refine sj_iconst (v := (nI 1)) dX4_seekFirst_103 (by decide +kernel) ?_
  refine sj_aload_n dX4_seekFirst_104 (i := 0) rfl rfl ?_
  refine sj_get (a := 30) (k9 := 1) (v := .ref (sj_ad G 31)) dX4_seekFirst_105 (by decide +kernel) rfl ?_
  refine sj_iload_n dX4_seekFirst_108 (i := 2) rfl rfl ?_
  obtain ⟨b1, h⟩ := h
  refine sj_iald (a := 31) (j := x2.toNatClampNeg) (x := (σ 31 x2.toNatClampNeg)) dX4_seekFirst_109 rfl (by decide +kernel) b1 rfl rfl ?_
  refine sj_ishl dX4_seekFirst_110 ?_
  obtain ⟨b2, h⟩ := h
  refine sj_iast (a := 19) (j := x2.toNatClampNeg) dX4_seekFirst_111 rfl (by decide +kernel) b2 rfl ?_
  refine sj_iinc (v := (x2 + (nI 1))) dX4_seekFirst_112 (by decide) rfl rfl ?_
  refine sj_goto (tgt := 23) dX4_seekFirst_115 (by decide) ?_
  exact h
def wp_X4_seekFirst_50 (G : sj_G) (R : sj_R) (x2 : Int32) (x3 : Int32) (x4 : Int32) (x5 : Int32) (σ : sj_S) : Prop := ((nI 20) ≤ x5 → (wp_X4_seekFirst_95 G R x2 σ)) ∧ (¬ ((nI 20) ≤ x5) → (x4 = 0 → (wp_X4_seekFirst_95 G R x2 σ)) ∧ (¬ (x4 = 0) → vp_in x2 9 ∧ vp_in x2 9 ∧ ∃ v12 σ12, sj_C G 121 me_X4_isSolvable [.ref (sj_ad G 30)] (sj_st σ 19 x2.toNatClampNeg (x3 &&& (((nI 1) <<< ((σ 31 x2.toNatClampNeg) &&& 31)) - (nI 1)))) (.ok v12, σ12) ∧ sj_J G 122 me_X4_seekFirst R 50 [.ref (sj_ad G 30), .null, .int x2, .int x3, .int v12, .int (x5 + (nI 1))] σ12 []))
set_option maxRecDepth 20000 in
theorem t_X4_seekFirst_50 {G : sj_G} {R : sj_R} {x2 : Int32} {x3 : Int32} {x4 : Int32} {x5 : Int32} {σ : sj_S} (h : wp_X4_seekFirst_50 G R x2 x3 x4 x5 σ) : sj_J G 122 me_X4_seekFirst R 50 [.ref (sj_ad G 30), .null, .int x2, .int x3, .int x4, .int x5] σ [] := by
  unfold wp_X4_seekFirst_50 at h
  refine sj_iload dX4_seekFirst_50 rfl ?_
  refine sj_bipush (v := (nI 20)) dX4_seekFirst_52 (by decide +kernel) ?_
  refine sj_icmp_ge (tgt := 95) dX4_seekFirst_54 (by decide) (fun c5 => ?_) (fun c5 => ?_)
  · replace h := h.1 c5
    refine sj_fg [3, 4, 5] ?_
    exact t_X4_seekFirst_95 h
  · replace h := h.2 c5
    refine sj_iload dX4_seekFirst_57 rfl ?_
    refine sj_if_eq (tgt := 95) dX4_seekFirst_59 (by decide) (fun c9 => ?_) (fun c9 => ?_)
    · replace h := h.1 c9
      refine sj_fg [3, 4, 5] ?_
      exact t_X4_seekFirst_95 h
    · replace h := h.2 c9
      refine sj_aload_n dX4_seekFirst_62 (i := 0) rfl rfl ?_
      refine sj_get (a := 30) (k9 := 0) (v := .ref (sj_ad G 18)) dX4_seekFirst_63 (by decide +kernel) rfl ?_
      refine sj_get (a := 18) (k9 := 1) (v := .ref (sj_ad G 19)) dX4_seekFirst_66 (by decide +kernel) rfl ?_
      refine sj_iload_n dX4_seekFirst_69 (i := 2) rfl rfl ?_
      refine sj_iload_n dX4_seekFirst_70 (i := 3) rfl rfl ?_
      refine sj_iconst (v := (nI 1)) dX4_seekFirst_71 (by decide +kernel) ?_
      refine sj_aload_n dX4_seekFirst_72 (i := 0) rfl rfl ?_
      refine sj_get (a := 30) (k9 := 1) (v := .ref (sj_ad G 31)) dX4_seekFirst_73 (by decide +kernel) rfl ?_
      refine sj_iload_n dX4_seekFirst_76 (i := 2) rfl rfl ?_
      obtain ⟨b10, h⟩ := h
      refine sj_iald (a := 31) (j := x2.toNatClampNeg) (x := (σ 31 x2.toNatClampNeg)) dX4_seekFirst_77 rfl (by decide +kernel) b10 rfl rfl ?_
      refine sj_ishl dX4_seekFirst_78 ?_
      refine sj_iconst (v := (nI 1)) dX4_seekFirst_79 (by decide +kernel) ?_
      refine sj_isub dX4_seekFirst_80 ?_
      refine sj_iand dX4_seekFirst_81 ?_
      obtain ⟨b11, h⟩ := h
      refine sj_iast (a := 19) (j := x2.toNatClampNeg) dX4_seekFirst_82 rfl (by decide +kernel) b11 rfl ?_
      refine sj_aload_n dX4_seekFirst_83 (i := 0) rfl rfl ?_
      obtain ⟨v12, σ12, hc12, h⟩ := h
      refine sj_callVi (M' := me_X4_isSolvable) (b := 30) (As := []) (rest := []) dX4_seekFirst_84 gX4_seekFirst_X4_isSolvable rfl hd_X4_isSolvable (by decide +kernel) (by decide +kernel) rfl (Nat.le_of_ble_eq_true rfl) (by omega) rfl hc12 ?_
      refine sj_istore dX4_seekFirst_87 (by decide) ?_
      refine sj_iinc (v := (x5 + (nI 1))) dX4_seekFirst_89 (by decide) rfl rfl ?_
      refine sj_goto (tgt := 50) dX4_seekFirst_92 (by decide) ?_
      exact h
def wp_X4_seekFirst_0 (G : sj_G) (R : sj_R) (σ : sj_S) : Prop := ∃ v1 σ1, sj_C G 3 me_X8_hardWishes [.ref (sj_ad G 1)] σ (.ok v1, σ1) ∧ ∃ σ2, sj_C G 5 me_X7_take [.ref (sj_ad G 18), .ref (sj_ad G 1), .int v1] σ1 (.ok 0, σ2) ∧ ∃ v3 σ3, sj_C G 121 me_X4_isSolvable [.ref (sj_ad G 30)] σ2 (.ok v3, σ3) ∧ (¬ v3 = 0 → sj_J G 122 me_X4_seekFirst R 23 [.ref (sj_ad G 30), .null, .int (nI 0), .null, .null, .null] σ3 []) ∧ (v3 = 0 → R = (.ok (nI 0), σ3))
set_option maxRecDepth 20000 in
theorem t_X4_seekFirst_0 {G : sj_G} {R : sj_R} {σ : sj_S} (h : wp_X4_seekFirst_0 G R σ) : sj_J G 122 me_X4_seekFirst R 0 [.ref (sj_ad G 30), .ref (sj_ad G 1), .null, .null, .null, .null] σ [] := by
  unfold wp_X4_seekFirst_0 at h
  refine sj_aload_n dX4_seekFirst_0 (i := 0) rfl rfl ?_
  refine sj_get (a := 30) (k9 := 0) (v := .ref (sj_ad G 18)) dX4_seekFirst_1 (by decide +kernel) rfl ?_
  refine sj_aload_n dX4_seekFirst_4 (i := 1) rfl rfl ?_
  refine sj_aload_n dX4_seekFirst_5 (i := 1) rfl rfl ?_
  obtain ⟨v1, σ1, hc1, h⟩ := h
  refine sj_callVi (M' := me_X8_hardWishes) (b := 1) (As := []) (rest := [.ref (sj_ad G 1), .ref (sj_ad G 18)]) dX4_seekFirst_6 gX4_seekFirst_X8_hardWishes rfl hd_X8_hardWishes (by decide +kernel) (by decide +kernel) rfl (Nat.le_of_ble_eq_true rfl) (by omega) rfl hc1 ?_
  obtain ⟨σ2, hc2, h⟩ := h
  refine sj_callVv (M' := me_X7_take) (b := 18) (As := [.ref (sj_ad G 1), .int v1]) (rest := []) dX4_seekFirst_9 gX4_seekFirst_X7_take rfl hd_X7_take (by decide +kernel) (by decide +kernel) rfl (Nat.le_of_ble_eq_true rfl) (by omega) rfl hc2 ?_
  refine sj_aload_n dX4_seekFirst_12 (i := 0) rfl rfl ?_
  obtain ⟨v3, σ3, hc3, h⟩ := h
  refine sj_callVi (M' := me_X4_isSolvable) (b := 30) (As := []) (rest := []) dX4_seekFirst_13 gX4_seekFirst_X4_isSolvable rfl hd_X4_isSolvable (by decide +kernel) (by decide +kernel) rfl (Nat.le_of_ble_eq_true rfl) (by omega) rfl hc3 ?_
  refine sj_if_ne (tgt := 21) dX4_seekFirst_16 (by decide) (fun c4 => ?_) (fun c4 => ?_)
  · replace h := h.1 c4
    refine sj_iconst (v := (nI 0)) dX4_seekFirst_21 (by decide +kernel) ?_
    refine sj_istore_n dX4_seekFirst_22 (i := 2) rfl (by decide) ?_
    refine sj_fg [1] ?_
    exact h
  · replace h := h.2 c4
    refine sj_iconst (v := (nI 0)) dX4_seekFirst_19 (by decide +kernel) ?_
    subst h
    exact sj_ret dX4_seekFirst_20 rfl rfl
theorem c_X4_seekFirst {G : sj_G} (ok : sj_ok G) {R : sj_R} {σ : sj_S} (h : wp_X4_seekFirst_0 G R σ) : sj_C G 122 me_X4_seekFirst [.ref (sj_ad G 30), .ref (sj_ad G 1)] σ R :=
  sj_enter ok (by decide +kernel) rfl rfl (Nat.le_of_ble_eq_true rfl) (by simp [Value.category]) (t_X4_seekFirst_0 h)
def wp_X4_seekProof_57 (G : sj_G) (R : sj_R) (x2 : Int32) (x3 : Int32) (σ : sj_S) : Prop := sj_J G 122 me_X4_seekProof R 7 [.ref (sj_ad G 30), .ref (sj_ad G 1), .int x2, .int (x3 + (nI 1))] σ []
set_option maxRecDepth 20000 in
theorem t_X4_seekProof_57 {G : sj_G} {R : sj_R} {x2 : Int32} {x3 : Int32} {σ : sj_S} (h : wp_X4_seekProof_57 G R x2 x3 σ) : sj_J G 122 me_X4_seekProof R 57 [.ref (sj_ad G 30), .ref (sj_ad G 1), .int x2, .int x3] σ [] := by
  unfold wp_X4_seekProof_57 at h
  refine sj_iinc (v := (x3 + (nI 1))) dX4_seekProof_57 (by decide) rfl rfl ?_
  refine sj_goto (tgt := 7) dX4_seekProof_60 (by decide) ?_
  exact h
def wp_X4_seekProof_56 (G : sj_G) (R : sj_R) (x3 : Int32) (s0 : Int32) (σ : sj_S) : Prop := (wp_X4_seekProof_57 G R s0 x3 σ)
set_option maxRecDepth 20000 in
theorem t_X4_seekProof_56 {G : sj_G} {R : sj_R} {x3 : Int32} {s0 : Int32} {σ : sj_S} (h : wp_X4_seekProof_56 G R x3 s0 σ) : sj_J G 122 me_X4_seekProof R 56 [.ref (sj_ad G 30), .ref (sj_ad G 1), .null, .int x3] σ [.int s0] := by
  unfold wp_X4_seekProof_56 at h
  refine sj_istore_n dX4_seekProof_56 (i := 2) rfl (by decide) ?_
  exact t_X4_seekProof_57 h
def wp_X4_seekProof_7 (G : sj_G) (R : sj_R) (x2 : Int32) (x3 : Int32) (σ : sj_S) : Prop := ∃ v1 σ1, sj_C G 2 me_X8_wishTotal [.ref (sj_ad G 1)] σ (.ok v1, σ1) ∧ (v1 ≤ x3 → sj_J G 122 me_X4_seekProof R 70 [.ref (sj_ad G 30), .ref (sj_ad G 1), .int x2, .int (nI 0)] (sj_st σ1 30 3 (nI 0)) []) ∧ (¬ (v1 ≤ x3) → (((x2 >>> (x3 &&& 31)) &&& (nI 1)) = 0 → (wp_X4_seekProof_57 G R x2 x3 σ1)) ∧ (¬ (((x2 >>> (x3 &&& 31)) &&& (nI 1)) = 0) → ∃ σ5, sj_C G 5 me_X7_take [.ref (sj_ad G 18), .ref (sj_ad G 1), .int (x2 &&& (((nI 1) <<< (x3 &&& 31)) ^^^ (-1)))] σ1 (.ok 0, σ5) ∧ ∃ v6 σ6, sj_C G 121 me_X4_isSolvable [.ref (sj_ad G 30)] σ5 (.ok v6, σ6) ∧ (wp_X4_seekProof_56 G R x3 (if v6 = 0 then (x2 &&& (((nI 1) <<< (x3 &&& 31)) ^^^ (-1))) else x2) σ6)))
set_option maxRecDepth 20000 in
theorem t_X4_seekProof_7 {G : sj_G} {R : sj_R} {x2 : Int32} {x3 : Int32} {σ : sj_S} (h : wp_X4_seekProof_7 G R x2 x3 σ) : sj_J G 122 me_X4_seekProof R 7 [.ref (sj_ad G 30), .ref (sj_ad G 1), .int x2, .int x3] σ [] := by
  unfold wp_X4_seekProof_7 at h
  refine sj_iload_n dX4_seekProof_7 (i := 3) rfl rfl ?_
  refine sj_aload_n dX4_seekProof_8 (i := 1) rfl rfl ?_
  obtain ⟨v1, σ1, hc1, h⟩ := h
  refine sj_callVi (M' := me_X8_wishTotal) (b := 1) (As := []) (rest := [.int x3]) dX4_seekProof_9 gX4_seekProof_X8_wishTotal rfl hd_X8_wishTotal (by decide +kernel) (by decide +kernel) rfl (Nat.le_of_ble_eq_true rfl) (by omega) rfl hc1 ?_
  refine sj_icmp_ge (tgt := 63) dX4_seekProof_12 (by decide) (fun c2 => ?_) (fun c2 => ?_)
  · replace h := h.1 c2
    refine sj_aload_n dX4_seekProof_63 (i := 0) rfl rfl ?_
    refine sj_iconst (v := (nI 0)) dX4_seekProof_64 (by decide +kernel) ?_
    refine sj_put (a := 30) (k9 := 3) dX4_seekProof_65 (by decide +kernel) (by decide +kernel) rfl ?_
    refine sj_iconst (v := (nI 0)) dX4_seekProof_68 (by decide +kernel) ?_
    refine sj_istore_n dX4_seekProof_69 (i := 3) rfl (by decide) ?_
    exact h
  · replace h := h.2 c2
    refine sj_iload_n dX4_seekProof_15 (i := 2) rfl rfl ?_
    refine sj_iload_n dX4_seekProof_16 (i := 3) rfl rfl ?_
    refine sj_ishr dX4_seekProof_17 ?_
    refine sj_iconst (v := (nI 1)) dX4_seekProof_18 (by decide +kernel) ?_
    refine sj_iand dX4_seekProof_19 ?_
    refine sj_if_eq (tgt := 57) dX4_seekProof_20 (by decide) (fun c4 => ?_) (fun c4 => ?_)
    · replace h := h.1 c4
      exact t_X4_seekProof_57 h
    · replace h := h.2 c4
      refine sj_aload_n dX4_seekProof_23 (i := 0) rfl rfl ?_
      refine sj_get (a := 30) (k9 := 0) (v := .ref (sj_ad G 18)) dX4_seekProof_24 (by decide +kernel) rfl ?_
      refine sj_aload_n dX4_seekProof_27 (i := 1) rfl rfl ?_
      refine sj_iload_n dX4_seekProof_28 (i := 2) rfl rfl ?_
      refine sj_iconst (v := (nI 1)) dX4_seekProof_29 (by decide +kernel) ?_
      refine sj_iload_n dX4_seekProof_30 (i := 3) rfl rfl ?_
      refine sj_ishl dX4_seekProof_31 ?_
      refine sj_iconst (v := (-1)) dX4_seekProof_32 (by decide +kernel) ?_
      refine sj_ixor dX4_seekProof_33 ?_
      refine sj_iand dX4_seekProof_34 ?_
      obtain ⟨σ5, hc5, h⟩ := h
      refine sj_callVv (M' := me_X7_take) (b := 18) (As := [.ref (sj_ad G 1), .int (x2 &&& (((nI 1) <<< (x3 &&& 31)) ^^^ (-1)))]) (rest := []) dX4_seekProof_35 gX4_seekProof_X7_take rfl hd_X7_take (by decide +kernel) (by decide +kernel) rfl (Nat.le_of_ble_eq_true rfl) (by omega) rfl hc5 ?_
      refine sj_aload_n dX4_seekProof_38 (i := 0) rfl rfl ?_
      obtain ⟨v6, σ6, hc6, h⟩ := h
      refine sj_callVi (M' := me_X4_isSolvable) (b := 30) (As := []) (rest := []) dX4_seekProof_39 gX4_seekProof_X4_isSolvable rfl hd_X4_isSolvable (by decide +kernel) (by decide +kernel) rfl (Nat.le_of_ble_eq_true rfl) (by omega) rfl hc6 ?_
      refine sj_if_eq (tgt := 49) dX4_seekProof_42 (by decide) (fun c7 => ?_) (fun c7 => ?_)
      · refine sj_iload_n dX4_seekProof_49 (i := 2) rfl rfl ?_
        refine sj_iconst (v := (nI 1)) dX4_seekProof_50 (by decide +kernel) ?_
        refine sj_iload_n dX4_seekProof_51 (i := 3) rfl rfl ?_
        refine sj_ishl dX4_seekProof_52 ?_
        refine sj_iconst (v := (-1)) dX4_seekProof_53 (by decide +kernel) ?_
        refine sj_ixor dX4_seekProof_54 ?_
        refine sj_iand dX4_seekProof_55 ?_
        try simp only [if_pos c7] at h
        refine sj_fg [2] ?_
        exact t_X4_seekProof_56 h
      · refine sj_iload_n dX4_seekProof_45 (i := 2) rfl rfl ?_
        refine sj_goto (tgt := 56) dX4_seekProof_46 (by decide) ?_
        try simp only [if_neg c7] at h
        refine sj_fg [2] ?_
        exact t_X4_seekProof_56 h
def wp_X4_seekProof_106 (G : sj_G) (R : sj_R) (x2 : Int32) (x3 : Int32) (σ : sj_S) : Prop := sj_J G 122 me_X4_seekProof R 70 [.ref (sj_ad G 30), .ref (sj_ad G 1), .int x2, .int (x3 + (nI 1))] σ []
set_option maxRecDepth 20000 in
theorem t_X4_seekProof_106 {G : sj_G} {R : sj_R} {x2 : Int32} {x3 : Int32} {σ : sj_S} (h : wp_X4_seekProof_106 G R x2 x3 σ) : sj_J G 122 me_X4_seekProof R 106 [.ref (sj_ad G 30), .ref (sj_ad G 1), .int x2, .int x3] σ [] := by
  unfold wp_X4_seekProof_106 at h
  refine sj_iinc (v := (x3 + (nI 1))) dX4_seekProof_106 (by decide) rfl rfl ?_
  refine sj_goto (tgt := 70) dX4_seekProof_109 (by decide) ?_
  exact h
def wp_X4_seekProof_70 (G : sj_G) (R : sj_R) (x2 : Int32) (x3 : Int32) (σ : sj_S) : Prop := ∃ v1 σ1, sj_C G 2 me_X8_wishTotal [.ref (sj_ad G 1)] σ (.ok v1, σ1) ∧ (v1 ≤ x3 → R = (.ok 0, σ1)) ∧ (¬ (v1 ≤ x3) → ((¬ (((x2 >>> (x3 &&& 31)) &&& (nI 1)) = 0)) → vp_in (σ1 30 3) 12) ∧ (wp_X4_seekProof_106 G R x2 x3 (if ((x2 >>> (x3 &&& 31)) &&& (nI 1)) = 0 then σ1 else (sj_st (sj_st σ1 32 (σ1 30 3).toNatClampNeg x3) 30 3 ((σ1 30 3) + (nI 1))))))
set_option maxRecDepth 20000 in
theorem t_X4_seekProof_70 {G : sj_G} {R : sj_R} {x2 : Int32} {x3 : Int32} {σ : sj_S} (h : wp_X4_seekProof_70 G R x2 x3 σ) : sj_J G 122 me_X4_seekProof R 70 [.ref (sj_ad G 30), .ref (sj_ad G 1), .int x2, .int x3] σ [] := by
  unfold wp_X4_seekProof_70 at h
  refine sj_iload_n dX4_seekProof_70 (i := 3) rfl rfl ?_
  refine sj_aload_n dX4_seekProof_71 (i := 1) rfl rfl ?_
  obtain ⟨v1, σ1, hc1, h⟩ := h
  refine sj_callVi (M' := me_X8_wishTotal) (b := 1) (As := []) (rest := [.int x3]) dX4_seekProof_72 gX4_seekProof_X8_wishTotal rfl hd_X8_wishTotal (by decide +kernel) (by decide +kernel) rfl (Nat.le_of_ble_eq_true rfl) (by omega) rfl hc1 ?_
  refine sj_icmp_ge (tgt := 112) dX4_seekProof_75 (by decide) (fun c2 => ?_) (fun c2 => ?_)
  · replace h := h.1 c2
    subst h
    exact sj_vret dX4_seekProof_112 rfl
  · replace h := h.2 c2
    refine sj_iload_n dX4_seekProof_78 (i := 2) rfl rfl ?_
    refine sj_iload_n dX4_seekProof_79 (i := 3) rfl rfl ?_
    refine sj_ishr dX4_seekProof_80 ?_
    refine sj_iconst (v := (nI 1)) dX4_seekProof_81 (by decide +kernel) ?_
    refine sj_iand dX4_seekProof_82 ?_
    obtain ⟨f5, h⟩ := h
    refine sj_if_eq (tgt := 106) dX4_seekProof_83 (by decide) (fun c3 => ?_) (fun c3 => ?_)
    · try simp only [if_pos c3] at h
      exact t_X4_seekProof_106 h
    · have b4 := f5 c3
      refine sj_aload_n dX4_seekProof_86 (i := 0) rfl rfl ?_
      refine sj_get (a := 30) (k9 := 2) (v := .ref (sj_ad G 32)) dX4_seekProof_87 (by decide +kernel) rfl ?_
      refine sj_aload_n dX4_seekProof_90 (i := 0) rfl rfl ?_
      refine sj_get (a := 30) (k9 := 3) (v := .int (σ1 30 3)) dX4_seekProof_91 (by decide +kernel) rfl ?_
      refine sj_iload_n dX4_seekProof_94 (i := 3) rfl rfl ?_
      refine sj_iast (a := 32) (j := (σ1 30 3).toNatClampNeg) dX4_seekProof_95 rfl (by decide +kernel) b4 rfl ?_
      refine sj_aload_n dX4_seekProof_96 (i := 0) rfl rfl ?_
      refine sj_dup dX4_seekProof_97 rfl ?_
      refine sj_get (a := 30) (k9 := 3) (v := .int (σ1 30 3)) dX4_seekProof_98 (by decide +kernel) rfl ?_
      refine sj_iconst (v := (nI 1)) dX4_seekProof_101 (by decide +kernel) ?_
      refine sj_iadd dX4_seekProof_102 ?_
      refine sj_put (a := 30) (k9 := 3) dX4_seekProof_103 (by decide +kernel) (by decide +kernel) rfl ?_
      try simp only [if_neg c3] at h
      exact t_X4_seekProof_106 h
def wp_X4_seekProof_0 (G : sj_G) (R : sj_R) (σ : sj_S) : Prop := ∃ v1 σ1, sj_C G 3 me_X8_hardWishes [.ref (sj_ad G 1)] σ (.ok v1, σ1) ∧ sj_J G 122 me_X4_seekProof R 7 [.ref (sj_ad G 30), .ref (sj_ad G 1), .int v1, .int (nI 0)] σ1 []
set_option maxRecDepth 20000 in
theorem t_X4_seekProof_0 {G : sj_G} {R : sj_R} {σ : sj_S} (h : wp_X4_seekProof_0 G R σ) : sj_J G 122 me_X4_seekProof R 0 [.ref (sj_ad G 30), .ref (sj_ad G 1), .null, .null] σ [] := by
  unfold wp_X4_seekProof_0 at h
  refine sj_aload_n dX4_seekProof_0 (i := 1) rfl rfl ?_
  obtain ⟨v1, σ1, hc1, h⟩ := h
  refine sj_callVi (M' := me_X8_hardWishes) (b := 1) (As := []) (rest := []) dX4_seekProof_1 gX4_seekProof_X8_hardWishes rfl hd_X8_hardWishes (by decide +kernel) (by decide +kernel) rfl (Nat.le_of_ble_eq_true rfl) (by omega) rfl hc1 ?_
  refine sj_istore_n dX4_seekProof_4 (i := 2) rfl (by decide) ?_
  refine sj_iconst (v := (nI 0)) dX4_seekProof_5 (by decide +kernel) ?_
  refine sj_istore_n dX4_seekProof_6 (i := 3) rfl (by decide) ?_
  exact h
theorem c_X4_seekProof {G : sj_G} (ok : sj_ok G) {R : sj_R} {σ : sj_S} (h : wp_X4_seekProof_0 G R σ) : sj_C G 122 me_X4_seekProof [.ref (sj_ad G 30), .ref (sj_ad G 1)] σ R :=
  sj_enter ok (by decide +kernel) rfl rfl (Nat.le_of_ble_eq_true rfl) (by simp [Value.category]) (t_X4_seekProof_0 h)
def wp_X4_isSolvable_2 (G : sj_G) (R : sj_R) (x1 : Int32) (σ : sj_S) : Prop := ((σ 18 0) ≤ x1 → ∃ v2 σ2, sj_C G 120 me_X4_canChoose [.ref (sj_ad G 30), .int (nI 0), .int (nI 0), .int (nI 0), .int (nI 0)] (sj_st σ 30 7 ((σ 30 7) + (nI 1))) (.ok v2, σ2) ∧ (¬ v2 = 0 → sj_J G 121 me_X4_isSolvable R 58 [.ref (sj_ad G 30), .int (nI 0)] σ2 []) ∧ (v2 = 0 → R = (.ok (nI 0), σ2))) ∧ (¬ ((σ 18 0) ≤ x1) → vp_in x1 9 ∧ (¬ (σ 19 x1.toNatClampNeg) = 0 → sj_J G 121 me_X4_isSolvable R 2 [.ref (sj_ad G 30), .int (x1 + (nI 1))] σ []) ∧ ((σ 19 x1.toNatClampNeg) = 0 → R = (.ok (nI 0), σ)))
set_option maxRecDepth 20000 in
theorem t_X4_isSolvable_2 {G : sj_G} {R : sj_R} {x1 : Int32} {σ : sj_S} (h : wp_X4_isSolvable_2 G R x1 σ) : sj_J G 121 me_X4_isSolvable R 2 [.ref (sj_ad G 30), .int x1] σ [] := by
  unfold wp_X4_isSolvable_2 at h
  refine sj_iload_n dX4_isSolvable_2 (i := 1) rfl rfl ?_
  refine sj_aload_n dX4_isSolvable_3 (i := 0) rfl rfl ?_
  refine sj_get (a := 30) (k9 := 0) (v := .ref (sj_ad G 18)) dX4_isSolvable_4 (by decide +kernel) rfl ?_
  refine sj_get (a := 18) (k9 := 0) (v := .int (σ 18 0)) dX4_isSolvable_7 (by decide +kernel) rfl ?_
  refine sj_icmp_ge (tgt := 33) dX4_isSolvable_10 (by decide) (fun c1 => ?_) (fun c1 => ?_)
  · replace h := h.1 c1
    refine sj_aload_n dX4_isSolvable_33 (i := 0) rfl rfl ?_
    refine sj_dup dX4_isSolvable_34 rfl ?_
    refine sj_get (a := 30) (k9 := 7) (v := .int (σ 30 7)) dX4_isSolvable_35 (by decide +kernel) rfl ?_
    refine sj_iconst (v := (nI 1)) dX4_isSolvable_38 (by decide +kernel) ?_
    refine sj_iadd dX4_isSolvable_39 ?_
    refine sj_put (a := 30) (k9 := 7) dX4_isSolvable_40 (by decide +kernel) (by decide +kernel) rfl ?_
    refine sj_aload_n dX4_isSolvable_43 (i := 0) rfl rfl ?_
    refine sj_iconst (v := (nI 0)) dX4_isSolvable_44 (by decide +kernel) ?_
    refine sj_iconst (v := (nI 0)) dX4_isSolvable_45 (by decide +kernel) ?_
    refine sj_iconst (v := (nI 0)) dX4_isSolvable_46 (by decide +kernel) ?_
    refine sj_iconst (v := (nI 0)) dX4_isSolvable_47 (by decide +kernel) ?_
    obtain ⟨v2, σ2, hc2, h⟩ := h
    refine sj_callVi (M' := me_X4_canChoose) (b := 30) (As := [.int (nI 0), .int (nI 0), .int (nI 0), .int (nI 0)]) (rest := []) dX4_isSolvable_48 gX4_isSolvable_X4_canChoose rfl hd_X4_canChoose (by decide +kernel) (by decide +kernel) rfl (Nat.le_of_ble_eq_true rfl) (by omega) rfl hc2 ?_
    refine sj_if_ne (tgt := 56) dX4_isSolvable_51 (by decide) (fun c3 => ?_) (fun c3 => ?_)
    · replace h := h.1 c3
      refine sj_iconst (v := (nI 0)) dX4_isSolvable_56 (by decide +kernel) ?_
      refine sj_istore_n dX4_isSolvable_57 (i := 1) rfl (by decide) ?_
      exact h
    · replace h := h.2 c3
      refine sj_iconst (v := (nI 0)) dX4_isSolvable_54 (by decide +kernel) ?_
      subst h
      exact sj_ret dX4_isSolvable_55 rfl rfl
  · replace h := h.2 c1
    refine sj_aload_n dX4_isSolvable_13 (i := 0) rfl rfl ?_
    refine sj_get (a := 30) (k9 := 0) (v := .ref (sj_ad G 18)) dX4_isSolvable_14 (by decide +kernel) rfl ?_
    refine sj_get (a := 18) (k9 := 1) (v := .ref (sj_ad G 19)) dX4_isSolvable_17 (by decide +kernel) rfl ?_
    refine sj_iload_n dX4_isSolvable_20 (i := 1) rfl rfl ?_
    obtain ⟨b4, h⟩ := h
    refine sj_iald (a := 19) (j := x1.toNatClampNeg) (x := (σ 19 x1.toNatClampNeg)) dX4_isSolvable_21 rfl (by decide +kernel) b4 rfl rfl ?_
    refine sj_if_ne (tgt := 27) dX4_isSolvable_22 (by decide) (fun c5 => ?_) (fun c5 => ?_)
    · replace h := h.1 c5
      refine sj_iinc (v := (x1 + (nI 1))) dX4_isSolvable_27 (by decide) rfl rfl ?_
      refine sj_goto (tgt := 2) dX4_isSolvable_30 (by decide) ?_
      exact h
    · replace h := h.2 c5
      refine sj_iconst (v := (nI 0)) dX4_isSolvable_25 (by decide +kernel) ?_
      subst h
      exact sj_ret dX4_isSolvable_26 rfl rfl
def wp_X4_isSolvable_58 (G : sj_G) (R : sj_R) (x1 : Int32) (σ : sj_S) : Prop := ((nI 5) ≤ x1 → R = (.ok (nI 1), (sj_up σ 31 (va_cpy (σ 35) (σ 31) 0 0 9)))) ∧ (¬ ((nI 5) ≤ x1) → vp_in x1 5 ∧ ∃ v3 σ3, sj_C G 40 me_X4_canStand [.ref (sj_ad G 18), .ref (sj_ad G 35), .int x1, .int (σ 34 x1.toNatClampNeg), .int (nI 0)] σ (.ok v3, σ3) ∧ sj_J G 121 me_X4_isSolvable R 58 [.ref (sj_ad G 30), .int (x1 + (nI 1))] σ3 [])
set_option maxRecDepth 20000 in
theorem t_X4_isSolvable_58 {G : sj_G} {R : sj_R} {x1 : Int32} {σ : sj_S} (h : wp_X4_isSolvable_58 G R x1 σ) : sj_J G 121 me_X4_isSolvable R 58 [.ref (sj_ad G 30), .int x1] σ [] := by
  unfold wp_X4_isSolvable_58 at h
  refine sj_iload_n dX4_isSolvable_58 (i := 1) rfl rfl ?_
  refine sj_iconst (v := (nI 5)) dX4_isSolvable_59 (by decide +kernel) ?_
  refine sj_icmp_ge (tgt := 89) dX4_isSolvable_60 (by decide) (fun c1 => ?_) (fun c1 => ?_)
  · replace h := h.1 c1
    refine sj_aload_n dX4_isSolvable_89 (i := 0) rfl rfl ?_
    refine sj_get (a := 30) (k9 := 6) (v := .ref (sj_ad G 35)) dX4_isSolvable_90 (by decide +kernel) rfl ?_
    refine sj_iconst (v := (nI 0)) dX4_isSolvable_93 (by decide +kernel) ?_
    refine sj_aload_n dX4_isSolvable_94 (i := 0) rfl rfl ?_
    refine sj_get (a := 30) (k9 := 1) (v := .ref (sj_ad G 31)) dX4_isSolvable_95 (by decide +kernel) rfl ?_
    refine sj_iconst (v := (nI 0)) dX4_isSolvable_98 (by decide +kernel) ?_
    refine sj_bipush (v := (nI 9)) dX4_isSolvable_99 (by decide +kernel) ?_
    refine sj_copy (a0 := 35) (a := 31) dX4_isSolvable_101 (by decide +kernel) (by omega) (Nat.le_of_ble_eq_true rfl) rfl (by decide +kernel) rfl (by decide +kernel) (nI_pos (by decide)) (nI_pos (by decide)) (nI_pos (by decide)) (by decide) (by decide) (nI_clamp (by decide)) (nI_clamp (by decide)) (nI_clamp (by decide)) ?_
    refine sj_iconst (v := (nI 1)) dX4_isSolvable_104 (by decide +kernel) ?_
    subst h
    exact sj_ret dX4_isSolvable_105 rfl rfl
  · replace h := h.2 c1
    refine sj_aload_n dX4_isSolvable_63 (i := 0) rfl rfl ?_
    refine sj_get (a := 30) (k9 := 0) (v := .ref (sj_ad G 18)) dX4_isSolvable_64 (by decide +kernel) rfl ?_
    refine sj_aload_n dX4_isSolvable_67 (i := 0) rfl rfl ?_
    refine sj_get (a := 30) (k9 := 6) (v := .ref (sj_ad G 35)) dX4_isSolvable_68 (by decide +kernel) rfl ?_
    refine sj_iload_n dX4_isSolvable_71 (i := 1) rfl rfl ?_
    refine sj_aload_n dX4_isSolvable_72 (i := 0) rfl rfl ?_
    refine sj_get (a := 30) (k9 := 5) (v := .ref (sj_ad G 34)) dX4_isSolvable_73 (by decide +kernel) rfl ?_
    refine sj_iload_n dX4_isSolvable_76 (i := 1) rfl rfl ?_
    obtain ⟨b2, h⟩ := h
    refine sj_iald (a := 34) (j := x1.toNatClampNeg) (x := (σ 34 x1.toNatClampNeg)) dX4_isSolvable_77 rfl (by decide +kernel) b2 rfl rfl ?_
    refine sj_iconst (v := (nI 0)) dX4_isSolvable_78 (by decide +kernel) ?_
    obtain ⟨v3, σ3, hc3, h⟩ := h
    refine sj_callSi (M' := me_X4_canStand) (As := [.ref (sj_ad G 18), .ref (sj_ad G 35), .int x1, .int (σ 34 x1.toNatClampNeg), .int (nI 0)]) (rest := []) dX4_isSolvable_79 gX4_isSolvable_X4_canStand rfl hd_X4_canStand (Nat.le_of_ble_eq_true rfl) (by omega) rfl hc3 ?_
    refine sj_pop dX4_isSolvable_82 rfl ?_
    refine sj_iinc (v := (x1 + (nI 1))) dX4_isSolvable_83 (by decide) rfl rfl ?_
    refine sj_goto (tgt := 58) dX4_isSolvable_86 (by decide) ?_
    exact h
def wp_X4_isSolvable_0 (G : sj_G) (R : sj_R) (σ : sj_S) : Prop := sj_J G 121 me_X4_isSolvable R 2 [.ref (sj_ad G 30), .int (nI 0)] σ []
set_option maxRecDepth 20000 in
theorem t_X4_isSolvable_0 {G : sj_G} {R : sj_R} {σ : sj_S} (h : wp_X4_isSolvable_0 G R σ) : sj_J G 121 me_X4_isSolvable R 0 [.ref (sj_ad G 30), .null] σ [] := by
  unfold wp_X4_isSolvable_0 at h
  refine sj_iconst (v := (nI 0)) dX4_isSolvable_0 (by decide +kernel) ?_
  refine sj_istore_n dX4_isSolvable_1 (i := 1) rfl (by decide) ?_
  exact h
theorem c_X4_isSolvable {G : sj_G} (ok : sj_ok G) {R : sj_R} {σ : sj_S} (h : wp_X4_isSolvable_0 G R σ) : sj_C G 121 me_X4_isSolvable [.ref (sj_ad G 30)] σ R :=
  sj_enter ok (by decide +kernel) rfl rfl (Nat.le_of_ble_eq_true rfl) (by simp [Value.category]) (t_X4_isSolvable_0 h)
def wp_X4_canChoose_53 (G : sj_G) (R : sj_R) (d dd : Nat) (x1 : Int32) (x3 : Int32) (x4 : Int32) (x5 : Int32) (σ : sj_S) : Prop := sj_J G d me_X4_canChoose R 3 [.ref (sj_ad G 30), .int x1, .null, .int x3, .int x4, .int (x5 + (nI 1))] σ []
set_option maxRecDepth 20000 in
theorem t_X4_canChoose_53 {G : sj_G} {R : sj_R} {d dd : Nat} {x1 : Int32} {x3 : Int32} {x4 : Int32} {x5 : Int32} {σ : sj_S} (hdd : dd + 1 ≤ d) (h10 : 43 ≤ d) (h : wp_X4_canChoose_53 G R d dd x1 x3 x4 x5 σ) : sj_J G d me_X4_canChoose R 53 [.ref (sj_ad G 30), .int x1, .null, .int x3, .int x4, .int x5] σ [] := by
  unfold wp_X4_canChoose_53 at h
  refine sj_iinc (v := (x5 + (nI 1))) dX4_canChoose_53 (by decide) rfl rfl ?_
  refine sj_goto (tgt := 3) dX4_canChoose_56 (by decide) ?_
  exact h
def wp_X4_canChoose_96 (G : sj_G) (R : sj_R) (d dd : Nat) (s0 : Int32) (σ : sj_S) : Prop := R = (.ok s0, σ) ∧ (s0 = nI 0 ∨ s0 = nI 1)
set_option maxRecDepth 20000 in
theorem t_X4_canChoose_96 {G : sj_G} {R : sj_R} {d dd : Nat} {s0 : Int32} {σ : sj_S} (hdd : dd + 1 ≤ d) (h10 : 43 ≤ d) (h : wp_X4_canChoose_96 G R d dd s0 σ) : sj_J G d me_X4_canChoose R 96 [.null, .null, .null, .null, .null, .null] σ [.int s0] := by
  unfold wp_X4_canChoose_96 at h
  obtain ⟨h, hz⟩ := h
  subst h
  exact sj_ret dX4_canChoose_96 rfl (sj_nb hz)
def wp_X4_canChoose_95 (G : sj_G) (R : sj_R) (d dd : Nat) (σ : sj_S) : Prop := (wp_X4_canChoose_96 G R d dd (nI 0) σ)
set_option maxRecDepth 20000 in
theorem t_X4_canChoose_95 {G : sj_G} {R : sj_R} {d dd : Nat} {σ : sj_S} (hdd : dd + 1 ≤ d) (h10 : 43 ≤ d) (h : wp_X4_canChoose_95 G R d dd σ) : sj_J G d me_X4_canChoose R 95 [.null, .null, .null, .null, .null, .null] σ [] := by
  unfold wp_X4_canChoose_95 at h
  refine sj_iconst (v := (nI 0)) dX4_canChoose_95 (by decide +kernel) ?_
  exact t_X4_canChoose_96 hdd h10 h
def wp_X4_canChoose_3 (G : sj_G) (R : sj_R) (d dd : Nat) (x1 : Int32) (x3 : Int32) (x4 : Int32) (x5 : Int32) (σ : sj_S) : Prop := ((σ 18 0) ≤ x5 → vp_in x1 5 ∧ ∃ v3 σ3, sj_C G 42 me_X4_canTakeMore [.ref (sj_ad G 30), .int x1, .int x3, .int x4] (sj_st σ 34 x1.toNatClampNeg x3) (.ok v3, σ3) ∧ (¬ v3 = 0 → (wp_X4_canChoose_95 G R d dd σ3)) ∧ (v3 = 0 → ∃ v6 σ6, sj_C G dd me_X4_canGoOn [.ref (sj_ad G 30), .int (x1 + (nI 1)), .int (x4 ||| x3)] σ3 (.ok v6, σ6) ∧ (wp_X4_canChoose_96 G R d dd (if v6 = 0 then (nI 0) else (nI 1)) σ6))) ∧ (¬ ((σ 18 0) ≤ x5) → (¬ ((x4 >>> (x5 &&& 31)) &&& (nI 1)) = 0 → (wp_X4_canChoose_53 G R d dd x1 x3 x4 x5 σ)) ∧ (((x4 >>> (x5 &&& 31)) &&& (nI 1)) = 0 → ∃ v9 σ9, sj_C G dd me_X4_canTakeIn [.ref (sj_ad G 30), .int x1, .int x5, .int x3, .int x4] σ (.ok v9, σ9) ∧ (v9 = 0 → ∃ v11 σ11, sj_C G 2 me_X4_mustJoin [.ref (sj_ad G 30), .int x1, .int x5, .int x3] σ9 (.ok v11, σ11) ∧ (v11 = 0 → (wp_X4_canChoose_53 G R d dd x1 x3 x4 x5 σ11)) ∧ (¬ (v11 = 0) → R = (.ok (nI 0), σ11))) ∧ (¬ (v9 = 0) → R = (.ok (nI 1), σ9))))
set_option maxRecDepth 20000 in
theorem t_X4_canChoose_3 {G : sj_G} {R : sj_R} {d dd : Nat} {x1 : Int32} {x3 : Int32} {x4 : Int32} {x5 : Int32} {σ : sj_S} (hdd : dd + 1 ≤ d) (h10 : 43 ≤ d) (h : wp_X4_canChoose_3 G R d dd x1 x3 x4 x5 σ) : sj_J G d me_X4_canChoose R 3 [.ref (sj_ad G 30), .int x1, .null, .int x3, .int x4, .int x5] σ [] := by
  unfold wp_X4_canChoose_3 at h
  refine sj_iload dX4_canChoose_3 rfl ?_
  refine sj_aload_n dX4_canChoose_5 (i := 0) rfl rfl ?_
  refine sj_get (a := 30) (k9 := 0) (v := .ref (sj_ad G 18)) dX4_canChoose_6 (by decide +kernel) rfl ?_
  refine sj_get (a := 18) (k9 := 0) (v := .int (σ 18 0)) dX4_canChoose_9 (by decide +kernel) rfl ?_
  refine sj_icmp_ge (tgt := 59) dX4_canChoose_12 (by decide) (fun c1 => ?_) (fun c1 => ?_)
  · replace h := h.1 c1
    refine sj_aload_n dX4_canChoose_59 (i := 0) rfl rfl ?_
    refine sj_get (a := 30) (k9 := 5) (v := .ref (sj_ad G 34)) dX4_canChoose_60 (by decide +kernel) rfl ?_
    refine sj_iload_n dX4_canChoose_63 (i := 1) rfl rfl ?_
    refine sj_iload_n dX4_canChoose_64 (i := 3) rfl rfl ?_
    obtain ⟨b2, h⟩ := h
    refine sj_iast (a := 34) (j := x1.toNatClampNeg) dX4_canChoose_65 rfl (by decide +kernel) b2 rfl ?_
    refine sj_aload_n dX4_canChoose_66 (i := 0) rfl rfl ?_
    refine sj_iload_n dX4_canChoose_67 (i := 1) rfl rfl ?_
    refine sj_iload_n dX4_canChoose_68 (i := 3) rfl rfl ?_
    refine sj_iload dX4_canChoose_69 rfl ?_
    obtain ⟨v3, σ3, hc3, h⟩ := h
    refine sj_callVi (M' := me_X4_canTakeMore) (b := 30) (As := [.int x1, .int x3, .int x4]) (rest := []) dX4_canChoose_71 gX4_canChoose_X4_canTakeMore rfl hd_X4_canTakeMore (by decide +kernel) (by decide +kernel) rfl (Nat.le_of_ble_eq_true rfl) (by omega) rfl hc3 ?_
    refine sj_if_ne (tgt := 95) dX4_canChoose_74 (by decide) (fun c5 => ?_) (fun c5 => ?_)
    · replace h := h.1 c5
      refine sj_fg [0, 1, 3, 4, 5] ?_
      exact t_X4_canChoose_95 hdd h10 h
    · replace h := h.2 c5
      refine sj_aload_n dX4_canChoose_77 (i := 0) rfl rfl ?_
      refine sj_iload_n dX4_canChoose_78 (i := 1) rfl rfl ?_
      refine sj_iconst (v := (nI 1)) dX4_canChoose_79 (by decide +kernel) ?_
      refine sj_iadd dX4_canChoose_80 ?_
      refine sj_iload dX4_canChoose_81 rfl ?_
      refine sj_iload_n dX4_canChoose_83 (i := 3) rfl rfl ?_
      refine sj_ior dX4_canChoose_84 ?_
      obtain ⟨v6, σ6, hc6, h⟩ := h
      refine sj_callVi (M' := me_X4_canGoOn) (b := 30) (As := [.int (x1 + (nI 1)), .int (x4 ||| x3)]) (rest := []) dX4_canChoose_85 gX4_canChoose_X4_canGoOn rfl hd_X4_canGoOn (by decide +kernel) (by decide +kernel) rfl (Nat.le_of_ble_eq_true rfl) (by omega) rfl hc6 ?_
      refine sj_if_eq (tgt := 95) dX4_canChoose_88 (by decide) (fun c7 => ?_) (fun c7 => ?_)
      · refine sj_iconst (v := (nI 0)) dX4_canChoose_95 (by decide +kernel) ?_
        try simp only [if_pos c7] at h
        refine sj_fg [0, 1, 3, 4, 5] ?_
        exact t_X4_canChoose_96 hdd h10 h
      · refine sj_iconst (v := (nI 1)) dX4_canChoose_91 (by decide +kernel) ?_
        refine sj_goto (tgt := 96) dX4_canChoose_92 (by decide) ?_
        try simp only [if_neg c7] at h
        refine sj_fg [0, 1, 3, 4, 5] ?_
        exact t_X4_canChoose_96 hdd h10 h
  · replace h := h.2 c1
    refine sj_iload dX4_canChoose_15 rfl ?_
    refine sj_iload dX4_canChoose_17 rfl ?_
    refine sj_ishr dX4_canChoose_19 ?_
    refine sj_iconst (v := (nI 1)) dX4_canChoose_20 (by decide +kernel) ?_
    refine sj_iand dX4_canChoose_21 ?_
    refine sj_if_ne (tgt := 53) dX4_canChoose_22 (by decide) (fun c8 => ?_) (fun c8 => ?_)
    · replace h := h.1 c8
      exact t_X4_canChoose_53 hdd h10 h
    · replace h := h.2 c8
      refine sj_aload_n dX4_canChoose_25 (i := 0) rfl rfl ?_
      refine sj_iload_n dX4_canChoose_26 (i := 1) rfl rfl ?_
      refine sj_iload dX4_canChoose_27 rfl ?_
      refine sj_iload_n dX4_canChoose_29 (i := 3) rfl rfl ?_
      refine sj_iload dX4_canChoose_30 rfl ?_
      obtain ⟨v9, σ9, hc9, h⟩ := h
      refine sj_callVi (M' := me_X4_canTakeIn) (b := 30) (As := [.int x1, .int x5, .int x3, .int x4]) (rest := []) dX4_canChoose_32 gX4_canChoose_X4_canTakeIn rfl hd_X4_canTakeIn (by decide +kernel) (by decide +kernel) rfl (Nat.le_of_ble_eq_true rfl) (by omega) rfl hc9 ?_
      refine sj_if_eq (tgt := 40) dX4_canChoose_35 (by decide) (fun c10 => ?_) (fun c10 => ?_)
      · replace h := h.1 c10
        refine sj_aload_n dX4_canChoose_40 (i := 0) rfl rfl ?_
        refine sj_iload_n dX4_canChoose_41 (i := 1) rfl rfl ?_
        refine sj_iload dX4_canChoose_42 rfl ?_
        refine sj_iload_n dX4_canChoose_44 (i := 3) rfl rfl ?_
        obtain ⟨v11, σ11, hc11, h⟩ := h
        refine sj_callVi (M' := me_X4_mustJoin) (b := 30) (As := [.int x1, .int x5, .int x3]) (rest := []) dX4_canChoose_45 gX4_canChoose_X4_mustJoin rfl hd_X4_mustJoin (by decide +kernel) (by decide +kernel) rfl (Nat.le_of_ble_eq_true rfl) (by omega) rfl hc11 ?_
        refine sj_if_eq (tgt := 53) dX4_canChoose_48 (by decide) (fun c12 => ?_) (fun c12 => ?_)
        · replace h := h.1 c12
          exact t_X4_canChoose_53 hdd h10 h
        · replace h := h.2 c12
          refine sj_iconst (v := (nI 0)) dX4_canChoose_51 (by decide +kernel) ?_
          subst h
          exact sj_ret dX4_canChoose_52 rfl rfl
      · replace h := h.2 c10
        refine sj_iconst (v := (nI 1)) dX4_canChoose_38 (by decide +kernel) ?_
        subst h
        exact sj_ret dX4_canChoose_39 rfl rfl
def wp_X4_canChoose_0 (G : sj_G) (R : sj_R) (d dd : Nat) (x1 : Int32) (x2 : Int32) (x3 : Int32) (x4 : Int32) (σ : sj_S) : Prop := sj_J G d me_X4_canChoose R 3 [.ref (sj_ad G 30), .int x1, .null, .int x3, .int x4, .int x2] σ []
set_option maxRecDepth 20000 in
theorem t_X4_canChoose_0 {G : sj_G} {R : sj_R} {d dd : Nat} {x1 : Int32} {x2 : Int32} {x3 : Int32} {x4 : Int32} {σ : sj_S} (hdd : dd + 1 ≤ d) (h10 : 43 ≤ d) (h : wp_X4_canChoose_0 G R d dd x1 x2 x3 x4 σ) : sj_J G d me_X4_canChoose R 0 [.ref (sj_ad G 30), .int x1, .int x2, .int x3, .int x4, .null] σ [] := by
  unfold wp_X4_canChoose_0 at h
  refine sj_iload_n dX4_canChoose_0 (i := 2) rfl rfl ?_
  refine sj_istore dX4_canChoose_1 (by decide) ?_
  refine sj_fg [2] ?_
  exact h
theorem c_X4_canChoose {G : sj_G} (ok : sj_ok G) {R : sj_R} {d dd : Nat} {x1 : Int32} {x2 : Int32} {x3 : Int32} {x4 : Int32} {σ : sj_S} (hdd : dd + 1 ≤ d) (h10 : 43 ≤ d) (h : wp_X4_canChoose_0 G R d dd x1 x2 x3 x4 σ) : sj_C G d me_X4_canChoose [.ref (sj_ad G 30), .int x1, .int x2, .int x3, .int x4] σ R :=
  sj_enter ok (by decide +kernel) rfl rfl (Nat.le_of_ble_eq_true rfl) (by simp [Value.category]) (t_X4_canChoose_0 hdd h10 h)
def wp_X4_canTakeIn_50 (G : sj_G) (R : sj_R) (d dd : Nat) (s0 : Int32) (σ : sj_S) : Prop := R = (.ok s0, σ) ∧ (s0 = nI 0 ∨ s0 = nI 1)
set_option maxRecDepth 20000 in
theorem t_X4_canTakeIn_50 {G : sj_G} {R : sj_R} {d dd : Nat} {s0 : Int32} {σ : sj_S} (hdd : dd + 1 ≤ d) (h10 : 43 ≤ d) (h : wp_X4_canTakeIn_50 G R d dd s0 σ) : sj_J G d me_X4_canTakeIn R 50 [.null, .null, .null, .null, .null] σ [.int s0] := by
  unfold wp_X4_canTakeIn_50 at h
  obtain ⟨h, hz⟩ := h
  subst h
  exact sj_ret dX4_canTakeIn_50 rfl (sj_nb hz)
def wp_X4_canTakeIn_49 (G : sj_G) (R : sj_R) (d dd : Nat) (σ : sj_S) : Prop := (wp_X4_canTakeIn_50 G R d dd (nI 0) σ)
set_option maxRecDepth 20000 in
theorem t_X4_canTakeIn_49 {G : sj_G} {R : sj_R} {d dd : Nat} {σ : sj_S} (hdd : dd + 1 ≤ d) (h10 : 43 ≤ d) (h : wp_X4_canTakeIn_49 G R d dd σ) : sj_J G d me_X4_canTakeIn R 49 [.null, .null, .null, .null, .null] σ [] := by
  unfold wp_X4_canTakeIn_49 at h
  refine sj_iconst (v := (nI 0)) dX4_canTakeIn_49 (by decide +kernel) ?_
  exact t_X4_canTakeIn_50 hdd h10 h
def wp_X4_canTakeIn_0 (G : sj_G) (R : sj_R) (d dd : Nat) (x1 : Int32) (x2 : Int32) (x3 : Int32) (x4 : Int32) (σ : sj_S) : Prop := ∃ v1 σ1, sj_C G 2 me_X4_mayJoin [.ref (sj_ad G 30), .int x1, .int x2, .int x3, .int x4, .int (((nI 1) <<< (x2 &&& 31)) - (nI 1))] σ (.ok v1, σ1) ∧ (v1 = 0 → (wp_X4_canTakeIn_49 G R d dd σ1)) ∧ (¬ (v1 = 0) → ∃ v4 σ4, sj_C G 41 me_X4_fits [.ref (sj_ad G 30), .int x1, .int x2, .int x3] σ1 (.ok v4, σ4) ∧ (v4 = 0 → (wp_X4_canTakeIn_49 G R d dd σ4)) ∧ (¬ (v4 = 0) → ∃ v7 σ7, sj_C G dd me_X4_canChoose [.ref (sj_ad G 30), .int x1, .int (x2 + (nI 1)), .int (x3 ||| ((nI 1) <<< (x2 &&& 31))), .int x4] σ4 (.ok v7, σ7) ∧ (wp_X4_canTakeIn_50 G R d dd (if v7 = 0 then (nI 0) else (nI 1)) σ7)))
set_option maxRecDepth 20000 in
theorem t_X4_canTakeIn_0 {G : sj_G} {R : sj_R} {d dd : Nat} {x1 : Int32} {x2 : Int32} {x3 : Int32} {x4 : Int32} {σ : sj_S} (hdd : dd + 1 ≤ d) (h10 : 43 ≤ d) (h : wp_X4_canTakeIn_0 G R d dd x1 x2 x3 x4 σ) : sj_J G d me_X4_canTakeIn R 0 [.ref (sj_ad G 30), .int x1, .int x2, .int x3, .int x4] σ [] := by
  unfold wp_X4_canTakeIn_0 at h
  refine sj_aload_n dX4_canTakeIn_0 (i := 0) rfl rfl ?_
  refine sj_iload_n dX4_canTakeIn_1 (i := 1) rfl rfl ?_
  refine sj_iload_n dX4_canTakeIn_2 (i := 2) rfl rfl ?_
  refine sj_iload_n dX4_canTakeIn_3 (i := 3) rfl rfl ?_
  refine sj_iload dX4_canTakeIn_4 rfl ?_
  refine sj_iconst (v := (nI 1)) dX4_canTakeIn_6 (by decide +kernel) ?_
  refine sj_iload_n dX4_canTakeIn_7 (i := 2) rfl rfl ?_
  refine sj_ishl dX4_canTakeIn_8 ?_
  refine sj_iconst (v := (nI 1)) dX4_canTakeIn_9 (by decide +kernel) ?_
  refine sj_isub dX4_canTakeIn_10 ?_
  obtain ⟨v1, σ1, hc1, h⟩ := h
  refine sj_callVi (M' := me_X4_mayJoin) (b := 30) (As := [.int x1, .int x2, .int x3, .int x4, .int (((nI 1) <<< (x2 &&& 31)) - (nI 1))]) (rest := []) dX4_canTakeIn_11 gX4_canTakeIn_X4_mayJoin rfl hd_X4_mayJoin (by decide +kernel) (by decide +kernel) rfl (Nat.le_of_ble_eq_true rfl) (by omega) rfl hc1 ?_
  refine sj_if_eq (tgt := 49) dX4_canTakeIn_14 (by decide) (fun c3 => ?_) (fun c3 => ?_)
  · replace h := h.1 c3
    refine sj_fg [0, 1, 2, 3, 4] ?_
    exact t_X4_canTakeIn_49 hdd h10 h
  · replace h := h.2 c3
    refine sj_aload_n dX4_canTakeIn_17 (i := 0) rfl rfl ?_
    refine sj_iload_n dX4_canTakeIn_18 (i := 1) rfl rfl ?_
    refine sj_iload_n dX4_canTakeIn_19 (i := 2) rfl rfl ?_
    refine sj_iload_n dX4_canTakeIn_20 (i := 3) rfl rfl ?_
    obtain ⟨v4, σ4, hc4, h⟩ := h
    refine sj_callVi (M' := me_X4_fits) (b := 30) (As := [.int x1, .int x2, .int x3]) (rest := []) dX4_canTakeIn_21 gX4_canTakeIn_X4_fits rfl hd_X4_fits (by decide +kernel) (by decide +kernel) rfl (Nat.le_of_ble_eq_true rfl) (by omega) rfl hc4 ?_
    refine sj_if_eq (tgt := 49) dX4_canTakeIn_24 (by decide) (fun c6 => ?_) (fun c6 => ?_)
    · replace h := h.1 c6
      refine sj_fg [0, 1, 2, 3, 4] ?_
      exact t_X4_canTakeIn_49 hdd h10 h
    · replace h := h.2 c6
      refine sj_aload_n dX4_canTakeIn_27 (i := 0) rfl rfl ?_
      refine sj_iload_n dX4_canTakeIn_28 (i := 1) rfl rfl ?_
      refine sj_iload_n dX4_canTakeIn_29 (i := 2) rfl rfl ?_
      refine sj_iconst (v := (nI 1)) dX4_canTakeIn_30 (by decide +kernel) ?_
      refine sj_iadd dX4_canTakeIn_31 ?_
      refine sj_iload_n dX4_canTakeIn_32 (i := 3) rfl rfl ?_
      refine sj_iconst (v := (nI 1)) dX4_canTakeIn_33 (by decide +kernel) ?_
      refine sj_iload_n dX4_canTakeIn_34 (i := 2) rfl rfl ?_
      refine sj_ishl dX4_canTakeIn_35 ?_
      refine sj_ior dX4_canTakeIn_36 ?_
      refine sj_iload dX4_canTakeIn_37 rfl ?_
      obtain ⟨v7, σ7, hc7, h⟩ := h
      refine sj_callVi (M' := me_X4_canChoose) (b := 30) (As := [.int x1, .int (x2 + (nI 1)), .int (x3 ||| ((nI 1) <<< (x2 &&& 31))), .int x4]) (rest := []) dX4_canTakeIn_39 gX4_canTakeIn_X4_canChoose rfl hd_X4_canChoose (by decide +kernel) (by decide +kernel) rfl (Nat.le_of_ble_eq_true rfl) (by omega) rfl hc7 ?_
      refine sj_if_eq (tgt := 49) dX4_canTakeIn_42 (by decide) (fun c8 => ?_) (fun c8 => ?_)
      · refine sj_iconst (v := (nI 0)) dX4_canTakeIn_49 (by decide +kernel) ?_
        try simp only [if_pos c8] at h
        refine sj_fg [0, 1, 2, 3, 4] ?_
        exact t_X4_canTakeIn_50 hdd h10 h
      · refine sj_iconst (v := (nI 1)) dX4_canTakeIn_45 (by decide +kernel) ?_
        refine sj_goto (tgt := 50) dX4_canTakeIn_46 (by decide) ?_
        try simp only [if_neg c8] at h
        refine sj_fg [0, 1, 2, 3, 4] ?_
        exact t_X4_canTakeIn_50 hdd h10 h
theorem c_X4_canTakeIn {G : sj_G} (ok : sj_ok G) {R : sj_R} {d dd : Nat} {x1 : Int32} {x2 : Int32} {x3 : Int32} {x4 : Int32} {σ : sj_S} (hdd : dd + 1 ≤ d) (h10 : 43 ≤ d) (h : wp_X4_canTakeIn_0 G R d dd x1 x2 x3 x4 σ) : sj_C G d me_X4_canTakeIn [.ref (sj_ad G 30), .int x1, .int x2, .int x3, .int x4] σ R :=
  sj_enter ok (by decide +kernel) rfl rfl (Nat.le_of_ble_eq_true rfl) (by simp [Value.category]) (t_X4_canTakeIn_0 hdd h10 h)
def wp_X4_canTakeMore_64 (G : sj_G) (R : sj_R) (x1 : Int32) (x2 : Int32) (x3 : Int32) (x4 : Int32) (σ : sj_S) : Prop := sj_J G 42 me_X4_canTakeMore R 3 [.ref (sj_ad G 30), .int x1, .int x2, .int x3, .int (x4 + (nI 1)), .null] σ []
set_option maxRecDepth 20000 in
theorem t_X4_canTakeMore_64 {G : sj_G} {R : sj_R} {x1 : Int32} {x2 : Int32} {x3 : Int32} {x4 : Int32} {σ : sj_S} (h : wp_X4_canTakeMore_64 G R x1 x2 x3 x4 σ) : sj_J G 42 me_X4_canTakeMore R 64 [.ref (sj_ad G 30), .int x1, .int x2, .int x3, .int x4, .null] σ [] := by
  unfold wp_X4_canTakeMore_64 at h
  refine sj_iinc (v := (x4 + (nI 1))) dX4_canTakeMore_64 (by decide) rfl rfl ?_
  refine sj_goto (tgt := 3) dX4_canTakeMore_67 (by decide) ?_
  exact h
def wp_X4_canTakeMore_31 (G : sj_G) (R : sj_R) (x1 : Int32) (x2 : Int32) (x3 : Int32) (x4 : Int32) (s0 : Int32) (σ : sj_S) : Prop := (s0 = 0 → (wp_X4_canTakeMore_64 G R x1 x2 x3 x4 σ)) ∧ (¬ (s0 = 0) → ∃ v2 σ2, sj_C G 2 me_X4_mayJoin [.ref (sj_ad G 30), .int x1, .int x4, .int x2, .int x3, .int (-1)] σ (.ok v2, σ2) ∧ (v2 = 0 → (wp_X4_canTakeMore_64 G R x1 x2 x3 x4 σ2)) ∧ (¬ (v2 = 0) → ∃ v4 σ4, sj_C G 41 me_X4_fits [.ref (sj_ad G 30), .int x1, .int x4, .int x2] σ2 (.ok v4, σ4) ∧ (v4 = 0 → (wp_X4_canTakeMore_64 G R x1 x2 x3 x4 σ4)) ∧ (¬ (v4 = 0) → R = (.ok (nI 1), σ4))))
set_option maxRecDepth 20000 in
theorem t_X4_canTakeMore_31 {G : sj_G} {R : sj_R} {x1 : Int32} {x2 : Int32} {x3 : Int32} {x4 : Int32} {s0 : Int32} {σ : sj_S} (h : wp_X4_canTakeMore_31 G R x1 x2 x3 x4 s0 σ) : sj_J G 42 me_X4_canTakeMore R 31 [.ref (sj_ad G 30), .int x1, .int x2, .int x3, .int x4, .null] σ [.int s0] := by
  unfold wp_X4_canTakeMore_31 at h
  refine sj_istore dX4_canTakeMore_31 (by decide) ?_
  refine sj_iload dX4_canTakeMore_33 rfl ?_
  refine sj_if_eq (tgt := 64) dX4_canTakeMore_35 (by decide) (fun c1 => ?_) (fun c1 => ?_)
  · replace h := h.1 c1
    refine sj_fg [5] ?_
    exact t_X4_canTakeMore_64 h
  · replace h := h.2 c1
    refine sj_aload_n dX4_canTakeMore_38 (i := 0) rfl rfl ?_
    refine sj_iload_n dX4_canTakeMore_39 (i := 1) rfl rfl ?_
    refine sj_iload dX4_canTakeMore_40 rfl ?_
    refine sj_iload_n dX4_canTakeMore_42 (i := 2) rfl rfl ?_
    refine sj_iload_n dX4_canTakeMore_43 (i := 3) rfl rfl ?_
    refine sj_iconst (v := (-1)) dX4_canTakeMore_44 (by decide +kernel) ?_
    obtain ⟨v2, σ2, hc2, h⟩ := h
    refine sj_callVi (M' := me_X4_mayJoin) (b := 30) (As := [.int x1, .int x4, .int x2, .int x3, .int (-1)]) (rest := []) dX4_canTakeMore_45 gX4_canTakeMore_X4_mayJoin rfl hd_X4_mayJoin (by decide +kernel) (by decide +kernel) rfl (Nat.le_of_ble_eq_true rfl) (by omega) rfl hc2 ?_
    refine sj_if_eq (tgt := 64) dX4_canTakeMore_48 (by decide) (fun c3 => ?_) (fun c3 => ?_)
    · replace h := h.1 c3
      refine sj_fg [5] ?_
      exact t_X4_canTakeMore_64 h
    · replace h := h.2 c3
      refine sj_aload_n dX4_canTakeMore_51 (i := 0) rfl rfl ?_
      refine sj_iload_n dX4_canTakeMore_52 (i := 1) rfl rfl ?_
      refine sj_iload dX4_canTakeMore_53 rfl ?_
      refine sj_iload_n dX4_canTakeMore_55 (i := 2) rfl rfl ?_
      obtain ⟨v4, σ4, hc4, h⟩ := h
      refine sj_callVi (M' := me_X4_fits) (b := 30) (As := [.int x1, .int x4, .int x2]) (rest := []) dX4_canTakeMore_56 gX4_canTakeMore_X4_fits rfl hd_X4_fits (by decide +kernel) (by decide +kernel) rfl (Nat.le_of_ble_eq_true rfl) (by omega) rfl hc4 ?_
      refine sj_if_eq (tgt := 64) dX4_canTakeMore_59 (by decide) (fun c5 => ?_) (fun c5 => ?_)
      · replace h := h.1 c5
        refine sj_fg [5] ?_
        exact t_X4_canTakeMore_64 h
      · replace h := h.2 c5
        refine sj_iconst (v := (nI 1)) dX4_canTakeMore_62 (by decide +kernel) ?_
        subst h
        exact sj_ret dX4_canTakeMore_63 rfl rfl
def wp_X4_canTakeMore_3 (G : sj_G) (R : sj_R) (x1 : Int32) (x2 : Int32) (x3 : Int32) (x4 : Int32) (σ : sj_S) : Prop := ((σ 18 0) ≤ x4 → R = (.ok (nI 0), σ)) ∧ (¬ ((σ 18 0) ≤ x4) → (wp_X4_canTakeMore_31 G R x1 x2 x3 x4 (if (((x3 ||| x2) >>> (x4 &&& 31)) &&& (nI 1)) = 0 then (nI 1) else (nI 0)) σ))
set_option maxRecDepth 20000 in
theorem t_X4_canTakeMore_3 {G : sj_G} {R : sj_R} {x1 : Int32} {x2 : Int32} {x3 : Int32} {x4 : Int32} {σ : sj_S} (h : wp_X4_canTakeMore_3 G R x1 x2 x3 x4 σ) : sj_J G 42 me_X4_canTakeMore R 3 [.ref (sj_ad G 30), .int x1, .int x2, .int x3, .int x4, .null] σ [] := by
  unfold wp_X4_canTakeMore_3 at h
  refine sj_iload dX4_canTakeMore_3 rfl ?_
  refine sj_aload_n dX4_canTakeMore_5 (i := 0) rfl rfl ?_
  refine sj_get (a := 30) (k9 := 0) (v := .ref (sj_ad G 18)) dX4_canTakeMore_6 (by decide +kernel) rfl ?_
  refine sj_get (a := 18) (k9 := 0) (v := .int (σ 18 0)) dX4_canTakeMore_9 (by decide +kernel) rfl ?_
  refine sj_icmp_ge (tgt := 70) dX4_canTakeMore_12 (by decide) (fun c1 => ?_) (fun c1 => ?_)
  · replace h := h.1 c1
    refine sj_iconst (v := (nI 0)) dX4_canTakeMore_70 (by decide +kernel) ?_
    subst h
    exact sj_ret dX4_canTakeMore_71 rfl rfl
  · replace h := h.2 c1
    refine sj_iload_n dX4_canTakeMore_15 (i := 3) rfl rfl ?_
    refine sj_iload_n dX4_canTakeMore_16 (i := 2) rfl rfl ?_
    refine sj_ior dX4_canTakeMore_17 ?_
    refine sj_iload dX4_canTakeMore_18 rfl ?_
    refine sj_ishr dX4_canTakeMore_20 ?_
    refine sj_iconst (v := (nI 1)) dX4_canTakeMore_21 (by decide +kernel) ?_
    refine sj_iand dX4_canTakeMore_22 ?_
    refine sj_if_ne (tgt := 30) dX4_canTakeMore_23 (by decide) (fun c2 => ?_) (fun c2 => ?_)
    · refine sj_iconst (v := (nI 0)) dX4_canTakeMore_30 (by decide +kernel) ?_
      try simp only [if_neg c2] at h
      exact t_X4_canTakeMore_31 h
    · refine sj_iconst (v := (nI 1)) dX4_canTakeMore_26 (by decide +kernel) ?_
      refine sj_goto (tgt := 31) dX4_canTakeMore_27 (by decide) ?_
      try simp only [if_pos c2] at h
      exact t_X4_canTakeMore_31 h
def wp_X4_canTakeMore_0 (G : sj_G) (R : sj_R) (x1 : Int32) (x2 : Int32) (x3 : Int32) (σ : sj_S) : Prop := sj_J G 42 me_X4_canTakeMore R 3 [.ref (sj_ad G 30), .int x1, .int x2, .int x3, .int (nI 0), .null] σ []
set_option maxRecDepth 20000 in
theorem t_X4_canTakeMore_0 {G : sj_G} {R : sj_R} {x1 : Int32} {x2 : Int32} {x3 : Int32} {σ : sj_S} (h : wp_X4_canTakeMore_0 G R x1 x2 x3 σ) : sj_J G 42 me_X4_canTakeMore R 0 [.ref (sj_ad G 30), .int x1, .int x2, .int x3, .null, .null] σ [] := by
  unfold wp_X4_canTakeMore_0 at h
  refine sj_iconst (v := (nI 0)) dX4_canTakeMore_0 (by decide +kernel) ?_
  refine sj_istore dX4_canTakeMore_1 (by decide) ?_
  exact h
theorem c_X4_canTakeMore {G : sj_G} (ok : sj_ok G) {R : sj_R} {x1 : Int32} {x2 : Int32} {x3 : Int32} {σ : sj_S} (h : wp_X4_canTakeMore_0 G R x1 x2 x3 σ) : sj_C G 42 me_X4_canTakeMore [.ref (sj_ad G 30), .int x1, .int x2, .int x3] σ R :=
  sj_enter ok (by decide +kernel) rfl rfl (Nat.le_of_ble_eq_true rfl) (by simp [Value.category]) (t_X4_canTakeMore_0 h)
def wp_X4_canGoOn_25 (G : sj_G) (R : sj_R) (d dd : Nat) (s0 : Int32) (σ : sj_S) : Prop := R = (.ok s0, σ) ∧ (s0 = nI 0 ∨ s0 = nI 1)
set_option maxRecDepth 20000 in
theorem t_X4_canGoOn_25 {G : sj_G} {R : sj_R} {d dd : Nat} {s0 : Int32} {σ : sj_S} (hdd : dd + 1 ≤ d) (h10 : 43 ≤ d) (h : wp_X4_canGoOn_25 G R d dd s0 σ) : sj_J G d me_X4_canGoOn R 25 [.null, .null, .null] σ [.int s0] := by
  unfold wp_X4_canGoOn_25 at h
  obtain ⟨h, hz⟩ := h
  subst h
  exact sj_ret dX4_canGoOn_25 rfl (sj_nb hz)
def wp_X4_canGoOn_0 (G : sj_G) (R : sj_R) (d dd : Nat) (x1 : Int32) (x2 : Int32) (σ : sj_S) : Prop := (x1 < (nI 5) → ∃ v2 σ2, sj_C G 2 me_X4_marksOf [.ref (sj_ad G 30), .int x1, .int x2] σ (.ok v2, σ2) ∧ ((v2 &&& (nI 4)) = 0 → ∃ v4 σ4, sj_C G dd me_X4_canChoose [.ref (sj_ad G 30), .int x1, .int (nI 0), .int (nI 0), .int x2] σ2 (.ok v4, σ4) ∧ (v4 = 0 → ∃ σ6, sj_C G 3 me_X4_mark [.ref (sj_ad G 30), .int x1, .int x2, .int (nI 4)] σ4 (.ok 0, σ6) ∧ R = (.ok (nI 0), σ6)) ∧ (¬ (v4 = 0) → R = (.ok (nI 1), σ4))) ∧ (¬ ((v2 &&& (nI 4)) = 0) → R = (.ok (nI 0), σ2))) ∧ (¬ (x1 < (nI 5)) → (wp_X4_canGoOn_25 G R d dd (if x2 = (((nI 1) <<< ((σ 18 0) &&& 31)) - (nI 1)) then (nI 1) else (nI 0)) σ))
set_option maxRecDepth 20000 in
theorem t_X4_canGoOn_0 {G : sj_G} {R : sj_R} {d dd : Nat} {x1 : Int32} {x2 : Int32} {σ : sj_S} (hdd : dd + 1 ≤ d) (h10 : 43 ≤ d) (h : wp_X4_canGoOn_0 G R d dd x1 x2 σ) : sj_J G d me_X4_canGoOn R 0 [.ref (sj_ad G 30), .int x1, .int x2] σ [] := by
  unfold wp_X4_canGoOn_0 at h
  refine sj_iload_n dX4_canGoOn_0 (i := 1) rfl rfl ?_
  refine sj_iconst (v := (nI 5)) dX4_canGoOn_1 (by decide +kernel) ?_
  refine sj_icmp_lt (tgt := 26) dX4_canGoOn_2 (by decide) (fun c1 => ?_) (fun c1 => ?_)
  · replace h := h.1 c1
    refine sj_aload_n dX4_canGoOn_26 (i := 0) rfl rfl ?_
    refine sj_iload_n dX4_canGoOn_27 (i := 1) rfl rfl ?_
    refine sj_iload_n dX4_canGoOn_28 (i := 2) rfl rfl ?_
    obtain ⟨v2, σ2, hc2, h⟩ := h
    refine sj_callVi (M' := me_X4_marksOf) (b := 30) (As := [.int x1, .int x2]) (rest := []) dX4_canGoOn_29 gX4_canGoOn_X4_marksOf rfl hd_X4_marksOf (by decide +kernel) (by decide +kernel) rfl (Nat.le_of_ble_eq_true rfl) (by omega) rfl hc2 ?_
    refine sj_iconst (v := (nI 4)) dX4_canGoOn_32 (by decide +kernel) ?_
    refine sj_iand dX4_canGoOn_33 ?_
    refine sj_if_eq (tgt := 39) dX4_canGoOn_34 (by decide) (fun c3 => ?_) (fun c3 => ?_)
    · replace h := h.1 c3
      refine sj_aload_n dX4_canGoOn_39 (i := 0) rfl rfl ?_
      refine sj_iload_n dX4_canGoOn_40 (i := 1) rfl rfl ?_
      refine sj_iconst (v := (nI 0)) dX4_canGoOn_41 (by decide +kernel) ?_
      refine sj_iconst (v := (nI 0)) dX4_canGoOn_42 (by decide +kernel) ?_
      refine sj_iload_n dX4_canGoOn_43 (i := 2) rfl rfl ?_
      obtain ⟨v4, σ4, hc4, h⟩ := h
      refine sj_callVi (M' := me_X4_canChoose) (b := 30) (As := [.int x1, .int (nI 0), .int (nI 0), .int x2]) (rest := []) dX4_canGoOn_44 gX4_canGoOn_X4_canChoose rfl hd_X4_canChoose (by decide +kernel) (by decide +kernel) rfl (Nat.le_of_ble_eq_true rfl) (by omega) rfl hc4 ?_
      refine sj_if_eq (tgt := 52) dX4_canGoOn_47 (by decide) (fun c5 => ?_) (fun c5 => ?_)
      · replace h := h.1 c5
        refine sj_aload_n dX4_canGoOn_52 (i := 0) rfl rfl ?_
        refine sj_iload_n dX4_canGoOn_53 (i := 1) rfl rfl ?_
        refine sj_iload_n dX4_canGoOn_54 (i := 2) rfl rfl ?_
        refine sj_iconst (v := (nI 4)) dX4_canGoOn_55 (by decide +kernel) ?_
        obtain ⟨σ6, hc6, h⟩ := h
        refine sj_callVv (M' := me_X4_mark) (b := 30) (As := [.int x1, .int x2, .int (nI 4)]) (rest := []) dX4_canGoOn_56 gX4_canGoOn_X4_mark rfl hd_X4_mark (by decide +kernel) (by decide +kernel) rfl (Nat.le_of_ble_eq_true rfl) (by omega) rfl hc6 ?_
        refine sj_iconst (v := (nI 0)) dX4_canGoOn_59 (by decide +kernel) ?_
        subst h
        exact sj_ret dX4_canGoOn_60 rfl rfl
      · replace h := h.2 c5
        refine sj_iconst (v := (nI 1)) dX4_canGoOn_50 (by decide +kernel) ?_
        subst h
        exact sj_ret dX4_canGoOn_51 rfl rfl
    · replace h := h.2 c3
      refine sj_iconst (v := (nI 0)) dX4_canGoOn_37 (by decide +kernel) ?_
      subst h
      exact sj_ret dX4_canGoOn_38 rfl rfl
  · replace h := h.2 c1
    refine sj_iload_n dX4_canGoOn_5 (i := 2) rfl rfl ?_
    refine sj_iconst (v := (nI 1)) dX4_canGoOn_6 (by decide +kernel) ?_
    refine sj_aload_n dX4_canGoOn_7 (i := 0) rfl rfl ?_
    refine sj_get (a := 30) (k9 := 0) (v := .ref (sj_ad G 18)) dX4_canGoOn_8 (by decide +kernel) rfl ?_
    refine sj_get (a := 18) (k9 := 0) (v := .int (σ 18 0)) dX4_canGoOn_11 (by decide +kernel) rfl ?_
    refine sj_ishl dX4_canGoOn_14 ?_
    refine sj_iconst (v := (nI 1)) dX4_canGoOn_15 (by decide +kernel) ?_
    refine sj_isub dX4_canGoOn_16 ?_
    refine sj_icmp_ne (tgt := 24) dX4_canGoOn_17 (by decide) (fun c7 => ?_) (fun c7 => ?_)
    · refine sj_iconst (v := (nI 0)) dX4_canGoOn_24 (by decide +kernel) ?_
      try simp only [if_neg c7] at h
      refine sj_fg [0, 1, 2] ?_
      exact t_X4_canGoOn_25 hdd h10 h
    · refine sj_iconst (v := (nI 1)) dX4_canGoOn_20 (by decide +kernel) ?_
      refine sj_goto (tgt := 25) dX4_canGoOn_21 (by decide) ?_
      try simp only [if_pos c7] at h
      refine sj_fg [0, 1, 2] ?_
      exact t_X4_canGoOn_25 hdd h10 h
theorem c_X4_canGoOn {G : sj_G} (ok : sj_ok G) {R : sj_R} {d dd : Nat} {x1 : Int32} {x2 : Int32} {σ : sj_S} (hdd : dd + 1 ≤ d) (h10 : 43 ≤ d) (h : wp_X4_canGoOn_0 G R d dd x1 x2 σ) : sj_C G d me_X4_canGoOn [.ref (sj_ad G 30), .int x1, .int x2] σ R :=
  sj_enter ok (by decide +kernel) rfl rfl (Nat.le_of_ble_eq_true rfl) (by simp [Value.category]) (t_X4_canGoOn_0 hdd h10 h)
def wp_X4_mayJoin_75 (G : sj_G) (R : sj_R) (s0 : Int32) (σ : sj_S) : Prop := R = (.ok s0, σ) ∧ (s0 = nI 0 ∨ s0 = nI 1)
set_option maxRecDepth 20000 in
theorem t_X4_mayJoin_75 {G : sj_G} {R : sj_R} {s0 : Int32} {σ : sj_S} (h : wp_X4_mayJoin_75 G R s0 σ) : sj_J G 2 me_X4_mayJoin R 75 [.null, .null, .null, .null, .null, .null, .null] σ [.int s0] := by
  unfold wp_X4_mayJoin_75 at h
  obtain ⟨h, hz⟩ := h
  subst h
  exact sj_ret dX4_mayJoin_75 rfl (sj_nb hz)
def wp_X4_mayJoin_0 (G : sj_G) (R : sj_R) (x1 : Int32) (x2 : Int32) (x3 : Int32) (x4 : Int32) (x5 : Int32) (σ : sj_S) : Prop := vp_in x2 9 ∧ vp_in x2 9 ∧ vp_in x2 9 ∧ ((¬ ((((σ 19 x2.toNatClampNeg) >>> ((x1 * (nI 4)) &&& 31)) &&& (nI 15)) = 0)) → vp_in x2 9) ∧ (wp_X4_mayJoin_75 G R (if (((σ 19 x2.toNatClampNeg) >>> ((x1 * (nI 4)) &&& 31)) &&& (nI 15)) = 0 then (nI 0) else (if ((σ 23 x2.toNatClampNeg) &&& x4) = 0 then (if ((((σ 25 x2.toNatClampNeg) ||| (σ 23 x2.toNatClampNeg)) &&& x5) &&& ((x4 ||| x3) ^^^ (-1))) = 0 then (nI 1) else (nI 0)) else (nI 0))) σ)
set_option maxRecDepth 20000 in
theorem t_X4_mayJoin_0 {G : sj_G} {R : sj_R} {x1 : Int32} {x2 : Int32} {x3 : Int32} {x4 : Int32} {x5 : Int32} {σ : sj_S} (h : wp_X4_mayJoin_0 G R x1 x2 x3 x4 x5 σ) : sj_J G 2 me_X4_mayJoin R 0 [.ref (sj_ad G 30), .int x1, .int x2, .int x3, .int x4, .int x5, .null] σ [] := by
  unfold wp_X4_mayJoin_0 at h
  refine sj_aload_n dX4_mayJoin_0 (i := 0) rfl rfl ?_
  refine sj_get (a := 30) (k9 := 0) (v := .ref (sj_ad G 18)) dX4_mayJoin_1 (by decide +kernel) rfl ?_
  refine sj_get (a := 18) (k9 := 7) (v := .ref (sj_ad G 25)) dX4_mayJoin_4 (by decide +kernel) rfl ?_
  refine sj_iload_n dX4_mayJoin_7 (i := 2) rfl rfl ?_
  obtain ⟨b1, h⟩ := h
  refine sj_iald (a := 25) (j := x2.toNatClampNeg) (x := (σ 25 x2.toNatClampNeg)) dX4_mayJoin_8 rfl (by decide +kernel) b1 rfl rfl ?_
  refine sj_aload_n dX4_mayJoin_9 (i := 0) rfl rfl ?_
  refine sj_get (a := 30) (k9 := 0) (v := .ref (sj_ad G 18)) dX4_mayJoin_10 (by decide +kernel) rfl ?_
  refine sj_get (a := 18) (k9 := 5) (v := .ref (sj_ad G 23)) dX4_mayJoin_13 (by decide +kernel) rfl ?_
  refine sj_iload_n dX4_mayJoin_16 (i := 2) rfl rfl ?_
  obtain ⟨b2, h⟩ := h
  refine sj_iald (a := 23) (j := x2.toNatClampNeg) (x := (σ 23 x2.toNatClampNeg)) dX4_mayJoin_17 rfl (by decide +kernel) b2 rfl rfl ?_
  refine sj_ior dX4_mayJoin_18 ?_
  refine sj_istore dX4_mayJoin_19 (by decide) ?_
  refine sj_aload_n dX4_mayJoin_21 (i := 0) rfl rfl ?_
  refine sj_get (a := 30) (k9 := 0) (v := .ref (sj_ad G 18)) dX4_mayJoin_22 (by decide +kernel) rfl ?_
  refine sj_get (a := 18) (k9 := 1) (v := .ref (sj_ad G 19)) dX4_mayJoin_25 (by decide +kernel) rfl ?_
  refine sj_iload_n dX4_mayJoin_28 (i := 2) rfl rfl ?_
  obtain ⟨b3, h⟩ := h
  refine sj_iald (a := 19) (j := x2.toNatClampNeg) (x := (σ 19 x2.toNatClampNeg)) dX4_mayJoin_29 rfl (by decide +kernel) b3 rfl rfl ?_
  refine sj_iload_n dX4_mayJoin_30 (i := 1) rfl rfl ?_
  refine sj_iconst (v := (nI 4)) dX4_mayJoin_31 (by decide +kernel) ?_
  refine sj_imul dX4_mayJoin_32 ?_
  refine sj_ishr dX4_mayJoin_33 ?_
  refine sj_bipush (v := (nI 15)) dX4_mayJoin_34 (by decide +kernel) ?_
  refine sj_iand dX4_mayJoin_36 ?_
  obtain ⟨f8, h⟩ := h
  refine sj_if_eq (tgt := 74) dX4_mayJoin_37 (by decide) (fun c4 => ?_) (fun c4 => ?_)
  · refine sj_iconst (v := (nI 0)) dX4_mayJoin_74 (by decide +kernel) ?_
    try simp only [if_pos c4] at h
    refine sj_fg [0, 1, 2, 3, 4, 5, 6] ?_
    exact t_X4_mayJoin_75 h
  · have b5 := f8 c4
    refine sj_aload_n dX4_mayJoin_40 (i := 0) rfl rfl ?_
    refine sj_get (a := 30) (k9 := 0) (v := .ref (sj_ad G 18)) dX4_mayJoin_41 (by decide +kernel) rfl ?_
    refine sj_get (a := 18) (k9 := 5) (v := .ref (sj_ad G 23)) dX4_mayJoin_44 (by decide +kernel) rfl ?_
    refine sj_iload_n dX4_mayJoin_47 (i := 2) rfl rfl ?_
    refine sj_iald (a := 23) (j := x2.toNatClampNeg) (x := (σ 23 x2.toNatClampNeg)) dX4_mayJoin_48 rfl (by decide +kernel) b5 rfl rfl ?_
    refine sj_iload dX4_mayJoin_49 rfl ?_
    refine sj_iand dX4_mayJoin_51 ?_
    refine sj_if_ne (tgt := 74) dX4_mayJoin_52 (by decide) (fun c6 => ?_) (fun c6 => ?_)
    · refine sj_iconst (v := (nI 0)) dX4_mayJoin_74 (by decide +kernel) ?_
      try simp only [if_neg c4, if_neg c6] at h
      refine sj_fg [0, 1, 2, 3, 4, 5, 6] ?_
      exact t_X4_mayJoin_75 h
    · refine sj_iload dX4_mayJoin_55 rfl ?_
      refine sj_iload dX4_mayJoin_57 rfl ?_
      refine sj_iand dX4_mayJoin_59 ?_
      refine sj_iload dX4_mayJoin_60 rfl ?_
      refine sj_iload_n dX4_mayJoin_62 (i := 3) rfl rfl ?_
      refine sj_ior dX4_mayJoin_63 ?_
      refine sj_iconst (v := (-1)) dX4_mayJoin_64 (by decide +kernel) ?_
      refine sj_ixor dX4_mayJoin_65 ?_
      refine sj_iand dX4_mayJoin_66 ?_
      refine sj_if_ne (tgt := 74) dX4_mayJoin_67 (by decide) (fun c7 => ?_) (fun c7 => ?_)
      · refine sj_iconst (v := (nI 0)) dX4_mayJoin_74 (by decide +kernel) ?_
        try simp only [if_neg c4, if_pos c6, if_neg c7] at h
        refine sj_fg [0, 1, 2, 3, 4, 5, 6] ?_
        exact t_X4_mayJoin_75 h
      · refine sj_iconst (v := (nI 1)) dX4_mayJoin_70 (by decide +kernel) ?_
        refine sj_goto (tgt := 75) dX4_mayJoin_71 (by decide) ?_
        try simp only [if_neg c4, if_pos c6, if_pos c7] at h
        refine sj_fg [0, 1, 2, 3, 4, 5, 6] ?_
        exact t_X4_mayJoin_75 h
theorem c_X4_mayJoin {G : sj_G} (ok : sj_ok G) {R : sj_R} {x1 : Int32} {x2 : Int32} {x3 : Int32} {x4 : Int32} {x5 : Int32} {σ : sj_S} (h : wp_X4_mayJoin_0 G R x1 x2 x3 x4 x5 σ) : sj_C G 2 me_X4_mayJoin [.ref (sj_ad G 30), .int x1, .int x2, .int x3, .int x4, .int x5] σ R :=
  sj_enter ok (by decide +kernel) rfl rfl (Nat.le_of_ble_eq_true rfl) (by simp [Value.category]) (t_X4_mayJoin_0 h)
def wp_X4_mustJoin_59 (G : sj_G) (R : sj_R) (s0 : Int32) (σ : sj_S) : Prop := R = (.ok s0, σ) ∧ (s0 = nI 0 ∨ s0 = nI 1)
set_option maxRecDepth 20000 in
theorem t_X4_mustJoin_59 {G : sj_G} {R : sj_R} {s0 : Int32} {σ : sj_S} (h : wp_X4_mustJoin_59 G R s0 σ) : sj_J G 2 me_X4_mustJoin R 59 [.null, .null, .null, .null, .null] σ [.int s0] := by
  unfold wp_X4_mustJoin_59 at h
  obtain ⟨h, hz⟩ := h
  subst h
  exact sj_ret dX4_mustJoin_59 rfl (sj_nb hz)
def wp_X4_mustJoin_23 (G : sj_G) (R : sj_R) (x2 : Int32) (x3 : Int32) (s0 : Int32) (σ : sj_S) : Prop := ((s0 = 0) → vp_in x2 9 ∧ vp_in x2 9) ∧ (wp_X4_mustJoin_59 G R (if s0 = 0 then (if (((σ 26 x2.toNatClampNeg) ||| (σ 23 x2.toNatClampNeg)) &&& x3) = 0 then (nI 0) else (nI 1)) else (nI 1)) σ)
set_option maxRecDepth 20000 in
theorem t_X4_mustJoin_23 {G : sj_G} {R : sj_R} {x2 : Int32} {x3 : Int32} {s0 : Int32} {σ : sj_S} (h : wp_X4_mustJoin_23 G R x2 x3 s0 σ) : sj_J G 2 me_X4_mustJoin R 23 [.ref (sj_ad G 30), .null, .int x2, .int x3, .null] σ [.int s0] := by
  unfold wp_X4_mustJoin_23 at h
  refine sj_istore dX4_mustJoin_23 (by decide) ?_
  refine sj_iload dX4_mustJoin_25 rfl ?_
  obtain ⟨f5, h⟩ := h
  refine sj_if_ne (tgt := 54) dX4_mustJoin_27 (by decide) (fun c1 => ?_) (fun c1 => ?_)
  · refine sj_iconst (v := (nI 1)) dX4_mustJoin_54 (by decide +kernel) ?_
    refine sj_goto (tgt := 59) dX4_mustJoin_55 (by decide) ?_
    try simp only [if_neg c1] at h
    refine sj_fg [0, 2, 3, 4] ?_
    exact t_X4_mustJoin_59 h
  · obtain ⟨b2, b3⟩ := f5 c1
    refine sj_aload_n dX4_mustJoin_30 (i := 0) rfl rfl ?_
    refine sj_get (a := 30) (k9 := 0) (v := .ref (sj_ad G 18)) dX4_mustJoin_31 (by decide +kernel) rfl ?_
    refine sj_get (a := 18) (k9 := 8) (v := .ref (sj_ad G 26)) dX4_mustJoin_34 (by decide +kernel) rfl ?_
    refine sj_iload_n dX4_mustJoin_37 (i := 2) rfl rfl ?_
    refine sj_iald (a := 26) (j := x2.toNatClampNeg) (x := (σ 26 x2.toNatClampNeg)) dX4_mustJoin_38 rfl (by decide +kernel) b2 rfl rfl ?_
    refine sj_aload_n dX4_mustJoin_39 (i := 0) rfl rfl ?_
    refine sj_get (a := 30) (k9 := 0) (v := .ref (sj_ad G 18)) dX4_mustJoin_40 (by decide +kernel) rfl ?_
    refine sj_get (a := 18) (k9 := 5) (v := .ref (sj_ad G 23)) dX4_mustJoin_43 (by decide +kernel) rfl ?_
    refine sj_iload_n dX4_mustJoin_46 (i := 2) rfl rfl ?_
    refine sj_iald (a := 23) (j := x2.toNatClampNeg) (x := (σ 23 x2.toNatClampNeg)) dX4_mustJoin_47 rfl (by decide +kernel) b3 rfl rfl ?_
    refine sj_ior dX4_mustJoin_48 ?_
    refine sj_iload_n dX4_mustJoin_49 (i := 3) rfl rfl ?_
    refine sj_iand dX4_mustJoin_50 ?_
    refine sj_if_eq (tgt := 58) dX4_mustJoin_51 (by decide) (fun c4 => ?_) (fun c4 => ?_)
    · refine sj_iconst (v := (nI 0)) dX4_mustJoin_58 (by decide +kernel) ?_
      try simp only [if_pos c1, if_pos c4] at h
      refine sj_fg [0, 2, 3, 4] ?_
      exact t_X4_mustJoin_59 h
    · refine sj_iconst (v := (nI 1)) dX4_mustJoin_54 (by decide +kernel) ?_
      refine sj_goto (tgt := 59) dX4_mustJoin_55 (by decide) ?_
      try simp only [if_pos c1, if_neg c4] at h
      refine sj_fg [0, 2, 3, 4] ?_
      exact t_X4_mustJoin_59 h
def wp_X4_mustJoin_0 (G : sj_G) (R : sj_R) (x1 : Int32) (x2 : Int32) (x3 : Int32) (σ : sj_S) : Prop := vp_in x2 9 ∧ (wp_X4_mustJoin_23 G R x2 x3 (if ((σ 19 x2.toNatClampNeg) >>> (((x1 + (nI 1)) * (nI 4)) &&& 31)) = 0 then (nI 1) else (nI 0)) σ)
set_option maxRecDepth 20000 in
theorem t_X4_mustJoin_0 {G : sj_G} {R : sj_R} {x1 : Int32} {x2 : Int32} {x3 : Int32} {σ : sj_S} (h : wp_X4_mustJoin_0 G R x1 x2 x3 σ) : sj_J G 2 me_X4_mustJoin R 0 [.ref (sj_ad G 30), .int x1, .int x2, .int x3, .null] σ [] := by
  unfold wp_X4_mustJoin_0 at h
  refine sj_aload_n dX4_mustJoin_0 (i := 0) rfl rfl ?_
  refine sj_get (a := 30) (k9 := 0) (v := .ref (sj_ad G 18)) dX4_mustJoin_1 (by decide +kernel) rfl ?_
  refine sj_get (a := 18) (k9 := 1) (v := .ref (sj_ad G 19)) dX4_mustJoin_4 (by decide +kernel) rfl ?_
  refine sj_iload_n dX4_mustJoin_7 (i := 2) rfl rfl ?_
  obtain ⟨b1, h⟩ := h
  refine sj_iald (a := 19) (j := x2.toNatClampNeg) (x := (σ 19 x2.toNatClampNeg)) dX4_mustJoin_8 rfl (by decide +kernel) b1 rfl rfl ?_
  refine sj_iload_n dX4_mustJoin_9 (i := 1) rfl rfl ?_
  refine sj_iconst (v := (nI 1)) dX4_mustJoin_10 (by decide +kernel) ?_
  refine sj_iadd dX4_mustJoin_11 ?_
  refine sj_iconst (v := (nI 4)) dX4_mustJoin_12 (by decide +kernel) ?_
  refine sj_imul dX4_mustJoin_13 ?_
  refine sj_ishr dX4_mustJoin_14 ?_
  refine sj_if_ne (tgt := 22) dX4_mustJoin_15 (by decide) (fun c2 => ?_) (fun c2 => ?_)
  · refine sj_iconst (v := (nI 0)) dX4_mustJoin_22 (by decide +kernel) ?_
    try simp only [if_neg c2] at h
    refine sj_fg [1] ?_
    exact t_X4_mustJoin_23 h
  · refine sj_iconst (v := (nI 1)) dX4_mustJoin_18 (by decide +kernel) ?_
    refine sj_goto (tgt := 23) dX4_mustJoin_19 (by decide) ?_
    try simp only [if_pos c2] at h
    refine sj_fg [1] ?_
    exact t_X4_mustJoin_23 h
theorem c_X4_mustJoin {G : sj_G} (ok : sj_ok G) {R : sj_R} {x1 : Int32} {x2 : Int32} {x3 : Int32} {σ : sj_S} (h : wp_X4_mustJoin_0 G R x1 x2 x3 σ) : sj_C G 2 me_X4_mustJoin [.ref (sj_ad G 30), .int x1, .int x2, .int x3] σ R :=
  sj_enter ok (by decide +kernel) rfl rfl (Nat.le_of_ble_eq_true rfl) (by simp [Value.category]) (t_X4_mustJoin_0 h)
def wp_X4_fits_104 (G : sj_G) (R : sj_R) (x1 : Int32) (x2 : Int32) (x4 : Int32) (x5 : Int32) (x7 : Int32) (σ : sj_S) : Prop := (¬ (x7 &&& (nI 2)) = 0 → sj_J G 41 me_X4_fits R 10 [.ref (sj_ad G 30), .int x1, .int x2, .null, .int x4, .int (x5 + (nI 1)), .null, .null] σ []) ∧ ((x7 &&& (nI 2)) = 0 → R = (.ok (nI 0), σ))
set_option maxRecDepth 20000 in
theorem t_X4_fits_104 {G : sj_G} {R : sj_R} {x1 : Int32} {x2 : Int32} {x4 : Int32} {x5 : Int32} {x7 : Int32} {σ : sj_S} (h : wp_X4_fits_104 G R x1 x2 x4 x5 x7 σ) : sj_J G 41 me_X4_fits R 104 [.ref (sj_ad G 30), .int x1, .int x2, .null, .int x4, .int x5, .null, .int x7] σ [] := by
  unfold wp_X4_fits_104 at h
  refine sj_iload dX4_fits_104 rfl ?_
  refine sj_iconst (v := (nI 2)) dX4_fits_106 (by decide +kernel) ?_
  refine sj_iand dX4_fits_107 ?_
  refine sj_if_ne (tgt := 113) dX4_fits_108 (by decide) (fun c1 => ?_) (fun c1 => ?_)
  · replace h := h.1 c1
    refine sj_iinc (v := (x5 + (nI 1))) dX4_fits_113 (by decide) rfl rfl ?_
    refine sj_goto (tgt := 10) dX4_fits_116 (by decide) ?_
    refine sj_fg [7] ?_
    exact h
  · replace h := h.2 c1
    refine sj_iconst (v := (nI 0)) dX4_fits_111 (by decide +kernel) ?_
    subst h
    exact sj_ret dX4_fits_112 rfl rfl
def wp_X4_fits_92 (G : sj_G) (R : sj_R) (x1 : Int32) (x2 : Int32) (x4 : Int32) (x5 : Int32) (x6 : Int32) (s0 : Int32) (s1 : Int32) (σ : sj_S) : Prop := ∃ σ1, sj_C G 3 me_X4_mark [.ref (sj_ad G 30), .int x1, .int x6, .int (s1 ||| s0)] σ (.ok 0, σ1) ∧ (wp_X4_fits_104 G R x1 x2 x4 x5 (s1 ||| s0) σ1)
set_option maxRecDepth 20000 in
theorem t_X4_fits_92 {G : sj_G} {R : sj_R} {x1 : Int32} {x2 : Int32} {x4 : Int32} {x5 : Int32} {x6 : Int32} {s0 : Int32} {s1 : Int32} {σ : sj_S} (h : wp_X4_fits_92 G R x1 x2 x4 x5 x6 s0 s1 σ) : sj_J G 41 me_X4_fits R 92 [.ref (sj_ad G 30), .int x1, .int x2, .null, .int x4, .int x5, .int x6, .null] σ [.int s0, .int s1] := by
  unfold wp_X4_fits_92 at h
  refine sj_ior dX4_fits_92 ?_
  refine sj_istore dX4_fits_93 (by decide) ?_
  refine sj_aload_n dX4_fits_95 (i := 0) rfl rfl ?_
  refine sj_iload_n dX4_fits_96 (i := 1) rfl rfl ?_
  refine sj_iload dX4_fits_97 rfl ?_
  refine sj_iload dX4_fits_99 rfl ?_
  obtain ⟨σ1, hc1, h⟩ := h
  refine sj_callVv (M' := me_X4_mark) (b := 30) (As := [.int x1, .int x6, .int (s1 ||| s0)]) (rest := []) dX4_fits_101 gX4_fits_X4_mark rfl hd_X4_mark (by decide +kernel) (by decide +kernel) rfl (Nat.le_of_ble_eq_true rfl) (by omega) rfl hc1 ?_
  refine sj_fg [6] ?_
  exact t_X4_fits_104 h
def wp_X4_fits_50 (G : sj_G) (R : sj_R) (x1 : Int32) (x2 : Int32) (x4 : Int32) (x5 : Int32) (s0 : Int32) (σ : sj_S) : Prop := ∃ v1 σ1, sj_C G 2 me_X4_marksOf [.ref (sj_ad G 30), .int x1, .int s0] σ (.ok v1, σ1) ∧ (¬ (v1 &&& (nI 1)) = 0 → (wp_X4_fits_104 G R x1 x2 x4 x5 v1 σ1)) ∧ ((v1 &&& (nI 1)) = 0 → ∃ v4 σ4, sj_C G 40 me_X4_canStand [.ref (sj_ad G 18), .ref (sj_ad G 35), .int x1, .int s0, .int (nI 0)] σ1 (.ok v4, σ4) ∧ (wp_X4_fits_92 G R x1 x2 x4 x5 s0 (if v4 = 0 then (nI 0) else (nI 2)) (nI 1) σ4))
set_option maxRecDepth 20000 in
theorem t_X4_fits_50 {G : sj_G} {R : sj_R} {x1 : Int32} {x2 : Int32} {x4 : Int32} {x5 : Int32} {s0 : Int32} {σ : sj_S} (h : wp_X4_fits_50 G R x1 x2 x4 x5 s0 σ) : sj_J G 41 me_X4_fits R 50 [.ref (sj_ad G 30), .int x1, .int x2, .null, .int x4, .int x5, .null, .null] σ [.int s0] := by
  unfold wp_X4_fits_50 at h
  refine sj_istore dX4_fits_50 (by decide) ?_
  refine sj_aload_n dX4_fits_52 (i := 0) rfl rfl ?_
  refine sj_iload_n dX4_fits_53 (i := 1) rfl rfl ?_
  refine sj_iload dX4_fits_54 rfl ?_
  obtain ⟨v1, σ1, hc1, h⟩ := h
  refine sj_callVi (M' := me_X4_marksOf) (b := 30) (As := [.int x1, .int s0]) (rest := []) dX4_fits_56 gX4_fits_X4_marksOf rfl hd_X4_marksOf (by decide +kernel) (by decide +kernel) rfl (Nat.le_of_ble_eq_true rfl) (by omega) rfl hc1 ?_
  refine sj_istore dX4_fits_59 (by decide) ?_
  refine sj_iload dX4_fits_61 rfl ?_
  refine sj_iconst (v := (nI 1)) dX4_fits_63 (by decide +kernel) ?_
  refine sj_iand dX4_fits_64 ?_
  refine sj_if_ne (tgt := 104) dX4_fits_65 (by decide) (fun c3 => ?_) (fun c3 => ?_)
  · replace h := h.1 c3
    refine sj_fg [6] ?_
    exact t_X4_fits_104 h
  · replace h := h.2 c3
    refine sj_iconst (v := (nI 1)) dX4_fits_68 (by decide +kernel) ?_
    refine sj_aload_n dX4_fits_69 (i := 0) rfl rfl ?_
    refine sj_get (a := 30) (k9 := 0) (v := .ref (sj_ad G 18)) dX4_fits_70 (by decide +kernel) rfl ?_
    refine sj_aload_n dX4_fits_73 (i := 0) rfl rfl ?_
    refine sj_get (a := 30) (k9 := 6) (v := .ref (sj_ad G 35)) dX4_fits_74 (by decide +kernel) rfl ?_
    refine sj_iload_n dX4_fits_77 (i := 1) rfl rfl ?_
    refine sj_iload dX4_fits_78 rfl ?_
    refine sj_iconst (v := (nI 0)) dX4_fits_80 (by decide +kernel) ?_
    obtain ⟨v4, σ4, hc4, h⟩ := h
    refine sj_callSi (M' := me_X4_canStand) (As := [.ref (sj_ad G 18), .ref (sj_ad G 35), .int x1, .int s0, .int (nI 0)]) (rest := [.int (nI 1)]) dX4_fits_81 gX4_fits_X4_canStand rfl hd_X4_canStand (Nat.le_of_ble_eq_true rfl) (by omega) rfl hc4 ?_
    refine sj_if_eq (tgt := 91) dX4_fits_84 (by decide) (fun c5 => ?_) (fun c5 => ?_)
    · refine sj_iconst (v := (nI 0)) dX4_fits_91 (by decide +kernel) ?_
      try simp only [if_pos c5] at h
      refine sj_fg [7] ?_
      exact t_X4_fits_92 h
    · refine sj_iconst (v := (nI 2)) dX4_fits_87 (by decide +kernel) ?_
      refine sj_goto (tgt := 92) dX4_fits_88 (by decide) ?_
      try simp only [if_neg c5] at h
      refine sj_fg [7] ?_
      exact t_X4_fits_92 h
def wp_X4_fits_10 (G : sj_G) (R : sj_R) (x1 : Int32) (x2 : Int32) (x4 : Int32) (x5 : Int32) (σ : sj_S) : Prop := ((σ 18 0) < x5 → R = (.ok (nI 1), σ)) ∧ (¬ ((σ 18 0) < x5) → (wp_X4_fits_50 G R x1 x2 x4 x5 (if (σ 18 0) ≤ x5 then x4 else (x4 &&& (((nI 1) <<< (x5 &&& 31)) ||| ((nI 1) <<< (x2 &&& 31))))) σ))
set_option maxRecDepth 20000 in
theorem t_X4_fits_10 {G : sj_G} {R : sj_R} {x1 : Int32} {x2 : Int32} {x4 : Int32} {x5 : Int32} {σ : sj_S} (h : wp_X4_fits_10 G R x1 x2 x4 x5 σ) : sj_J G 41 me_X4_fits R 10 [.ref (sj_ad G 30), .int x1, .int x2, .null, .int x4, .int x5, .null, .null] σ [] := by
  unfold wp_X4_fits_10 at h
  refine sj_iload dX4_fits_10 rfl ?_
  refine sj_aload_n dX4_fits_12 (i := 0) rfl rfl ?_
  refine sj_get (a := 30) (k9 := 0) (v := .ref (sj_ad G 18)) dX4_fits_13 (by decide +kernel) rfl ?_
  refine sj_get (a := 18) (k9 := 0) (v := .int (σ 18 0)) dX4_fits_16 (by decide +kernel) rfl ?_
  refine sj_icmp_gt (tgt := 119) dX4_fits_19 (by decide) (fun c1 => ?_) (fun c1 => ?_)
  · replace h := h.1 c1
    refine sj_iconst (v := (nI 1)) dX4_fits_119 (by decide +kernel) ?_
    subst h
    exact sj_ret dX4_fits_120 rfl rfl
  · replace h := h.2 c1
    refine sj_iload dX4_fits_22 rfl ?_
    refine sj_aload_n dX4_fits_24 (i := 0) rfl rfl ?_
    refine sj_get (a := 30) (k9 := 0) (v := .ref (sj_ad G 18)) dX4_fits_25 (by decide +kernel) rfl ?_
    refine sj_get (a := 18) (k9 := 0) (v := .int (σ 18 0)) dX4_fits_28 (by decide +kernel) rfl ?_
    refine sj_icmp_ge (tgt := 48) dX4_fits_31 (by decide) (fun c2 => ?_) (fun c2 => ?_)
    · refine sj_iload dX4_fits_48 rfl ?_
      try simp only [if_pos c2] at h
      exact t_X4_fits_50 h
    · refine sj_iload dX4_fits_34 rfl ?_
      refine sj_iconst (v := (nI 1)) dX4_fits_36 (by decide +kernel) ?_
      refine sj_iload dX4_fits_37 rfl ?_
      refine sj_ishl dX4_fits_39 ?_
      refine sj_iconst (v := (nI 1)) dX4_fits_40 (by decide +kernel) ?_
      refine sj_iload_n dX4_fits_41 (i := 2) rfl rfl ?_
      refine sj_ishl dX4_fits_42 ?_
      refine sj_ior dX4_fits_43 ?_
      refine sj_iand dX4_fits_44 ?_
      refine sj_goto (tgt := 50) dX4_fits_45 (by decide) ?_
      try simp only [if_neg c2] at h
      exact t_X4_fits_50 h
def wp_X4_fits_0 (G : sj_G) (R : sj_R) (x1 : Int32) (x2 : Int32) (x3 : Int32) (σ : sj_S) : Prop := sj_J G 41 me_X4_fits R 10 [.ref (sj_ad G 30), .int x1, .int x2, .null, .int (x3 ||| ((nI 1) <<< (x2 &&& 31))), .int (nI 0), .null, .null] σ []
set_option maxRecDepth 20000 in
theorem t_X4_fits_0 {G : sj_G} {R : sj_R} {x1 : Int32} {x2 : Int32} {x3 : Int32} {σ : sj_S} (h : wp_X4_fits_0 G R x1 x2 x3 σ) : sj_J G 41 me_X4_fits R 0 [.ref (sj_ad G 30), .int x1, .int x2, .int x3, .null, .null, .null, .null] σ [] := by
  unfold wp_X4_fits_0 at h
  refine sj_iload_n dX4_fits_0 (i := 3) rfl rfl ?_
  refine sj_iconst (v := (nI 1)) dX4_fits_1 (by decide +kernel) ?_
  refine sj_iload_n dX4_fits_2 (i := 2) rfl rfl ?_
  refine sj_ishl dX4_fits_3 ?_
  refine sj_ior dX4_fits_4 ?_
  refine sj_istore dX4_fits_5 (by decide) ?_
  refine sj_iconst (v := (nI 0)) dX4_fits_7 (by decide +kernel) ?_
  refine sj_istore dX4_fits_8 (by decide) ?_
  refine sj_fg [3] ?_
  exact h
theorem c_X4_fits {G : sj_G} (ok : sj_ok G) {R : sj_R} {x1 : Int32} {x2 : Int32} {x3 : Int32} {σ : sj_S} (h : wp_X4_fits_0 G R x1 x2 x3 σ) : sj_C G 41 me_X4_fits [.ref (sj_ad G 30), .int x1, .int x2, .int x3] σ R :=
  sj_enter ok (by decide +kernel) rfl rfl (Nat.le_of_ble_eq_true rfl) (by simp [Value.category]) (t_X4_fits_0 h)
def wp_X4_canStand_83 (G : sj_G) (R : sj_R) (d dd : Nat) (x2 : Int32) (x3 : Int32) (x4 : Int32) (x5 : Int32) (x6 : Int32) (x7 : Int32) (x8 : Int32) (σ : sj_S) : Prop := sj_J G d me_X4_canStand R 12 [.ref (sj_ad G 18), .ref (sj_ad G 35), .int x2, .int x3, .int x4, .int x5, .int x6, .int x7, .int (x8 + (nI 1)), .null] σ []
set_option maxRecDepth 20000 in
theorem t_X4_canStand_83 {G : sj_G} {R : sj_R} {d dd : Nat} {x2 : Int32} {x3 : Int32} {x4 : Int32} {x5 : Int32} {x6 : Int32} {x7 : Int32} {x8 : Int32} {σ : sj_S} (hdd : dd + 1 ≤ d) (h10 : 10 ≤ d) (h : wp_X4_canStand_83 G R d dd x2 x3 x4 x5 x6 x7 x8 σ) : sj_J G d me_X4_canStand R 83 [.ref (sj_ad G 18), .ref (sj_ad G 35), .int x2, .int x3, .int x4, .int x5, .int x6, .int x7, .int x8, .null] σ [] := by
  unfold wp_X4_canStand_83 at h
  refine sj_iinc (v := (x8 + (nI 1))) dX4_canStand_83 (by decide) rfl rfl ?_
  refine sj_goto (tgt := 12) dX4_canStand_86 (by decide) ?_
  exact h
def wp_X4_canStand_89 (G : sj_G) (R : sj_R) (d dd : Nat) (x2 : Int32) (x3 : Int32) (x4 : Int32) (x5 : Int32) (x6 : Int32) (σ : sj_S) : Prop := sj_J G d me_X4_canStand R 92 [.ref (sj_ad G 18), .ref (sj_ad G 35), .int x2, .int x3, .int x4, .int x5, .int x6, .null, .int (nI 0), .null] σ []
set_option maxRecDepth 20000 in
theorem t_X4_canStand_89 {G : sj_G} {R : sj_R} {d dd : Nat} {x2 : Int32} {x3 : Int32} {x4 : Int32} {x5 : Int32} {x6 : Int32} {σ : sj_S} (hdd : dd + 1 ≤ d) (h10 : 10 ≤ d) (h : wp_X4_canStand_89 G R d dd x2 x3 x4 x5 x6 σ) : sj_J G d me_X4_canStand R 89 [.ref (sj_ad G 18), .ref (sj_ad G 35), .int x2, .int x3, .int x4, .int x5, .int x6, .null, .null, .null] σ [] := by
  unfold wp_X4_canStand_89 at h
  refine sj_iconst (v := (nI 0)) dX4_canStand_89 (by decide +kernel) ?_
  refine sj_istore dX4_canStand_90 (by decide) ?_
  exact h
def wp_X4_canStand_12 (G : sj_G) (R : sj_R) (d dd : Nat) (x2 : Int32) (x3 : Int32) (x4 : Int32) (x5 : Int32) (x6 : Int32) (x7 : Int32) (x8 : Int32) (σ : sj_S) : Prop := ((σ 18 0) ≤ x8 → (wp_X4_canStand_89 G R d dd x2 x3 x4 x5 x6 σ)) ∧ (¬ ((σ 18 0) ≤ x8) → (x7 ≤ 0 → (wp_X4_canStand_89 G R d dd x2 x3 x4 x5 x6 σ)) ∧ (¬ (x7 ≤ 0) → ((((x3 &&& (x4 ^^^ (-1))) >>> (x8 &&& 31)) &&& (nI 1)) = 0 → (wp_X4_canStand_83 G R d dd x2 x3 x4 x5 x6 x7 x8 σ)) ∧ (¬ ((((x3 &&& (x4 ^^^ (-1))) >>> (x8 &&& 31)) &&& (nI 1)) = 0) → ∃ v10 σ10, sj_C G 2 me_X7_allowed [.ref (sj_ad G 18), .int x8, .ref (sj_ad G 35), .int x4] σ (.ok v10, σ10) ∧ ∃ v11 σ11, sj_C G 2 me_J6_bitCount_0f7a4 [.int ((v10 >>> ((x2 * (nI 4)) &&& 31)) &&& (nI 15))] σ10 (.ok v11, σ11) ∧ (x7 ≤ v11 → (wp_X4_canStand_83 G R d dd x2 x3 x4 x5 x6 x7 x8 σ11)) ∧ (¬ (x7 ≤ v11) → ∃ v14 σ14, sj_C G 2 me_J6_bitCount_0f7a4 [.int ((v10 >>> ((x2 * (nI 4)) &&& 31)) &&& (nI 15))] σ11 (.ok v14, σ14) ∧ (wp_X4_canStand_83 G R d dd x2 x3 x4 x8 ((v10 >>> ((x2 * (nI 4)) &&& 31)) &&& (nI 15)) v14 x8 σ14)))))
set_option maxRecDepth 20000 in
theorem t_X4_canStand_12 {G : sj_G} {R : sj_R} {d dd : Nat} {x2 : Int32} {x3 : Int32} {x4 : Int32} {x5 : Int32} {x6 : Int32} {x7 : Int32} {x8 : Int32} {σ : sj_S} (hdd : dd + 1 ≤ d) (h10 : 10 ≤ d) (h : wp_X4_canStand_12 G R d dd x2 x3 x4 x5 x6 x7 x8 σ) : sj_J G d me_X4_canStand R 12 [.ref (sj_ad G 18), .ref (sj_ad G 35), .int x2, .int x3, .int x4, .int x5, .int x6, .int x7, .int x8, .null] σ [] := by
  unfold wp_X4_canStand_12 at h
  refine sj_iload dX4_canStand_12 rfl ?_
  refine sj_aload_n dX4_canStand_14 (i := 0) rfl rfl ?_
  refine sj_get (a := 18) (k9 := 0) (v := .int (σ 18 0)) dX4_canStand_15 (by decide +kernel) rfl ?_
  refine sj_icmp_ge (tgt := 89) dX4_canStand_18 (by decide) (fun c4 => ?_) (fun c4 => ?_)
  · replace h := h.1 c4
    refine sj_fg [7, 8] ?_
    exact t_X4_canStand_89 hdd h10 h
  · replace h := h.2 c4
    refine sj_iload dX4_canStand_21 rfl ?_
    refine sj_if_le (tgt := 89) dX4_canStand_23 (by decide) (fun c7 => ?_) (fun c7 => ?_)
    · replace h := h.1 c7
      refine sj_fg [7, 8] ?_
      exact t_X4_canStand_89 hdd h10 h
    · replace h := h.2 c7
      refine sj_iload_n dX4_canStand_26 (i := 3) rfl rfl ?_
      refine sj_iload dX4_canStand_27 rfl ?_
      refine sj_iconst (v := (-1)) dX4_canStand_29 (by decide +kernel) ?_
      refine sj_ixor dX4_canStand_30 ?_
      refine sj_iand dX4_canStand_31 ?_
      refine sj_iload dX4_canStand_32 rfl ?_
      refine sj_ishr dX4_canStand_34 ?_
      refine sj_iconst (v := (nI 1)) dX4_canStand_35 (by decide +kernel) ?_
      refine sj_iand dX4_canStand_36 ?_
      refine sj_if_eq (tgt := 83) dX4_canStand_37 (by decide) (fun c9 => ?_) (fun c9 => ?_)
      · replace h := h.1 c9
        exact t_X4_canStand_83 hdd h10 h
      · replace h := h.2 c9
        refine sj_aload_n dX4_canStand_40 (i := 0) rfl rfl ?_
        refine sj_iload dX4_canStand_41 rfl ?_
        refine sj_aload_n dX4_canStand_43 (i := 1) rfl rfl ?_
        refine sj_iload dX4_canStand_44 rfl ?_
        obtain ⟨v10, σ10, hc10, h⟩ := h
        refine sj_callVi (M' := me_X7_allowed) (b := 18) (As := [.int x8, .ref (sj_ad G 35), .int x4]) (rest := []) dX4_canStand_46 gX4_canStand_X7_allowed rfl hd_X7_allowed (by decide +kernel) (by decide +kernel) rfl (Nat.le_of_ble_eq_true rfl) (by omega) rfl hc10 ?_
        refine sj_iload_n dX4_canStand_49 (i := 2) rfl rfl ?_
        refine sj_iconst (v := (nI 4)) dX4_canStand_50 (by decide +kernel) ?_
        refine sj_imul dX4_canStand_51 ?_
        refine sj_ishr dX4_canStand_52 ?_
        refine sj_bipush (v := (nI 15)) dX4_canStand_53 (by decide +kernel) ?_
        refine sj_iand dX4_canStand_55 ?_
        refine sj_istore dX4_canStand_56 (by decide) ?_
        refine sj_iload dX4_canStand_58 rfl ?_
        obtain ⟨v11, σ11, hc11, h⟩ := h
        refine sj_callSi (M' := me_J6_bitCount_0f7a4) (As := [.int ((v10 >>> ((x2 * (nI 4)) &&& 31)) &&& (nI 15))]) (rest := []) dX4_canStand_60 gX4_canStand_J6_bitCount_0f7a4 rfl hd_J6_bitCount_0f7a4 (Nat.le_of_ble_eq_true rfl) (by omega) rfl hc11 ?_
        refine sj_iload dX4_canStand_63 rfl ?_
        refine sj_icmp_ge (tgt := 83) dX4_canStand_65 (by decide) (fun c13 => ?_) (fun c13 => ?_)
        · replace h := h.1 c13
          refine sj_fg [9] ?_
          exact t_X4_canStand_83 hdd h10 h
        · replace h := h.2 c13
          refine sj_iload dX4_canStand_68 rfl ?_
          refine sj_istore dX4_canStand_70 (by decide) ?_
          refine sj_iload dX4_canStand_72 rfl ?_
          refine sj_istore dX4_canStand_74 (by decide) ?_
          refine sj_iload dX4_canStand_76 rfl ?_
          obtain ⟨v14, σ14, hc14, h⟩ := h
          refine sj_callSi (M' := me_J6_bitCount_0f7a4) (As := [.int ((v10 >>> ((x2 * (nI 4)) &&& 31)) &&& (nI 15))]) (rest := []) dX4_canStand_78 gX4_canStand_J6_bitCount_0f7a4 rfl hd_J6_bitCount_0f7a4 (Nat.le_of_ble_eq_true rfl) (by omega) rfl hc14 ?_
          refine sj_istore dX4_canStand_81 (by decide) ?_
          refine sj_fg [9] ?_
          exact t_X4_canStand_83 hdd h10 h
def wp_X4_canStand_143 (G : sj_G) (R : sj_R) (d dd : Nat) (x2 : Int32) (x3 : Int32) (x4 : Int32) (x5 : Int32) (x6 : Int32) (x8 : Int32) (σ : sj_S) : Prop := sj_J G d me_X4_canStand R 92 [.ref (sj_ad G 18), .ref (sj_ad G 35), .int x2, .int x3, .int x4, .int x5, .int x6, .null, .int (x8 + (nI 1)), .null] σ []
set_option maxRecDepth 20000 in
theorem t_X4_canStand_143 {G : sj_G} {R : sj_R} {d dd : Nat} {x2 : Int32} {x3 : Int32} {x4 : Int32} {x5 : Int32} {x6 : Int32} {x8 : Int32} {σ : sj_S} (hdd : dd + 1 ≤ d) (h10 : 10 ≤ d) (h : wp_X4_canStand_143 G R d dd x2 x3 x4 x5 x6 x8 σ) : sj_J G d me_X4_canStand R 143 [.ref (sj_ad G 18), .ref (sj_ad G 35), .int x2, .int x3, .int x4, .int x5, .int x6, .null, .int x8, .null] σ [] := by
  unfold wp_X4_canStand_143 at h
  refine sj_iinc (v := (x8 + (nI 1))) dX4_canStand_143 (by decide) rfl rfl ?_
  refine sj_goto (tgt := 92) dX4_canStand_146 (by decide) ?_
  exact h
def wp_X4_canStand_160 (G : sj_G) (R : sj_R) (d dd : Nat) (s0 : Int32) (σ : sj_S) : Prop := R = (.ok s0, σ) ∧ (s0 = nI 0 ∨ s0 = nI 1)
set_option maxRecDepth 20000 in
theorem t_X4_canStand_160 {G : sj_G} {R : sj_R} {d dd : Nat} {s0 : Int32} {σ : sj_S} (hdd : dd + 1 ≤ d) (h10 : 10 ≤ d) (h : wp_X4_canStand_160 G R d dd s0 σ) : sj_J G d me_X4_canStand R 160 [.null, .null, .null, .null, .null, .null, .null, .null, .null, .null] σ [.int s0] := by
  unfold wp_X4_canStand_160 at h
  obtain ⟨h, hz⟩ := h
  subst h
  exact sj_ret dX4_canStand_160 rfl (sj_nb hz)
def wp_X4_canStand_149 (G : sj_G) (R : sj_R) (d dd : Nat) (x5 : Int32) (σ : sj_S) : Prop := (wp_X4_canStand_160 G R d dd (if x5 = (-1) then (nI 1) else (nI 0)) σ)
set_option maxRecDepth 20000 in
theorem t_X4_canStand_149 {G : sj_G} {R : sj_R} {d dd : Nat} {x5 : Int32} {σ : sj_S} (hdd : dd + 1 ≤ d) (h10 : 10 ≤ d) (h : wp_X4_canStand_149 G R d dd x5 σ) : sj_J G d me_X4_canStand R 149 [.null, .null, .null, .null, .null, .int x5, .null, .null, .null, .null] σ [] := by
  unfold wp_X4_canStand_149 at h
  refine sj_iload dX4_canStand_149 rfl ?_
  refine sj_iconst (v := (-1)) dX4_canStand_151 (by decide +kernel) ?_
  refine sj_icmp_ne (tgt := 159) dX4_canStand_152 (by decide) (fun c1 => ?_) (fun c1 => ?_)
  · refine sj_iconst (v := (nI 0)) dX4_canStand_159 (by decide +kernel) ?_
    try simp only [if_neg c1] at h
    refine sj_fg [5] ?_
    exact t_X4_canStand_160 hdd h10 h
  · refine sj_iconst (v := (nI 1)) dX4_canStand_155 (by decide +kernel) ?_
    refine sj_goto (tgt := 160) dX4_canStand_156 (by decide) ?_
    try simp only [if_pos c1] at h
    refine sj_fg [5] ?_
    exact t_X4_canStand_160 hdd h10 h
def wp_X4_canStand_92 (G : sj_G) (R : sj_R) (d dd : Nat) (x2 : Int32) (x3 : Int32) (x4 : Int32) (x5 : Int32) (x6 : Int32) (x8 : Int32) (σ : sj_S) : Prop := ((nI 4) ≤ x8 → (wp_X4_canStand_149 G R d dd x5 σ)) ∧ (¬ ((nI 4) ≤ x8) → (x5 = (-1) → (wp_X4_canStand_149 G R d dd x5 σ)) ∧ (¬ (x5 = (-1)) → (((x6 >>> (x8 &&& 31)) &&& (nI 1)) = 0 → (wp_X4_canStand_143 G R d dd x2 x3 x4 x5 x6 x8 σ)) ∧ (¬ (((x6 >>> (x8 &&& 31)) &&& (nI 1)) = 0) → vp_in x5 9 ∧ ∃ v5 σ5, sj_C G dd me_X4_canStand [.ref (sj_ad G 18), .ref (sj_ad G 35), .int x2, .int x3, .int (x4 ||| ((nI 1) <<< (x5 &&& 31)))] (sj_st σ 35 x5.toNatClampNeg ((x2 * (nI 4)) + x8)) (.ok v5, σ5) ∧ (v5 = 0 → (wp_X4_canStand_143 G R d dd x2 x3 x4 x5 x6 x8 σ5)) ∧ (¬ (v5 = 0) → R = (.ok (nI 1), σ5)))))
set_option maxRecDepth 20000 in
theorem t_X4_canStand_92 {G : sj_G} {R : sj_R} {d dd : Nat} {x2 : Int32} {x3 : Int32} {x4 : Int32} {x5 : Int32} {x6 : Int32} {x8 : Int32} {σ : sj_S} (hdd : dd + 1 ≤ d) (h10 : 10 ≤ d) (h : wp_X4_canStand_92 G R d dd x2 x3 x4 x5 x6 x8 σ) : sj_J G d me_X4_canStand R 92 [.ref (sj_ad G 18), .ref (sj_ad G 35), .int x2, .int x3, .int x4, .int x5, .int x6, .null, .int x8, .null] σ [] := by
  unfold wp_X4_canStand_92 at h
  refine sj_iload dX4_canStand_92 rfl ?_
  refine sj_iconst (v := (nI 4)) dX4_canStand_94 (by decide +kernel) ?_
  refine sj_icmp_ge (tgt := 149) dX4_canStand_95 (by decide) (fun c1 => ?_) (fun c1 => ?_)
  · replace h := h.1 c1
    refine sj_fg [0, 1, 2, 3, 4, 6, 8] ?_
    exact t_X4_canStand_149 hdd h10 h
  · replace h := h.2 c1
    refine sj_iload dX4_canStand_98 rfl ?_
    refine sj_iconst (v := (-1)) dX4_canStand_100 (by decide +kernel) ?_
    refine sj_icmp_eq (tgt := 149) dX4_canStand_101 (by decide) (fun c2 => ?_) (fun c2 => ?_)
    · replace h := h.1 c2
      refine sj_fg [0, 1, 2, 3, 4, 6, 8] ?_
      exact t_X4_canStand_149 hdd h10 h
    · replace h := h.2 c2
      refine sj_iload dX4_canStand_104 rfl ?_
      refine sj_iload dX4_canStand_106 rfl ?_
      refine sj_ishr dX4_canStand_108 ?_
      refine sj_iconst (v := (nI 1)) dX4_canStand_109 (by decide +kernel) ?_
      refine sj_iand dX4_canStand_110 ?_
      refine sj_if_eq (tgt := 143) dX4_canStand_111 (by decide) (fun c3 => ?_) (fun c3 => ?_)
      · replace h := h.1 c3
        exact t_X4_canStand_143 hdd h10 h
      · replace h := h.2 c3
        refine sj_aload_n dX4_canStand_114 (i := 1) rfl rfl ?_
        refine sj_iload dX4_canStand_115 rfl ?_
        refine sj_iload_n dX4_canStand_117 (i := 2) rfl rfl ?_
        refine sj_iconst (v := (nI 4)) dX4_canStand_118 (by decide +kernel) ?_
        refine sj_imul dX4_canStand_119 ?_
        refine sj_iload dX4_canStand_120 rfl ?_
        refine sj_iadd dX4_canStand_122 ?_
        obtain ⟨b4, h⟩ := h
        refine sj_iast (a := 35) (j := x5.toNatClampNeg) dX4_canStand_123 rfl (by decide +kernel) b4 rfl ?_
        refine sj_aload_n dX4_canStand_124 (i := 0) rfl rfl ?_
        refine sj_aload_n dX4_canStand_125 (i := 1) rfl rfl ?_
        refine sj_iload_n dX4_canStand_126 (i := 2) rfl rfl ?_
        refine sj_iload_n dX4_canStand_127 (i := 3) rfl rfl ?_
        refine sj_iload dX4_canStand_128 rfl ?_
        refine sj_iconst (v := (nI 1)) dX4_canStand_130 (by decide +kernel) ?_
        refine sj_iload dX4_canStand_131 rfl ?_
        refine sj_ishl dX4_canStand_133 ?_
        refine sj_ior dX4_canStand_134 ?_
        obtain ⟨v5, σ5, hc5, h⟩ := h
        refine sj_callSi (M' := me_X4_canStand) (As := [.ref (sj_ad G 18), .ref (sj_ad G 35), .int x2, .int x3, .int (x4 ||| ((nI 1) <<< (x5 &&& 31)))]) (rest := []) dX4_canStand_135 gX4_canStand_X4_canStand rfl hd_X4_canStand (Nat.le_of_ble_eq_true rfl) (by omega) rfl hc5 ?_
        refine sj_if_eq (tgt := 143) dX4_canStand_138 (by decide) (fun c6 => ?_) (fun c6 => ?_)
        · replace h := h.1 c6
          exact t_X4_canStand_143 hdd h10 h
        · replace h := h.2 c6
          refine sj_iconst (v := (nI 1)) dX4_canStand_141 (by decide +kernel) ?_
          subst h
          exact sj_ret dX4_canStand_142 rfl rfl
def wp_X4_canStand_0 (G : sj_G) (R : sj_R) (d dd : Nat) (x2 : Int32) (x3 : Int32) (x4 : Int32) (σ : sj_S) : Prop := sj_J G d me_X4_canStand R 12 [.ref (sj_ad G 18), .ref (sj_ad G 35), .int x2, .int x3, .int x4, .int (-1), .int (nI 0), .int (nI 5), .int (nI 0), .null] σ []
set_option maxRecDepth 20000 in
theorem t_X4_canStand_0 {G : sj_G} {R : sj_R} {d dd : Nat} {x2 : Int32} {x3 : Int32} {x4 : Int32} {σ : sj_S} (hdd : dd + 1 ≤ d) (h10 : 10 ≤ d) (h : wp_X4_canStand_0 G R d dd x2 x3 x4 σ) : sj_J G d me_X4_canStand R 0 [.ref (sj_ad G 18), .ref (sj_ad G 35), .int x2, .int x3, .int x4, .null, .null, .null, .null, .null] σ [] := by
  unfold wp_X4_canStand_0 at h
  refine sj_iconst (v := (-1)) dX4_canStand_0 (by decide +kernel) ?_
  refine sj_istore dX4_canStand_1 (by decide) ?_
  refine sj_iconst (v := (nI 0)) dX4_canStand_3 (by decide +kernel) ?_
  refine sj_istore dX4_canStand_4 (by decide) ?_
  refine sj_iconst (v := (nI 5)) dX4_canStand_6 (by decide +kernel) ?_
  refine sj_istore dX4_canStand_7 (by decide) ?_
  refine sj_iconst (v := (nI 0)) dX4_canStand_9 (by decide +kernel) ?_
  refine sj_istore dX4_canStand_10 (by decide) ?_
  exact h
theorem c_X4_canStand {G : sj_G} (ok : sj_ok G) {R : sj_R} {d dd : Nat} {x2 : Int32} {x3 : Int32} {x4 : Int32} {σ : sj_S} (hdd : dd + 1 ≤ d) (h10 : 10 ≤ d) (h : wp_X4_canStand_0 G R d dd x2 x3 x4 σ) : sj_C G d me_X4_canStand [.ref (sj_ad G 18), .ref (sj_ad G 35), .int x2, .int x3, .int x4] σ R :=
  sj_enter ok (by decide +kernel) rfl rfl (Nat.le_of_ble_eq_true rfl) (by simp [Value.category]) (t_X4_canStand_0 hdd h10 h)
def wp_X4_marksOf_31 (G : sj_G) (R : sj_R) (s0 : Int32) (σ : sj_S) : Prop := R = (.ok s0, σ)
set_option maxRecDepth 20000 in
theorem t_X4_marksOf_31 {G : sj_G} {R : sj_R} {s0 : Int32} {σ : sj_S} (h : wp_X4_marksOf_31 G R s0 σ) : sj_J G 2 me_X4_marksOf R 31 [.null, .null, .null, .null] σ [.int s0] := by
  unfold wp_X4_marksOf_31 at h
  subst h
  exact sj_ret dX4_marksOf_31 rfl rfl
def wp_X4_marksOf_0 (G : sj_G) (R : sj_R) (x1 : Int32) (x2 : Int32) (σ : sj_S) : Prop := vp_in ((x1 * (nI 512)) + x2) 2560 ∧ (wp_X4_marksOf_31 G R (if ((σ 33 ((x1 * (nI 512)) + x2).toNatClampNeg) >>> ((nI 3) &&& 31)) = (σ 30 7) then ((σ 33 ((x1 * (nI 512)) + x2).toNatClampNeg) &&& (nI 7)) else (nI 0)) σ)
set_option maxRecDepth 20000 in
theorem t_X4_marksOf_0 {G : sj_G} {R : sj_R} {x1 : Int32} {x2 : Int32} {σ : sj_S} (h : wp_X4_marksOf_0 G R x1 x2 σ) : sj_J G 2 me_X4_marksOf R 0 [.ref (sj_ad G 30), .int x1, .int x2, .null] σ [] := by
  unfold wp_X4_marksOf_0 at h
  refine sj_aload_n dX4_marksOf_0 (i := 0) rfl rfl ?_
  refine sj_get (a := 30) (k9 := 4) (v := .ref (sj_ad G 33)) dX4_marksOf_1 (by decide +kernel) rfl ?_
  refine sj_iload_n dX4_marksOf_4 (i := 1) rfl rfl ?_
  refine sj_sipush (v := (nI 512)) dX4_marksOf_5 (by decide +kernel) ?_
  refine sj_imul dX4_marksOf_8 ?_
  refine sj_iload_n dX4_marksOf_9 (i := 2) rfl rfl ?_
  refine sj_iadd dX4_marksOf_10 ?_
  obtain ⟨b1, h⟩ := h
  refine sj_iald (a := 33) (j := ((x1 * (nI 512)) + x2).toNatClampNeg) (x := (σ 33 ((x1 * (nI 512)) + x2).toNatClampNeg)) dX4_marksOf_11 rfl (by decide +kernel) b1 rfl rfl ?_
  refine sj_istore_n dX4_marksOf_12 (i := 3) rfl (by decide) ?_
  refine sj_iload_n dX4_marksOf_13 (i := 3) rfl rfl ?_
  refine sj_iconst (v := (nI 3)) dX4_marksOf_14 (by decide +kernel) ?_
  refine sj_ishr dX4_marksOf_15 ?_
  refine sj_aload_n dX4_marksOf_16 (i := 0) rfl rfl ?_
  refine sj_get (a := 30) (k9 := 7) (v := .int (σ 30 7)) dX4_marksOf_17 (by decide +kernel) rfl ?_
  refine sj_icmp_ne (tgt := 30) dX4_marksOf_20 (by decide) (fun c2 => ?_) (fun c2 => ?_)
  · refine sj_iconst (v := (nI 0)) dX4_marksOf_30 (by decide +kernel) ?_
    try simp only [if_neg c2] at h
    refine sj_fg [0, 1, 2, 3] ?_
    exact t_X4_marksOf_31 h
  · refine sj_iload_n dX4_marksOf_23 (i := 3) rfl rfl ?_
    refine sj_bipush (v := (nI 7)) dX4_marksOf_24 (by decide +kernel) ?_
    refine sj_iand dX4_marksOf_26 ?_
    refine sj_goto (tgt := 31) dX4_marksOf_27 (by decide) ?_
    try simp only [if_pos c2] at h
    refine sj_fg [0, 1, 2, 3] ?_
    exact t_X4_marksOf_31 h
theorem c_X4_marksOf {G : sj_G} (ok : sj_ok G) {R : sj_R} {x1 : Int32} {x2 : Int32} {σ : sj_S} (h : wp_X4_marksOf_0 G R x1 x2 σ) : sj_C G 2 me_X4_marksOf [.ref (sj_ad G 30), .int x1, .int x2] σ R :=
  sj_enter ok (by decide +kernel) rfl rfl (Nat.le_of_ble_eq_true rfl) (by simp [Value.category]) (t_X4_marksOf_0 h)
def wp_X4_mark_0 (G : sj_G) (R : sj_R) (x1 : Int32) (x2 : Int32) (x3 : Int32) (σ : sj_S) : Prop := ∃ v1 σ1, sj_C G 2 me_X4_marksOf [.ref (sj_ad G 30), .int x1, .int x2] σ (.ok v1, σ1) ∧ vp_in ((x1 * (nI 512)) + x2) 2560 ∧ R = (.ok 0, (sj_st σ1 33 ((x1 * (nI 512)) + x2).toNatClampNeg ((((σ 30 7) <<< ((nI 3) &&& 31)) ||| v1) ||| x3)))
set_option maxRecDepth 20000 in
theorem t_X4_mark_0 {G : sj_G} {R : sj_R} {x1 : Int32} {x2 : Int32} {x3 : Int32} {σ : sj_S} (h : wp_X4_mark_0 G R x1 x2 x3 σ) : sj_J G 3 me_X4_mark R 0 [.ref (sj_ad G 30), .int x1, .int x2, .int x3] σ [] := by
  unfold wp_X4_mark_0 at h
  refine sj_aload_n dX4_mark_0 (i := 0) rfl rfl ?_
  refine sj_get (a := 30) (k9 := 4) (v := .ref (sj_ad G 33)) dX4_mark_1 (by decide +kernel) rfl ?_
  refine sj_iload_n dX4_mark_4 (i := 1) rfl rfl ?_
  refine sj_sipush (v := (nI 512)) dX4_mark_5 (by decide +kernel) ?_
  refine sj_imul dX4_mark_8 ?_
  refine sj_iload_n dX4_mark_9 (i := 2) rfl rfl ?_
  refine sj_iadd dX4_mark_10 ?_
  refine sj_aload_n dX4_mark_11 (i := 0) rfl rfl ?_
  refine sj_get (a := 30) (k9 := 7) (v := .int (σ 30 7)) dX4_mark_12 (by decide +kernel) rfl ?_
  refine sj_iconst (v := (nI 3)) dX4_mark_15 (by decide +kernel) ?_
  refine sj_ishl dX4_mark_16 ?_
  refine sj_aload_n dX4_mark_17 (i := 0) rfl rfl ?_
  refine sj_iload_n dX4_mark_18 (i := 1) rfl rfl ?_
  refine sj_iload_n dX4_mark_19 (i := 2) rfl rfl ?_
  obtain ⟨v1, σ1, hc1, h⟩ := h
  refine sj_callVi (M' := me_X4_marksOf) (b := 30) (As := [.int x1, .int x2]) (rest := [.int ((σ 30 7) <<< ((nI 3) &&& 31)), .int ((x1 * (nI 512)) + x2), .ref (sj_ad G 33)]) dX4_mark_20 gX4_mark_X4_marksOf rfl hd_X4_marksOf (by decide +kernel) (by decide +kernel) rfl (Nat.le_of_ble_eq_true rfl) (by omega) rfl hc1 ?_
  refine sj_ior dX4_mark_23 ?_
  refine sj_iload_n dX4_mark_24 (i := 3) rfl rfl ?_
  refine sj_ior dX4_mark_25 ?_
  obtain ⟨b2, h⟩ := h
  refine sj_iast (a := 33) (j := ((x1 * (nI 512)) + x2).toNatClampNeg) dX4_mark_26 rfl (by decide +kernel) b2 rfl ?_
  subst h
  exact sj_vret dX4_mark_27 rfl
theorem c_X4_mark {G : sj_G} (ok : sj_ok G) {R : sj_R} {x1 : Int32} {x2 : Int32} {x3 : Int32} {σ : sj_S} (h : wp_X4_mark_0 G R x1 x2 x3 σ) : sj_C G 3 me_X4_mark [.ref (sj_ad G 30), .int x1, .int x2, .int x3] σ R :=
  sj_enter ok (by decide +kernel) rfl rfl (Nat.le_of_ble_eq_true rfl) (by simp [Value.category]) (t_X4_mark_0 h)
def wp_X6_costOf_5 (G : sj_G) (R : sj_R) (sl : Nat) (x3 : Int32) (x4 : Int32) (σ : sj_S) : Prop := ((nI 4) ≤ x4 → sj_J G 5 me_X6_costOf R 35 [.ref (sj_ad G 36), .ref (sj_ad G 1), .ref (sj_ad G sl), .int x3, .int (nI 0), .null] σ []) ∧ (¬ ((nI 4) ≤ x4) → ∃ v2 σ2, sj_C G 3 me_X8_slotsOfPerson [.ref (sj_ad G 1), .int (nI 0), .int x4, .ref (sj_ad G sl)] σ (.ok v2, σ2) ∧ ∃ v3 σ3, sj_C G 3 me_X6_gapsIn [.ref (sj_ad G 36), .int v2] σ2 (.ok v3, σ3) ∧ sj_J G 5 me_X6_costOf R 5 [.ref (sj_ad G 36), .ref (sj_ad G 1), .ref (sj_ad G sl), .int (x3 + v3), .int (x4 + (nI 1)), .null] σ3 [])
set_option maxRecDepth 20000 in
theorem t_X6_costOf_5 {G : sj_G} {R : sj_R} {sl : Nat} {x3 : Int32} {x4 : Int32} {σ : sj_S} (hsl : sj_lk sl = 13 ∧ sl < sj_NA ∧ sj_ln sl = 9) (h : wp_X6_costOf_5 G R sl x3 x4 σ) : sj_J G 5 me_X6_costOf R 5 [.ref (sj_ad G 36), .ref (sj_ad G 1), .ref (sj_ad G sl), .int x3, .int x4, .null] σ [] := by
  unfold wp_X6_costOf_5 at h
  refine sj_iload dX6_costOf_5 rfl ?_
  refine sj_iconst (v := (nI 4)) dX6_costOf_7 (by decide +kernel) ?_
  refine sj_icmp_ge (tgt := 32) dX6_costOf_8 (by decide) (fun c1 => ?_) (fun c1 => ?_)
  · replace h := h.1 c1
    refine sj_iconst (v := (nI 0)) dX6_costOf_32 (by decide +kernel) ?_
    refine sj_istore dX6_costOf_33 (by decide) ?_
    exact h
  · replace h := h.2 c1
    refine sj_iload_n dX6_costOf_11 (i := 3) rfl rfl ?_
    refine sj_aload_n dX6_costOf_12 (i := 0) rfl rfl ?_
    refine sj_aload_n dX6_costOf_13 (i := 1) rfl rfl ?_
    refine sj_iconst (v := (nI 0)) dX6_costOf_14 (by decide +kernel) ?_
    refine sj_iload dX6_costOf_15 rfl ?_
    refine sj_aload_n dX6_costOf_17 (i := 2) rfl rfl ?_
    obtain ⟨v2, σ2, hc2, h⟩ := h
    refine sj_callVi (M' := me_X8_slotsOfPerson) (b := 1) (As := [.int (nI 0), .int x4, .ref (sj_ad G sl)]) (rest := [.ref (sj_ad G 36), .int x3]) dX6_costOf_18 gX6_costOf_X8_slotsOfPerson rfl hd_X8_slotsOfPerson (by decide +kernel) (by decide +kernel) rfl (Nat.le_of_ble_eq_true rfl) (by omega) rfl hc2 ?_
    obtain ⟨v3, σ3, hc3, h⟩ := h
    refine sj_callVi (M' := me_X6_gapsIn) (b := 36) (As := [.int v2]) (rest := [.int x3]) dX6_costOf_21 gX6_costOf_X6_gapsIn rfl hd_X6_gapsIn (by decide +kernel) (by decide +kernel) rfl (Nat.le_of_ble_eq_true rfl) (by omega) rfl hc3 ?_
    refine sj_iadd dX6_costOf_24 ?_
    refine sj_istore_n dX6_costOf_25 (i := 3) rfl (by decide) ?_
    refine sj_iinc (v := (x4 + (nI 1))) dX6_costOf_26 (by decide) rfl rfl ?_
    refine sj_goto (tgt := 5) dX6_costOf_29 (by decide) ?_
    exact h
def wp_X6_costOf_35 (G : sj_G) (R : sj_R) (sl : Nat) (x3 : Int32) (x4 : Int32) (σ : sj_S) : Prop := ((nI 6) ≤ x4 → sj_J G 5 me_X6_costOf R 66 [.null, .ref (sj_ad G 1), .ref (sj_ad G sl), .int x3, .int (nI 0), .null] σ []) ∧ (¬ ((nI 6) ≤ x4) → ∃ v2 σ2, sj_C G 3 me_X8_slotsOfPerson [.ref (sj_ad G 1), .int (nI 1), .int x4, .ref (sj_ad G sl)] σ (.ok v2, σ2) ∧ ∃ v3 σ3, sj_C G 3 me_X6_gapsIn [.ref (sj_ad G 36), .int v2] σ2 (.ok v3, σ3) ∧ sj_J G 5 me_X6_costOf R 35 [.ref (sj_ad G 36), .ref (sj_ad G 1), .ref (sj_ad G sl), .int (x3 + v3), .int (x4 + (nI 1)), .null] σ3 [])
set_option maxRecDepth 20000 in
theorem t_X6_costOf_35 {G : sj_G} {R : sj_R} {sl : Nat} {x3 : Int32} {x4 : Int32} {σ : sj_S} (hsl : sj_lk sl = 13 ∧ sl < sj_NA ∧ sj_ln sl = 9) (h : wp_X6_costOf_35 G R sl x3 x4 σ) : sj_J G 5 me_X6_costOf R 35 [.ref (sj_ad G 36), .ref (sj_ad G 1), .ref (sj_ad G sl), .int x3, .int x4, .null] σ [] := by
  unfold wp_X6_costOf_35 at h
  refine sj_iload dX6_costOf_35 rfl ?_
  refine sj_bipush (v := (nI 6)) dX6_costOf_37 (by decide +kernel) ?_
  refine sj_icmp_ge (tgt := 63) dX6_costOf_39 (by decide) (fun c1 => ?_) (fun c1 => ?_)
  · replace h := h.1 c1
    refine sj_iconst (v := (nI 0)) dX6_costOf_63 (by decide +kernel) ?_
    refine sj_istore dX6_costOf_64 (by decide) ?_
    refine sj_fg [0] ?_
    exact h
  · replace h := h.2 c1
    refine sj_iload_n dX6_costOf_42 (i := 3) rfl rfl ?_
    refine sj_aload_n dX6_costOf_43 (i := 0) rfl rfl ?_
    refine sj_aload_n dX6_costOf_44 (i := 1) rfl rfl ?_
    refine sj_iconst (v := (nI 1)) dX6_costOf_45 (by decide +kernel) ?_
    refine sj_iload dX6_costOf_46 rfl ?_
    refine sj_aload_n dX6_costOf_48 (i := 2) rfl rfl ?_
    obtain ⟨v2, σ2, hc2, h⟩ := h
    refine sj_callVi (M' := me_X8_slotsOfPerson) (b := 1) (As := [.int (nI 1), .int x4, .ref (sj_ad G sl)]) (rest := [.ref (sj_ad G 36), .int x3]) dX6_costOf_49 gX6_costOf_X8_slotsOfPerson rfl hd_X8_slotsOfPerson (by decide +kernel) (by decide +kernel) rfl (Nat.le_of_ble_eq_true rfl) (by omega) rfl hc2 ?_
    obtain ⟨v3, σ3, hc3, h⟩ := h
    refine sj_callVi (M' := me_X6_gapsIn) (b := 36) (As := [.int v2]) (rest := [.int x3]) dX6_costOf_52 gX6_costOf_X6_gapsIn rfl hd_X6_gapsIn (by decide +kernel) (by decide +kernel) rfl (Nat.le_of_ble_eq_true rfl) (by omega) rfl hc3 ?_
    refine sj_iadd dX6_costOf_55 ?_
    refine sj_istore_n dX6_costOf_56 (i := 3) rfl (by decide) ?_
    refine sj_iinc (v := (x4 + (nI 1))) dX6_costOf_57 (by decide) rfl rfl ?_
    refine sj_goto (tgt := 35) dX6_costOf_60 (by decide) ?_
    exact h
def wp_X6_costOf_104 (G : sj_G) (R : sj_R) (sl : Nat) (x3 : Int32) (x4 : Int32) (σ : sj_S) : Prop := sj_J G 5 me_X6_costOf R 66 [.null, .ref (sj_ad G 1), .ref (sj_ad G sl), .int x3, .int (x4 + (nI 1)), .null] σ []
set_option maxRecDepth 20000 in
theorem t_X6_costOf_104 {G : sj_G} {R : sj_R} {sl : Nat} {x3 : Int32} {x4 : Int32} {σ : sj_S} (hsl : sj_lk sl = 13 ∧ sl < sj_NA ∧ sj_ln sl = 9) (h : wp_X6_costOf_104 G R sl x3 x4 σ) : sj_J G 5 me_X6_costOf R 104 [.null, .ref (sj_ad G 1), .ref (sj_ad G sl), .int x3, .int x4, .null] σ [] := by
  unfold wp_X6_costOf_104 at h
  refine sj_iinc (v := (x4 + (nI 1))) dX6_costOf_104 (by decide) rfl rfl ?_
  refine sj_goto (tgt := 66) dX6_costOf_107 (by decide) ?_
  exact h
def wp_X6_costOf_66 (G : sj_G) (R : sj_R) (sl : Nat) (x3 : Int32) (x4 : Int32) (σ : sj_S) : Prop := ∃ v1 σ1, sj_C G 2 me_X8_wishTotal [.ref (sj_ad G 1)] σ (.ok v1, σ1) ∧ (v1 ≤ x4 → R = (.ok x3, σ1)) ∧ (¬ (v1 ≤ x4) → ∃ v3 σ3, sj_C G 2 me_X8_ofWish [.ref (sj_ad G 1), .int x4, .int (nI 3)] σ1 (.ok v3, σ3) ∧ (v3 = 0 → (wp_X6_costOf_104 G R sl x3 x4 σ3)) ∧ (¬ (v3 = 0) → ∃ v6 σ6, sj_C G 4 me_X8_fulfils [.ref (sj_ad G 1), .int x4, .ref (sj_ad G sl)] σ3 (.ok v6, σ6) ∧ (wp_X6_costOf_104 G R sl (if v6 = 0 then (x3 + v3) else x3) x4 σ6)))
set_option maxRecDepth 20000 in
theorem t_X6_costOf_66 {G : sj_G} {R : sj_R} {sl : Nat} {x3 : Int32} {x4 : Int32} {σ : sj_S} (hsl : sj_lk sl = 13 ∧ sl < sj_NA ∧ sj_ln sl = 9) (h : wp_X6_costOf_66 G R sl x3 x4 σ) : sj_J G 5 me_X6_costOf R 66 [.null, .ref (sj_ad G 1), .ref (sj_ad G sl), .int x3, .int x4, .null] σ [] := by
  unfold wp_X6_costOf_66 at h
  refine sj_iload dX6_costOf_66 rfl ?_
  refine sj_aload_n dX6_costOf_68 (i := 1) rfl rfl ?_
  obtain ⟨v1, σ1, hc1, h⟩ := h
  refine sj_callVi (M' := me_X8_wishTotal) (b := 1) (As := []) (rest := [.int x4]) dX6_costOf_69 gX6_costOf_X8_wishTotal rfl hd_X8_wishTotal (by decide +kernel) (by decide +kernel) rfl (Nat.le_of_ble_eq_true rfl) (by omega) rfl hc1 ?_
  refine sj_icmp_ge (tgt := 110) dX6_costOf_72 (by decide) (fun c2 => ?_) (fun c2 => ?_)
  · replace h := h.1 c2
    refine sj_iload_n dX6_costOf_110 (i := 3) rfl rfl ?_
    subst h
    exact sj_ret dX6_costOf_111 rfl rfl
  · replace h := h.2 c2
    refine sj_aload_n dX6_costOf_75 (i := 1) rfl rfl ?_
    refine sj_iload dX6_costOf_76 rfl ?_
    refine sj_iconst (v := (nI 3)) dX6_costOf_78 (by decide +kernel) ?_
    obtain ⟨v3, σ3, hc3, h⟩ := h
    refine sj_callVi (M' := me_X8_ofWish) (b := 1) (As := [.int x4, .int (nI 3)]) (rest := []) dX6_costOf_79 gX6_costOf_X8_ofWish rfl hd_X8_ofWish (by decide +kernel) (by decide +kernel) rfl (Nat.le_of_ble_eq_true rfl) (by omega) rfl hc3 ?_
    refine sj_istore dX6_costOf_82 (by decide) ?_
    refine sj_iload dX6_costOf_84 rfl ?_
    refine sj_if_eq (tgt := 104) dX6_costOf_86 (by decide) (fun c5 => ?_) (fun c5 => ?_)
    · replace h := h.1 c5
      refine sj_fg [5] ?_
      exact t_X6_costOf_104 hsl h
    · replace h := h.2 c5
      refine sj_aload_n dX6_costOf_89 (i := 1) rfl rfl ?_
      refine sj_iload dX6_costOf_90 rfl ?_
      refine sj_aload_n dX6_costOf_92 (i := 2) rfl rfl ?_
      obtain ⟨v6, σ6, hc6, h⟩ := h
      refine sj_callVi (M' := me_X8_fulfils) (b := 1) (As := [.int x4, .ref (sj_ad G sl)]) (rest := []) dX6_costOf_93 gX6_costOf_X8_fulfils rfl hd_X8_fulfils (by decide +kernel) (by decide +kernel) rfl (Nat.le_of_ble_eq_true rfl) (by omega) rfl hc6 ?_
      refine sj_if_ne (tgt := 104) dX6_costOf_96 (by decide) (fun c7 => ?_) (fun c7 => ?_)
      · try simp only [if_neg c7] at h
        refine sj_fg [5] ?_
        exact t_X6_costOf_104 hsl h
      · refine sj_iload_n dX6_costOf_99 (i := 3) rfl rfl ?_
        refine sj_iload dX6_costOf_100 rfl ?_
        refine sj_iadd dX6_costOf_102 ?_
        refine sj_istore_n dX6_costOf_103 (i := 3) rfl (by decide) ?_
        try simp only [if_pos c7] at h
        refine sj_fg [5] ?_
        exact t_X6_costOf_104 hsl h
def wp_X6_costOf_0 (G : sj_G) (R : sj_R) (sl : Nat) (σ : sj_S) : Prop := sj_J G 5 me_X6_costOf R 5 [.ref (sj_ad G 36), .ref (sj_ad G 1), .ref (sj_ad G sl), .int (nI 0), .int (nI 0), .null] σ []
set_option maxRecDepth 20000 in
theorem t_X6_costOf_0 {G : sj_G} {R : sj_R} {sl : Nat} {σ : sj_S} (hsl : sj_lk sl = 13 ∧ sl < sj_NA ∧ sj_ln sl = 9) (h : wp_X6_costOf_0 G R sl σ) : sj_J G 5 me_X6_costOf R 0 [.ref (sj_ad G 36), .ref (sj_ad G 1), .ref (sj_ad G sl), .null, .null, .null] σ [] := by
  unfold wp_X6_costOf_0 at h
  refine sj_iconst (v := (nI 0)) dX6_costOf_0 (by decide +kernel) ?_
  refine sj_istore_n dX6_costOf_1 (i := 3) rfl (by decide) ?_
  refine sj_iconst (v := (nI 0)) dX6_costOf_2 (by decide +kernel) ?_
  refine sj_istore dX6_costOf_3 (by decide) ?_
  exact h
theorem c_X6_costOf {G : sj_G} (ok : sj_ok G) {R : sj_R} {sl : Nat} {σ : sj_S} (hsl : sj_lk sl = 13 ∧ sl < sj_NA ∧ sj_ln sl = 9) (h : wp_X6_costOf_0 G R sl σ) : sj_C G 5 me_X6_costOf [.ref (sj_ad G 36), .ref (sj_ad G 1), .ref (sj_ad G sl)] σ R :=
  sj_enter ok (by decide +kernel) rfl rfl (Nat.le_of_ble_eq_true rfl) (by simp [Value.category]) (t_X6_costOf_0 hsl h)
def wp_X6_gapsIn_0 (G : sj_G) (R : sj_R) (x1 : Int32) (σ : sj_S) : Prop := ∀ y1 : Int32, y1 = ((((x1 <<< ((nI 1) &&& 31)) &&& (nI 978670)) ||| ((x1 <<< ((nI 2) &&& 31)) &&& (nI 838860))) ||| ((x1 <<< ((nI 3) &&& 31)) &&& (nI 559240))) → ∀ y2 : Int32, y2 = ((((x1 >>> ((nI 1) &&& 31)) &&& (nI 489335)) ||| ((x1 >>> ((nI 2) &&& 31)) &&& (nI 209715))) ||| ((x1 >>> ((nI 3) &&& 31)) &&& (nI 69905))) → ∃ v3 σ3, sj_C G 2 me_J6_bitCount_0f7a4 [.int ((y1 &&& y2) &&& (x1 ^^^ (-1)))] σ (.ok v3, σ3) ∧ R = (.ok v3, σ3)
set_option maxRecDepth 20000 in
theorem t_X6_gapsIn_0 {G : sj_G} {R : sj_R} {x1 : Int32} {σ : sj_S} (h : wp_X6_gapsIn_0 G R x1 σ) : sj_J G 3 me_X6_gapsIn R 0 [.ref (sj_ad G 36), .int x1, .null, .null] σ [] := by
  unfold wp_X6_gapsIn_0 at h
  refine sj_iload_n dX6_gapsIn_0 (i := 1) rfl rfl ?_
  refine sj_iconst (v := (nI 1)) dX6_gapsIn_1 (by decide +kernel) ?_
  refine sj_ishl dX6_gapsIn_2 ?_
  refine sj_ldc (v := (nI 978670)) dX6_gapsIn_3 (by decide +kernel) ?_
  refine sj_iand dX6_gapsIn_5 ?_
  refine sj_iload_n dX6_gapsIn_6 (i := 1) rfl rfl ?_
  refine sj_iconst (v := (nI 2)) dX6_gapsIn_7 (by decide +kernel) ?_
  refine sj_ishl dX6_gapsIn_8 ?_
  refine sj_ldc (v := (nI 838860)) dX6_gapsIn_9 (by decide +kernel) ?_
  refine sj_iand dX6_gapsIn_11 ?_
  refine sj_ior dX6_gapsIn_12 ?_
  refine sj_iload_n dX6_gapsIn_13 (i := 1) rfl rfl ?_
  refine sj_iconst (v := (nI 3)) dX6_gapsIn_14 (by decide +kernel) ?_
  refine sj_ishl dX6_gapsIn_15 ?_
  refine sj_ldc (v := (nI 559240)) dX6_gapsIn_16 (by decide +kernel) ?_
  refine sj_iand dX6_gapsIn_18 ?_
  refine sj_ior dX6_gapsIn_19 ?_
  refine sj_topi (fun y1 hy1 => ?_)
  replace h := h y1 hy1
  refine sj_istore_n dX6_gapsIn_20 (i := 2) rfl (by decide) ?_
  refine sj_iload_n dX6_gapsIn_21 (i := 1) rfl rfl ?_
  refine sj_iconst (v := (nI 1)) dX6_gapsIn_22 (by decide +kernel) ?_
  refine sj_ishr dX6_gapsIn_23 ?_
  refine sj_ldc (v := (nI 489335)) dX6_gapsIn_24 (by decide +kernel) ?_
  refine sj_iand dX6_gapsIn_26 ?_
  refine sj_iload_n dX6_gapsIn_27 (i := 1) rfl rfl ?_
  refine sj_iconst (v := (nI 2)) dX6_gapsIn_28 (by decide +kernel) ?_
  refine sj_ishr dX6_gapsIn_29 ?_
  refine sj_ldc (v := (nI 209715)) dX6_gapsIn_30 (by decide +kernel) ?_
  refine sj_iand dX6_gapsIn_32 ?_
  refine sj_ior dX6_gapsIn_33 ?_
  refine sj_iload_n dX6_gapsIn_34 (i := 1) rfl rfl ?_
  refine sj_iconst (v := (nI 3)) dX6_gapsIn_35 (by decide +kernel) ?_
  refine sj_ishr dX6_gapsIn_36 ?_
  refine sj_ldc (v := (nI 69905)) dX6_gapsIn_37 (by decide +kernel) ?_
  refine sj_iand dX6_gapsIn_39 ?_
  refine sj_ior dX6_gapsIn_40 ?_
  refine sj_topi (fun y2 hy2 => ?_)
  replace h := h y2 hy2
  refine sj_istore_n dX6_gapsIn_41 (i := 3) rfl (by decide) ?_
  refine sj_iload_n dX6_gapsIn_42 (i := 2) rfl rfl ?_
  refine sj_iload_n dX6_gapsIn_43 (i := 3) rfl rfl ?_
  refine sj_iand dX6_gapsIn_44 ?_
  refine sj_iload_n dX6_gapsIn_45 (i := 1) rfl rfl ?_
  refine sj_iconst (v := (-1)) dX6_gapsIn_46 (by decide +kernel) ?_
  refine sj_ixor dX6_gapsIn_47 ?_
  refine sj_iand dX6_gapsIn_48 ?_
  obtain ⟨v3, σ3, hc3, h⟩ := h
  refine sj_callSi (M' := me_J6_bitCount_0f7a4) (As := [.int ((y1 &&& y2) &&& (x1 ^^^ (-1)))]) (rest := []) dX6_gapsIn_49 gX6_gapsIn_J6_bitCount_0f7a4 rfl hd_J6_bitCount_0f7a4 (Nat.le_of_ble_eq_true rfl) (by omega) rfl hc3 ?_
  subst h
  exact sj_ret dX6_gapsIn_52 rfl rfl
theorem c_X6_gapsIn {G : sj_G} (ok : sj_ok G) {R : sj_R} {x1 : Int32} {σ : sj_S} (h : wp_X6_gapsIn_0 G R x1 σ) : sj_C G 3 me_X6_gapsIn [.ref (sj_ad G 36), .int x1] σ R :=
  sj_enter ok (by decide +kernel) rfl rfl (Nat.le_of_ble_eq_true rfl) (by simp [Value.category]) (t_X6_gapsIn_0 h)
def wp_X6_seekBest_63 (G : sj_G) (R : sj_R) (x3 : Int32) (σ : sj_S) : Prop := sj_J G 8 me_X6_seekBest R 66 [.ref (sj_ad G 36), .ref (sj_ad G 1), .ref (sj_ad G 6), .int x3, .int (nI 0), .null] σ []
set_option maxRecDepth 20000 in
theorem t_X6_seekBest_63 {G : sj_G} {R : sj_R} {x3 : Int32} {σ : sj_S} (h : wp_X6_seekBest_63 G R x3 σ) : sj_J G 8 me_X6_seekBest R 63 [.ref (sj_ad G 36), .ref (sj_ad G 1), .ref (sj_ad G 6), .int x3, .null, .null] σ [] := by
  unfold wp_X6_seekBest_63 at h
  refine sj_iconst (v := (nI 0)) dX6_seekBest_63 (by decide +kernel) ?_
  refine sj_istore dX6_seekBest_64 (by decide) ?_
  exact h
def wp_X6_seekBest_33 (G : sj_G) (R : sj_R) (x3 : Int32) (x4 : Int32) (σ : sj_S) : Prop := ((σ 6 0) ≤ x4 → (wp_X6_seekBest_63 G R x3 σ)) ∧ (¬ ((σ 6 0) ≤ x4) → ((σ 36 2) ≤ 0 → (wp_X6_seekBest_63 G R x3 σ)) ∧ (¬ ((σ 36 2) ≤ 0) → ∃ σ6, sj_C G 7 me_X6_trySlots [.ref (sj_ad G 36), .ref (sj_ad G 1), .ref (sj_ad G 6), .int x4] σ (.ok 0, σ6) ∧ sj_J G 8 me_X6_seekBest R 33 [.ref (sj_ad G 36), .ref (sj_ad G 1), .ref (sj_ad G 6), .int x3, .int (x4 + (nI 1)), .null] σ6 []))
set_option maxRecDepth 20000 in
theorem t_X6_seekBest_33 {G : sj_G} {R : sj_R} {x3 : Int32} {x4 : Int32} {σ : sj_S} (h : wp_X6_seekBest_33 G R x3 x4 σ) : sj_J G 8 me_X6_seekBest R 33 [.ref (sj_ad G 36), .ref (sj_ad G 1), .ref (sj_ad G 6), .int x3, .int x4, .null] σ [] := by
  unfold wp_X6_seekBest_33 at h
  refine sj_iload dX6_seekBest_33 rfl ?_
  refine sj_aload_n dX6_seekBest_35 (i := 2) rfl rfl ?_
  refine sj_get (a := 6) (k9 := 0) (v := .int (σ 6 0)) dX6_seekBest_36 (by decide +kernel) rfl ?_
  refine sj_icmp_ge (tgt := 63) dX6_seekBest_39 (by decide) (fun c3 => ?_) (fun c3 => ?_)
  · replace h := h.1 c3
    refine sj_fg [4] ?_
    exact t_X6_seekBest_63 h
  · replace h := h.2 c3
    refine sj_aload_n dX6_seekBest_42 (i := 0) rfl rfl ?_
    refine sj_get (a := 36) (k9 := 2) (v := .int (σ 36 2)) dX6_seekBest_43 (by decide +kernel) rfl ?_
    refine sj_if_le (tgt := 63) dX6_seekBest_46 (by decide) (fun c5 => ?_) (fun c5 => ?_)
    · replace h := h.1 c5
      refine sj_fg [4] ?_
      exact t_X6_seekBest_63 h
    · replace h := h.2 c5
      refine sj_aload_n dX6_seekBest_49 (i := 0) rfl rfl ?_
      refine sj_aload_n dX6_seekBest_50 (i := 1) rfl rfl ?_
      refine sj_aload_n dX6_seekBest_51 (i := 2) rfl rfl ?_
      refine sj_iload dX6_seekBest_52 rfl ?_
      obtain ⟨σ6, hc6, h⟩ := h
      refine sj_callVv (M' := me_X6_trySlots) (b := 36) (As := [.ref (sj_ad G 1), .ref (sj_ad G 6), .int x4]) (rest := []) dX6_seekBest_54 gX6_seekBest_X6_trySlots rfl hd_X6_trySlots (by decide +kernel) (by decide +kernel) rfl (Nat.le_of_ble_eq_true rfl) (by omega) rfl hc6 ?_
      refine sj_iinc (v := (x4 + (nI 1))) dX6_seekBest_57 (by decide) rfl rfl ?_
      refine sj_goto (tgt := 33) dX6_seekBest_60 (by decide) ?_
      exact h
def wp_X6_seekBest_119 (G : sj_G) (R : sj_R) (x3 : Int32) (σ : sj_S) : Prop := R = (.ok (x3 - (σ 36 2)), σ)
set_option maxRecDepth 20000 in
theorem t_X6_seekBest_119 {G : sj_G} {R : sj_R} {x3 : Int32} {σ : sj_S} (h : wp_X6_seekBest_119 G R x3 σ) : sj_J G 8 me_X6_seekBest R 119 [.ref (sj_ad G 36), .null, .null, .int x3, .null, .null] σ [] := by
  unfold wp_X6_seekBest_119 at h
  refine sj_iload_n dX6_seekBest_119 (i := 3) rfl rfl ?_
  refine sj_aload_n dX6_seekBest_120 (i := 0) rfl rfl ?_
  refine sj_get (a := 36) (k9 := 2) (v := .int (σ 36 2)) dX6_seekBest_121 (by decide +kernel) rfl ?_
  refine sj_isub dX6_seekBest_124 ?_
  subst h
  exact sj_ret dX6_seekBest_125 rfl rfl
def wp_X6_seekBest_66 (G : sj_G) (R : sj_R) (x3 : Int32) (x4 : Int32) (σ : sj_S) : Prop := ((σ 6 0) ≤ x4 → (wp_X6_seekBest_119 G R x3 σ)) ∧ (¬ ((σ 6 0) ≤ x4) → ((σ 36 2) ≤ 0 → (wp_X6_seekBest_119 G R x3 σ)) ∧ (¬ ((σ 36 2) ≤ 0) → sj_J G 8 me_X6_seekBest R 88 [.ref (sj_ad G 36), .ref (sj_ad G 1), .ref (sj_ad G 6), .int x3, .int x4, .int (x4 + (nI 1))] σ []))
set_option maxRecDepth 20000 in
theorem t_X6_seekBest_66 {G : sj_G} {R : sj_R} {x3 : Int32} {x4 : Int32} {σ : sj_S} (h : wp_X6_seekBest_66 G R x3 x4 σ) : sj_J G 8 me_X6_seekBest R 66 [.ref (sj_ad G 36), .ref (sj_ad G 1), .ref (sj_ad G 6), .int x3, .int x4, .null] σ [] := by
  unfold wp_X6_seekBest_66 at h
  refine sj_iload dX6_seekBest_66 rfl ?_
  refine sj_aload_n dX6_seekBest_68 (i := 2) rfl rfl ?_
  refine sj_get (a := 6) (k9 := 0) (v := .int (σ 6 0)) dX6_seekBest_69 (by decide +kernel) rfl ?_
  refine sj_icmp_ge (tgt := 119) dX6_seekBest_72 (by decide) (fun c3 => ?_) (fun c3 => ?_)
  · replace h := h.1 c3
    refine sj_fg [1, 2, 4] ?_
    exact t_X6_seekBest_119 h
  · replace h := h.2 c3
    refine sj_aload_n dX6_seekBest_75 (i := 0) rfl rfl ?_
    refine sj_get (a := 36) (k9 := 2) (v := .int (σ 36 2)) dX6_seekBest_76 (by decide +kernel) rfl ?_
    refine sj_if_le (tgt := 119) dX6_seekBest_79 (by decide) (fun c5 => ?_) (fun c5 => ?_)
    · replace h := h.1 c5
      refine sj_fg [1, 2, 4] ?_
      exact t_X6_seekBest_119 h
    · replace h := h.2 c5
      refine sj_iload dX6_seekBest_82 rfl ?_
      refine sj_iconst (v := (nI 1)) dX6_seekBest_84 (by decide +kernel) ?_
      refine sj_iadd dX6_seekBest_85 ?_
      refine sj_istore dX6_seekBest_86 (by decide) ?_
      exact h
def wp_X6_seekBest_88 (G : sj_G) (R : sj_R) (x3 : Int32) (x4 : Int32) (x5 : Int32) (σ : sj_S) : Prop := ((σ 6 0) ≤ x5 → sj_J G 8 me_X6_seekBest R 66 [.ref (sj_ad G 36), .ref (sj_ad G 1), .ref (sj_ad G 6), .int x3, .int (x4 + (nI 1)), .null] σ []) ∧ (¬ ((σ 6 0) ≤ x5) → ∃ σ2, sj_C G 7 me_X6_trySwap [.ref (sj_ad G 36), .ref (sj_ad G 1), .ref (sj_ad G 6), .int x4, .int x5] σ (.ok 0, σ2) ∧ sj_J G 8 me_X6_seekBest R 88 [.ref (sj_ad G 36), .ref (sj_ad G 1), .ref (sj_ad G 6), .int x3, .int x4, .int (x5 + (nI 1))] σ2 [])
set_option maxRecDepth 20000 in
theorem t_X6_seekBest_88 {G : sj_G} {R : sj_R} {x3 : Int32} {x4 : Int32} {x5 : Int32} {σ : sj_S} (h : wp_X6_seekBest_88 G R x3 x4 x5 σ) : sj_J G 8 me_X6_seekBest R 88 [.ref (sj_ad G 36), .ref (sj_ad G 1), .ref (sj_ad G 6), .int x3, .int x4, .int x5] σ [] := by
  unfold wp_X6_seekBest_88 at h
  refine sj_iload dX6_seekBest_88 rfl ?_
  refine sj_aload_n dX6_seekBest_90 (i := 2) rfl rfl ?_
  refine sj_get (a := 6) (k9 := 0) (v := .int (σ 6 0)) dX6_seekBest_91 (by decide +kernel) rfl ?_
  refine sj_icmp_ge (tgt := 113) dX6_seekBest_94 (by decide) (fun c1 => ?_) (fun c1 => ?_)
  · replace h := h.1 c1
    refine sj_iinc (v := (x4 + (nI 1))) dX6_seekBest_113 (by decide) rfl rfl ?_
    refine sj_goto (tgt := 66) dX6_seekBest_116 (by decide) ?_
    refine sj_fg [5] ?_
    exact h
  · replace h := h.2 c1
    refine sj_aload_n dX6_seekBest_97 (i := 0) rfl rfl ?_
    refine sj_aload_n dX6_seekBest_98 (i := 1) rfl rfl ?_
    refine sj_aload_n dX6_seekBest_99 (i := 2) rfl rfl ?_
    refine sj_iload dX6_seekBest_100 rfl ?_
    refine sj_iload dX6_seekBest_102 rfl ?_
    obtain ⟨σ2, hc2, h⟩ := h
    refine sj_callVv (M' := me_X6_trySwap) (b := 36) (As := [.ref (sj_ad G 1), .ref (sj_ad G 6), .int x4, .int x5]) (rest := []) dX6_seekBest_104 gX6_seekBest_X6_trySwap rfl hd_X6_trySwap (by decide +kernel) (by decide +kernel) rfl (Nat.le_of_ble_eq_true rfl) (by omega) rfl hc2 ?_
    refine sj_iinc (v := (x5 + (nI 1))) dX6_seekBest_107 (by decide) rfl rfl ?_
    refine sj_goto (tgt := 88) dX6_seekBest_110 (by decide) ?_
    exact h
def wp_X6_seekBest_0 (G : sj_G) (R : sj_R) (σ : sj_S) : Prop := ∃ v1 σ1, sj_C G 5 me_X6_costOf [.ref (sj_ad G 36), .ref (sj_ad G 1), .ref (sj_ad G 3)] σ (.ok v1, σ1) ∧ sj_J G 8 me_X6_seekBest R 33 [.ref (sj_ad G 36), .ref (sj_ad G 1), .ref (sj_ad G 6), .int v1, .int (nI 0), .null] (sj_up (sj_st σ1 36 2 v1) 38 (va_cpy (σ1 3) (σ1 38) 0 0 9)) []
set_option maxRecDepth 20000 in
theorem t_X6_seekBest_0 {G : sj_G} {R : sj_R} {σ : sj_S} (h : wp_X6_seekBest_0 G R σ) : sj_J G 8 me_X6_seekBest R 0 [.ref (sj_ad G 36), .ref (sj_ad G 1), .ref (sj_ad G 6), .null, .null, .null] σ [] := by
  unfold wp_X6_seekBest_0 at h
  refine sj_aload_n dX6_seekBest_0 (i := 0) rfl rfl ?_
  refine sj_aload_n dX6_seekBest_1 (i := 1) rfl rfl ?_
  refine sj_aload_n dX6_seekBest_2 (i := 1) rfl rfl ?_
  refine sj_get (a := 1) (k9 := 1) (v := .ref (sj_ad G 3)) dX6_seekBest_3 (by decide +kernel) rfl ?_
  obtain ⟨v1, σ1, hc1, h⟩ := h
  refine sj_callVi (M' := me_X6_costOf) (b := 36) (As := [.ref (sj_ad G 1), .ref (sj_ad G 3)]) (rest := []) dX6_seekBest_6 gX6_seekBest_X6_costOf rfl hd_X6_costOf (by decide +kernel) (by decide +kernel) rfl (Nat.le_of_ble_eq_true rfl) (by omega) rfl hc1 ?_
  refine sj_istore_n dX6_seekBest_9 (i := 3) rfl (by decide) ?_
  refine sj_aload_n dX6_seekBest_10 (i := 0) rfl rfl ?_
  refine sj_iload_n dX6_seekBest_11 (i := 3) rfl rfl ?_
  refine sj_put (a := 36) (k9 := 2) dX6_seekBest_12 (by decide +kernel) (by decide +kernel) rfl ?_
  refine sj_aload_n dX6_seekBest_15 (i := 1) rfl rfl ?_
  refine sj_get (a := 1) (k9 := 1) (v := .ref (sj_ad G 3)) dX6_seekBest_16 (by decide +kernel) rfl ?_
  refine sj_iconst (v := (nI 0)) dX6_seekBest_19 (by decide +kernel) ?_
  refine sj_aload_n dX6_seekBest_20 (i := 0) rfl rfl ?_
  refine sj_get (a := 36) (k9 := 1) (v := .ref (sj_ad G 38)) dX6_seekBest_21 (by decide +kernel) rfl ?_
  refine sj_iconst (v := (nI 0)) dX6_seekBest_24 (by decide +kernel) ?_
  refine sj_bipush (v := (nI 9)) dX6_seekBest_25 (by decide +kernel) ?_
  refine sj_copy (a0 := 3) (a := 38) dX6_seekBest_27 (by decide +kernel) (by omega) (Nat.le_of_ble_eq_true rfl) rfl (by decide +kernel) rfl (by decide +kernel) (nI_pos (by decide)) (nI_pos (by decide)) (nI_pos (by decide)) (by decide) (by decide) (nI_clamp (by decide)) (nI_clamp (by decide)) (nI_clamp (by decide)) ?_
  refine sj_iconst (v := (nI 0)) dX6_seekBest_30 (by decide +kernel) ?_
  refine sj_istore dX6_seekBest_31 (by decide) ?_
  exact h
theorem c_X6_seekBest {G : sj_G} (ok : sj_ok G) {R : sj_R} {σ : sj_S} (h : wp_X6_seekBest_0 G R σ) : sj_C G 8 me_X6_seekBest [.ref (sj_ad G 36), .ref (sj_ad G 1), .ref (sj_ad G 6)] σ R :=
  sj_enter ok (by decide +kernel) rfl rfl (Nat.le_of_ble_eq_true rfl) (by simp [Value.category]) (t_X6_seekBest_0 h)
def wp_X6_trySlots_45 (G : sj_G) (R : sj_R) (x3 : Int32) (x4 : Int32) (x5 : Int32) (σ : sj_S) : Prop := sj_J G 7 me_X6_trySlots R 15 [.ref (sj_ad G 36), .ref (sj_ad G 1), .null, .int x3, .int x4, .int (x5 + (nI 1))] σ []
set_option maxRecDepth 20000 in
theorem t_X6_trySlots_45 {G : sj_G} {R : sj_R} {x3 : Int32} {x4 : Int32} {x5 : Int32} {σ : sj_S} (h : wp_X6_trySlots_45 G R x3 x4 x5 σ) : sj_J G 7 me_X6_trySlots R 45 [.ref (sj_ad G 36), .ref (sj_ad G 1), .null, .int x3, .int x4, .int x5] σ [] := by
  unfold wp_X6_trySlots_45 at h
  refine sj_iinc (v := (x5 + (nI 1))) dX6_trySlots_45 (by decide) rfl rfl ?_
  refine sj_goto (tgt := 15) dX6_trySlots_48 (by decide) ?_
  exact h
def wp_X6_trySlots_15 (G : sj_G) (R : sj_R) (x3 : Int32) (x4 : Int32) (x5 : Int32) (σ : sj_S) : Prop := ((nI 20) ≤ x5 → vp_in x3 9 ∧ vp_in x3 9 ∧ R = (.ok 0, (sj_st σ 38 x3.toNatClampNeg (σ 3 x3.toNatClampNeg)))) ∧ (¬ ((nI 20) ≤ x5) → (((x4 >>> (x5 &&& 31)) &&& (nI 1)) = 0 → (wp_X6_trySlots_45 G R x3 x4 x5 σ)) ∧ (¬ (((x4 >>> (x5 &&& 31)) &&& (nI 1)) = 0) → vp_in x3 9 ∧ ∃ σ8, sj_C G 6 me_X6_weigh [.ref (sj_ad G 36), .ref (sj_ad G 1)] (sj_st σ 38 x3.toNatClampNeg x5) (.ok 0, σ8) ∧ (wp_X6_trySlots_45 G R x3 x4 x5 σ8)))
set_option maxRecDepth 20000 in
theorem t_X6_trySlots_15 {G : sj_G} {R : sj_R} {x3 : Int32} {x4 : Int32} {x5 : Int32} {σ : sj_S} (h : wp_X6_trySlots_15 G R x3 x4 x5 σ) : sj_J G 7 me_X6_trySlots R 15 [.ref (sj_ad G 36), .ref (sj_ad G 1), .null, .int x3, .int x4, .int x5] σ [] := by
  unfold wp_X6_trySlots_15 at h
  refine sj_iload dX6_trySlots_15 rfl ?_
  refine sj_bipush (v := (nI 20)) dX6_trySlots_17 (by decide +kernel) ?_
  refine sj_icmp_ge (tgt := 51) dX6_trySlots_19 (by decide) (fun c1 => ?_) (fun c1 => ?_)
  · replace h := h.1 c1
    refine sj_aload_n dX6_trySlots_51 (i := 0) rfl rfl ?_
    refine sj_get (a := 36) (k9 := 1) (v := .ref (sj_ad G 38)) dX6_trySlots_52 (by decide +kernel) rfl ?_
    refine sj_iload_n dX6_trySlots_55 (i := 3) rfl rfl ?_
    refine sj_aload_n dX6_trySlots_56 (i := 1) rfl rfl ?_
    refine sj_get (a := 1) (k9 := 1) (v := .ref (sj_ad G 3)) dX6_trySlots_57 (by decide +kernel) rfl ?_
    refine sj_iload_n dX6_trySlots_60 (i := 3) rfl rfl ?_
    obtain ⟨b2, h⟩ := h
    refine sj_iald (a := 3) (j := x3.toNatClampNeg) (x := (σ 3 x3.toNatClampNeg)) dX6_trySlots_61 rfl (by decide +kernel) b2 rfl rfl ?_
    obtain ⟨b3, h⟩ := h
    refine sj_iast (a := 38) (j := x3.toNatClampNeg) dX6_trySlots_62 rfl (by decide +kernel) b3 rfl ?_
    subst h
    exact sj_vret dX6_trySlots_63 rfl
  · replace h := h.2 c1
    refine sj_iload dX6_trySlots_22 rfl ?_
    refine sj_iload dX6_trySlots_24 rfl ?_
    refine sj_ishr dX6_trySlots_26 ?_
    refine sj_iconst (v := (nI 1)) dX6_trySlots_27 (by decide +kernel) ?_
    refine sj_iand dX6_trySlots_28 ?_
    refine sj_if_eq (tgt := 45) dX6_trySlots_29 (by decide) (fun c6 => ?_) (fun c6 => ?_)
    · replace h := h.1 c6
      exact t_X6_trySlots_45 h
    · replace h := h.2 c6
      refine sj_aload_n dX6_trySlots_32 (i := 0) rfl rfl ?_
      refine sj_get (a := 36) (k9 := 1) (v := .ref (sj_ad G 38)) dX6_trySlots_33 (by decide +kernel) rfl ?_
      refine sj_iload_n dX6_trySlots_36 (i := 3) rfl rfl ?_
      refine sj_iload dX6_trySlots_37 rfl ?_
      obtain ⟨b7, h⟩ := h
      refine sj_iast (a := 38) (j := x3.toNatClampNeg) dX6_trySlots_39 rfl (by decide +kernel) b7 rfl ?_
      refine sj_aload_n dX6_trySlots_40 (i := 0) rfl rfl ?_
      refine sj_aload_n dX6_trySlots_41 (i := 1) rfl rfl ?_
      obtain ⟨σ8, hc8, h⟩ := h
      refine sj_callVv (M' := me_X6_weigh) (b := 36) (As := [.ref (sj_ad G 1)]) (rest := []) dX6_trySlots_42 gX6_trySlots_X6_weigh rfl hd_X6_weigh (by decide +kernel) (by decide +kernel) rfl (Nat.le_of_ble_eq_true rfl) (by omega) rfl hc8 ?_
      exact t_X6_trySlots_45 h
def wp_X6_trySlots_0 (G : sj_G) (R : sj_R) (x3 : Int32) (σ : sj_S) : Prop := ∃ v1 σ1, sj_C G 2 me_X7_allowed [.ref (sj_ad G 6), .int x3, .ref (sj_ad G 3), .int (-1)] σ (.ok v1, σ1) ∧ sj_J G 7 me_X6_trySlots R 15 [.ref (sj_ad G 36), .ref (sj_ad G 1), .null, .int x3, .int v1, .int (nI 0)] σ1 []
set_option maxRecDepth 20000 in
theorem t_X6_trySlots_0 {G : sj_G} {R : sj_R} {x3 : Int32} {σ : sj_S} (h : wp_X6_trySlots_0 G R x3 σ) : sj_J G 7 me_X6_trySlots R 0 [.ref (sj_ad G 36), .ref (sj_ad G 1), .ref (sj_ad G 6), .int x3, .null, .null] σ [] := by
  unfold wp_X6_trySlots_0 at h
  refine sj_aload_n dX6_trySlots_0 (i := 2) rfl rfl ?_
  refine sj_iload_n dX6_trySlots_1 (i := 3) rfl rfl ?_
  refine sj_aload_n dX6_trySlots_2 (i := 1) rfl rfl ?_
  refine sj_get (a := 1) (k9 := 1) (v := .ref (sj_ad G 3)) dX6_trySlots_3 (by decide +kernel) rfl ?_
  refine sj_iconst (v := (-1)) dX6_trySlots_6 (by decide +kernel) ?_
  obtain ⟨v1, σ1, hc1, h⟩ := h
  refine sj_callVi (M' := me_X7_allowed) (b := 6) (As := [.int x3, .ref (sj_ad G 3), .int (-1)]) (rest := []) dX6_trySlots_7 gX6_trySlots_X7_allowed rfl hd_X7_allowed (by decide +kernel) (by decide +kernel) rfl (Nat.le_of_ble_eq_true rfl) (by omega) rfl hc1 ?_
  refine sj_istore dX6_trySlots_10 (by decide) ?_
  refine sj_iconst (v := (nI 0)) dX6_trySlots_12 (by decide +kernel) ?_
  refine sj_istore dX6_trySlots_13 (by decide) ?_
  refine sj_fg [2] ?_
  exact h
theorem c_X6_trySlots {G : sj_G} (ok : sj_ok G) {R : sj_R} {x3 : Int32} {σ : sj_S} (h : wp_X6_trySlots_0 G R x3 σ) : sj_C G 7 me_X6_trySlots [.ref (sj_ad G 36), .ref (sj_ad G 1), .ref (sj_ad G 6), .int x3] σ R :=
  sj_enter ok (by decide +kernel) rfl rfl (Nat.le_of_ble_eq_true rfl) (by simp [Value.category]) (t_X6_trySlots_0 h)
def wp_X6_trySwap_42 (G : sj_G) (R : sj_R) (x3 : Int32) (x4 : Int32) (σ : sj_S) : Prop := vp_in x3 9 ∧ vp_in x3 9 ∧ vp_in x4 9 ∧ vp_in x4 9 ∧ R = (.ok 0, (sj_st (sj_st σ 38 x3.toNatClampNeg (σ 3 x3.toNatClampNeg)) 38 x4.toNatClampNeg (σ 3 x4.toNatClampNeg)))
set_option maxRecDepth 20000 in
theorem t_X6_trySwap_42 {G : sj_G} {R : sj_R} {x3 : Int32} {x4 : Int32} {σ : sj_S} (h : wp_X6_trySwap_42 G R x3 x4 σ) : sj_J G 7 me_X6_trySwap R 42 [.ref (sj_ad G 36), .ref (sj_ad G 1), .null, .int x3, .int x4] σ [] := by
  unfold wp_X6_trySwap_42 at h
  refine sj_aload_n dX6_trySwap_42 (i := 0) rfl rfl ?_
  refine sj_get (a := 36) (k9 := 1) (v := .ref (sj_ad G 38)) dX6_trySwap_43 (by decide +kernel) rfl ?_
  refine sj_iload_n dX6_trySwap_46 (i := 3) rfl rfl ?_
  refine sj_aload_n dX6_trySwap_47 (i := 1) rfl rfl ?_
  refine sj_get (a := 1) (k9 := 1) (v := .ref (sj_ad G 3)) dX6_trySwap_48 (by decide +kernel) rfl ?_
  refine sj_iload_n dX6_trySwap_51 (i := 3) rfl rfl ?_
  obtain ⟨b1, h⟩ := h
  refine sj_iald (a := 3) (j := x3.toNatClampNeg) (x := (σ 3 x3.toNatClampNeg)) dX6_trySwap_52 rfl (by decide +kernel) b1 rfl rfl ?_
  obtain ⟨b2, h⟩ := h
  refine sj_iast (a := 38) (j := x3.toNatClampNeg) dX6_trySwap_53 rfl (by decide +kernel) b2 rfl ?_
  refine sj_aload_n dX6_trySwap_54 (i := 0) rfl rfl ?_
  refine sj_get (a := 36) (k9 := 1) (v := .ref (sj_ad G 38)) dX6_trySwap_55 (by decide +kernel) rfl ?_
  refine sj_iload dX6_trySwap_58 rfl ?_
  refine sj_aload_n dX6_trySwap_60 (i := 1) rfl rfl ?_
  refine sj_get (a := 1) (k9 := 1) (v := .ref (sj_ad G 3)) dX6_trySwap_61 (by decide +kernel) rfl ?_
  refine sj_iload dX6_trySwap_64 rfl ?_
  obtain ⟨b3, h⟩ := h
  refine sj_iald (a := 3) (j := x4.toNatClampNeg) (x := (σ 3 x4.toNatClampNeg)) dX6_trySwap_66 rfl (by decide +kernel) b3 rfl rfl ?_
  obtain ⟨b4, h⟩ := h
  refine sj_iast (a := 38) (j := x4.toNatClampNeg) dX6_trySwap_67 rfl (by decide +kernel) b4 rfl ?_
  subst h
  exact sj_vret dX6_trySwap_68 rfl
def wp_X6_trySwap_0 (G : sj_G) (R : sj_R) (x3 : Int32) (x4 : Int32) (σ : sj_S) : Prop := vp_in x4 9 ∧ vp_in x3 9 ∧ vp_in x3 9 ∧ vp_in x4 9 ∧ ∃ v5 σ5, sj_C G 3 me_X7_isRight [.ref (sj_ad G 6), .ref (sj_ad G 38)] (sj_st (sj_st σ 38 x3.toNatClampNeg (σ 3 x4.toNatClampNeg)) 38 x4.toNatClampNeg (σ 3 x3.toNatClampNeg)) (.ok v5, σ5) ∧ (v5 = 0 → (wp_X6_trySwap_42 G R x3 x4 σ5)) ∧ (¬ (v5 = 0) → ∃ σ8, sj_C G 6 me_X6_weigh [.ref (sj_ad G 36), .ref (sj_ad G 1)] σ5 (.ok 0, σ8) ∧ (wp_X6_trySwap_42 G R x3 x4 σ8))
set_option maxRecDepth 20000 in
theorem t_X6_trySwap_0 {G : sj_G} {R : sj_R} {x3 : Int32} {x4 : Int32} {σ : sj_S} (h : wp_X6_trySwap_0 G R x3 x4 σ) : sj_J G 7 me_X6_trySwap R 0 [.ref (sj_ad G 36), .ref (sj_ad G 1), .ref (sj_ad G 6), .int x3, .int x4] σ [] := by
  unfold wp_X6_trySwap_0 at h
  refine sj_aload_n dX6_trySwap_0 (i := 0) rfl rfl ?_
  refine sj_get (a := 36) (k9 := 1) (v := .ref (sj_ad G 38)) dX6_trySwap_1 (by decide +kernel) rfl ?_
  refine sj_iload_n dX6_trySwap_4 (i := 3) rfl rfl ?_
  refine sj_aload_n dX6_trySwap_5 (i := 1) rfl rfl ?_
  refine sj_get (a := 1) (k9 := 1) (v := .ref (sj_ad G 3)) dX6_trySwap_6 (by decide +kernel) rfl ?_
  refine sj_iload dX6_trySwap_9 rfl ?_
  obtain ⟨b1, h⟩ := h
  refine sj_iald (a := 3) (j := x4.toNatClampNeg) (x := (σ 3 x4.toNatClampNeg)) dX6_trySwap_11 rfl (by decide +kernel) b1 rfl rfl ?_
  obtain ⟨b2, h⟩ := h
  refine sj_iast (a := 38) (j := x3.toNatClampNeg) dX6_trySwap_12 rfl (by decide +kernel) b2 rfl ?_
  refine sj_aload_n dX6_trySwap_13 (i := 0) rfl rfl ?_
  refine sj_get (a := 36) (k9 := 1) (v := .ref (sj_ad G 38)) dX6_trySwap_14 (by decide +kernel) rfl ?_
  refine sj_iload dX6_trySwap_17 rfl ?_
  refine sj_aload_n dX6_trySwap_19 (i := 1) rfl rfl ?_
  refine sj_get (a := 1) (k9 := 1) (v := .ref (sj_ad G 3)) dX6_trySwap_20 (by decide +kernel) rfl ?_
  refine sj_iload_n dX6_trySwap_23 (i := 3) rfl rfl ?_
  obtain ⟨b3, h⟩ := h
  refine sj_iald (a := 3) (j := x3.toNatClampNeg) (x := (σ 3 x3.toNatClampNeg)) dX6_trySwap_24 rfl (by decide +kernel) b3 rfl rfl ?_
  obtain ⟨b4, h⟩ := h
  refine sj_iast (a := 38) (j := x4.toNatClampNeg) dX6_trySwap_25 rfl (by decide +kernel) b4 rfl ?_
  refine sj_aload_n dX6_trySwap_26 (i := 2) rfl rfl ?_
  refine sj_aload_n dX6_trySwap_27 (i := 0) rfl rfl ?_
  refine sj_get (a := 36) (k9 := 1) (v := .ref (sj_ad G 38)) dX6_trySwap_28 (by decide +kernel) rfl ?_
  obtain ⟨v5, σ5, hc5, h⟩ := h
  refine sj_callVi (M' := me_X7_isRight) (b := 6) (As := [.ref (sj_ad G 38)]) (rest := []) dX6_trySwap_31 gX6_trySwap_X7_isRight rfl hd_X7_isRight (by decide +kernel) (by decide +kernel) rfl (Nat.le_of_ble_eq_true rfl) (by omega) rfl hc5 ?_
  refine sj_if_eq (tgt := 42) dX6_trySwap_34 (by decide) (fun c7 => ?_) (fun c7 => ?_)
  · replace h := h.1 c7
    refine sj_fg [2] ?_
    exact t_X6_trySwap_42 h
  · replace h := h.2 c7
    refine sj_aload_n dX6_trySwap_37 (i := 0) rfl rfl ?_
    refine sj_aload_n dX6_trySwap_38 (i := 1) rfl rfl ?_
    obtain ⟨σ8, hc8, h⟩ := h
    refine sj_callVv (M' := me_X6_weigh) (b := 36) (As := [.ref (sj_ad G 1)]) (rest := []) dX6_trySwap_39 gX6_trySwap_X6_weigh rfl hd_X6_weigh (by decide +kernel) (by decide +kernel) rfl (Nat.le_of_ble_eq_true rfl) (by omega) rfl hc8 ?_
    refine sj_fg [2] ?_
    exact t_X6_trySwap_42 h
theorem c_X6_trySwap {G : sj_G} (ok : sj_ok G) {R : sj_R} {x3 : Int32} {x4 : Int32} {σ : sj_S} (h : wp_X6_trySwap_0 G R x3 x4 σ) : sj_C G 7 me_X6_trySwap [.ref (sj_ad G 36), .ref (sj_ad G 1), .ref (sj_ad G 6), .int x3, .int x4] σ R :=
  sj_enter ok (by decide +kernel) rfl rfl (Nat.le_of_ble_eq_true rfl) (by simp [Value.category]) (t_X6_trySwap_0 h)
def wp_X6_weigh_38 (G : sj_G) (R : sj_R) (σ : sj_S) : Prop := R = (.ok 0, σ)
set_option maxRecDepth 20000 in
theorem t_X6_weigh_38 {G : sj_G} {R : sj_R} {σ : sj_S} (h : wp_X6_weigh_38 G R σ) : sj_J G 6 me_X6_weigh R 38 [.null, .null, .null] σ [] := by
  unfold wp_X6_weigh_38 at h
  subst h
  exact sj_vret dX6_weigh_38 rfl
def wp_X6_weigh_0 (G : sj_G) (R : sj_R) (σ : sj_S) : Prop := ∃ v1 σ1, sj_C G 5 me_X6_costOf [.ref (sj_ad G 36), .ref (sj_ad G 1), .ref (sj_ad G 38)] σ (.ok v1, σ1) ∧ (wp_X6_weigh_38 G R (if (σ1 36 2) ≤ v1 then σ1 else (sj_up (sj_st σ1 36 2 v1) 37 (va_cpy (σ1 38) (σ1 37) 0 0 9))))
set_option maxRecDepth 20000 in
theorem t_X6_weigh_0 {G : sj_G} {R : sj_R} {σ : sj_S} (h : wp_X6_weigh_0 G R σ) : sj_J G 6 me_X6_weigh R 0 [.ref (sj_ad G 36), .ref (sj_ad G 1), .null] σ [] := by
  unfold wp_X6_weigh_0 at h
  refine sj_aload_n dX6_weigh_0 (i := 0) rfl rfl ?_
  refine sj_aload_n dX6_weigh_1 (i := 1) rfl rfl ?_
  refine sj_aload_n dX6_weigh_2 (i := 0) rfl rfl ?_
  refine sj_get (a := 36) (k9 := 1) (v := .ref (sj_ad G 38)) dX6_weigh_3 (by decide +kernel) rfl ?_
  obtain ⟨v1, σ1, hc1, h⟩ := h
  refine sj_callVi (M' := me_X6_costOf) (b := 36) (As := [.ref (sj_ad G 1), .ref (sj_ad G 38)]) (rest := []) dX6_weigh_6 gX6_weigh_X6_costOf rfl hd_X6_costOf (by decide +kernel) (by decide +kernel) rfl (Nat.le_of_ble_eq_true rfl) (by omega) rfl hc1 ?_
  refine sj_istore_n dX6_weigh_9 (i := 2) rfl (by decide) ?_
  refine sj_iload_n dX6_weigh_10 (i := 2) rfl rfl ?_
  refine sj_aload_n dX6_weigh_11 (i := 0) rfl rfl ?_
  refine sj_get (a := 36) (k9 := 2) (v := .int (σ1 36 2)) dX6_weigh_12 (by decide +kernel) rfl ?_
  refine sj_icmp_ge (tgt := 38) dX6_weigh_15 (by decide) (fun c2 => ?_) (fun c2 => ?_)
  · try simp only [if_pos c2] at h
    refine sj_fg [0, 1, 2] ?_
    exact t_X6_weigh_38 h
  · refine sj_aload_n dX6_weigh_18 (i := 0) rfl rfl ?_
    refine sj_iload_n dX6_weigh_19 (i := 2) rfl rfl ?_
    refine sj_put (a := 36) (k9 := 2) dX6_weigh_20 (by decide +kernel) (by decide +kernel) rfl ?_
    refine sj_aload_n dX6_weigh_23 (i := 0) rfl rfl ?_
    refine sj_get (a := 36) (k9 := 1) (v := .ref (sj_ad G 38)) dX6_weigh_24 (by decide +kernel) rfl ?_
    refine sj_iconst (v := (nI 0)) dX6_weigh_27 (by decide +kernel) ?_
    refine sj_aload_n dX6_weigh_28 (i := 0) rfl rfl ?_
    refine sj_get (a := 36) (k9 := 0) (v := .ref (sj_ad G 37)) dX6_weigh_29 (by decide +kernel) rfl ?_
    refine sj_iconst (v := (nI 0)) dX6_weigh_32 (by decide +kernel) ?_
    refine sj_bipush (v := (nI 9)) dX6_weigh_33 (by decide +kernel) ?_
    refine sj_copy (a0 := 38) (a := 37) dX6_weigh_35 (by decide +kernel) (by omega) (Nat.le_of_ble_eq_true rfl) rfl (by decide +kernel) rfl (by decide +kernel) (nI_pos (by decide)) (nI_pos (by decide)) (nI_pos (by decide)) (by decide) (by decide) (nI_clamp (by decide)) (nI_clamp (by decide)) (nI_clamp (by decide)) ?_
    try simp only [if_neg c2] at h
    refine sj_fg [0, 1, 2] ?_
    exact t_X6_weigh_38 h
theorem c_X6_weigh {G : sj_G} (ok : sj_ok G) {R : sj_R} {σ : sj_S} (h : wp_X6_weigh_0 G R σ) : sj_C G 6 me_X6_weigh [.ref (sj_ad G 36), .ref (sj_ad G 1)] σ R :=
  sj_enter ok (by decide +kernel) rfl rfl (Nat.le_of_ble_eq_true rfl) (by simp [Value.category]) (t_X6_weigh_0 h)
