def wp_X4_forget_0 (G : sj_G) (R : sj_R) (σ : sj_S) : Prop := R = (.ok 0, (sj_st σ 30 3 (-1)))
set_option maxRecDepth 20000 in
theorem t_X4_forget_0 {G : sj_G} {R : sj_R} {σ : sj_S} (h : wp_X4_forget_0 G R σ) : sj_J G 2 me_X4_forget R 0 [.ref (sj_ad G 30)] σ [] := by
  unfold wp_X4_forget_0 at h
  refine sj_aload_n dX4_forget_0 (i := 0) rfl rfl ?_
  refine sj_iconst (v := (-1)) dX4_forget_1 (by decide +kernel) ?_
  refine sj_put (a := 30) (k9 := 3) dX4_forget_2 (by decide +kernel) (by decide +kernel) rfl ?_
  subst h
  exact sj_vret dX4_forget_5 rfl
theorem c_X4_forget {G : sj_G} (ok : sj_ok G) {R : sj_R} {σ : sj_S} (h : wp_X4_forget_0 G R σ) : sj_C G 2 me_X4_forget [.ref (sj_ad G 30)] σ R :=
  sj_enter ok (by decide +kernel) rfl rfl (Nat.le_of_ble_eq_true rfl) (by simp [Value.category]) (t_X4_forget_0 h)
def wp_X4_seekFirst_23 (G : sj_G) (R : sj_R) (x2 : Int32) (σ : sj_S) : Prop := ((σ 18 0) ≤ x2 → R = (.ok (nI 1), σ)) ∧ (¬ ((σ 18 0) ≤ x2) → vp_in x2 9 ∧ sj_J G 122 me_X4_seekFirst R 50 [.ref (sj_ad G 30), .null, .int x2, .int (σ 19 x2.toNatClampNeg), .int (nI 1), .int (nI 0)] σ [])
set_option maxRecDepth 20000 in
theorem t_X4_seekFirst_23 {G : sj_G} {R : sj_R} {x2 : Int32} {σ : sj_S} (h : wp_X4_seekFirst_23 G R x2 σ) : sj_J G 122 me_X4_seekFirst R 23 [.ref (sj_ad G 30), .null, .int x2, .null, .null, .null] σ [] := by
  unfold wp_X4_seekFirst_23 at h
  refine sj_iload_n dX4_seekFirst_23 (i := 2) rfl rfl ?_
  refine sj_aload_n dX4_seekFirst_24 (i := 0) rfl rfl ?_
  refine sj_get (a := 30) (k9 := 0) (v := .ref (sj_ad G 18)) dX4_seekFirst_25 (by decide +kernel) rfl ?_
  refine sj_get (a := 18) (k9 := 0) (v := .int (σ 18 0)) dX4_seekFirst_28 (by decide +kernel) rfl ?_
  refine sj_icmp_ge (tgt := 118) dX4_seekFirst_31 (by decide) (fun c1 => ?_) (fun c1 => ?_)
  · replace h := h.1 c1
    refine sj_iconst (v := (nI 1)) dX4_seekFirst_118 (by decide +kernel) ?_
    subst h
    exact sj_ret dX4_seekFirst_119 rfl rfl
  · replace h := h.2 c1
    refine sj_aload_n dX4_seekFirst_34 (i := 0) rfl rfl ?_
    refine sj_get (a := 30) (k9 := 0) (v := .ref (sj_ad G 18)) dX4_seekFirst_35 (by decide +kernel) rfl ?_
    refine sj_get (a := 18) (k9 := 1) (v := .ref (sj_ad G 19)) dX4_seekFirst_38 (by decide +kernel) rfl ?_
    refine sj_iload_n dX4_seekFirst_41 (i := 2) rfl rfl ?_
    obtain ⟨b2, h⟩ := h
    refine sj_iald (a := 19) (j := x2.toNatClampNeg) (x := (σ 19 x2.toNatClampNeg)) dX4_seekFirst_42 rfl (by decide +kernel) b2 rfl rfl ?_
    refine sj_istore_n dX4_seekFirst_43 (i := 3) rfl (by decide) ?_
    refine sj_iconst (v := (nI 1)) dX4_seekFirst_44 (by decide +kernel) ?_
    refine sj_istore dX4_seekFirst_45 (by decide) ?_
    refine sj_iconst (v := (nI 0)) dX4_seekFirst_47 (by decide +kernel) ?_
    refine sj_istore dX4_seekFirst_48 (by decide) ?_
    exact h
def wp_X4_seekFirst_95 (G : sj_G) (R : sj_R) (x2 : Int32) (σ : sj_S) : Prop := vp_in x2 9 ∧ vp_in x2 9 ∧ sj_J G 122 me_X4_seekFirst R 23 [.ref (sj_ad G 30), .null, .int (x2 + (nI 1)), .null, .null, .null] (sj_st σ 19 x2.toNatClampNeg ((nI 1) <<< ((σ 31 x2.toNatClampNeg) &&& 31))) []
set_option maxRecDepth 20000 in
theorem t_X4_seekFirst_95 {G : sj_G} {R : sj_R} {x2 : Int32} {σ : sj_S} (h : wp_X4_seekFirst_95 G R x2 σ) : sj_J G 122 me_X4_seekFirst R 95 [.ref (sj_ad G 30), .null, .int x2, .null, .null, .null] σ [] := by
  unfold wp_X4_seekFirst_95 at h
  refine sj_aload_n dX4_seekFirst_95 (i := 0) rfl rfl ?_
  refine sj_get (a := 30) (k9 := 0) (v := .ref (sj_ad G 18)) dX4_seekFirst_96 (by decide +kernel) rfl ?_
  refine sj_get (a := 18) (k9 := 1) (v := .ref (sj_ad G 19)) dX4_seekFirst_99 (by decide +kernel) rfl ?_
  refine sj_iload_n dX4_seekFirst_102 (i := 2) rfl rfl ?_
  refine sj_iconst (v := (nI 1)) dX4_seekFirst_103 (by decide +kernel) ?_
  refine sj_aload_n dX4_seekFirst_104 (i := 0) rfl rfl ?_
  refine sj_get (a := 30) (k9 := 1) (v := .ref (sj_ad G 31)) dX4_seekFirst_105 (by decide +kernel) rfl ?_
  refine sj_iload_n dX4_seekFirst_108 (i := 2) rfl rfl ?_
  obtain ⟨b1, h⟩ := h
  refine sj_iald (a := 31) (j := x2.toNatClampNeg) (x := (σ 31 x2.toNatClampNeg)) dX4_seekFirst_109 rfl (by decide +kernel) b1 rfl rfl ?_
  refine sj_ishl dX4_seekFirst_110 ?_
  obtain ⟨b2, h⟩ := h
  refine sj_iast (a := 19) (j := x2.toNatClampNeg) dX4_seekFirst_111 rfl (by decide +kernel) b2 rfl ?_
  refine sj_iinc (v := (x2 + (nI 1))) dX4_seekFirst_112 (by decide) rfl rfl ?_
  refine sj_goto (tgt := 23) dX4_seekFirst_115 (by decide) ?_
  exact h
def wp_X4_seekFirst_50 (G : sj_G) (R : sj_R) (x2 : Int32) (x3 : Int32) (x4 : Int32) (x5 : Int32) (σ : sj_S) : Prop := ((nI 20) ≤ x5 → (wp_X4_seekFirst_95 G R x2 σ)) ∧ (¬ ((nI 20) ≤ x5) → (x4 = 0 → (wp_X4_seekFirst_95 G R x2 σ)) ∧ (¬ (x4 = 0) → vp_in x2 9 ∧ vp_in x2 9 ∧ ∃ v12 σ12, sj_C G 121 me_X4_isSolvable [.ref (sj_ad G 30)] (sj_st σ 19 x2.toNatClampNeg (x3 &&& (((nI 1) <<< ((σ 31 x2.toNatClampNeg) &&& 31)) - (nI 1)))) (.ok v12, σ12) ∧ sj_J G 122 me_X4_seekFirst R 50 [.ref (sj_ad G 30), .null, .int x2, .int x3, .int v12, .int (x5 + (nI 1))] σ12 []))
set_option maxRecDepth 20000 in
theorem t_X4_seekFirst_50 {G : sj_G} {R : sj_R} {x2 : Int32} {x3 : Int32} {x4 : Int32} {x5 : Int32} {σ : sj_S} (h : wp_X4_seekFirst_50 G R x2 x3 x4 x5 σ) : sj_J G 122 me_X4_seekFirst R 50 [.ref (sj_ad G 30), .null, .int x2, .int x3, .int x4, .int x5] σ [] := by
  unfold wp_X4_seekFirst_50 at h
  refine sj_iload dX4_seekFirst_50 rfl ?_
  refine sj_bipush (v := (nI 20)) dX4_seekFirst_52 (by decide +kernel) ?_
  refine sj_icmp_ge (tgt := 95) dX4_seekFirst_54 (by decide) (fun c5 => ?_) (fun c5 => ?_)
  · replace h := h.1 c5
    refine sj_fg [3, 4, 5] ?_
    exact t_X4_seekFirst_95 h
  · replace h := h.2 c5
    refine sj_iload dX4_seekFirst_57 rfl ?_
    refine sj_if_eq (tgt := 95) dX4_seekFirst_59 (by decide) (fun c9 => ?_) (fun c9 => ?_)
    · replace h := h.1 c9
      refine sj_fg [3, 4, 5] ?_
      exact t_X4_seekFirst_95 h
    · replace h := h.2 c9
      refine sj_aload_n dX4_seekFirst_62 (i := 0) rfl rfl ?_
      refine sj_get (a := 30) (k9 := 0) (v := .ref (sj_ad G 18)) dX4_seekFirst_63 (by decide +kernel) rfl ?_
      refine sj_get (a := 18) (k9 := 1) (v := .ref (sj_ad G 19)) dX4_seekFirst_66 (by decide +kernel) rfl ?_
      refine sj_iload_n dX4_seekFirst_69 (i := 2) rfl rfl ?_
      refine sj_iload_n dX4_seekFirst_70 (i := 3) rfl rfl ?_
      refine sj_iconst (v := (nI 1)) dX4_seekFirst_71 (by decide +kernel) ?_
      refine sj_aload_n dX4_seekFirst_72 (i := 0) rfl rfl ?_
      refine sj_get (a := 30) (k9 := 1) (v := .ref (sj_ad G 31)) dX4_seekFirst_73 (by decide +kernel) rfl ?_
      refine sj_iload_n dX4_seekFirst_76 (i := 2) rfl rfl ?_
      obtain ⟨b10, h⟩ := h
      refine sj_iald (a := 31) (j := x2.toNatClampNeg) (x := (σ 31 x2.toNatClampNeg)) dX4_seekFirst_77 rfl (by decide +kernel) b10 rfl rfl ?_
      refine sj_ishl dX4_seekFirst_78 ?_
      refine sj_iconst (v := (nI 1)) dX4_seekFirst_79 (by decide +kernel) ?_
      refine sj_isub dX4_seekFirst_80 ?_
      refine sj_iand dX4_seekFirst_81 ?_
      obtain ⟨b11, h⟩ := h
      refine sj_iast (a := 19) (j := x2.toNatClampNeg) dX4_seekFirst_82 rfl (by decide +kernel) b11 rfl ?_
      refine sj_aload_n dX4_seekFirst_83 (i := 0) rfl rfl ?_
      obtain ⟨v12, σ12, hc12, h⟩ := h
      refine sj_callVi (M' := me_X4_isSolvable) (b := 30) (As := []) (rest := []) dX4_seekFirst_84 gX4_seekFirst_X4_isSolvable rfl hd_X4_isSolvable (by decide +kernel) (by decide +kernel) rfl (Nat.le_of_ble_eq_true rfl) (by omega) rfl hc12 ?_
      refine sj_istore dX4_seekFirst_87 (by decide) ?_
      refine sj_iinc (v := (x5 + (nI 1))) dX4_seekFirst_89 (by decide) rfl rfl ?_
      refine sj_goto (tgt := 50) dX4_seekFirst_92 (by decide) ?_
      exact h
def wp_X4_seekFirst_0 (G : sj_G) (R : sj_R) (σ : sj_S) : Prop := ∃ v1 σ1, sj_C G 3 me_X8_hardWishes [.ref (sj_ad G 1)] σ (.ok v1, σ1) ∧ ∃ σ2, sj_C G 5 me_X7_take [.ref (sj_ad G 18), .ref (sj_ad G 1), .int v1] σ1 (.ok 0, σ2) ∧ ∃ v3 σ3, sj_C G 121 me_X4_isSolvable [.ref (sj_ad G 30)] σ2 (.ok v3, σ3) ∧ (¬ v3 = 0 → sj_J G 122 me_X4_seekFirst R 23 [.ref (sj_ad G 30), .null, .int (nI 0), .null, .null, .null] σ3 []) ∧ (v3 = 0 → R = (.ok (nI 0), σ3))
set_option maxRecDepth 20000 in
theorem t_X4_seekFirst_0 {G : sj_G} {R : sj_R} {σ : sj_S} (h : wp_X4_seekFirst_0 G R σ) : sj_J G 122 me_X4_seekFirst R 0 [.ref (sj_ad G 30), .ref (sj_ad G 1), .null, .null, .null, .null] σ [] := by
  unfold wp_X4_seekFirst_0 at h
  refine sj_aload_n dX4_seekFirst_0 (i := 0) rfl rfl ?_
  refine sj_get (a := 30) (k9 := 0) (v := .ref (sj_ad G 18)) dX4_seekFirst_1 (by decide +kernel) rfl ?_
  refine sj_aload_n dX4_seekFirst_4 (i := 1) rfl rfl ?_
  refine sj_aload_n dX4_seekFirst_5 (i := 1) rfl rfl ?_
  obtain ⟨v1, σ1, hc1, h⟩ := h
  refine sj_callVi (M' := me_X8_hardWishes) (b := 1) (As := []) (rest := [.ref (sj_ad G 1), .ref (sj_ad G 18)]) dX4_seekFirst_6 gX4_seekFirst_X8_hardWishes rfl hd_X8_hardWishes (by decide +kernel) (by decide +kernel) rfl (Nat.le_of_ble_eq_true rfl) (by omega) rfl hc1 ?_
  obtain ⟨σ2, hc2, h⟩ := h
  refine sj_callVv (M' := me_X7_take) (b := 18) (As := [.ref (sj_ad G 1), .int v1]) (rest := []) dX4_seekFirst_9 gX4_seekFirst_X7_take rfl hd_X7_take (by decide +kernel) (by decide +kernel) rfl (Nat.le_of_ble_eq_true rfl) (by omega) rfl hc2 ?_
  refine sj_aload_n dX4_seekFirst_12 (i := 0) rfl rfl ?_
  obtain ⟨v3, σ3, hc3, h⟩ := h
  refine sj_callVi (M' := me_X4_isSolvable) (b := 30) (As := []) (rest := []) dX4_seekFirst_13 gX4_seekFirst_X4_isSolvable rfl hd_X4_isSolvable (by decide +kernel) (by decide +kernel) rfl (Nat.le_of_ble_eq_true rfl) (by omega) rfl hc3 ?_
  refine sj_if_ne (tgt := 21) dX4_seekFirst_16 (by decide) (fun c4 => ?_) (fun c4 => ?_)
  · replace h := h.1 c4
    refine sj_iconst (v := (nI 0)) dX4_seekFirst_21 (by decide +kernel) ?_
    refine sj_istore_n dX4_seekFirst_22 (i := 2) rfl (by decide) ?_
    refine sj_fg [1] ?_
    exact h
  · replace h := h.2 c4
    refine sj_iconst (v := (nI 0)) dX4_seekFirst_19 (by decide +kernel) ?_
    subst h
    exact sj_ret dX4_seekFirst_20 rfl rfl
theorem c_X4_seekFirst {G : sj_G} (ok : sj_ok G) {R : sj_R} {σ : sj_S} (h : wp_X4_seekFirst_0 G R σ) : sj_C G 122 me_X4_seekFirst [.ref (sj_ad G 30), .ref (sj_ad G 1)] σ R :=
  sj_enter ok (by decide +kernel) rfl rfl (Nat.le_of_ble_eq_true rfl) (by simp [Value.category]) (t_X4_seekFirst_0 h)
def wp_X4_seekProof_57 (G : sj_G) (R : sj_R) (x2 : Int32) (x3 : Int32) (σ : sj_S) : Prop := sj_J G 122 me_X4_seekProof R 7 [.ref (sj_ad G 30), .ref (sj_ad G 1), .int x2, .int (x3 + (nI 1))] σ []
set_option maxRecDepth 20000 in
theorem t_X4_seekProof_57 {G : sj_G} {R : sj_R} {x2 : Int32} {x3 : Int32} {σ : sj_S} (h : wp_X4_seekProof_57 G R x2 x3 σ) : sj_J G 122 me_X4_seekProof R 57 [.ref (sj_ad G 30), .ref (sj_ad G 1), .int x2, .int x3] σ [] := by
  unfold wp_X4_seekProof_57 at h
  refine sj_iinc (v := (x3 + (nI 1))) dX4_seekProof_57 (by decide) rfl rfl ?_
  refine sj_goto (tgt := 7) dX4_seekProof_60 (by decide) ?_
  exact h
def wp_X4_seekProof_56 (G : sj_G) (R : sj_R) (x3 : Int32) (s0 : Int32) (σ : sj_S) : Prop := (wp_X4_seekProof_57 G R s0 x3 σ)
set_option maxRecDepth 20000 in
theorem t_X4_seekProof_56 {G : sj_G} {R : sj_R} {x3 : Int32} {s0 : Int32} {σ : sj_S} (h : wp_X4_seekProof_56 G R x3 s0 σ) : sj_J G 122 me_X4_seekProof R 56 [.ref (sj_ad G 30), .ref (sj_ad G 1), .null, .int x3] σ [.int s0] := by
  unfold wp_X4_seekProof_56 at h
  refine sj_istore_n dX4_seekProof_56 (i := 2) rfl (by decide) ?_
  exact t_X4_seekProof_57 h
def wp_X4_seekProof_7 (G : sj_G) (R : sj_R) (x2 : Int32) (x3 : Int32) (σ : sj_S) : Prop := ∃ v1 σ1, sj_C G 2 me_X8_wishTotal [.ref (sj_ad G 1)] σ (.ok v1, σ1) ∧ (v1 ≤ x3 → sj_J G 122 me_X4_seekProof R 70 [.ref (sj_ad G 30), .ref (sj_ad G 1), .int x2, .int (nI 0)] (sj_st σ1 30 3 (nI 0)) []) ∧ (¬ (v1 ≤ x3) → (((x2 >>> (x3 &&& 31)) &&& (nI 1)) = 0 → (wp_X4_seekProof_57 G R x2 x3 σ1)) ∧ (¬ (((x2 >>> (x3 &&& 31)) &&& (nI 1)) = 0) → ∃ σ5, sj_C G 5 me_X7_take [.ref (sj_ad G 18), .ref (sj_ad G 1), .int (x2 &&& (((nI 1) <<< (x3 &&& 31)) ^^^ (-1)))] σ1 (.ok 0, σ5) ∧ ∃ v6 σ6, sj_C G 121 me_X4_isSolvable [.ref (sj_ad G 30)] σ5 (.ok v6, σ6) ∧ (wp_X4_seekProof_56 G R x3 (if v6 = 0 then (x2 &&& (((nI 1) <<< (x3 &&& 31)) ^^^ (-1))) else x2) σ6)))
set_option maxRecDepth 20000 in
theorem t_X4_seekProof_7 {G : sj_G} {R : sj_R} {x2 : Int32} {x3 : Int32} {σ : sj_S} (h : wp_X4_seekProof_7 G R x2 x3 σ) : sj_J G 122 me_X4_seekProof R 7 [.ref (sj_ad G 30), .ref (sj_ad G 1), .int x2, .int x3] σ [] := by
  unfold wp_X4_seekProof_7 at h
  refine sj_iload_n dX4_seekProof_7 (i := 3) rfl rfl ?_
  refine sj_aload_n dX4_seekProof_8 (i := 1) rfl rfl ?_
  obtain ⟨v1, σ1, hc1, h⟩ := h
  refine sj_callVi (M' := me_X8_wishTotal) (b := 1) (As := []) (rest := [.int x3]) dX4_seekProof_9 gX4_seekProof_X8_wishTotal rfl hd_X8_wishTotal (by decide +kernel) (by decide +kernel) rfl (Nat.le_of_ble_eq_true rfl) (by omega) rfl hc1 ?_
  refine sj_icmp_ge (tgt := 63) dX4_seekProof_12 (by decide) (fun c2 => ?_) (fun c2 => ?_)
  · replace h := h.1 c2
    refine sj_aload_n dX4_seekProof_63 (i := 0) rfl rfl ?_
    refine sj_iconst (v := (nI 0)) dX4_seekProof_64 (by decide +kernel) ?_
    refine sj_put (a := 30) (k9 := 3) dX4_seekProof_65 (by decide +kernel) (by decide +kernel) rfl ?_
    refine sj_iconst (v := (nI 0)) dX4_seekProof_68 (by decide +kernel) ?_
    refine sj_istore_n dX4_seekProof_69 (i := 3) rfl (by decide) ?_
    exact h
  · replace h := h.2 c2
    refine sj_iload_n dX4_seekProof_15 (i := 2) rfl rfl ?_
    refine sj_iload_n dX4_seekProof_16 (i := 3) rfl rfl ?_
    refine sj_ishr dX4_seekProof_17 ?_
    refine sj_iconst (v := (nI 1)) dX4_seekProof_18 (by decide +kernel) ?_
    refine sj_iand dX4_seekProof_19 ?_
    refine sj_if_eq (tgt := 57) dX4_seekProof_20 (by decide) (fun c4 => ?_) (fun c4 => ?_)
    · replace h := h.1 c4
      exact t_X4_seekProof_57 h
    · replace h := h.2 c4
      refine sj_aload_n dX4_seekProof_23 (i := 0) rfl rfl ?_
      refine sj_get (a := 30) (k9 := 0) (v := .ref (sj_ad G 18)) dX4_seekProof_24 (by decide +kernel) rfl ?_
      refine sj_aload_n dX4_seekProof_27 (i := 1) rfl rfl ?_
      refine sj_iload_n dX4_seekProof_28 (i := 2) rfl rfl ?_
      refine sj_iconst (v := (nI 1)) dX4_seekProof_29 (by decide +kernel) ?_
      refine sj_iload_n dX4_seekProof_30 (i := 3) rfl rfl ?_
      refine sj_ishl dX4_seekProof_31 ?_
      refine sj_iconst (v := (-1)) dX4_seekProof_32 (by decide +kernel) ?_
      refine sj_ixor dX4_seekProof_33 ?_
      refine sj_iand dX4_seekProof_34 ?_
      obtain ⟨σ5, hc5, h⟩ := h
      refine sj_callVv (M' := me_X7_take) (b := 18) (As := [.ref (sj_ad G 1), .int (x2 &&& (((nI 1) <<< (x3 &&& 31)) ^^^ (-1)))]) (rest := []) dX4_seekProof_35 gX4_seekProof_X7_take rfl hd_X7_take (by decide +kernel) (by decide +kernel) rfl (Nat.le_of_ble_eq_true rfl) (by omega) rfl hc5 ?_
      refine sj_aload_n dX4_seekProof_38 (i := 0) rfl rfl ?_
      obtain ⟨v6, σ6, hc6, h⟩ := h
      refine sj_callVi (M' := me_X4_isSolvable) (b := 30) (As := []) (rest := []) dX4_seekProof_39 gX4_seekProof_X4_isSolvable rfl hd_X4_isSolvable (by decide +kernel) (by decide +kernel) rfl (Nat.le_of_ble_eq_true rfl) (by omega) rfl hc6 ?_
      refine sj_if_eq (tgt := 49) dX4_seekProof_42 (by decide) (fun c7 => ?_) (fun c7 => ?_)
      · refine sj_iload_n dX4_seekProof_49 (i := 2) rfl rfl ?_
        refine sj_iconst (v := (nI 1)) dX4_seekProof_50 (by decide +kernel) ?_
        refine sj_iload_n dX4_seekProof_51 (i := 3) rfl rfl ?_
        refine sj_ishl dX4_seekProof_52 ?_
        refine sj_iconst (v := (-1)) dX4_seekProof_53 (by decide +kernel) ?_
        refine sj_ixor dX4_seekProof_54 ?_
        refine sj_iand dX4_seekProof_55 ?_
        try simp only [if_pos c7] at h
        refine sj_fg [2] ?_
        exact t_X4_seekProof_56 h
      · refine sj_iload_n dX4_seekProof_45 (i := 2) rfl rfl ?_
        refine sj_goto (tgt := 56) dX4_seekProof_46 (by decide) ?_
        try simp only [if_neg c7] at h
        refine sj_fg [2] ?_
        exact t_X4_seekProof_56 h
def wp_X4_seekProof_106 (G : sj_G) (R : sj_R) (x2 : Int32) (x3 : Int32) (σ : sj_S) : Prop := sj_J G 122 me_X4_seekProof R 70 [.ref (sj_ad G 30), .ref (sj_ad G 1), .int x2, .int (x3 + (nI 1))] σ []
set_option maxRecDepth 20000 in
theorem t_X4_seekProof_106 {G : sj_G} {R : sj_R} {x2 : Int32} {x3 : Int32} {σ : sj_S} (h : wp_X4_seekProof_106 G R x2 x3 σ) : sj_J G 122 me_X4_seekProof R 106 [.ref (sj_ad G 30), .ref (sj_ad G 1), .int x2, .int x3] σ [] := by
  unfold wp_X4_seekProof_106 at h
  refine sj_iinc (v := (x3 + (nI 1))) dX4_seekProof_106 (by decide) rfl rfl ?_
  refine sj_goto (tgt := 70) dX4_seekProof_109 (by decide) ?_
  exact h
def wp_X4_seekProof_70 (G : sj_G) (R : sj_R) (x2 : Int32) (x3 : Int32) (σ : sj_S) : Prop := ∃ v1 σ1, sj_C G 2 me_X8_wishTotal [.ref (sj_ad G 1)] σ (.ok v1, σ1) ∧ (v1 ≤ x3 → R = (.ok 0, σ1)) ∧ (¬ (v1 ≤ x3) → ((¬ (((x2 >>> (x3 &&& 31)) &&& (nI 1)) = 0)) → vp_in (σ1 30 3) 12) ∧ (wp_X4_seekProof_106 G R x2 x3 (if ((x2 >>> (x3 &&& 31)) &&& (nI 1)) = 0 then σ1 else (sj_st (sj_st σ1 32 (σ1 30 3).toNatClampNeg x3) 30 3 ((σ1 30 3) + (nI 1))))))
set_option maxRecDepth 20000 in
theorem t_X4_seekProof_70 {G : sj_G} {R : sj_R} {x2 : Int32} {x3 : Int32} {σ : sj_S} (h : wp_X4_seekProof_70 G R x2 x3 σ) : sj_J G 122 me_X4_seekProof R 70 [.ref (sj_ad G 30), .ref (sj_ad G 1), .int x2, .int x3] σ [] := by
  unfold wp_X4_seekProof_70 at h
  refine sj_iload_n dX4_seekProof_70 (i := 3) rfl rfl ?_
  refine sj_aload_n dX4_seekProof_71 (i := 1) rfl rfl ?_
  obtain ⟨v1, σ1, hc1, h⟩ := h
  refine sj_callVi (M' := me_X8_wishTotal) (b := 1) (As := []) (rest := [.int x3]) dX4_seekProof_72 gX4_seekProof_X8_wishTotal rfl hd_X8_wishTotal (by decide +kernel) (by decide +kernel) rfl (Nat.le_of_ble_eq_true rfl) (by omega) rfl hc1 ?_
  refine sj_icmp_ge (tgt := 112) dX4_seekProof_75 (by decide) (fun c2 => ?_) (fun c2 => ?_)
  · replace h := h.1 c2
    subst h
    exact sj_vret dX4_seekProof_112 rfl
  · replace h := h.2 c2
    refine sj_iload_n dX4_seekProof_78 (i := 2) rfl rfl ?_
    refine sj_iload_n dX4_seekProof_79 (i := 3) rfl rfl ?_
    refine sj_ishr dX4_seekProof_80 ?_
    refine sj_iconst (v := (nI 1)) dX4_seekProof_81 (by decide +kernel) ?_
    refine sj_iand dX4_seekProof_82 ?_
    obtain ⟨f5, h⟩ := h
    refine sj_if_eq (tgt := 106) dX4_seekProof_83 (by decide) (fun c3 => ?_) (fun c3 => ?_)
    · try simp only [if_pos c3] at h
      exact t_X4_seekProof_106 h
    · have b4 := f5 c3
      refine sj_aload_n dX4_seekProof_86 (i := 0) rfl rfl ?_
      refine sj_get (a := 30) (k9 := 2) (v := .ref (sj_ad G 32)) dX4_seekProof_87 (by decide +kernel) rfl ?_
      refine sj_aload_n dX4_seekProof_90 (i := 0) rfl rfl ?_
      refine sj_get (a := 30) (k9 := 3) (v := .int (σ1 30 3)) dX4_seekProof_91 (by decide +kernel) rfl ?_
      refine sj_iload_n dX4_seekProof_94 (i := 3) rfl rfl ?_
      refine sj_iast (a := 32) (j := (σ1 30 3).toNatClampNeg) dX4_seekProof_95 rfl (by decide +kernel) b4 rfl ?_
      refine sj_aload_n dX4_seekProof_96 (i := 0) rfl rfl ?_
      refine sj_dup dX4_seekProof_97 rfl ?_
      refine sj_get (a := 30) (k9 := 3) (v := .int (σ1 30 3)) dX4_seekProof_98 (by decide +kernel) rfl ?_
      refine sj_iconst (v := (nI 1)) dX4_seekProof_101 (by decide +kernel) ?_
      refine sj_iadd dX4_seekProof_102 ?_
      refine sj_put (a := 30) (k9 := 3) dX4_seekProof_103 (by decide +kernel) (by decide +kernel) rfl ?_
      try simp only [if_neg c3] at h
      exact t_X4_seekProof_106 h
def wp_X4_seekProof_0 (G : sj_G) (R : sj_R) (σ : sj_S) : Prop := ∃ v1 σ1, sj_C G 3 me_X8_hardWishes [.ref (sj_ad G 1)] σ (.ok v1, σ1) ∧ sj_J G 122 me_X4_seekProof R 7 [.ref (sj_ad G 30), .ref (sj_ad G 1), .int v1, .int (nI 0)] σ1 []
set_option maxRecDepth 20000 in
theorem t_X4_seekProof_0 {G : sj_G} {R : sj_R} {σ : sj_S} (h : wp_X4_seekProof_0 G R σ) : sj_J G 122 me_X4_seekProof R 0 [.ref (sj_ad G 30), .ref (sj_ad G 1), .null, .null] σ [] := by
  unfold wp_X4_seekProof_0 at h
  refine sj_aload_n dX4_seekProof_0 (i := 1) rfl rfl ?_
  obtain ⟨v1, σ1, hc1, h⟩ := h
  refine sj_callVi (M' := me_X8_hardWishes) (b := 1) (As := []) (rest := []) dX4_seekProof_1 gX4_seekProof_X8_hardWishes rfl hd_X8_hardWishes (by decide +kernel) (by decide +kernel) rfl (Nat.le_of_ble_eq_true rfl) (by omega) rfl hc1 ?_
  refine sj_istore_n dX4_seekProof_4 (i := 2) rfl (by decide) ?_
  refine sj_iconst (v := (nI 0)) dX4_seekProof_5 (by decide +kernel) ?_
  refine sj_istore_n dX4_seekProof_6 (i := 3) rfl (by decide) ?_
  exact h
theorem c_X4_seekProof {G : sj_G} (ok : sj_ok G) {R : sj_R} {σ : sj_S} (h : wp_X4_seekProof_0 G R σ) : sj_C G 122 me_X4_seekProof [.ref (sj_ad G 30), .ref (sj_ad G 1)] σ R :=
  sj_enter ok (by decide +kernel) rfl rfl (Nat.le_of_ble_eq_true rfl) (by simp [Value.category]) (t_X4_seekProof_0 h)
def wp_X4_isSolvable_2 (G : sj_G) (R : sj_R) (x1 : Int32) (σ : sj_S) : Prop := ((σ 18 0) ≤ x1 → ∃ v2 σ2, sj_C G 120 me_X4_canPlaceFrom [.ref (sj_ad G 30), .int (nI 0), .int (nI 0)] (sj_st σ 30 7 ((σ 30 7) + (nI 1))) (.ok v2, σ2) ∧ (¬ v2 = 0 → sj_J G 121 me_X4_isSolvable R 56 [.ref (sj_ad G 30), .int (nI 0)] σ2 []) ∧ (v2 = 0 → R = (.ok (nI 0), σ2))) ∧ (¬ ((σ 18 0) ≤ x1) → vp_in x1 9 ∧ (¬ (σ 19 x1.toNatClampNeg) = 0 → sj_J G 121 me_X4_isSolvable R 2 [.ref (sj_ad G 30), .int (x1 + (nI 1))] σ []) ∧ ((σ 19 x1.toNatClampNeg) = 0 → R = (.ok (nI 0), σ)))
set_option maxRecDepth 20000 in
theorem t_X4_isSolvable_2 {G : sj_G} {R : sj_R} {x1 : Int32} {σ : sj_S} (h : wp_X4_isSolvable_2 G R x1 σ) : sj_J G 121 me_X4_isSolvable R 2 [.ref (sj_ad G 30), .int x1] σ [] := by
  unfold wp_X4_isSolvable_2 at h
  refine sj_iload_n dX4_isSolvable_2 (i := 1) rfl rfl ?_
  refine sj_aload_n dX4_isSolvable_3 (i := 0) rfl rfl ?_
  refine sj_get (a := 30) (k9 := 0) (v := .ref (sj_ad G 18)) dX4_isSolvable_4 (by decide +kernel) rfl ?_
  refine sj_get (a := 18) (k9 := 0) (v := .int (σ 18 0)) dX4_isSolvable_7 (by decide +kernel) rfl ?_
  refine sj_icmp_ge (tgt := 33) dX4_isSolvable_10 (by decide) (fun c1 => ?_) (fun c1 => ?_)
  · replace h := h.1 c1
    refine sj_aload_n dX4_isSolvable_33 (i := 0) rfl rfl ?_
    refine sj_dup dX4_isSolvable_34 rfl ?_
    refine sj_get (a := 30) (k9 := 7) (v := .int (σ 30 7)) dX4_isSolvable_35 (by decide +kernel) rfl ?_
    refine sj_iconst (v := (nI 1)) dX4_isSolvable_38 (by decide +kernel) ?_
    refine sj_iadd dX4_isSolvable_39 ?_
    refine sj_put (a := 30) (k9 := 7) dX4_isSolvable_40 (by decide +kernel) (by decide +kernel) rfl ?_
    refine sj_aload_n dX4_isSolvable_43 (i := 0) rfl rfl ?_
    refine sj_iconst (v := (nI 0)) dX4_isSolvable_44 (by decide +kernel) ?_
    refine sj_iconst (v := (nI 0)) dX4_isSolvable_45 (by decide +kernel) ?_
    obtain ⟨v2, σ2, hc2, h⟩ := h
    refine sj_callVi (M' := me_X4_canPlaceFrom) (b := 30) (As := [.int (nI 0), .int (nI 0)]) (rest := []) dX4_isSolvable_46 gX4_isSolvable_X4_canPlaceFrom rfl hd_X4_canPlaceFrom (by decide +kernel) (by decide +kernel) rfl (Nat.le_of_ble_eq_true rfl) (by omega) rfl hc2 ?_
    refine sj_if_ne (tgt := 54) dX4_isSolvable_49 (by decide) (fun c3 => ?_) (fun c3 => ?_)
    · replace h := h.1 c3
      refine sj_iconst (v := (nI 0)) dX4_isSolvable_54 (by decide +kernel) ?_
      refine sj_istore_n dX4_isSolvable_55 (i := 1) rfl (by decide) ?_
      exact h
    · replace h := h.2 c3
      refine sj_iconst (v := (nI 0)) dX4_isSolvable_52 (by decide +kernel) ?_
      subst h
      exact sj_ret dX4_isSolvable_53 rfl rfl
  · replace h := h.2 c1
    refine sj_aload_n dX4_isSolvable_13 (i := 0) rfl rfl ?_
    refine sj_get (a := 30) (k9 := 0) (v := .ref (sj_ad G 18)) dX4_isSolvable_14 (by decide +kernel) rfl ?_
    refine sj_get (a := 18) (k9 := 1) (v := .ref (sj_ad G 19)) dX4_isSolvable_17 (by decide +kernel) rfl ?_
    refine sj_iload_n dX4_isSolvable_20 (i := 1) rfl rfl ?_
    obtain ⟨b4, h⟩ := h
    refine sj_iald (a := 19) (j := x1.toNatClampNeg) (x := (σ 19 x1.toNatClampNeg)) dX4_isSolvable_21 rfl (by decide +kernel) b4 rfl rfl ?_
    refine sj_if_ne (tgt := 27) dX4_isSolvable_22 (by decide) (fun c5 => ?_) (fun c5 => ?_)
    · replace h := h.1 c5
      refine sj_iinc (v := (x1 + (nI 1))) dX4_isSolvable_27 (by decide) rfl rfl ?_
      refine sj_goto (tgt := 2) dX4_isSolvable_30 (by decide) ?_
      exact h
    · replace h := h.2 c5
      refine sj_iconst (v := (nI 0)) dX4_isSolvable_25 (by decide +kernel) ?_
      subst h
      exact sj_ret dX4_isSolvable_26 rfl rfl
def wp_X4_isSolvable_56 (G : sj_G) (R : sj_R) (x1 : Int32) (σ : sj_S) : Prop := ((nI 5) ≤ x1 → R = (.ok (nI 1), (sj_up σ 31 (va_cpy (σ 35) (σ 31) 0 0 9)))) ∧ (¬ ((nI 5) ≤ x1) → vp_in x1 5 ∧ ∃ v3 σ3, sj_C G 40 me_X4_canStand [.ref (sj_ad G 18), .ref (sj_ad G 35), .int x1, .int (σ 34 x1.toNatClampNeg), .int (nI 0)] σ (.ok v3, σ3) ∧ sj_J G 121 me_X4_isSolvable R 56 [.ref (sj_ad G 30), .int (x1 + (nI 1))] σ3 [])
set_option maxRecDepth 20000 in
theorem t_X4_isSolvable_56 {G : sj_G} {R : sj_R} {x1 : Int32} {σ : sj_S} (h : wp_X4_isSolvable_56 G R x1 σ) : sj_J G 121 me_X4_isSolvable R 56 [.ref (sj_ad G 30), .int x1] σ [] := by
  unfold wp_X4_isSolvable_56 at h
  refine sj_iload_n dX4_isSolvable_56 (i := 1) rfl rfl ?_
  refine sj_iconst (v := (nI 5)) dX4_isSolvable_57 (by decide +kernel) ?_
  refine sj_icmp_ge (tgt := 87) dX4_isSolvable_58 (by decide) (fun c1 => ?_) (fun c1 => ?_)
  · replace h := h.1 c1
    refine sj_aload_n dX4_isSolvable_87 (i := 0) rfl rfl ?_
    refine sj_get (a := 30) (k9 := 6) (v := .ref (sj_ad G 35)) dX4_isSolvable_88 (by decide +kernel) rfl ?_
    refine sj_iconst (v := (nI 0)) dX4_isSolvable_91 (by decide +kernel) ?_
    refine sj_aload_n dX4_isSolvable_92 (i := 0) rfl rfl ?_
    refine sj_get (a := 30) (k9 := 1) (v := .ref (sj_ad G 31)) dX4_isSolvable_93 (by decide +kernel) rfl ?_
    refine sj_iconst (v := (nI 0)) dX4_isSolvable_96 (by decide +kernel) ?_
    refine sj_bipush (v := (nI 9)) dX4_isSolvable_97 (by decide +kernel) ?_
    refine sj_copy (a0 := 35) (a := 31) dX4_isSolvable_99 (by decide +kernel) (by omega) (Nat.le_of_ble_eq_true rfl) rfl (by decide +kernel) rfl (by decide +kernel) (nI_pos (by decide)) (nI_pos (by decide)) (nI_pos (by decide)) (by decide) (by decide) (nI_clamp (by decide)) (nI_clamp (by decide)) (nI_clamp (by decide)) ?_
    refine sj_iconst (v := (nI 1)) dX4_isSolvable_102 (by decide +kernel) ?_
    subst h
    exact sj_ret dX4_isSolvable_103 rfl rfl
  · replace h := h.2 c1
    refine sj_aload_n dX4_isSolvable_61 (i := 0) rfl rfl ?_
    refine sj_get (a := 30) (k9 := 0) (v := .ref (sj_ad G 18)) dX4_isSolvable_62 (by decide +kernel) rfl ?_
    refine sj_aload_n dX4_isSolvable_65 (i := 0) rfl rfl ?_
    refine sj_get (a := 30) (k9 := 6) (v := .ref (sj_ad G 35)) dX4_isSolvable_66 (by decide +kernel) rfl ?_
    refine sj_iload_n dX4_isSolvable_69 (i := 1) rfl rfl ?_
    refine sj_aload_n dX4_isSolvable_70 (i := 0) rfl rfl ?_
    refine sj_get (a := 30) (k9 := 5) (v := .ref (sj_ad G 34)) dX4_isSolvable_71 (by decide +kernel) rfl ?_
    refine sj_iload_n dX4_isSolvable_74 (i := 1) rfl rfl ?_
    obtain ⟨b2, h⟩ := h
    refine sj_iald (a := 34) (j := x1.toNatClampNeg) (x := (σ 34 x1.toNatClampNeg)) dX4_isSolvable_75 rfl (by decide +kernel) b2 rfl rfl ?_
    refine sj_iconst (v := (nI 0)) dX4_isSolvable_76 (by decide +kernel) ?_
    obtain ⟨v3, σ3, hc3, h⟩ := h
    refine sj_callSi (M' := me_X4_canStand) (As := [.ref (sj_ad G 18), .ref (sj_ad G 35), .int x1, .int (σ 34 x1.toNatClampNeg), .int (nI 0)]) (rest := []) dX4_isSolvable_77 gX4_isSolvable_X4_canStand rfl hd_X4_canStand (Nat.le_of_ble_eq_true rfl) (by omega) rfl hc3 ?_
    refine sj_pop dX4_isSolvable_80 rfl ?_
    refine sj_iinc (v := (x1 + (nI 1))) dX4_isSolvable_81 (by decide) rfl rfl ?_
    refine sj_goto (tgt := 56) dX4_isSolvable_84 (by decide) ?_
    exact h
def wp_X4_isSolvable_0 (G : sj_G) (R : sj_R) (σ : sj_S) : Prop := sj_J G 121 me_X4_isSolvable R 2 [.ref (sj_ad G 30), .int (nI 0)] σ []
set_option maxRecDepth 20000 in
theorem t_X4_isSolvable_0 {G : sj_G} {R : sj_R} {σ : sj_S} (h : wp_X4_isSolvable_0 G R σ) : sj_J G 121 me_X4_isSolvable R 0 [.ref (sj_ad G 30), .null] σ [] := by
  unfold wp_X4_isSolvable_0 at h
  refine sj_iconst (v := (nI 0)) dX4_isSolvable_0 (by decide +kernel) ?_
  refine sj_istore_n dX4_isSolvable_1 (i := 1) rfl (by decide) ?_
  exact h
theorem c_X4_isSolvable {G : sj_G} (ok : sj_ok G) {R : sj_R} {σ : sj_S} (h : wp_X4_isSolvable_0 G R σ) : sj_C G 121 me_X4_isSolvable [.ref (sj_ad G 30)] σ R :=
  sj_enter ok (by decide +kernel) rfl rfl (Nat.le_of_ble_eq_true rfl) (by simp [Value.category]) (t_X4_isSolvable_0 h)
def wp_X4_canPlaceFrom_25 (G : sj_G) (R : sj_R) (d dd : Nat) (s0 : Int32) (σ : sj_S) : Prop := R = (.ok s0, σ) ∧ (s0 = nI 0 ∨ s0 = nI 1)
set_option maxRecDepth 20000 in
theorem t_X4_canPlaceFrom_25 {G : sj_G} {R : sj_R} {d dd : Nat} {s0 : Int32} {σ : sj_S} (hdd : dd + 1 ≤ d) (h10 : 41 ≤ d) (h : wp_X4_canPlaceFrom_25 G R d dd s0 σ) : sj_J G d me_X4_canPlaceFrom R 25 [.null, .null, .null] σ [.int s0] := by
  unfold wp_X4_canPlaceFrom_25 at h
  obtain ⟨h, hz⟩ := h
  subst h
  exact sj_ret dX4_canPlaceFrom_25 rfl (sj_nb hz)
def wp_X4_canPlaceFrom_0 (G : sj_G) (R : sj_R) (d dd : Nat) (x1 : Int32) (x2 : Int32) (σ : sj_S) : Prop := (x1 < (nI 5) → ∃ v2 σ2, sj_C G 2 me_X4_marksOf [.ref (sj_ad G 30), .int x1, .int x2] σ (.ok v2, σ2) ∧ ((v2 &&& (nI 4)) = 0 → ∃ v4 σ4, sj_C G dd me_X4_canChoose [.ref (sj_ad G 30), .int x1, .int (nI 0), .int (nI 0), .int x2] σ2 (.ok v4, σ4) ∧ (v4 = 0 → ∃ σ6, sj_C G 3 me_X4_mark [.ref (sj_ad G 30), .int x1, .int x2, .int (nI 4)] σ4 (.ok 0, σ6) ∧ R = (.ok (nI 0), σ6)) ∧ (¬ (v4 = 0) → R = (.ok (nI 1), σ4))) ∧ (¬ ((v2 &&& (nI 4)) = 0) → R = (.ok (nI 0), σ2))) ∧ (¬ (x1 < (nI 5)) → (wp_X4_canPlaceFrom_25 G R d dd (if x2 = (((nI 1) <<< ((σ 18 0) &&& 31)) - (nI 1)) then (nI 1) else (nI 0)) σ))
set_option maxRecDepth 20000 in
theorem t_X4_canPlaceFrom_0 {G : sj_G} {R : sj_R} {d dd : Nat} {x1 : Int32} {x2 : Int32} {σ : sj_S} (hdd : dd + 1 ≤ d) (h10 : 41 ≤ d) (h : wp_X4_canPlaceFrom_0 G R d dd x1 x2 σ) : sj_J G d me_X4_canPlaceFrom R 0 [.ref (sj_ad G 30), .int x1, .int x2] σ [] := by
  unfold wp_X4_canPlaceFrom_0 at h
  refine sj_iload_n dX4_canPlaceFrom_0 (i := 1) rfl rfl ?_
  refine sj_iconst (v := (nI 5)) dX4_canPlaceFrom_1 (by decide +kernel) ?_
  refine sj_icmp_lt (tgt := 26) dX4_canPlaceFrom_2 (by decide) (fun c1 => ?_) (fun c1 => ?_)
  · replace h := h.1 c1
    refine sj_aload_n dX4_canPlaceFrom_26 (i := 0) rfl rfl ?_
    refine sj_iload_n dX4_canPlaceFrom_27 (i := 1) rfl rfl ?_
    refine sj_iload_n dX4_canPlaceFrom_28 (i := 2) rfl rfl ?_
    obtain ⟨v2, σ2, hc2, h⟩ := h
    refine sj_callVi (M' := me_X4_marksOf) (b := 30) (As := [.int x1, .int x2]) (rest := []) dX4_canPlaceFrom_29 gX4_canPlaceFrom_X4_marksOf rfl hd_X4_marksOf (by decide +kernel) (by decide +kernel) rfl (Nat.le_of_ble_eq_true rfl) (by omega) rfl hc2 ?_
    refine sj_iconst (v := (nI 4)) dX4_canPlaceFrom_32 (by decide +kernel) ?_
    refine sj_iand dX4_canPlaceFrom_33 ?_
    refine sj_if_eq (tgt := 39) dX4_canPlaceFrom_34 (by decide) (fun c3 => ?_) (fun c3 => ?_)
    · replace h := h.1 c3
      refine sj_aload_n dX4_canPlaceFrom_39 (i := 0) rfl rfl ?_
      refine sj_iload_n dX4_canPlaceFrom_40 (i := 1) rfl rfl ?_
      refine sj_iconst (v := (nI 0)) dX4_canPlaceFrom_41 (by decide +kernel) ?_
      refine sj_iconst (v := (nI 0)) dX4_canPlaceFrom_42 (by decide +kernel) ?_
      refine sj_iload_n dX4_canPlaceFrom_43 (i := 2) rfl rfl ?_
      obtain ⟨v4, σ4, hc4, h⟩ := h
      refine sj_callVi (M' := me_X4_canChoose) (b := 30) (As := [.int x1, .int (nI 0), .int (nI 0), .int x2]) (rest := []) dX4_canPlaceFrom_44 gX4_canPlaceFrom_X4_canChoose rfl hd_X4_canChoose (by decide +kernel) (by decide +kernel) rfl (Nat.le_of_ble_eq_true rfl) (by omega) rfl hc4 ?_
      refine sj_if_eq (tgt := 52) dX4_canPlaceFrom_47 (by decide) (fun c5 => ?_) (fun c5 => ?_)
      · replace h := h.1 c5
        refine sj_aload_n dX4_canPlaceFrom_52 (i := 0) rfl rfl ?_
        refine sj_iload_n dX4_canPlaceFrom_53 (i := 1) rfl rfl ?_
        refine sj_iload_n dX4_canPlaceFrom_54 (i := 2) rfl rfl ?_
        refine sj_iconst (v := (nI 4)) dX4_canPlaceFrom_55 (by decide +kernel) ?_
        obtain ⟨σ6, hc6, h⟩ := h
        refine sj_callVv (M' := me_X4_mark) (b := 30) (As := [.int x1, .int x2, .int (nI 4)]) (rest := []) dX4_canPlaceFrom_56 gX4_canPlaceFrom_X4_mark rfl hd_X4_mark (by decide +kernel) (by decide +kernel) rfl (Nat.le_of_ble_eq_true rfl) (by omega) rfl hc6 ?_
        refine sj_iconst (v := (nI 0)) dX4_canPlaceFrom_59 (by decide +kernel) ?_
        subst h
        exact sj_ret dX4_canPlaceFrom_60 rfl rfl
      · replace h := h.2 c5
        refine sj_iconst (v := (nI 1)) dX4_canPlaceFrom_50 (by decide +kernel) ?_
        subst h
        exact sj_ret dX4_canPlaceFrom_51 rfl rfl
    · replace h := h.2 c3
      refine sj_iconst (v := (nI 0)) dX4_canPlaceFrom_37 (by decide +kernel) ?_
      subst h
      exact sj_ret dX4_canPlaceFrom_38 rfl rfl
  · replace h := h.2 c1
    refine sj_iload_n dX4_canPlaceFrom_5 (i := 2) rfl rfl ?_
    refine sj_iconst (v := (nI 1)) dX4_canPlaceFrom_6 (by decide +kernel) ?_
    refine sj_aload_n dX4_canPlaceFrom_7 (i := 0) rfl rfl ?_
    refine sj_get (a := 30) (k9 := 0) (v := .ref (sj_ad G 18)) dX4_canPlaceFrom_8 (by decide +kernel) rfl ?_
    refine sj_get (a := 18) (k9 := 0) (v := .int (σ 18 0)) dX4_canPlaceFrom_11 (by decide +kernel) rfl ?_
    refine sj_ishl dX4_canPlaceFrom_14 ?_
    refine sj_iconst (v := (nI 1)) dX4_canPlaceFrom_15 (by decide +kernel) ?_
    refine sj_isub dX4_canPlaceFrom_16 ?_
    refine sj_icmp_ne (tgt := 24) dX4_canPlaceFrom_17 (by decide) (fun c7 => ?_) (fun c7 => ?_)
    · refine sj_iconst (v := (nI 0)) dX4_canPlaceFrom_24 (by decide +kernel) ?_
      try simp only [if_neg c7] at h
      refine sj_fg [0, 1, 2] ?_
      exact t_X4_canPlaceFrom_25 hdd h10 h
    · refine sj_iconst (v := (nI 1)) dX4_canPlaceFrom_20 (by decide +kernel) ?_
      refine sj_goto (tgt := 25) dX4_canPlaceFrom_21 (by decide) ?_
      try simp only [if_pos c7] at h
      refine sj_fg [0, 1, 2] ?_
      exact t_X4_canPlaceFrom_25 hdd h10 h
theorem c_X4_canPlaceFrom {G : sj_G} (ok : sj_ok G) {R : sj_R} {d dd : Nat} {x1 : Int32} {x2 : Int32} {σ : sj_S} (hdd : dd + 1 ≤ d) (h10 : 41 ≤ d) (h : wp_X4_canPlaceFrom_0 G R d dd x1 x2 σ) : sj_C G d me_X4_canPlaceFrom [.ref (sj_ad G 30), .int x1, .int x2] σ R :=
  sj_enter ok (by decide +kernel) rfl rfl (Nat.le_of_ble_eq_true rfl) (by simp [Value.category]) (t_X4_canPlaceFrom_0 hdd h10 h)
def wp_X4_canChoose_53 (G : sj_G) (R : sj_R) (d dd : Nat) (x1 : Int32) (x3 : Int32) (x4 : Int32) (x5 : Int32) (σ : sj_S) : Prop := sj_J G d me_X4_canChoose R 3 [.ref (sj_ad G 30), .int x1, .null, .int x3, .int x4, .int (x5 + (nI 1))] σ []
set_option maxRecDepth 20000 in
theorem t_X4_canChoose_53 {G : sj_G} {R : sj_R} {d dd : Nat} {x1 : Int32} {x3 : Int32} {x4 : Int32} {x5 : Int32} {σ : sj_S} (hdd : dd + 1 ≤ d) (h10 : 41 ≤ d) (h : wp_X4_canChoose_53 G R d dd x1 x3 x4 x5 σ) : sj_J G d me_X4_canChoose R 53 [.ref (sj_ad G 30), .int x1, .null, .int x3, .int x4, .int x5] σ [] := by
  unfold wp_X4_canChoose_53 at h
  refine sj_iinc (v := (x5 + (nI 1))) dX4_canChoose_53 (by decide) rfl rfl ?_
  refine sj_goto (tgt := 3) dX4_canChoose_56 (by decide) ?_
  exact h
def wp_X4_canChoose_3 (G : sj_G) (R : sj_R) (d dd : Nat) (x1 : Int32) (x3 : Int32) (x4 : Int32) (x5 : Int32) (σ : sj_S) : Prop := ((σ 18 0) ≤ x5 → vp_in x1 5 ∧ ∃ v3 σ3, sj_C G dd me_X4_canPlaceFrom [.ref (sj_ad G 30), .int (x1 + (nI 1)), .int (x4 ||| x3)] (sj_st σ 34 x1.toNatClampNeg x3) (.ok v3, σ3) ∧ R = (.ok v3, σ3) ∧ (v3 = nI 0 ∨ v3 = nI 1)) ∧ (¬ ((σ 18 0) ≤ x5) → (¬ ((x4 >>> (x5 &&& 31)) &&& (nI 1)) = 0 → (wp_X4_canChoose_53 G R d dd x1 x3 x4 x5 σ)) ∧ (((x4 >>> (x5 &&& 31)) &&& (nI 1)) = 0 → ∃ v5 σ5, sj_C G dd me_X4_canTakeIn [.ref (sj_ad G 30), .int x1, .int x5, .int x3, .int x4] σ (.ok v5, σ5) ∧ (v5 = 0 → ∃ v7 σ7, sj_C G 2 me_X4_mustJoin [.ref (sj_ad G 30), .int x1, .int x5, .int x3] σ5 (.ok v7, σ7) ∧ (v7 = 0 → (wp_X4_canChoose_53 G R d dd x1 x3 x4 x5 σ7)) ∧ (¬ (v7 = 0) → R = (.ok (nI 0), σ7))) ∧ (¬ (v5 = 0) → R = (.ok (nI 1), σ5))))
set_option maxRecDepth 20000 in
theorem t_X4_canChoose_3 {G : sj_G} {R : sj_R} {d dd : Nat} {x1 : Int32} {x3 : Int32} {x4 : Int32} {x5 : Int32} {σ : sj_S} (hdd : dd + 1 ≤ d) (h10 : 41 ≤ d) (h : wp_X4_canChoose_3 G R d dd x1 x3 x4 x5 σ) : sj_J G d me_X4_canChoose R 3 [.ref (sj_ad G 30), .int x1, .null, .int x3, .int x4, .int x5] σ [] := by
  unfold wp_X4_canChoose_3 at h
  refine sj_iload dX4_canChoose_3 rfl ?_
  refine sj_aload_n dX4_canChoose_5 (i := 0) rfl rfl ?_
  refine sj_get (a := 30) (k9 := 0) (v := .ref (sj_ad G 18)) dX4_canChoose_6 (by decide +kernel) rfl ?_
  refine sj_get (a := 18) (k9 := 0) (v := .int (σ 18 0)) dX4_canChoose_9 (by decide +kernel) rfl ?_
  refine sj_icmp_ge (tgt := 59) dX4_canChoose_12 (by decide) (fun c1 => ?_) (fun c1 => ?_)
  · replace h := h.1 c1
    refine sj_aload_n dX4_canChoose_59 (i := 0) rfl rfl ?_
    refine sj_get (a := 30) (k9 := 5) (v := .ref (sj_ad G 34)) dX4_canChoose_60 (by decide +kernel) rfl ?_
    refine sj_iload_n dX4_canChoose_63 (i := 1) rfl rfl ?_
    refine sj_iload_n dX4_canChoose_64 (i := 3) rfl rfl ?_
    obtain ⟨b2, h⟩ := h
    refine sj_iast (a := 34) (j := x1.toNatClampNeg) dX4_canChoose_65 rfl (by decide +kernel) b2 rfl ?_
    refine sj_aload_n dX4_canChoose_66 (i := 0) rfl rfl ?_
    refine sj_iload_n dX4_canChoose_67 (i := 1) rfl rfl ?_
    refine sj_iconst (v := (nI 1)) dX4_canChoose_68 (by decide +kernel) ?_
    refine sj_iadd dX4_canChoose_69 ?_
    refine sj_iload dX4_canChoose_70 rfl ?_
    refine sj_iload_n dX4_canChoose_72 (i := 3) rfl rfl ?_
    refine sj_ior dX4_canChoose_73 ?_
    obtain ⟨v3, σ3, hc3, h⟩ := h
    refine sj_callVi (M' := me_X4_canPlaceFrom) (b := 30) (As := [.int (x1 + (nI 1)), .int (x4 ||| x3)]) (rest := []) dX4_canChoose_74 gX4_canChoose_X4_canPlaceFrom rfl hd_X4_canPlaceFrom (by decide +kernel) (by decide +kernel) rfl (Nat.le_of_ble_eq_true rfl) (by omega) rfl hc3 ?_
    obtain ⟨h, hz⟩ := h
    subst h
    exact sj_ret dX4_canChoose_77 rfl (sj_nb hz)
  · replace h := h.2 c1
    refine sj_iload dX4_canChoose_15 rfl ?_
    refine sj_iload dX4_canChoose_17 rfl ?_
    refine sj_ishr dX4_canChoose_19 ?_
    refine sj_iconst (v := (nI 1)) dX4_canChoose_20 (by decide +kernel) ?_
    refine sj_iand dX4_canChoose_21 ?_
    refine sj_if_ne (tgt := 53) dX4_canChoose_22 (by decide) (fun c4 => ?_) (fun c4 => ?_)
    · replace h := h.1 c4
      exact t_X4_canChoose_53 hdd h10 h
    · replace h := h.2 c4
      refine sj_aload_n dX4_canChoose_25 (i := 0) rfl rfl ?_
      refine sj_iload_n dX4_canChoose_26 (i := 1) rfl rfl ?_
      refine sj_iload dX4_canChoose_27 rfl ?_
      refine sj_iload_n dX4_canChoose_29 (i := 3) rfl rfl ?_
      refine sj_iload dX4_canChoose_30 rfl ?_
      obtain ⟨v5, σ5, hc5, h⟩ := h
      refine sj_callVi (M' := me_X4_canTakeIn) (b := 30) (As := [.int x1, .int x5, .int x3, .int x4]) (rest := []) dX4_canChoose_32 gX4_canChoose_X4_canTakeIn rfl hd_X4_canTakeIn (by decide +kernel) (by decide +kernel) rfl (Nat.le_of_ble_eq_true rfl) (by omega) rfl hc5 ?_
      refine sj_if_eq (tgt := 40) dX4_canChoose_35 (by decide) (fun c6 => ?_) (fun c6 => ?_)
      · replace h := h.1 c6
        refine sj_aload_n dX4_canChoose_40 (i := 0) rfl rfl ?_
        refine sj_iload_n dX4_canChoose_41 (i := 1) rfl rfl ?_
        refine sj_iload dX4_canChoose_42 rfl ?_
        refine sj_iload_n dX4_canChoose_44 (i := 3) rfl rfl ?_
        obtain ⟨v7, σ7, hc7, h⟩ := h
        refine sj_callVi (M' := me_X4_mustJoin) (b := 30) (As := [.int x1, .int x5, .int x3]) (rest := []) dX4_canChoose_45 gX4_canChoose_X4_mustJoin rfl hd_X4_mustJoin (by decide +kernel) (by decide +kernel) rfl (Nat.le_of_ble_eq_true rfl) (by omega) rfl hc7 ?_
        refine sj_if_eq (tgt := 53) dX4_canChoose_48 (by decide) (fun c8 => ?_) (fun c8 => ?_)
        · replace h := h.1 c8
          exact t_X4_canChoose_53 hdd h10 h
        · replace h := h.2 c8
          refine sj_iconst (v := (nI 0)) dX4_canChoose_51 (by decide +kernel) ?_
          subst h
          exact sj_ret dX4_canChoose_52 rfl rfl
      · replace h := h.2 c6
        refine sj_iconst (v := (nI 1)) dX4_canChoose_38 (by decide +kernel) ?_
        subst h
        exact sj_ret dX4_canChoose_39 rfl rfl
def wp_X4_canChoose_0 (G : sj_G) (R : sj_R) (d dd : Nat) (x1 : Int32) (x2 : Int32) (x3 : Int32) (x4 : Int32) (σ : sj_S) : Prop := sj_J G d me_X4_canChoose R 3 [.ref (sj_ad G 30), .int x1, .null, .int x3, .int x4, .int x2] σ []
set_option maxRecDepth 20000 in
theorem t_X4_canChoose_0 {G : sj_G} {R : sj_R} {d dd : Nat} {x1 : Int32} {x2 : Int32} {x3 : Int32} {x4 : Int32} {σ : sj_S} (hdd : dd + 1 ≤ d) (h10 : 41 ≤ d) (h : wp_X4_canChoose_0 G R d dd x1 x2 x3 x4 σ) : sj_J G d me_X4_canChoose R 0 [.ref (sj_ad G 30), .int x1, .int x2, .int x3, .int x4, .null] σ [] := by
  unfold wp_X4_canChoose_0 at h
  refine sj_iload_n dX4_canChoose_0 (i := 2) rfl rfl ?_
  refine sj_istore dX4_canChoose_1 (by decide) ?_
  refine sj_fg [2] ?_
  exact h
theorem c_X4_canChoose {G : sj_G} (ok : sj_ok G) {R : sj_R} {d dd : Nat} {x1 : Int32} {x2 : Int32} {x3 : Int32} {x4 : Int32} {σ : sj_S} (hdd : dd + 1 ≤ d) (h10 : 41 ≤ d) (h : wp_X4_canChoose_0 G R d dd x1 x2 x3 x4 σ) : sj_C G d me_X4_canChoose [.ref (sj_ad G 30), .int x1, .int x2, .int x3, .int x4] σ R :=
  sj_enter ok (by decide +kernel) rfl rfl (Nat.le_of_ble_eq_true rfl) (by simp [Value.category]) (t_X4_canChoose_0 hdd h10 h)
def wp_X4_canTakeIn_100 (G : sj_G) (R : sj_R) (d dd : Nat) (s0 : Int32) (σ : sj_S) : Prop := R = (.ok s0, σ) ∧ (s0 = nI 0 ∨ s0 = nI 1)
set_option maxRecDepth 20000 in
theorem t_X4_canTakeIn_100 {G : sj_G} {R : sj_R} {d dd : Nat} {s0 : Int32} {σ : sj_S} (hdd : dd + 1 ≤ d) (h10 : 41 ≤ d) (h : wp_X4_canTakeIn_100 G R d dd s0 σ) : sj_J G d me_X4_canTakeIn R 100 [.null, .null, .null, .null, .null, .null, .null] σ [.int s0] := by
  unfold wp_X4_canTakeIn_100 at h
  obtain ⟨h, hz⟩ := h
  subst h
  exact sj_ret dX4_canTakeIn_100 rfl (sj_nb hz)
def wp_X4_canTakeIn_99 (G : sj_G) (R : sj_R) (d dd : Nat) (σ : sj_S) : Prop := (wp_X4_canTakeIn_100 G R d dd (nI 0) σ)
set_option maxRecDepth 20000 in
theorem t_X4_canTakeIn_99 {G : sj_G} {R : sj_R} {d dd : Nat} {σ : sj_S} (hdd : dd + 1 ≤ d) (h10 : 41 ≤ d) (h : wp_X4_canTakeIn_99 G R d dd σ) : sj_J G d me_X4_canTakeIn R 99 [.null, .null, .null, .null, .null, .null, .null] σ [] := by
  unfold wp_X4_canTakeIn_99 at h
  refine sj_iconst (v := (nI 0)) dX4_canTakeIn_99 (by decide +kernel) ?_
  exact t_X4_canTakeIn_100 hdd h10 h
def wp_X4_canTakeIn_73 (G : sj_G) (R : sj_R) (d dd : Nat) (x1 : Int32) (x2 : Int32) (x4 : Int32) (x5 : Int32) (x6 : Int32) (σ : sj_S) : Prop := ((x6 &&& (nI 2)) = 0 → (wp_X4_canTakeIn_99 G R d dd σ)) ∧ (¬ ((x6 &&& (nI 2)) = 0) → ∃ v3 σ3, sj_C G dd me_X4_canChoose [.ref (sj_ad G 30), .int x1, .int (x2 + (nI 1)), .int x5, .int x4] σ (.ok v3, σ3) ∧ (wp_X4_canTakeIn_100 G R d dd (if v3 = 0 then (nI 0) else (nI 1)) σ3))
set_option maxRecDepth 20000 in
theorem t_X4_canTakeIn_73 {G : sj_G} {R : sj_R} {d dd : Nat} {x1 : Int32} {x2 : Int32} {x4 : Int32} {x5 : Int32} {x6 : Int32} {σ : sj_S} (hdd : dd + 1 ≤ d) (h10 : 41 ≤ d) (h : wp_X4_canTakeIn_73 G R d dd x1 x2 x4 x5 x6 σ) : sj_J G d me_X4_canTakeIn R 73 [.ref (sj_ad G 30), .int x1, .int x2, .null, .int x4, .int x5, .int x6] σ [] := by
  unfold wp_X4_canTakeIn_73 at h
  refine sj_iload dX4_canTakeIn_73 rfl ?_
  refine sj_iconst (v := (nI 2)) dX4_canTakeIn_75 (by decide +kernel) ?_
  refine sj_iand dX4_canTakeIn_76 ?_
  refine sj_if_eq (tgt := 99) dX4_canTakeIn_77 (by decide) (fun c2 => ?_) (fun c2 => ?_)
  · replace h := h.1 c2
    refine sj_fg [0, 1, 2, 4, 5, 6] ?_
    exact t_X4_canTakeIn_99 hdd h10 h
  · replace h := h.2 c2
    refine sj_aload_n dX4_canTakeIn_80 (i := 0) rfl rfl ?_
    refine sj_iload_n dX4_canTakeIn_81 (i := 1) rfl rfl ?_
    refine sj_iload_n dX4_canTakeIn_82 (i := 2) rfl rfl ?_
    refine sj_iconst (v := (nI 1)) dX4_canTakeIn_83 (by decide +kernel) ?_
    refine sj_iadd dX4_canTakeIn_84 ?_
    refine sj_iload dX4_canTakeIn_85 rfl ?_
    refine sj_iload dX4_canTakeIn_87 rfl ?_
    obtain ⟨v3, σ3, hc3, h⟩ := h
    refine sj_callVi (M' := me_X4_canChoose) (b := 30) (As := [.int x1, .int (x2 + (nI 1)), .int x5, .int x4]) (rest := []) dX4_canTakeIn_89 gX4_canTakeIn_X4_canChoose rfl hd_X4_canChoose (by decide +kernel) (by decide +kernel) rfl (Nat.le_of_ble_eq_true rfl) (by omega) rfl hc3 ?_
    refine sj_if_eq (tgt := 99) dX4_canTakeIn_92 (by decide) (fun c4 => ?_) (fun c4 => ?_)
    · refine sj_iconst (v := (nI 0)) dX4_canTakeIn_99 (by decide +kernel) ?_
      try simp only [if_pos c4] at h
      refine sj_fg [0, 1, 2, 4, 5, 6] ?_
      exact t_X4_canTakeIn_100 hdd h10 h
    · refine sj_iconst (v := (nI 1)) dX4_canTakeIn_95 (by decide +kernel) ?_
      refine sj_goto (tgt := 100) dX4_canTakeIn_96 (by decide) ?_
      try simp only [if_neg c4] at h
      refine sj_fg [0, 1, 2, 4, 5, 6] ?_
      exact t_X4_canTakeIn_100 hdd h10 h
def wp_X4_canTakeIn_61 (G : sj_G) (R : sj_R) (d dd : Nat) (x1 : Int32) (x2 : Int32) (x4 : Int32) (x5 : Int32) (s0 : Int32) (s1 : Int32) (σ : sj_S) : Prop := ∃ σ1, sj_C G 3 me_X4_mark [.ref (sj_ad G 30), .int x1, .int x5, .int (s1 ||| s0)] σ (.ok 0, σ1) ∧ (wp_X4_canTakeIn_73 G R d dd x1 x2 x4 x5 (s1 ||| s0) σ1)
set_option maxRecDepth 20000 in
theorem t_X4_canTakeIn_61 {G : sj_G} {R : sj_R} {d dd : Nat} {x1 : Int32} {x2 : Int32} {x4 : Int32} {x5 : Int32} {s0 : Int32} {s1 : Int32} {σ : sj_S} (hdd : dd + 1 ≤ d) (h10 : 41 ≤ d) (h : wp_X4_canTakeIn_61 G R d dd x1 x2 x4 x5 s0 s1 σ) : sj_J G d me_X4_canTakeIn R 61 [.ref (sj_ad G 30), .int x1, .int x2, .null, .int x4, .int x5, .null] σ [.int s0, .int s1] := by
  unfold wp_X4_canTakeIn_61 at h
  refine sj_ior dX4_canTakeIn_61 ?_
  refine sj_istore dX4_canTakeIn_62 (by decide) ?_
  refine sj_aload_n dX4_canTakeIn_64 (i := 0) rfl rfl ?_
  refine sj_iload_n dX4_canTakeIn_65 (i := 1) rfl rfl ?_
  refine sj_iload dX4_canTakeIn_66 rfl ?_
  refine sj_iload dX4_canTakeIn_68 rfl ?_
  obtain ⟨σ1, hc1, h⟩ := h
  refine sj_callVv (M' := me_X4_mark) (b := 30) (As := [.int x1, .int x5, .int (s1 ||| s0)]) (rest := []) dX4_canTakeIn_70 gX4_canTakeIn_X4_mark rfl hd_X4_mark (by decide +kernel) (by decide +kernel) rfl (Nat.le_of_ble_eq_true rfl) (by omega) rfl hc1 ?_
  exact t_X4_canTakeIn_73 hdd h10 h
def wp_X4_canTakeIn_0 (G : sj_G) (R : sj_R) (d dd : Nat) (x1 : Int32) (x2 : Int32) (x3 : Int32) (x4 : Int32) (σ : sj_S) : Prop := ∃ v1 σ1, sj_C G 2 me_X4_mayJoin [.ref (sj_ad G 30), .int x1, .int x2, .int x3, .int x4] σ (.ok v1, σ1) ∧ (¬ v1 = 0 → ∃ v3 σ3, sj_C G 2 me_X4_marksOf [.ref (sj_ad G 30), .int x1, .int (x3 ||| ((nI 1) <<< (x2 &&& 31)))] σ1 (.ok v3, σ3) ∧ (¬ (v3 &&& (nI 1)) = 0 → (wp_X4_canTakeIn_73 G R d dd x1 x2 x4 (x3 ||| ((nI 1) <<< (x2 &&& 31))) v3 σ3)) ∧ ((v3 &&& (nI 1)) = 0 → ∃ v6 σ6, sj_C G 40 me_X4_canStand [.ref (sj_ad G 18), .ref (sj_ad G 35), .int x1, .int (x3 ||| ((nI 1) <<< (x2 &&& 31))), .int (nI 0)] σ3 (.ok v6, σ6) ∧ (wp_X4_canTakeIn_61 G R d dd x1 x2 x4 (x3 ||| ((nI 1) <<< (x2 &&& 31))) (if v6 = 0 then (nI 0) else (nI 2)) (nI 1) σ6))) ∧ (v1 = 0 → R = (.ok (nI 0), σ1))
set_option maxRecDepth 20000 in
theorem t_X4_canTakeIn_0 {G : sj_G} {R : sj_R} {d dd : Nat} {x1 : Int32} {x2 : Int32} {x3 : Int32} {x4 : Int32} {σ : sj_S} (hdd : dd + 1 ≤ d) (h10 : 41 ≤ d) (h : wp_X4_canTakeIn_0 G R d dd x1 x2 x3 x4 σ) : sj_J G d me_X4_canTakeIn R 0 [.ref (sj_ad G 30), .int x1, .int x2, .int x3, .int x4, .null, .null] σ [] := by
  unfold wp_X4_canTakeIn_0 at h
  refine sj_aload_n dX4_canTakeIn_0 (i := 0) rfl rfl ?_
  refine sj_iload_n dX4_canTakeIn_1 (i := 1) rfl rfl ?_
  refine sj_iload_n dX4_canTakeIn_2 (i := 2) rfl rfl ?_
  refine sj_iload_n dX4_canTakeIn_3 (i := 3) rfl rfl ?_
  refine sj_iload dX4_canTakeIn_4 rfl ?_
  obtain ⟨v1, σ1, hc1, h⟩ := h
  refine sj_callVi (M' := me_X4_mayJoin) (b := 30) (As := [.int x1, .int x2, .int x3, .int x4]) (rest := []) dX4_canTakeIn_6 gX4_canTakeIn_X4_mayJoin rfl hd_X4_mayJoin (by decide +kernel) (by decide +kernel) rfl (Nat.le_of_ble_eq_true rfl) (by omega) rfl hc1 ?_
  refine sj_if_ne (tgt := 14) dX4_canTakeIn_9 (by decide) (fun c2 => ?_) (fun c2 => ?_)
  · replace h := h.1 c2
    refine sj_iload_n dX4_canTakeIn_14 (i := 3) rfl rfl ?_
    refine sj_iconst (v := (nI 1)) dX4_canTakeIn_15 (by decide +kernel) ?_
    refine sj_iload_n dX4_canTakeIn_16 (i := 2) rfl rfl ?_
    refine sj_ishl dX4_canTakeIn_17 ?_
    refine sj_ior dX4_canTakeIn_18 ?_
    refine sj_istore dX4_canTakeIn_19 (by decide) ?_
    refine sj_aload_n dX4_canTakeIn_21 (i := 0) rfl rfl ?_
    refine sj_iload_n dX4_canTakeIn_22 (i := 1) rfl rfl ?_
    refine sj_iload dX4_canTakeIn_23 rfl ?_
    obtain ⟨v3, σ3, hc3, h⟩ := h
    refine sj_callVi (M' := me_X4_marksOf) (b := 30) (As := [.int x1, .int (x3 ||| ((nI 1) <<< (x2 &&& 31)))]) (rest := []) dX4_canTakeIn_25 gX4_canTakeIn_X4_marksOf rfl hd_X4_marksOf (by decide +kernel) (by decide +kernel) rfl (Nat.le_of_ble_eq_true rfl) (by omega) rfl hc3 ?_
    refine sj_istore dX4_canTakeIn_28 (by decide) ?_
    refine sj_iload dX4_canTakeIn_30 rfl ?_
    refine sj_iconst (v := (nI 1)) dX4_canTakeIn_32 (by decide +kernel) ?_
    refine sj_iand dX4_canTakeIn_33 ?_
    refine sj_if_ne (tgt := 73) dX4_canTakeIn_34 (by decide) (fun c5 => ?_) (fun c5 => ?_)
    · replace h := h.1 c5
      refine sj_fg [3] ?_
      exact t_X4_canTakeIn_73 hdd h10 h
    · replace h := h.2 c5
      refine sj_iconst (v := (nI 1)) dX4_canTakeIn_37 (by decide +kernel) ?_
      refine sj_aload_n dX4_canTakeIn_38 (i := 0) rfl rfl ?_
      refine sj_get (a := 30) (k9 := 0) (v := .ref (sj_ad G 18)) dX4_canTakeIn_39 (by decide +kernel) rfl ?_
      refine sj_aload_n dX4_canTakeIn_42 (i := 0) rfl rfl ?_
      refine sj_get (a := 30) (k9 := 6) (v := .ref (sj_ad G 35)) dX4_canTakeIn_43 (by decide +kernel) rfl ?_
      refine sj_iload_n dX4_canTakeIn_46 (i := 1) rfl rfl ?_
      refine sj_iload dX4_canTakeIn_47 rfl ?_
      refine sj_iconst (v := (nI 0)) dX4_canTakeIn_49 (by decide +kernel) ?_
      obtain ⟨v6, σ6, hc6, h⟩ := h
      refine sj_callSi (M' := me_X4_canStand) (As := [.ref (sj_ad G 18), .ref (sj_ad G 35), .int x1, .int (x3 ||| ((nI 1) <<< (x2 &&& 31))), .int (nI 0)]) (rest := [.int (nI 1)]) dX4_canTakeIn_50 gX4_canTakeIn_X4_canStand rfl hd_X4_canStand (Nat.le_of_ble_eq_true rfl) (by omega) rfl hc6 ?_
      refine sj_if_eq (tgt := 60) dX4_canTakeIn_53 (by decide) (fun c7 => ?_) (fun c7 => ?_)
      · refine sj_iconst (v := (nI 0)) dX4_canTakeIn_60 (by decide +kernel) ?_
        try simp only [if_pos c7] at h
        refine sj_fg [3, 6] ?_
        exact t_X4_canTakeIn_61 hdd h10 h
      · refine sj_iconst (v := (nI 2)) dX4_canTakeIn_56 (by decide +kernel) ?_
        refine sj_goto (tgt := 61) dX4_canTakeIn_57 (by decide) ?_
        try simp only [if_neg c7] at h
        refine sj_fg [3, 6] ?_
        exact t_X4_canTakeIn_61 hdd h10 h
  · replace h := h.2 c2
    refine sj_iconst (v := (nI 0)) dX4_canTakeIn_12 (by decide +kernel) ?_
    subst h
    exact sj_ret dX4_canTakeIn_13 rfl rfl
theorem c_X4_canTakeIn {G : sj_G} (ok : sj_ok G) {R : sj_R} {d dd : Nat} {x1 : Int32} {x2 : Int32} {x3 : Int32} {x4 : Int32} {σ : sj_S} (hdd : dd + 1 ≤ d) (h10 : 41 ≤ d) (h : wp_X4_canTakeIn_0 G R d dd x1 x2 x3 x4 σ) : sj_C G d me_X4_canTakeIn [.ref (sj_ad G 30), .int x1, .int x2, .int x3, .int x4] σ R :=
  sj_enter ok (by decide +kernel) rfl rfl (Nat.le_of_ble_eq_true rfl) (by simp [Value.category]) (t_X4_canTakeIn_0 hdd h10 h)
def wp_X4_mayJoin_82 (G : sj_G) (R : sj_R) (s0 : Int32) (σ : sj_S) : Prop := R = (.ok s0, σ) ∧ (s0 = nI 0 ∨ s0 = nI 1)
set_option maxRecDepth 20000 in
theorem t_X4_mayJoin_82 {G : sj_G} {R : sj_R} {s0 : Int32} {σ : sj_S} (h : wp_X4_mayJoin_82 G R s0 σ) : sj_J G 2 me_X4_mayJoin R 82 [.null, .null, .null, .null, .null, .null, .null] σ [.int s0] := by
  unfold wp_X4_mayJoin_82 at h
  obtain ⟨h, hz⟩ := h
  subst h
  exact sj_ret dX4_mayJoin_82 rfl (sj_nb hz)
def wp_X4_mayJoin_0 (G : sj_G) (R : sj_R) (x1 : Int32) (x2 : Int32) (x3 : Int32) (x4 : Int32) (σ : sj_S) : Prop := vp_in x2 9 ∧ vp_in x2 9 ∧ vp_in x2 9 ∧ ((¬ ((((σ 19 x2.toNatClampNeg) >>> ((x1 * (nI 4)) &&& 31)) &&& (nI 15)) = 0)) → vp_in x2 9) ∧ (wp_X4_mayJoin_82 G R (if (((σ 19 x2.toNatClampNeg) >>> ((x1 * (nI 4)) &&& 31)) &&& (nI 15)) = 0 then (nI 0) else (if ((σ 23 x2.toNatClampNeg) &&& x4) = 0 then (if ((((σ 25 x2.toNatClampNeg) ||| (σ 23 x2.toNatClampNeg)) &&& (((nI 1) <<< (x2 &&& 31)) - (nI 1))) &&& ((x4 ||| x3) ^^^ (-1))) = 0 then (nI 1) else (nI 0)) else (nI 0))) σ)
set_option maxRecDepth 20000 in
theorem t_X4_mayJoin_0 {G : sj_G} {R : sj_R} {x1 : Int32} {x2 : Int32} {x3 : Int32} {x4 : Int32} {σ : sj_S} (h : wp_X4_mayJoin_0 G R x1 x2 x3 x4 σ) : sj_J G 2 me_X4_mayJoin R 0 [.ref (sj_ad G 30), .int x1, .int x2, .int x3, .int x4, .null, .null] σ [] := by
  unfold wp_X4_mayJoin_0 at h
  refine sj_aload_n dX4_mayJoin_0 (i := 0) rfl rfl ?_
  refine sj_get (a := 30) (k9 := 0) (v := .ref (sj_ad G 18)) dX4_mayJoin_1 (by decide +kernel) rfl ?_
  refine sj_get (a := 18) (k9 := 7) (v := .ref (sj_ad G 25)) dX4_mayJoin_4 (by decide +kernel) rfl ?_
  refine sj_iload_n dX4_mayJoin_7 (i := 2) rfl rfl ?_
  obtain ⟨b1, h⟩ := h
  refine sj_iald (a := 25) (j := x2.toNatClampNeg) (x := (σ 25 x2.toNatClampNeg)) dX4_mayJoin_8 rfl (by decide +kernel) b1 rfl rfl ?_
  refine sj_aload_n dX4_mayJoin_9 (i := 0) rfl rfl ?_
  refine sj_get (a := 30) (k9 := 0) (v := .ref (sj_ad G 18)) dX4_mayJoin_10 (by decide +kernel) rfl ?_
  refine sj_get (a := 18) (k9 := 5) (v := .ref (sj_ad G 23)) dX4_mayJoin_13 (by decide +kernel) rfl ?_
  refine sj_iload_n dX4_mayJoin_16 (i := 2) rfl rfl ?_
  obtain ⟨b2, h⟩ := h
  refine sj_iald (a := 23) (j := x2.toNatClampNeg) (x := (σ 23 x2.toNatClampNeg)) dX4_mayJoin_17 rfl (by decide +kernel) b2 rfl rfl ?_
  refine sj_ior dX4_mayJoin_18 ?_
  refine sj_istore dX4_mayJoin_19 (by decide) ?_
  refine sj_iconst (v := (nI 1)) dX4_mayJoin_21 (by decide +kernel) ?_
  refine sj_iload_n dX4_mayJoin_22 (i := 2) rfl rfl ?_
  refine sj_ishl dX4_mayJoin_23 ?_
  refine sj_iconst (v := (nI 1)) dX4_mayJoin_24 (by decide +kernel) ?_
  refine sj_isub dX4_mayJoin_25 ?_
  refine sj_istore dX4_mayJoin_26 (by decide) ?_
  refine sj_aload_n dX4_mayJoin_28 (i := 0) rfl rfl ?_
  refine sj_get (a := 30) (k9 := 0) (v := .ref (sj_ad G 18)) dX4_mayJoin_29 (by decide +kernel) rfl ?_
  refine sj_get (a := 18) (k9 := 1) (v := .ref (sj_ad G 19)) dX4_mayJoin_32 (by decide +kernel) rfl ?_
  refine sj_iload_n dX4_mayJoin_35 (i := 2) rfl rfl ?_
  obtain ⟨b3, h⟩ := h
  refine sj_iald (a := 19) (j := x2.toNatClampNeg) (x := (σ 19 x2.toNatClampNeg)) dX4_mayJoin_36 rfl (by decide +kernel) b3 rfl rfl ?_
  refine sj_iload_n dX4_mayJoin_37 (i := 1) rfl rfl ?_
  refine sj_iconst (v := (nI 4)) dX4_mayJoin_38 (by decide +kernel) ?_
  refine sj_imul dX4_mayJoin_39 ?_
  refine sj_ishr dX4_mayJoin_40 ?_
  refine sj_bipush (v := (nI 15)) dX4_mayJoin_41 (by decide +kernel) ?_
  refine sj_iand dX4_mayJoin_43 ?_
  obtain ⟨f8, h⟩ := h
  refine sj_if_eq (tgt := 81) dX4_mayJoin_44 (by decide) (fun c4 => ?_) (fun c4 => ?_)
  · refine sj_iconst (v := (nI 0)) dX4_mayJoin_81 (by decide +kernel) ?_
    try simp only [if_pos c4] at h
    refine sj_fg [0, 1, 2, 3, 4, 5, 6] ?_
    exact t_X4_mayJoin_82 h
  · have b5 := f8 c4
    refine sj_aload_n dX4_mayJoin_47 (i := 0) rfl rfl ?_
    refine sj_get (a := 30) (k9 := 0) (v := .ref (sj_ad G 18)) dX4_mayJoin_48 (by decide +kernel) rfl ?_
    refine sj_get (a := 18) (k9 := 5) (v := .ref (sj_ad G 23)) dX4_mayJoin_51 (by decide +kernel) rfl ?_
    refine sj_iload_n dX4_mayJoin_54 (i := 2) rfl rfl ?_
    refine sj_iald (a := 23) (j := x2.toNatClampNeg) (x := (σ 23 x2.toNatClampNeg)) dX4_mayJoin_55 rfl (by decide +kernel) b5 rfl rfl ?_
    refine sj_iload dX4_mayJoin_56 rfl ?_
    refine sj_iand dX4_mayJoin_58 ?_
    refine sj_if_ne (tgt := 81) dX4_mayJoin_59 (by decide) (fun c6 => ?_) (fun c6 => ?_)
    · refine sj_iconst (v := (nI 0)) dX4_mayJoin_81 (by decide +kernel) ?_
      try simp only [if_neg c4, if_neg c6] at h
      refine sj_fg [0, 1, 2, 3, 4, 5, 6] ?_
      exact t_X4_mayJoin_82 h
    · refine sj_iload dX4_mayJoin_62 rfl ?_
      refine sj_iload dX4_mayJoin_64 rfl ?_
      refine sj_iand dX4_mayJoin_66 ?_
      refine sj_iload dX4_mayJoin_67 rfl ?_
      refine sj_iload_n dX4_mayJoin_69 (i := 3) rfl rfl ?_
      refine sj_ior dX4_mayJoin_70 ?_
      refine sj_iconst (v := (-1)) dX4_mayJoin_71 (by decide +kernel) ?_
      refine sj_ixor dX4_mayJoin_72 ?_
      refine sj_iand dX4_mayJoin_73 ?_
      refine sj_if_ne (tgt := 81) dX4_mayJoin_74 (by decide) (fun c7 => ?_) (fun c7 => ?_)
      · refine sj_iconst (v := (nI 0)) dX4_mayJoin_81 (by decide +kernel) ?_
        try simp only [if_neg c4, if_pos c6, if_neg c7] at h
        refine sj_fg [0, 1, 2, 3, 4, 5, 6] ?_
        exact t_X4_mayJoin_82 h
      · refine sj_iconst (v := (nI 1)) dX4_mayJoin_77 (by decide +kernel) ?_
        refine sj_goto (tgt := 82) dX4_mayJoin_78 (by decide) ?_
        try simp only [if_neg c4, if_pos c6, if_pos c7] at h
        refine sj_fg [0, 1, 2, 3, 4, 5, 6] ?_
        exact t_X4_mayJoin_82 h
theorem c_X4_mayJoin {G : sj_G} (ok : sj_ok G) {R : sj_R} {x1 : Int32} {x2 : Int32} {x3 : Int32} {x4 : Int32} {σ : sj_S} (h : wp_X4_mayJoin_0 G R x1 x2 x3 x4 σ) : sj_C G 2 me_X4_mayJoin [.ref (sj_ad G 30), .int x1, .int x2, .int x3, .int x4] σ R :=
  sj_enter ok (by decide +kernel) rfl rfl (Nat.le_of_ble_eq_true rfl) (by simp [Value.category]) (t_X4_mayJoin_0 h)
def wp_X4_mustJoin_59 (G : sj_G) (R : sj_R) (s0 : Int32) (σ : sj_S) : Prop := R = (.ok s0, σ) ∧ (s0 = nI 0 ∨ s0 = nI 1)
set_option maxRecDepth 20000 in
theorem t_X4_mustJoin_59 {G : sj_G} {R : sj_R} {s0 : Int32} {σ : sj_S} (h : wp_X4_mustJoin_59 G R s0 σ) : sj_J G 2 me_X4_mustJoin R 59 [.null, .null, .null, .null, .null] σ [.int s0] := by
  unfold wp_X4_mustJoin_59 at h
  obtain ⟨h, hz⟩ := h
  subst h
  exact sj_ret dX4_mustJoin_59 rfl (sj_nb hz)
def wp_X4_mustJoin_23 (G : sj_G) (R : sj_R) (x2 : Int32) (x3 : Int32) (s0 : Int32) (σ : sj_S) : Prop := ((s0 = 0) → vp_in x2 9 ∧ vp_in x2 9) ∧ (wp_X4_mustJoin_59 G R (if s0 = 0 then (if (((σ 26 x2.toNatClampNeg) ||| (σ 23 x2.toNatClampNeg)) &&& x3) = 0 then (nI 0) else (nI 1)) else (nI 1)) σ)
set_option maxRecDepth 20000 in
theorem t_X4_mustJoin_23 {G : sj_G} {R : sj_R} {x2 : Int32} {x3 : Int32} {s0 : Int32} {σ : sj_S} (h : wp_X4_mustJoin_23 G R x2 x3 s0 σ) : sj_J G 2 me_X4_mustJoin R 23 [.ref (sj_ad G 30), .null, .int x2, .int x3, .null] σ [.int s0] := by
  unfold wp_X4_mustJoin_23 at h
  refine sj_istore dX4_mustJoin_23 (by decide) ?_
  refine sj_iload dX4_mustJoin_25 rfl ?_
  obtain ⟨f5, h⟩ := h
  refine sj_if_ne (tgt := 54) dX4_mustJoin_27 (by decide) (fun c1 => ?_) (fun c1 => ?_)
  · refine sj_iconst (v := (nI 1)) dX4_mustJoin_54 (by decide +kernel) ?_
    refine sj_goto (tgt := 59) dX4_mustJoin_55 (by decide) ?_
    try simp only [if_neg c1] at h
    refine sj_fg [0, 2, 3, 4] ?_
    exact t_X4_mustJoin_59 h
  · obtain ⟨b2, b3⟩ := f5 c1
    refine sj_aload_n dX4_mustJoin_30 (i := 0) rfl rfl ?_
    refine sj_get (a := 30) (k9 := 0) (v := .ref (sj_ad G 18)) dX4_mustJoin_31 (by decide +kernel) rfl ?_
    refine sj_get (a := 18) (k9 := 8) (v := .ref (sj_ad G 26)) dX4_mustJoin_34 (by decide +kernel) rfl ?_
    refine sj_iload_n dX4_mustJoin_37 (i := 2) rfl rfl ?_
    refine sj_iald (a := 26) (j := x2.toNatClampNeg) (x := (σ 26 x2.toNatClampNeg)) dX4_mustJoin_38 rfl (by decide +kernel) b2 rfl rfl ?_
    refine sj_aload_n dX4_mustJoin_39 (i := 0) rfl rfl ?_
    refine sj_get (a := 30) (k9 := 0) (v := .ref (sj_ad G 18)) dX4_mustJoin_40 (by decide +kernel) rfl ?_
    refine sj_get (a := 18) (k9 := 5) (v := .ref (sj_ad G 23)) dX4_mustJoin_43 (by decide +kernel) rfl ?_
    refine sj_iload_n dX4_mustJoin_46 (i := 2) rfl rfl ?_
    refine sj_iald (a := 23) (j := x2.toNatClampNeg) (x := (σ 23 x2.toNatClampNeg)) dX4_mustJoin_47 rfl (by decide +kernel) b3 rfl rfl ?_
    refine sj_ior dX4_mustJoin_48 ?_
    refine sj_iload_n dX4_mustJoin_49 (i := 3) rfl rfl ?_
    refine sj_iand dX4_mustJoin_50 ?_
    refine sj_if_eq (tgt := 58) dX4_mustJoin_51 (by decide) (fun c4 => ?_) (fun c4 => ?_)
    · refine sj_iconst (v := (nI 0)) dX4_mustJoin_58 (by decide +kernel) ?_
      try simp only [if_pos c1, if_pos c4] at h
      refine sj_fg [0, 2, 3, 4] ?_
      exact t_X4_mustJoin_59 h
    · refine sj_iconst (v := (nI 1)) dX4_mustJoin_54 (by decide +kernel) ?_
      refine sj_goto (tgt := 59) dX4_mustJoin_55 (by decide) ?_
      try simp only [if_pos c1, if_neg c4] at h
      refine sj_fg [0, 2, 3, 4] ?_
      exact t_X4_mustJoin_59 h
def wp_X4_mustJoin_0 (G : sj_G) (R : sj_R) (x1 : Int32) (x2 : Int32) (x3 : Int32) (σ : sj_S) : Prop := vp_in x2 9 ∧ (wp_X4_mustJoin_23 G R x2 x3 (if ((σ 19 x2.toNatClampNeg) >>> (((x1 + (nI 1)) * (nI 4)) &&& 31)) = 0 then (nI 1) else (nI 0)) σ)
set_option maxRecDepth 20000 in
theorem t_X4_mustJoin_0 {G : sj_G} {R : sj_R} {x1 : Int32} {x2 : Int32} {x3 : Int32} {σ : sj_S} (h : wp_X4_mustJoin_0 G R x1 x2 x3 σ) : sj_J G 2 me_X4_mustJoin R 0 [.ref (sj_ad G 30), .int x1, .int x2, .int x3, .null] σ [] := by
  unfold wp_X4_mustJoin_0 at h
  refine sj_aload_n dX4_mustJoin_0 (i := 0) rfl rfl ?_
  refine sj_get (a := 30) (k9 := 0) (v := .ref (sj_ad G 18)) dX4_mustJoin_1 (by decide +kernel) rfl ?_
  refine sj_get (a := 18) (k9 := 1) (v := .ref (sj_ad G 19)) dX4_mustJoin_4 (by decide +kernel) rfl ?_
  refine sj_iload_n dX4_mustJoin_7 (i := 2) rfl rfl ?_
  obtain ⟨b1, h⟩ := h
  refine sj_iald (a := 19) (j := x2.toNatClampNeg) (x := (σ 19 x2.toNatClampNeg)) dX4_mustJoin_8 rfl (by decide +kernel) b1 rfl rfl ?_
  refine sj_iload_n dX4_mustJoin_9 (i := 1) rfl rfl ?_
  refine sj_iconst (v := (nI 1)) dX4_mustJoin_10 (by decide +kernel) ?_
  refine sj_iadd dX4_mustJoin_11 ?_
  refine sj_iconst (v := (nI 4)) dX4_mustJoin_12 (by decide +kernel) ?_
  refine sj_imul dX4_mustJoin_13 ?_
  refine sj_ishr dX4_mustJoin_14 ?_
  refine sj_if_ne (tgt := 22) dX4_mustJoin_15 (by decide) (fun c2 => ?_) (fun c2 => ?_)
  · refine sj_iconst (v := (nI 0)) dX4_mustJoin_22 (by decide +kernel) ?_
    try simp only [if_neg c2] at h
    refine sj_fg [1] ?_
    exact t_X4_mustJoin_23 h
  · refine sj_iconst (v := (nI 1)) dX4_mustJoin_18 (by decide +kernel) ?_
    refine sj_goto (tgt := 23) dX4_mustJoin_19 (by decide) ?_
    try simp only [if_pos c2] at h
    refine sj_fg [1] ?_
    exact t_X4_mustJoin_23 h
theorem c_X4_mustJoin {G : sj_G} (ok : sj_ok G) {R : sj_R} {x1 : Int32} {x2 : Int32} {x3 : Int32} {σ : sj_S} (h : wp_X4_mustJoin_0 G R x1 x2 x3 σ) : sj_C G 2 me_X4_mustJoin [.ref (sj_ad G 30), .int x1, .int x2, .int x3] σ R :=
  sj_enter ok (by decide +kernel) rfl rfl (Nat.le_of_ble_eq_true rfl) (by simp [Value.category]) (t_X4_mustJoin_0 h)
def wp_X4_canStand_28 (G : sj_G) (R : sj_R) (d dd : Nat) (x2 : Int32) (x3 : Int32) (x5 : Int32) (σ : sj_S) : Prop := (x5 < (σ 18 0) → ∃ v2 σ2, sj_C G 2 me_X7_allowed [.ref (sj_ad G 18), .int x5, .ref (sj_ad G 35), .int (x3 &&& (((nI 1) <<< (x5 &&& 31)) - (nI 1)))] σ (.ok v2, σ2) ∧ sj_J G d me_X4_canStand R 61 [.ref (sj_ad G 18), .ref (sj_ad G 35), .int x2, .int x3, .null, .int x5, .int v2, .int (x2 * (nI 4))] σ2 []) ∧ (¬ (x5 < (σ 18 0)) → R = (.ok (nI 1), σ))
set_option maxRecDepth 20000 in
theorem t_X4_canStand_28 {G : sj_G} {R : sj_R} {d dd : Nat} {x2 : Int32} {x3 : Int32} {x5 : Int32} {σ : sj_S} (hdd : dd + 1 ≤ d) (h10 : 10 ≤ d) (h : wp_X4_canStand_28 G R d dd x2 x3 x5 σ) : sj_J G d me_X4_canStand R 28 [.ref (sj_ad G 18), .ref (sj_ad G 35), .int x2, .int x3, .null, .int x5, .null, .null] σ [] := by
  unfold wp_X4_canStand_28 at h
  refine sj_iload dX4_canStand_28 rfl ?_
  refine sj_aload_n dX4_canStand_30 (i := 0) rfl rfl ?_
  refine sj_get (a := 18) (k9 := 0) (v := .int (σ 18 0)) dX4_canStand_31 (by decide +kernel) rfl ?_
  refine sj_icmp_lt (tgt := 39) dX4_canStand_34 (by decide) (fun c1 => ?_) (fun c1 => ?_)
  · replace h := h.1 c1
    refine sj_aload_n dX4_canStand_39 (i := 0) rfl rfl ?_
    refine sj_iload dX4_canStand_40 rfl ?_
    refine sj_aload_n dX4_canStand_42 (i := 1) rfl rfl ?_
    refine sj_iload_n dX4_canStand_43 (i := 3) rfl rfl ?_
    refine sj_iconst (v := (nI 1)) dX4_canStand_44 (by decide +kernel) ?_
    refine sj_iload dX4_canStand_45 rfl ?_
    refine sj_ishl dX4_canStand_47 ?_
    refine sj_iconst (v := (nI 1)) dX4_canStand_48 (by decide +kernel) ?_
    refine sj_isub dX4_canStand_49 ?_
    refine sj_iand dX4_canStand_50 ?_
    obtain ⟨v2, σ2, hc2, h⟩ := h
    refine sj_callVi (M' := me_X7_allowed) (b := 18) (As := [.int x5, .ref (sj_ad G 35), .int (x3 &&& (((nI 1) <<< (x5 &&& 31)) - (nI 1)))]) (rest := []) dX4_canStand_51 gX4_canStand_X7_allowed rfl hd_X7_allowed (by decide +kernel) (by decide +kernel) rfl (Nat.le_of_ble_eq_true rfl) (by omega) rfl hc2 ?_
    refine sj_istore dX4_canStand_54 (by decide) ?_
    refine sj_iload_n dX4_canStand_56 (i := 2) rfl rfl ?_
    refine sj_iconst (v := (nI 4)) dX4_canStand_57 (by decide +kernel) ?_
    refine sj_imul dX4_canStand_58 ?_
    refine sj_istore dX4_canStand_59 (by decide) ?_
    exact h
  · replace h := h.2 c1
    refine sj_iconst (v := (nI 1)) dX4_canStand_37 (by decide +kernel) ?_
    subst h
    exact sj_ret dX4_canStand_38 rfl rfl
def wp_X4_canStand_4 (G : sj_G) (R : sj_R) (d dd : Nat) (x2 : Int32) (x3 : Int32) (x5 : Int32) (σ : sj_S) : Prop := ((σ 18 0) ≤ x5 → (wp_X4_canStand_28 G R d dd x2 x3 x5 σ)) ∧ (¬ ((σ 18 0) ≤ x5) → (¬ ((x3 >>> (x5 &&& 31)) &&& (nI 1)) = 0 → (wp_X4_canStand_28 G R d dd x2 x3 x5 σ)) ∧ (((x3 >>> (x5 &&& 31)) &&& (nI 1)) = 0 → sj_J G d me_X4_canStand R 4 [.ref (sj_ad G 18), .ref (sj_ad G 35), .int x2, .int x3, .null, .int (x5 + (nI 1)), .null, .null] σ []))
set_option maxRecDepth 20000 in
theorem t_X4_canStand_4 {G : sj_G} {R : sj_R} {d dd : Nat} {x2 : Int32} {x3 : Int32} {x5 : Int32} {σ : sj_S} (hdd : dd + 1 ≤ d) (h10 : 10 ≤ d) (h : wp_X4_canStand_4 G R d dd x2 x3 x5 σ) : sj_J G d me_X4_canStand R 4 [.ref (sj_ad G 18), .ref (sj_ad G 35), .int x2, .int x3, .null, .int x5, .null, .null] σ [] := by
  unfold wp_X4_canStand_4 at h
  refine sj_iload dX4_canStand_4 rfl ?_
  refine sj_aload_n dX4_canStand_6 (i := 0) rfl rfl ?_
  refine sj_get (a := 18) (k9 := 0) (v := .int (σ 18 0)) dX4_canStand_7 (by decide +kernel) rfl ?_
  refine sj_icmp_ge (tgt := 28) dX4_canStand_10 (by decide) (fun c3 => ?_) (fun c3 => ?_)
  · replace h := h.1 c3
    exact t_X4_canStand_28 hdd h10 h
  · replace h := h.2 c3
    refine sj_iload_n dX4_canStand_13 (i := 3) rfl rfl ?_
    refine sj_iload dX4_canStand_14 rfl ?_
    refine sj_ishr dX4_canStand_16 ?_
    refine sj_iconst (v := (nI 1)) dX4_canStand_17 (by decide +kernel) ?_
    refine sj_iand dX4_canStand_18 ?_
    refine sj_if_ne (tgt := 28) dX4_canStand_19 (by decide) (fun c5 => ?_) (fun c5 => ?_)
    · replace h := h.1 c5
      exact t_X4_canStand_28 hdd h10 h
    · replace h := h.2 c5
      refine sj_iinc (v := (x5 + (nI 1))) dX4_canStand_22 (by decide) rfl rfl ?_
      refine sj_goto (tgt := 4) dX4_canStand_25 (by decide) ?_
      exact h
def wp_X4_canStand_103 (G : sj_G) (R : sj_R) (d dd : Nat) (x2 : Int32) (x3 : Int32) (x5 : Int32) (x6 : Int32) (x7 : Int32) (σ : sj_S) : Prop := sj_J G d me_X4_canStand R 61 [.ref (sj_ad G 18), .ref (sj_ad G 35), .int x2, .int x3, .null, .int x5, .int x6, .int (x7 + (nI 1))] σ []
set_option maxRecDepth 20000 in
theorem t_X4_canStand_103 {G : sj_G} {R : sj_R} {d dd : Nat} {x2 : Int32} {x3 : Int32} {x5 : Int32} {x6 : Int32} {x7 : Int32} {σ : sj_S} (hdd : dd + 1 ≤ d) (h10 : 10 ≤ d) (h : wp_X4_canStand_103 G R d dd x2 x3 x5 x6 x7 σ) : sj_J G d me_X4_canStand R 103 [.ref (sj_ad G 18), .ref (sj_ad G 35), .int x2, .int x3, .null, .int x5, .int x6, .int x7] σ [] := by
  unfold wp_X4_canStand_103 at h
  refine sj_iinc (v := (x7 + (nI 1))) dX4_canStand_103 (by decide) rfl rfl ?_
  refine sj_goto (tgt := 61) dX4_canStand_106 (by decide) ?_
  exact h
def wp_X4_canStand_61 (G : sj_G) (R : sj_R) (d dd : Nat) (x2 : Int32) (x3 : Int32) (x5 : Int32) (x6 : Int32) (x7 : Int32) (σ : sj_S) : Prop := (((x2 + (nI 1)) * (nI 4)) ≤ x7 → R = (.ok (nI 0), σ)) ∧ (¬ (((x2 + (nI 1)) * (nI 4)) ≤ x7) → (((x6 >>> (x7 &&& 31)) &&& (nI 1)) = 0 → (wp_X4_canStand_103 G R d dd x2 x3 x5 x6 x7 σ)) ∧ (¬ (((x6 >>> (x7 &&& 31)) &&& (nI 1)) = 0) → vp_in x5 9 ∧ ∃ v4 σ4, sj_C G dd me_X4_canStand [.ref (sj_ad G 18), .ref (sj_ad G 35), .int x2, .int x3, .int (x5 + (nI 1))] (sj_st σ 35 x5.toNatClampNeg x7) (.ok v4, σ4) ∧ (v4 = 0 → (wp_X4_canStand_103 G R d dd x2 x3 x5 x6 x7 σ4)) ∧ (¬ (v4 = 0) → R = (.ok (nI 1), σ4))))
set_option maxRecDepth 20000 in
theorem t_X4_canStand_61 {G : sj_G} {R : sj_R} {d dd : Nat} {x2 : Int32} {x3 : Int32} {x5 : Int32} {x6 : Int32} {x7 : Int32} {σ : sj_S} (hdd : dd + 1 ≤ d) (h10 : 10 ≤ d) (h : wp_X4_canStand_61 G R d dd x2 x3 x5 x6 x7 σ) : sj_J G d me_X4_canStand R 61 [.ref (sj_ad G 18), .ref (sj_ad G 35), .int x2, .int x3, .null, .int x5, .int x6, .int x7] σ [] := by
  unfold wp_X4_canStand_61 at h
  refine sj_iload dX4_canStand_61 rfl ?_
  refine sj_iload_n dX4_canStand_63 (i := 2) rfl rfl ?_
  refine sj_iconst (v := (nI 1)) dX4_canStand_64 (by decide +kernel) ?_
  refine sj_iadd dX4_canStand_65 ?_
  refine sj_iconst (v := (nI 4)) dX4_canStand_66 (by decide +kernel) ?_
  refine sj_imul dX4_canStand_67 ?_
  refine sj_icmp_ge (tgt := 109) dX4_canStand_68 (by decide) (fun c1 => ?_) (fun c1 => ?_)
  · replace h := h.1 c1
    refine sj_iconst (v := (nI 0)) dX4_canStand_109 (by decide +kernel) ?_
    subst h
    exact sj_ret dX4_canStand_110 rfl rfl
  · replace h := h.2 c1
    refine sj_iload dX4_canStand_71 rfl ?_
    refine sj_iload dX4_canStand_73 rfl ?_
    refine sj_ishr dX4_canStand_75 ?_
    refine sj_iconst (v := (nI 1)) dX4_canStand_76 (by decide +kernel) ?_
    refine sj_iand dX4_canStand_77 ?_
    refine sj_if_eq (tgt := 103) dX4_canStand_78 (by decide) (fun c2 => ?_) (fun c2 => ?_)
    · replace h := h.1 c2
      exact t_X4_canStand_103 hdd h10 h
    · replace h := h.2 c2
      refine sj_aload_n dX4_canStand_81 (i := 1) rfl rfl ?_
      refine sj_iload dX4_canStand_82 rfl ?_
      refine sj_iload dX4_canStand_84 rfl ?_
      obtain ⟨b3, h⟩ := h
      refine sj_iast (a := 35) (j := x5.toNatClampNeg) dX4_canStand_86 rfl (by decide +kernel) b3 rfl ?_
      refine sj_aload_n dX4_canStand_87 (i := 0) rfl rfl ?_
      refine sj_aload_n dX4_canStand_88 (i := 1) rfl rfl ?_
      refine sj_iload_n dX4_canStand_89 (i := 2) rfl rfl ?_
      refine sj_iload_n dX4_canStand_90 (i := 3) rfl rfl ?_
      refine sj_iload dX4_canStand_91 rfl ?_
      refine sj_iconst (v := (nI 1)) dX4_canStand_93 (by decide +kernel) ?_
      refine sj_iadd dX4_canStand_94 ?_
      obtain ⟨v4, σ4, hc4, h⟩ := h
      refine sj_callSi (M' := me_X4_canStand) (As := [.ref (sj_ad G 18), .ref (sj_ad G 35), .int x2, .int x3, .int (x5 + (nI 1))]) (rest := []) dX4_canStand_95 gX4_canStand_X4_canStand rfl hd_X4_canStand (Nat.le_of_ble_eq_true rfl) (by omega) rfl hc4 ?_
      refine sj_if_eq (tgt := 103) dX4_canStand_98 (by decide) (fun c5 => ?_) (fun c5 => ?_)
      · replace h := h.1 c5
        exact t_X4_canStand_103 hdd h10 h
      · replace h := h.2 c5
        refine sj_iconst (v := (nI 1)) dX4_canStand_101 (by decide +kernel) ?_
        subst h
        exact sj_ret dX4_canStand_102 rfl rfl
def wp_X4_canStand_0 (G : sj_G) (R : sj_R) (d dd : Nat) (x2 : Int32) (x3 : Int32) (x4 : Int32) (σ : sj_S) : Prop := sj_J G d me_X4_canStand R 4 [.ref (sj_ad G 18), .ref (sj_ad G 35), .int x2, .int x3, .null, .int x4, .null, .null] σ []
set_option maxRecDepth 20000 in
theorem t_X4_canStand_0 {G : sj_G} {R : sj_R} {d dd : Nat} {x2 : Int32} {x3 : Int32} {x4 : Int32} {σ : sj_S} (hdd : dd + 1 ≤ d) (h10 : 10 ≤ d) (h : wp_X4_canStand_0 G R d dd x2 x3 x4 σ) : sj_J G d me_X4_canStand R 0 [.ref (sj_ad G 18), .ref (sj_ad G 35), .int x2, .int x3, .int x4, .null, .null, .null] σ [] := by
  unfold wp_X4_canStand_0 at h
  refine sj_iload dX4_canStand_0 rfl ?_
  refine sj_istore dX4_canStand_2 (by decide) ?_
  refine sj_fg [4] ?_
  exact h
theorem c_X4_canStand {G : sj_G} (ok : sj_ok G) {R : sj_R} {d dd : Nat} {x2 : Int32} {x3 : Int32} {x4 : Int32} {σ : sj_S} (hdd : dd + 1 ≤ d) (h10 : 10 ≤ d) (h : wp_X4_canStand_0 G R d dd x2 x3 x4 σ) : sj_C G d me_X4_canStand [.ref (sj_ad G 18), .ref (sj_ad G 35), .int x2, .int x3, .int x4] σ R :=
  sj_enter ok (by decide +kernel) rfl rfl (Nat.le_of_ble_eq_true rfl) (by simp [Value.category]) (t_X4_canStand_0 hdd h10 h)
def wp_X4_marksOf_31 (G : sj_G) (R : sj_R) (s0 : Int32) (σ : sj_S) : Prop := R = (.ok s0, σ)
set_option maxRecDepth 20000 in
theorem t_X4_marksOf_31 {G : sj_G} {R : sj_R} {s0 : Int32} {σ : sj_S} (h : wp_X4_marksOf_31 G R s0 σ) : sj_J G 2 me_X4_marksOf R 31 [.null, .null, .null, .null] σ [.int s0] := by
  unfold wp_X4_marksOf_31 at h
  subst h
  exact sj_ret dX4_marksOf_31 rfl rfl
def wp_X4_marksOf_0 (G : sj_G) (R : sj_R) (x1 : Int32) (x2 : Int32) (σ : sj_S) : Prop := vp_in ((x1 * (nI 512)) + x2) 2560 ∧ (wp_X4_marksOf_31 G R (if ((σ 33 ((x1 * (nI 512)) + x2).toNatClampNeg) >>> ((nI 3) &&& 31)) = (σ 30 7) then ((σ 33 ((x1 * (nI 512)) + x2).toNatClampNeg) &&& (nI 7)) else (nI 0)) σ)
set_option maxRecDepth 20000 in
theorem t_X4_marksOf_0 {G : sj_G} {R : sj_R} {x1 : Int32} {x2 : Int32} {σ : sj_S} (h : wp_X4_marksOf_0 G R x1 x2 σ) : sj_J G 2 me_X4_marksOf R 0 [.ref (sj_ad G 30), .int x1, .int x2, .null] σ [] := by
  unfold wp_X4_marksOf_0 at h
  refine sj_aload_n dX4_marksOf_0 (i := 0) rfl rfl ?_
  refine sj_get (a := 30) (k9 := 4) (v := .ref (sj_ad G 33)) dX4_marksOf_1 (by decide +kernel) rfl ?_
  refine sj_iload_n dX4_marksOf_4 (i := 1) rfl rfl ?_
  refine sj_sipush (v := (nI 512)) dX4_marksOf_5 (by decide +kernel) ?_
  refine sj_imul dX4_marksOf_8 ?_
  refine sj_iload_n dX4_marksOf_9 (i := 2) rfl rfl ?_
  refine sj_iadd dX4_marksOf_10 ?_
  obtain ⟨b1, h⟩ := h
  refine sj_iald (a := 33) (j := ((x1 * (nI 512)) + x2).toNatClampNeg) (x := (σ 33 ((x1 * (nI 512)) + x2).toNatClampNeg)) dX4_marksOf_11 rfl (by decide +kernel) b1 rfl rfl ?_
  refine sj_istore_n dX4_marksOf_12 (i := 3) rfl (by decide) ?_
  refine sj_iload_n dX4_marksOf_13 (i := 3) rfl rfl ?_
  refine sj_iconst (v := (nI 3)) dX4_marksOf_14 (by decide +kernel) ?_
  refine sj_ishr dX4_marksOf_15 ?_
  refine sj_aload_n dX4_marksOf_16 (i := 0) rfl rfl ?_
  refine sj_get (a := 30) (k9 := 7) (v := .int (σ 30 7)) dX4_marksOf_17 (by decide +kernel) rfl ?_
  refine sj_icmp_ne (tgt := 30) dX4_marksOf_20 (by decide) (fun c2 => ?_) (fun c2 => ?_)
  · refine sj_iconst (v := (nI 0)) dX4_marksOf_30 (by decide +kernel) ?_
    try simp only [if_neg c2] at h
    refine sj_fg [0, 1, 2, 3] ?_
    exact t_X4_marksOf_31 h
  · refine sj_iload_n dX4_marksOf_23 (i := 3) rfl rfl ?_
    refine sj_bipush (v := (nI 7)) dX4_marksOf_24 (by decide +kernel) ?_
    refine sj_iand dX4_marksOf_26 ?_
    refine sj_goto (tgt := 31) dX4_marksOf_27 (by decide) ?_
    try simp only [if_pos c2] at h
    refine sj_fg [0, 1, 2, 3] ?_
    exact t_X4_marksOf_31 h
theorem c_X4_marksOf {G : sj_G} (ok : sj_ok G) {R : sj_R} {x1 : Int32} {x2 : Int32} {σ : sj_S} (h : wp_X4_marksOf_0 G R x1 x2 σ) : sj_C G 2 me_X4_marksOf [.ref (sj_ad G 30), .int x1, .int x2] σ R :=
  sj_enter ok (by decide +kernel) rfl rfl (Nat.le_of_ble_eq_true rfl) (by simp [Value.category]) (t_X4_marksOf_0 h)
def wp_X4_mark_0 (G : sj_G) (R : sj_R) (x1 : Int32) (x2 : Int32) (x3 : Int32) (σ : sj_S) : Prop := ∃ v1 σ1, sj_C G 2 me_X4_marksOf [.ref (sj_ad G 30), .int x1, .int x2] σ (.ok v1, σ1) ∧ vp_in ((x1 * (nI 512)) + x2) 2560 ∧ R = (.ok 0, (sj_st σ1 33 ((x1 * (nI 512)) + x2).toNatClampNeg ((((σ 30 7) <<< ((nI 3) &&& 31)) ||| v1) ||| x3)))
set_option maxRecDepth 20000 in
theorem t_X4_mark_0 {G : sj_G} {R : sj_R} {x1 : Int32} {x2 : Int32} {x3 : Int32} {σ : sj_S} (h : wp_X4_mark_0 G R x1 x2 x3 σ) : sj_J G 3 me_X4_mark R 0 [.ref (sj_ad G 30), .int x1, .int x2, .int x3] σ [] := by
  unfold wp_X4_mark_0 at h
  refine sj_aload_n dX4_mark_0 (i := 0) rfl rfl ?_
  refine sj_get (a := 30) (k9 := 4) (v := .ref (sj_ad G 33)) dX4_mark_1 (by decide +kernel) rfl ?_
  refine sj_iload_n dX4_mark_4 (i := 1) rfl rfl ?_
  refine sj_sipush (v := (nI 512)) dX4_mark_5 (by decide +kernel) ?_
  refine sj_imul dX4_mark_8 ?_
  refine sj_iload_n dX4_mark_9 (i := 2) rfl rfl ?_
  refine sj_iadd dX4_mark_10 ?_
  refine sj_aload_n dX4_mark_11 (i := 0) rfl rfl ?_
  refine sj_get (a := 30) (k9 := 7) (v := .int (σ 30 7)) dX4_mark_12 (by decide +kernel) rfl ?_
  refine sj_iconst (v := (nI 3)) dX4_mark_15 (by decide +kernel) ?_
  refine sj_ishl dX4_mark_16 ?_
  refine sj_aload_n dX4_mark_17 (i := 0) rfl rfl ?_
  refine sj_iload_n dX4_mark_18 (i := 1) rfl rfl ?_
  refine sj_iload_n dX4_mark_19 (i := 2) rfl rfl ?_
  obtain ⟨v1, σ1, hc1, h⟩ := h
  refine sj_callVi (M' := me_X4_marksOf) (b := 30) (As := [.int x1, .int x2]) (rest := [.int ((σ 30 7) <<< ((nI 3) &&& 31)), .int ((x1 * (nI 512)) + x2), .ref (sj_ad G 33)]) dX4_mark_20 gX4_mark_X4_marksOf rfl hd_X4_marksOf (by decide +kernel) (by decide +kernel) rfl (Nat.le_of_ble_eq_true rfl) (by omega) rfl hc1 ?_
  refine sj_ior dX4_mark_23 ?_
  refine sj_iload_n dX4_mark_24 (i := 3) rfl rfl ?_
  refine sj_ior dX4_mark_25 ?_
  obtain ⟨b2, h⟩ := h
  refine sj_iast (a := 33) (j := ((x1 * (nI 512)) + x2).toNatClampNeg) dX4_mark_26 rfl (by decide +kernel) b2 rfl ?_
  subst h
  exact sj_vret dX4_mark_27 rfl
theorem c_X4_mark {G : sj_G} (ok : sj_ok G) {R : sj_R} {x1 : Int32} {x2 : Int32} {x3 : Int32} {σ : sj_S} (h : wp_X4_mark_0 G R x1 x2 x3 σ) : sj_C G 3 me_X4_mark [.ref (sj_ad G 30), .int x1, .int x2, .int x3] σ R :=
  sj_enter ok (by decide +kernel) rfl rfl (Nat.le_of_ble_eq_true rfl) (by simp [Value.category]) (t_X4_mark_0 h)
def wp_X6_costOf_5 (G : sj_G) (R : sj_R) (sl : Nat) (x3 : Int32) (x4 : Int32) (σ : sj_S) : Prop := ((nI 4) ≤ x4 → sj_J G 5 me_X6_costOf R 35 [.ref (sj_ad G 36), .ref (sj_ad G 1), .ref (sj_ad G sl), .int x3, .int (nI 0), .null] σ []) ∧ (¬ ((nI 4) ≤ x4) → ∃ v2 σ2, sj_C G 3 me_X8_slotsOfPerson [.ref (sj_ad G 1), .int (nI 0), .int x4, .ref (sj_ad G sl)] σ (.ok v2, σ2) ∧ ∃ v3 σ3, sj_C G 3 me_X6_gapsIn [.ref (sj_ad G 36), .int v2] σ2 (.ok v3, σ3) ∧ sj_J G 5 me_X6_costOf R 5 [.ref (sj_ad G 36), .ref (sj_ad G 1), .ref (sj_ad G sl), .int (x3 + v3), .int (x4 + (nI 1)), .null] σ3 [])
set_option maxRecDepth 20000 in
theorem t_X6_costOf_5 {G : sj_G} {R : sj_R} {sl : Nat} {x3 : Int32} {x4 : Int32} {σ : sj_S} (hsl : sj_lk sl = 13 ∧ sl < sj_NA ∧ sj_ln sl = 9) (h : wp_X6_costOf_5 G R sl x3 x4 σ) : sj_J G 5 me_X6_costOf R 5 [.ref (sj_ad G 36), .ref (sj_ad G 1), .ref (sj_ad G sl), .int x3, .int x4, .null] σ [] := by
  unfold wp_X6_costOf_5 at h
  refine sj_iload dX6_costOf_5 rfl ?_
  refine sj_iconst (v := (nI 4)) dX6_costOf_7 (by decide +kernel) ?_
  refine sj_icmp_ge (tgt := 32) dX6_costOf_8 (by decide) (fun c1 => ?_) (fun c1 => ?_)
  · replace h := h.1 c1
    refine sj_iconst (v := (nI 0)) dX6_costOf_32 (by decide +kernel) ?_
    refine sj_istore dX6_costOf_33 (by decide) ?_
    exact h
  · replace h := h.2 c1
    refine sj_iload_n dX6_costOf_11 (i := 3) rfl rfl ?_
    refine sj_aload_n dX6_costOf_12 (i := 0) rfl rfl ?_
    refine sj_aload_n dX6_costOf_13 (i := 1) rfl rfl ?_
    refine sj_iconst (v := (nI 0)) dX6_costOf_14 (by decide +kernel) ?_
    refine sj_iload dX6_costOf_15 rfl ?_
    refine sj_aload_n dX6_costOf_17 (i := 2) rfl rfl ?_
    obtain ⟨v2, σ2, hc2, h⟩ := h
    refine sj_callVi (M' := me_X8_slotsOfPerson) (b := 1) (As := [.int (nI 0), .int x4, .ref (sj_ad G sl)]) (rest := [.ref (sj_ad G 36), .int x3]) dX6_costOf_18 gX6_costOf_X8_slotsOfPerson rfl hd_X8_slotsOfPerson (by decide +kernel) (by decide +kernel) rfl (Nat.le_of_ble_eq_true rfl) (by omega) rfl hc2 ?_
    obtain ⟨v3, σ3, hc3, h⟩ := h
    refine sj_callVi (M' := me_X6_gapsIn) (b := 36) (As := [.int v2]) (rest := [.int x3]) dX6_costOf_21 gX6_costOf_X6_gapsIn rfl hd_X6_gapsIn (by decide +kernel) (by decide +kernel) rfl (Nat.le_of_ble_eq_true rfl) (by omega) rfl hc3 ?_
    refine sj_iadd dX6_costOf_24 ?_
    refine sj_istore_n dX6_costOf_25 (i := 3) rfl (by decide) ?_
    refine sj_iinc (v := (x4 + (nI 1))) dX6_costOf_26 (by decide) rfl rfl ?_
    refine sj_goto (tgt := 5) dX6_costOf_29 (by decide) ?_
    exact h
def wp_X6_costOf_35 (G : sj_G) (R : sj_R) (sl : Nat) (x3 : Int32) (x4 : Int32) (σ : sj_S) : Prop := ((nI 6) ≤ x4 → sj_J G 5 me_X6_costOf R 66 [.null, .ref (sj_ad G 1), .ref (sj_ad G sl), .int x3, .int (nI 0), .null] σ []) ∧ (¬ ((nI 6) ≤ x4) → ∃ v2 σ2, sj_C G 3 me_X8_slotsOfPerson [.ref (sj_ad G 1), .int (nI 1), .int x4, .ref (sj_ad G sl)] σ (.ok v2, σ2) ∧ ∃ v3 σ3, sj_C G 3 me_X6_gapsIn [.ref (sj_ad G 36), .int v2] σ2 (.ok v3, σ3) ∧ sj_J G 5 me_X6_costOf R 35 [.ref (sj_ad G 36), .ref (sj_ad G 1), .ref (sj_ad G sl), .int (x3 + v3), .int (x4 + (nI 1)), .null] σ3 [])
set_option maxRecDepth 20000 in
theorem t_X6_costOf_35 {G : sj_G} {R : sj_R} {sl : Nat} {x3 : Int32} {x4 : Int32} {σ : sj_S} (hsl : sj_lk sl = 13 ∧ sl < sj_NA ∧ sj_ln sl = 9) (h : wp_X6_costOf_35 G R sl x3 x4 σ) : sj_J G 5 me_X6_costOf R 35 [.ref (sj_ad G 36), .ref (sj_ad G 1), .ref (sj_ad G sl), .int x3, .int x4, .null] σ [] := by
  unfold wp_X6_costOf_35 at h
  refine sj_iload dX6_costOf_35 rfl ?_
  refine sj_bipush (v := (nI 6)) dX6_costOf_37 (by decide +kernel) ?_
  refine sj_icmp_ge (tgt := 63) dX6_costOf_39 (by decide) (fun c1 => ?_) (fun c1 => ?_)
  · replace h := h.1 c1
    refine sj_iconst (v := (nI 0)) dX6_costOf_63 (by decide +kernel) ?_
    refine sj_istore dX6_costOf_64 (by decide) ?_
    refine sj_fg [0] ?_
    exact h
  · replace h := h.2 c1
    refine sj_iload_n dX6_costOf_42 (i := 3) rfl rfl ?_
    refine sj_aload_n dX6_costOf_43 (i := 0) rfl rfl ?_
    refine sj_aload_n dX6_costOf_44 (i := 1) rfl rfl ?_
    refine sj_iconst (v := (nI 1)) dX6_costOf_45 (by decide +kernel) ?_
    refine sj_iload dX6_costOf_46 rfl ?_
    refine sj_aload_n dX6_costOf_48 (i := 2) rfl rfl ?_
    obtain ⟨v2, σ2, hc2, h⟩ := h
    refine sj_callVi (M' := me_X8_slotsOfPerson) (b := 1) (As := [.int (nI 1), .int x4, .ref (sj_ad G sl)]) (rest := [.ref (sj_ad G 36), .int x3]) dX6_costOf_49 gX6_costOf_X8_slotsOfPerson rfl hd_X8_slotsOfPerson (by decide +kernel) (by decide +kernel) rfl (Nat.le_of_ble_eq_true rfl) (by omega) rfl hc2 ?_
    obtain ⟨v3, σ3, hc3, h⟩ := h
    refine sj_callVi (M' := me_X6_gapsIn) (b := 36) (As := [.int v2]) (rest := [.int x3]) dX6_costOf_52 gX6_costOf_X6_gapsIn rfl hd_X6_gapsIn (by decide +kernel) (by decide +kernel) rfl (Nat.le_of_ble_eq_true rfl) (by omega) rfl hc3 ?_
    refine sj_iadd dX6_costOf_55 ?_
    refine sj_istore_n dX6_costOf_56 (i := 3) rfl (by decide) ?_
    refine sj_iinc (v := (x4 + (nI 1))) dX6_costOf_57 (by decide) rfl rfl ?_
    refine sj_goto (tgt := 35) dX6_costOf_60 (by decide) ?_
    exact h
def wp_X6_costOf_104 (G : sj_G) (R : sj_R) (sl : Nat) (x3 : Int32) (x4 : Int32) (σ : sj_S) : Prop := sj_J G 5 me_X6_costOf R 66 [.null, .ref (sj_ad G 1), .ref (sj_ad G sl), .int x3, .int (x4 + (nI 1)), .null] σ []
set_option maxRecDepth 20000 in
theorem t_X6_costOf_104 {G : sj_G} {R : sj_R} {sl : Nat} {x3 : Int32} {x4 : Int32} {σ : sj_S} (hsl : sj_lk sl = 13 ∧ sl < sj_NA ∧ sj_ln sl = 9) (h : wp_X6_costOf_104 G R sl x3 x4 σ) : sj_J G 5 me_X6_costOf R 104 [.null, .ref (sj_ad G 1), .ref (sj_ad G sl), .int x3, .int x4, .null] σ [] := by
  unfold wp_X6_costOf_104 at h
  refine sj_iinc (v := (x4 + (nI 1))) dX6_costOf_104 (by decide) rfl rfl ?_
  refine sj_goto (tgt := 66) dX6_costOf_107 (by decide) ?_
  exact h
def wp_X6_costOf_66 (G : sj_G) (R : sj_R) (sl : Nat) (x3 : Int32) (x4 : Int32) (σ : sj_S) : Prop := ∃ v1 σ1, sj_C G 2 me_X8_wishTotal [.ref (sj_ad G 1)] σ (.ok v1, σ1) ∧ (v1 ≤ x4 → R = (.ok x3, σ1)) ∧ (¬ (v1 ≤ x4) → ∃ v3 σ3, sj_C G 2 me_X8_ofWish [.ref (sj_ad G 1), .int x4, .int (nI 3)] σ1 (.ok v3, σ3) ∧ (v3 = 0 → (wp_X6_costOf_104 G R sl x3 x4 σ3)) ∧ (¬ (v3 = 0) → ∃ v6 σ6, sj_C G 4 me_X8_fulfils [.ref (sj_ad G 1), .int x4, .ref (sj_ad G sl)] σ3 (.ok v6, σ6) ∧ (wp_X6_costOf_104 G R sl (if v6 = 0 then (x3 + v3) else x3) x4 σ6)))
set_option maxRecDepth 20000 in
theorem t_X6_costOf_66 {G : sj_G} {R : sj_R} {sl : Nat} {x3 : Int32} {x4 : Int32} {σ : sj_S} (hsl : sj_lk sl = 13 ∧ sl < sj_NA ∧ sj_ln sl = 9) (h : wp_X6_costOf_66 G R sl x3 x4 σ) : sj_J G 5 me_X6_costOf R 66 [.null, .ref (sj_ad G 1), .ref (sj_ad G sl), .int x3, .int x4, .null] σ [] := by
  unfold wp_X6_costOf_66 at h
  refine sj_iload dX6_costOf_66 rfl ?_
  refine sj_aload_n dX6_costOf_68 (i := 1) rfl rfl ?_
  obtain ⟨v1, σ1, hc1, h⟩ := h
  refine sj_callVi (M' := me_X8_wishTotal) (b := 1) (As := []) (rest := [.int x4]) dX6_costOf_69 gX6_costOf_X8_wishTotal rfl hd_X8_wishTotal (by decide +kernel) (by decide +kernel) rfl (Nat.le_of_ble_eq_true rfl) (by omega) rfl hc1 ?_
  refine sj_icmp_ge (tgt := 110) dX6_costOf_72 (by decide) (fun c2 => ?_) (fun c2 => ?_)
  · replace h := h.1 c2
    refine sj_iload_n dX6_costOf_110 (i := 3) rfl rfl ?_
    subst h
    exact sj_ret dX6_costOf_111 rfl rfl
  · replace h := h.2 c2
    refine sj_aload_n dX6_costOf_75 (i := 1) rfl rfl ?_
    refine sj_iload dX6_costOf_76 rfl ?_
    refine sj_iconst (v := (nI 3)) dX6_costOf_78 (by decide +kernel) ?_
    obtain ⟨v3, σ3, hc3, h⟩ := h
    refine sj_callVi (M' := me_X8_ofWish) (b := 1) (As := [.int x4, .int (nI 3)]) (rest := []) dX6_costOf_79 gX6_costOf_X8_ofWish rfl hd_X8_ofWish (by decide +kernel) (by decide +kernel) rfl (Nat.le_of_ble_eq_true rfl) (by omega) rfl hc3 ?_
    refine sj_istore dX6_costOf_82 (by decide) ?_
    refine sj_iload dX6_costOf_84 rfl ?_
    refine sj_if_eq (tgt := 104) dX6_costOf_86 (by decide) (fun c5 => ?_) (fun c5 => ?_)
    · replace h := h.1 c5
      refine sj_fg [5] ?_
      exact t_X6_costOf_104 hsl h
    · replace h := h.2 c5
      refine sj_aload_n dX6_costOf_89 (i := 1) rfl rfl ?_
      refine sj_iload dX6_costOf_90 rfl ?_
      refine sj_aload_n dX6_costOf_92 (i := 2) rfl rfl ?_
      obtain ⟨v6, σ6, hc6, h⟩ := h
      refine sj_callVi (M' := me_X8_fulfils) (b := 1) (As := [.int x4, .ref (sj_ad G sl)]) (rest := []) dX6_costOf_93 gX6_costOf_X8_fulfils rfl hd_X8_fulfils (by decide +kernel) (by decide +kernel) rfl (Nat.le_of_ble_eq_true rfl) (by omega) rfl hc6 ?_
      refine sj_if_ne (tgt := 104) dX6_costOf_96 (by decide) (fun c7 => ?_) (fun c7 => ?_)
      · try simp only [if_neg c7] at h
        refine sj_fg [5] ?_
        exact t_X6_costOf_104 hsl h
      · refine sj_iload_n dX6_costOf_99 (i := 3) rfl rfl ?_
        refine sj_iload dX6_costOf_100 rfl ?_
        refine sj_iadd dX6_costOf_102 ?_
        refine sj_istore_n dX6_costOf_103 (i := 3) rfl (by decide) ?_
        try simp only [if_pos c7] at h
        refine sj_fg [5] ?_
        exact t_X6_costOf_104 hsl h
def wp_X6_costOf_0 (G : sj_G) (R : sj_R) (sl : Nat) (σ : sj_S) : Prop := sj_J G 5 me_X6_costOf R 5 [.ref (sj_ad G 36), .ref (sj_ad G 1), .ref (sj_ad G sl), .int (nI 0), .int (nI 0), .null] σ []
set_option maxRecDepth 20000 in
theorem t_X6_costOf_0 {G : sj_G} {R : sj_R} {sl : Nat} {σ : sj_S} (hsl : sj_lk sl = 13 ∧ sl < sj_NA ∧ sj_ln sl = 9) (h : wp_X6_costOf_0 G R sl σ) : sj_J G 5 me_X6_costOf R 0 [.ref (sj_ad G 36), .ref (sj_ad G 1), .ref (sj_ad G sl), .null, .null, .null] σ [] := by
  unfold wp_X6_costOf_0 at h
  refine sj_iconst (v := (nI 0)) dX6_costOf_0 (by decide +kernel) ?_
  refine sj_istore_n dX6_costOf_1 (i := 3) rfl (by decide) ?_
  refine sj_iconst (v := (nI 0)) dX6_costOf_2 (by decide +kernel) ?_
  refine sj_istore dX6_costOf_3 (by decide) ?_
  exact h
theorem c_X6_costOf {G : sj_G} (ok : sj_ok G) {R : sj_R} {sl : Nat} {σ : sj_S} (hsl : sj_lk sl = 13 ∧ sl < sj_NA ∧ sj_ln sl = 9) (h : wp_X6_costOf_0 G R sl σ) : sj_C G 5 me_X6_costOf [.ref (sj_ad G 36), .ref (sj_ad G 1), .ref (sj_ad G sl)] σ R :=
  sj_enter ok (by decide +kernel) rfl rfl (Nat.le_of_ble_eq_true rfl) (by simp [Value.category]) (t_X6_costOf_0 hsl h)
def wp_X6_gapsIn_0 (G : sj_G) (R : sj_R) (x1 : Int32) (σ : sj_S) : Prop := ∀ y1 : Int32, y1 = ((((x1 <<< ((nI 1) &&& 31)) &&& (nI 978670)) ||| ((x1 <<< ((nI 2) &&& 31)) &&& (nI 838860))) ||| ((x1 <<< ((nI 3) &&& 31)) &&& (nI 559240))) → ∀ y2 : Int32, y2 = ((((x1 >>> ((nI 1) &&& 31)) &&& (nI 489335)) ||| ((x1 >>> ((nI 2) &&& 31)) &&& (nI 209715))) ||| ((x1 >>> ((nI 3) &&& 31)) &&& (nI 69905))) → ∃ v3 σ3, sj_C G 2 me_J6_bitCount_0f7a4 [.int ((y1 &&& y2) &&& (x1 ^^^ (-1)))] σ (.ok v3, σ3) ∧ R = (.ok v3, σ3)
set_option maxRecDepth 20000 in
theorem t_X6_gapsIn_0 {G : sj_G} {R : sj_R} {x1 : Int32} {σ : sj_S} (h : wp_X6_gapsIn_0 G R x1 σ) : sj_J G 3 me_X6_gapsIn R 0 [.ref (sj_ad G 36), .int x1, .null, .null] σ [] := by
  unfold wp_X6_gapsIn_0 at h
  refine sj_iload_n dX6_gapsIn_0 (i := 1) rfl rfl ?_
  refine sj_iconst (v := (nI 1)) dX6_gapsIn_1 (by decide +kernel) ?_
  refine sj_ishl dX6_gapsIn_2 ?_
  refine sj_ldc (v := (nI 978670)) dX6_gapsIn_3 (by decide +kernel) ?_
  refine sj_iand dX6_gapsIn_5 ?_
  refine sj_iload_n dX6_gapsIn_6 (i := 1) rfl rfl ?_
  refine sj_iconst (v := (nI 2)) dX6_gapsIn_7 (by decide +kernel) ?_
  refine sj_ishl dX6_gapsIn_8 ?_
  refine sj_ldc (v := (nI 838860)) dX6_gapsIn_9 (by decide +kernel) ?_
  refine sj_iand dX6_gapsIn_11 ?_
  refine sj_ior dX6_gapsIn_12 ?_
  refine sj_iload_n dX6_gapsIn_13 (i := 1) rfl rfl ?_
  refine sj_iconst (v := (nI 3)) dX6_gapsIn_14 (by decide +kernel) ?_
  refine sj_ishl dX6_gapsIn_15 ?_
  refine sj_ldc (v := (nI 559240)) dX6_gapsIn_16 (by decide +kernel) ?_
  refine sj_iand dX6_gapsIn_18 ?_
  refine sj_ior dX6_gapsIn_19 ?_
  refine sj_topi (fun y1 hy1 => ?_)
  replace h := h y1 hy1
  refine sj_istore_n dX6_gapsIn_20 (i := 2) rfl (by decide) ?_
  refine sj_iload_n dX6_gapsIn_21 (i := 1) rfl rfl ?_
  refine sj_iconst (v := (nI 1)) dX6_gapsIn_22 (by decide +kernel) ?_
  refine sj_ishr dX6_gapsIn_23 ?_
  refine sj_ldc (v := (nI 489335)) dX6_gapsIn_24 (by decide +kernel) ?_
  refine sj_iand dX6_gapsIn_26 ?_
  refine sj_iload_n dX6_gapsIn_27 (i := 1) rfl rfl ?_
  refine sj_iconst (v := (nI 2)) dX6_gapsIn_28 (by decide +kernel) ?_
  refine sj_ishr dX6_gapsIn_29 ?_
  refine sj_ldc (v := (nI 209715)) dX6_gapsIn_30 (by decide +kernel) ?_
  refine sj_iand dX6_gapsIn_32 ?_
  refine sj_ior dX6_gapsIn_33 ?_
  refine sj_iload_n dX6_gapsIn_34 (i := 1) rfl rfl ?_
  refine sj_iconst (v := (nI 3)) dX6_gapsIn_35 (by decide +kernel) ?_
  refine sj_ishr dX6_gapsIn_36 ?_
  refine sj_ldc (v := (nI 69905)) dX6_gapsIn_37 (by decide +kernel) ?_
  refine sj_iand dX6_gapsIn_39 ?_
  refine sj_ior dX6_gapsIn_40 ?_
  refine sj_topi (fun y2 hy2 => ?_)
  replace h := h y2 hy2
  refine sj_istore_n dX6_gapsIn_41 (i := 3) rfl (by decide) ?_
  refine sj_iload_n dX6_gapsIn_42 (i := 2) rfl rfl ?_
  refine sj_iload_n dX6_gapsIn_43 (i := 3) rfl rfl ?_
  refine sj_iand dX6_gapsIn_44 ?_
  refine sj_iload_n dX6_gapsIn_45 (i := 1) rfl rfl ?_
  refine sj_iconst (v := (-1)) dX6_gapsIn_46 (by decide +kernel) ?_
  refine sj_ixor dX6_gapsIn_47 ?_
  refine sj_iand dX6_gapsIn_48 ?_
  obtain ⟨v3, σ3, hc3, h⟩ := h
  refine sj_callSi (M' := me_J6_bitCount_0f7a4) (As := [.int ((y1 &&& y2) &&& (x1 ^^^ (-1)))]) (rest := []) dX6_gapsIn_49 gX6_gapsIn_J6_bitCount_0f7a4 rfl hd_J6_bitCount_0f7a4 (Nat.le_of_ble_eq_true rfl) (by omega) rfl hc3 ?_
  subst h
  exact sj_ret dX6_gapsIn_52 rfl rfl
theorem c_X6_gapsIn {G : sj_G} (ok : sj_ok G) {R : sj_R} {x1 : Int32} {σ : sj_S} (h : wp_X6_gapsIn_0 G R x1 σ) : sj_C G 3 me_X6_gapsIn [.ref (sj_ad G 36), .int x1] σ R :=
  sj_enter ok (by decide +kernel) rfl rfl (Nat.le_of_ble_eq_true rfl) (by simp [Value.category]) (t_X6_gapsIn_0 h)
def wp_X6_seekBest_63 (G : sj_G) (R : sj_R) (x3 : Int32) (σ : sj_S) : Prop := sj_J G 8 me_X6_seekBest R 66 [.ref (sj_ad G 36), .ref (sj_ad G 1), .ref (sj_ad G 6), .int x3, .int (nI 0), .null] σ []
set_option maxRecDepth 20000 in
theorem t_X6_seekBest_63 {G : sj_G} {R : sj_R} {x3 : Int32} {σ : sj_S} (h : wp_X6_seekBest_63 G R x3 σ) : sj_J G 8 me_X6_seekBest R 63 [.ref (sj_ad G 36), .ref (sj_ad G 1), .ref (sj_ad G 6), .int x3, .null, .null] σ [] := by
  unfold wp_X6_seekBest_63 at h
  refine sj_iconst (v := (nI 0)) dX6_seekBest_63 (by decide +kernel) ?_
  refine sj_istore dX6_seekBest_64 (by decide) ?_
  exact h
def wp_X6_seekBest_33 (G : sj_G) (R : sj_R) (x3 : Int32) (x4 : Int32) (σ : sj_S) : Prop := ((σ 6 0) ≤ x4 → (wp_X6_seekBest_63 G R x3 σ)) ∧ (¬ ((σ 6 0) ≤ x4) → ((σ 36 2) ≤ 0 → (wp_X6_seekBest_63 G R x3 σ)) ∧ (¬ ((σ 36 2) ≤ 0) → ∃ σ6, sj_C G 7 me_X6_trySlots [.ref (sj_ad G 36), .ref (sj_ad G 1), .ref (sj_ad G 6), .int x4] σ (.ok 0, σ6) ∧ sj_J G 8 me_X6_seekBest R 33 [.ref (sj_ad G 36), .ref (sj_ad G 1), .ref (sj_ad G 6), .int x3, .int (x4 + (nI 1)), .null] σ6 []))
set_option maxRecDepth 20000 in
theorem t_X6_seekBest_33 {G : sj_G} {R : sj_R} {x3 : Int32} {x4 : Int32} {σ : sj_S} (h : wp_X6_seekBest_33 G R x3 x4 σ) : sj_J G 8 me_X6_seekBest R 33 [.ref (sj_ad G 36), .ref (sj_ad G 1), .ref (sj_ad G 6), .int x3, .int x4, .null] σ [] := by
  unfold wp_X6_seekBest_33 at h
  refine sj_iload dX6_seekBest_33 rfl ?_
  refine sj_aload_n dX6_seekBest_35 (i := 2) rfl rfl ?_
  refine sj_get (a := 6) (k9 := 0) (v := .int (σ 6 0)) dX6_seekBest_36 (by decide +kernel) rfl ?_
  refine sj_icmp_ge (tgt := 63) dX6_seekBest_39 (by decide) (fun c3 => ?_) (fun c3 => ?_)
  · replace h := h.1 c3
    refine sj_fg [4] ?_
    exact t_X6_seekBest_63 h
  · replace h := h.2 c3
    refine sj_aload_n dX6_seekBest_42 (i := 0) rfl rfl ?_
    refine sj_get (a := 36) (k9 := 2) (v := .int (σ 36 2)) dX6_seekBest_43 (by decide +kernel) rfl ?_
    refine sj_if_le (tgt := 63) dX6_seekBest_46 (by decide) (fun c5 => ?_) (fun c5 => ?_)
    · replace h := h.1 c5
      refine sj_fg [4] ?_
      exact t_X6_seekBest_63 h
    · replace h := h.2 c5
      refine sj_aload_n dX6_seekBest_49 (i := 0) rfl rfl ?_
      refine sj_aload_n dX6_seekBest_50 (i := 1) rfl rfl ?_
      refine sj_aload_n dX6_seekBest_51 (i := 2) rfl rfl ?_
      refine sj_iload dX6_seekBest_52 rfl ?_
      obtain ⟨σ6, hc6, h⟩ := h
      refine sj_callVv (M' := me_X6_trySlots) (b := 36) (As := [.ref (sj_ad G 1), .ref (sj_ad G 6), .int x4]) (rest := []) dX6_seekBest_54 gX6_seekBest_X6_trySlots rfl hd_X6_trySlots (by decide +kernel) (by decide +kernel) rfl (Nat.le_of_ble_eq_true rfl) (by omega) rfl hc6 ?_
      refine sj_iinc (v := (x4 + (nI 1))) dX6_seekBest_57 (by decide) rfl rfl ?_
      refine sj_goto (tgt := 33) dX6_seekBest_60 (by decide) ?_
      exact h
def wp_X6_seekBest_119 (G : sj_G) (R : sj_R) (x3 : Int32) (σ : sj_S) : Prop := R = (.ok (x3 - (σ 36 2)), σ)
set_option maxRecDepth 20000 in
theorem t_X6_seekBest_119 {G : sj_G} {R : sj_R} {x3 : Int32} {σ : sj_S} (h : wp_X6_seekBest_119 G R x3 σ) : sj_J G 8 me_X6_seekBest R 119 [.ref (sj_ad G 36), .null, .null, .int x3, .null, .null] σ [] := by
  unfold wp_X6_seekBest_119 at h
  refine sj_iload_n dX6_seekBest_119 (i := 3) rfl rfl ?_
  refine sj_aload_n dX6_seekBest_120 (i := 0) rfl rfl ?_
  refine sj_get (a := 36) (k9 := 2) (v := .int (σ 36 2)) dX6_seekBest_121 (by decide +kernel) rfl ?_
  refine sj_isub dX6_seekBest_124 ?_
  subst h
  exact sj_ret dX6_seekBest_125 rfl rfl
def wp_X6_seekBest_66 (G : sj_G) (R : sj_R) (x3 : Int32) (x4 : Int32) (σ : sj_S) : Prop := ((σ 6 0) ≤ x4 → (wp_X6_seekBest_119 G R x3 σ)) ∧ (¬ ((σ 6 0) ≤ x4) → ((σ 36 2) ≤ 0 → (wp_X6_seekBest_119 G R x3 σ)) ∧ (¬ ((σ 36 2) ≤ 0) → sj_J G 8 me_X6_seekBest R 88 [.ref (sj_ad G 36), .ref (sj_ad G 1), .ref (sj_ad G 6), .int x3, .int x4, .int (x4 + (nI 1))] σ []))
set_option maxRecDepth 20000 in
theorem t_X6_seekBest_66 {G : sj_G} {R : sj_R} {x3 : Int32} {x4 : Int32} {σ : sj_S} (h : wp_X6_seekBest_66 G R x3 x4 σ) : sj_J G 8 me_X6_seekBest R 66 [.ref (sj_ad G 36), .ref (sj_ad G 1), .ref (sj_ad G 6), .int x3, .int x4, .null] σ [] := by
  unfold wp_X6_seekBest_66 at h
  refine sj_iload dX6_seekBest_66 rfl ?_
  refine sj_aload_n dX6_seekBest_68 (i := 2) rfl rfl ?_
  refine sj_get (a := 6) (k9 := 0) (v := .int (σ 6 0)) dX6_seekBest_69 (by decide +kernel) rfl ?_
  refine sj_icmp_ge (tgt := 119) dX6_seekBest_72 (by decide) (fun c3 => ?_) (fun c3 => ?_)
  · replace h := h.1 c3
    refine sj_fg [1, 2, 4] ?_
    exact t_X6_seekBest_119 h
  · replace h := h.2 c3
    refine sj_aload_n dX6_seekBest_75 (i := 0) rfl rfl ?_
    refine sj_get (a := 36) (k9 := 2) (v := .int (σ 36 2)) dX6_seekBest_76 (by decide +kernel) rfl ?_
    refine sj_if_le (tgt := 119) dX6_seekBest_79 (by decide) (fun c5 => ?_) (fun c5 => ?_)
    · replace h := h.1 c5
      refine sj_fg [1, 2, 4] ?_
      exact t_X6_seekBest_119 h
    · replace h := h.2 c5
      refine sj_iload dX6_seekBest_82 rfl ?_
      refine sj_iconst (v := (nI 1)) dX6_seekBest_84 (by decide +kernel) ?_
      refine sj_iadd dX6_seekBest_85 ?_
      refine sj_istore dX6_seekBest_86 (by decide) ?_
      exact h
def wp_X6_seekBest_88 (G : sj_G) (R : sj_R) (x3 : Int32) (x4 : Int32) (x5 : Int32) (σ : sj_S) : Prop := ((σ 6 0) ≤ x5 → sj_J G 8 me_X6_seekBest R 66 [.ref (sj_ad G 36), .ref (sj_ad G 1), .ref (sj_ad G 6), .int x3, .int (x4 + (nI 1)), .null] σ []) ∧ (¬ ((σ 6 0) ≤ x5) → ∃ σ2, sj_C G 7 me_X6_trySwap [.ref (sj_ad G 36), .ref (sj_ad G 1), .ref (sj_ad G 6), .int x4, .int x5] σ (.ok 0, σ2) ∧ sj_J G 8 me_X6_seekBest R 88 [.ref (sj_ad G 36), .ref (sj_ad G 1), .ref (sj_ad G 6), .int x3, .int x4, .int (x5 + (nI 1))] σ2 [])
set_option maxRecDepth 20000 in
theorem t_X6_seekBest_88 {G : sj_G} {R : sj_R} {x3 : Int32} {x4 : Int32} {x5 : Int32} {σ : sj_S} (h : wp_X6_seekBest_88 G R x3 x4 x5 σ) : sj_J G 8 me_X6_seekBest R 88 [.ref (sj_ad G 36), .ref (sj_ad G 1), .ref (sj_ad G 6), .int x3, .int x4, .int x5] σ [] := by
  unfold wp_X6_seekBest_88 at h
  refine sj_iload dX6_seekBest_88 rfl ?_
  refine sj_aload_n dX6_seekBest_90 (i := 2) rfl rfl ?_
  refine sj_get (a := 6) (k9 := 0) (v := .int (σ 6 0)) dX6_seekBest_91 (by decide +kernel) rfl ?_
  refine sj_icmp_ge (tgt := 113) dX6_seekBest_94 (by decide) (fun c1 => ?_) (fun c1 => ?_)
  · replace h := h.1 c1
    refine sj_iinc (v := (x4 + (nI 1))) dX6_seekBest_113 (by decide) rfl rfl ?_
    refine sj_goto (tgt := 66) dX6_seekBest_116 (by decide) ?_
    refine sj_fg [5] ?_
    exact h
  · replace h := h.2 c1
    refine sj_aload_n dX6_seekBest_97 (i := 0) rfl rfl ?_
    refine sj_aload_n dX6_seekBest_98 (i := 1) rfl rfl ?_
    refine sj_aload_n dX6_seekBest_99 (i := 2) rfl rfl ?_
    refine sj_iload dX6_seekBest_100 rfl ?_
    refine sj_iload dX6_seekBest_102 rfl ?_
    obtain ⟨σ2, hc2, h⟩ := h
    refine sj_callVv (M' := me_X6_trySwap) (b := 36) (As := [.ref (sj_ad G 1), .ref (sj_ad G 6), .int x4, .int x5]) (rest := []) dX6_seekBest_104 gX6_seekBest_X6_trySwap rfl hd_X6_trySwap (by decide +kernel) (by decide +kernel) rfl (Nat.le_of_ble_eq_true rfl) (by omega) rfl hc2 ?_
    refine sj_iinc (v := (x5 + (nI 1))) dX6_seekBest_107 (by decide) rfl rfl ?_
    refine sj_goto (tgt := 88) dX6_seekBest_110 (by decide) ?_
    exact h
def wp_X6_seekBest_0 (G : sj_G) (R : sj_R) (σ : sj_S) : Prop := ∃ v1 σ1, sj_C G 5 me_X6_costOf [.ref (sj_ad G 36), .ref (sj_ad G 1), .ref (sj_ad G 3)] σ (.ok v1, σ1) ∧ sj_J G 8 me_X6_seekBest R 33 [.ref (sj_ad G 36), .ref (sj_ad G 1), .ref (sj_ad G 6), .int v1, .int (nI 0), .null] (sj_up (sj_st σ1 36 2 v1) 38 (va_cpy (σ1 3) (σ1 38) 0 0 9)) []
set_option maxRecDepth 20000 in
theorem t_X6_seekBest_0 {G : sj_G} {R : sj_R} {σ : sj_S} (h : wp_X6_seekBest_0 G R σ) : sj_J G 8 me_X6_seekBest R 0 [.ref (sj_ad G 36), .ref (sj_ad G 1), .ref (sj_ad G 6), .null, .null, .null] σ [] := by
  unfold wp_X6_seekBest_0 at h
  refine sj_aload_n dX6_seekBest_0 (i := 0) rfl rfl ?_
  refine sj_aload_n dX6_seekBest_1 (i := 1) rfl rfl ?_
  refine sj_aload_n dX6_seekBest_2 (i := 1) rfl rfl ?_
  refine sj_get (a := 1) (k9 := 1) (v := .ref (sj_ad G 3)) dX6_seekBest_3 (by decide +kernel) rfl ?_
  obtain ⟨v1, σ1, hc1, h⟩ := h
  refine sj_callVi (M' := me_X6_costOf) (b := 36) (As := [.ref (sj_ad G 1), .ref (sj_ad G 3)]) (rest := []) dX6_seekBest_6 gX6_seekBest_X6_costOf rfl hd_X6_costOf (by decide +kernel) (by decide +kernel) rfl (Nat.le_of_ble_eq_true rfl) (by omega) rfl hc1 ?_
  refine sj_istore_n dX6_seekBest_9 (i := 3) rfl (by decide) ?_
  refine sj_aload_n dX6_seekBest_10 (i := 0) rfl rfl ?_
  refine sj_iload_n dX6_seekBest_11 (i := 3) rfl rfl ?_
  refine sj_put (a := 36) (k9 := 2) dX6_seekBest_12 (by decide +kernel) (by decide +kernel) rfl ?_
  refine sj_aload_n dX6_seekBest_15 (i := 1) rfl rfl ?_
  refine sj_get (a := 1) (k9 := 1) (v := .ref (sj_ad G 3)) dX6_seekBest_16 (by decide +kernel) rfl ?_
  refine sj_iconst (v := (nI 0)) dX6_seekBest_19 (by decide +kernel) ?_
  refine sj_aload_n dX6_seekBest_20 (i := 0) rfl rfl ?_
  refine sj_get (a := 36) (k9 := 1) (v := .ref (sj_ad G 38)) dX6_seekBest_21 (by decide +kernel) rfl ?_
  refine sj_iconst (v := (nI 0)) dX6_seekBest_24 (by decide +kernel) ?_
  refine sj_bipush (v := (nI 9)) dX6_seekBest_25 (by decide +kernel) ?_
  refine sj_copy (a0 := 3) (a := 38) dX6_seekBest_27 (by decide +kernel) (by omega) (Nat.le_of_ble_eq_true rfl) rfl (by decide +kernel) rfl (by decide +kernel) (nI_pos (by decide)) (nI_pos (by decide)) (nI_pos (by decide)) (by decide) (by decide) (nI_clamp (by decide)) (nI_clamp (by decide)) (nI_clamp (by decide)) ?_
  refine sj_iconst (v := (nI 0)) dX6_seekBest_30 (by decide +kernel) ?_
  refine sj_istore dX6_seekBest_31 (by decide) ?_
  exact h
theorem c_X6_seekBest {G : sj_G} (ok : sj_ok G) {R : sj_R} {σ : sj_S} (h : wp_X6_seekBest_0 G R σ) : sj_C G 8 me_X6_seekBest [.ref (sj_ad G 36), .ref (sj_ad G 1), .ref (sj_ad G 6)] σ R :=
  sj_enter ok (by decide +kernel) rfl rfl (Nat.le_of_ble_eq_true rfl) (by simp [Value.category]) (t_X6_seekBest_0 h)
def wp_X6_trySlots_45 (G : sj_G) (R : sj_R) (x3 : Int32) (x4 : Int32) (x5 : Int32) (σ : sj_S) : Prop := sj_J G 7 me_X6_trySlots R 15 [.ref (sj_ad G 36), .ref (sj_ad G 1), .null, .int x3, .int x4, .int (x5 + (nI 1))] σ []
set_option maxRecDepth 20000 in
theorem t_X6_trySlots_45 {G : sj_G} {R : sj_R} {x3 : Int32} {x4 : Int32} {x5 : Int32} {σ : sj_S} (h : wp_X6_trySlots_45 G R x3 x4 x5 σ) : sj_J G 7 me_X6_trySlots R 45 [.ref (sj_ad G 36), .ref (sj_ad G 1), .null, .int x3, .int x4, .int x5] σ [] := by
  unfold wp_X6_trySlots_45 at h
  refine sj_iinc (v := (x5 + (nI 1))) dX6_trySlots_45 (by decide) rfl rfl ?_
  refine sj_goto (tgt := 15) dX6_trySlots_48 (by decide) ?_
  exact h
def wp_X6_trySlots_15 (G : sj_G) (R : sj_R) (x3 : Int32) (x4 : Int32) (x5 : Int32) (σ : sj_S) : Prop := ((nI 20) ≤ x5 → vp_in x3 9 ∧ vp_in x3 9 ∧ R = (.ok 0, (sj_st σ 38 x3.toNatClampNeg (σ 3 x3.toNatClampNeg)))) ∧ (¬ ((nI 20) ≤ x5) → (((x4 >>> (x5 &&& 31)) &&& (nI 1)) = 0 → (wp_X6_trySlots_45 G R x3 x4 x5 σ)) ∧ (¬ (((x4 >>> (x5 &&& 31)) &&& (nI 1)) = 0) → vp_in x3 9 ∧ ∃ σ8, sj_C G 6 me_X6_weigh [.ref (sj_ad G 36), .ref (sj_ad G 1)] (sj_st σ 38 x3.toNatClampNeg x5) (.ok 0, σ8) ∧ (wp_X6_trySlots_45 G R x3 x4 x5 σ8)))
set_option maxRecDepth 20000 in
theorem t_X6_trySlots_15 {G : sj_G} {R : sj_R} {x3 : Int32} {x4 : Int32} {x5 : Int32} {σ : sj_S} (h : wp_X6_trySlots_15 G R x3 x4 x5 σ) : sj_J G 7 me_X6_trySlots R 15 [.ref (sj_ad G 36), .ref (sj_ad G 1), .null, .int x3, .int x4, .int x5] σ [] := by
  unfold wp_X6_trySlots_15 at h
  refine sj_iload dX6_trySlots_15 rfl ?_
  refine sj_bipush (v := (nI 20)) dX6_trySlots_17 (by decide +kernel) ?_
  refine sj_icmp_ge (tgt := 51) dX6_trySlots_19 (by decide) (fun c1 => ?_) (fun c1 => ?_)
  · replace h := h.1 c1
    refine sj_aload_n dX6_trySlots_51 (i := 0) rfl rfl ?_
    refine sj_get (a := 36) (k9 := 1) (v := .ref (sj_ad G 38)) dX6_trySlots_52 (by decide +kernel) rfl ?_
    refine sj_iload_n dX6_trySlots_55 (i := 3) rfl rfl ?_
    refine sj_aload_n dX6_trySlots_56 (i := 1) rfl rfl ?_
    refine sj_get (a := 1) (k9 := 1) (v := .ref (sj_ad G 3)) dX6_trySlots_57 (by decide +kernel) rfl ?_
    refine sj_iload_n dX6_trySlots_60 (i := 3) rfl rfl ?_
    obtain ⟨b2, h⟩ := h
    refine sj_iald (a := 3) (j := x3.toNatClampNeg) (x := (σ 3 x3.toNatClampNeg)) dX6_trySlots_61 rfl (by decide +kernel) b2 rfl rfl ?_
    obtain ⟨b3, h⟩ := h
    refine sj_iast (a := 38) (j := x3.toNatClampNeg) dX6_trySlots_62 rfl (by decide +kernel) b3 rfl ?_
    subst h
    exact sj_vret dX6_trySlots_63 rfl
  · replace h := h.2 c1
    refine sj_iload dX6_trySlots_22 rfl ?_
    refine sj_iload dX6_trySlots_24 rfl ?_
    refine sj_ishr dX6_trySlots_26 ?_
    refine sj_iconst (v := (nI 1)) dX6_trySlots_27 (by decide +kernel) ?_
    refine sj_iand dX6_trySlots_28 ?_
    refine sj_if_eq (tgt := 45) dX6_trySlots_29 (by decide) (fun c6 => ?_) (fun c6 => ?_)
    · replace h := h.1 c6
      exact t_X6_trySlots_45 h
    · replace h := h.2 c6
      refine sj_aload_n dX6_trySlots_32 (i := 0) rfl rfl ?_
      refine sj_get (a := 36) (k9 := 1) (v := .ref (sj_ad G 38)) dX6_trySlots_33 (by decide +kernel) rfl ?_
      refine sj_iload_n dX6_trySlots_36 (i := 3) rfl rfl ?_
      refine sj_iload dX6_trySlots_37 rfl ?_
      obtain ⟨b7, h⟩ := h
      refine sj_iast (a := 38) (j := x3.toNatClampNeg) dX6_trySlots_39 rfl (by decide +kernel) b7 rfl ?_
      refine sj_aload_n dX6_trySlots_40 (i := 0) rfl rfl ?_
      refine sj_aload_n dX6_trySlots_41 (i := 1) rfl rfl ?_
      obtain ⟨σ8, hc8, h⟩ := h
      refine sj_callVv (M' := me_X6_weigh) (b := 36) (As := [.ref (sj_ad G 1)]) (rest := []) dX6_trySlots_42 gX6_trySlots_X6_weigh rfl hd_X6_weigh (by decide +kernel) (by decide +kernel) rfl (Nat.le_of_ble_eq_true rfl) (by omega) rfl hc8 ?_
      exact t_X6_trySlots_45 h
def wp_X6_trySlots_0 (G : sj_G) (R : sj_R) (x3 : Int32) (σ : sj_S) : Prop := ∃ v1 σ1, sj_C G 2 me_X7_allowed [.ref (sj_ad G 6), .int x3, .ref (sj_ad G 3), .int (-1)] σ (.ok v1, σ1) ∧ sj_J G 7 me_X6_trySlots R 15 [.ref (sj_ad G 36), .ref (sj_ad G 1), .null, .int x3, .int v1, .int (nI 0)] σ1 []
set_option maxRecDepth 20000 in
theorem t_X6_trySlots_0 {G : sj_G} {R : sj_R} {x3 : Int32} {σ : sj_S} (h : wp_X6_trySlots_0 G R x3 σ) : sj_J G 7 me_X6_trySlots R 0 [.ref (sj_ad G 36), .ref (sj_ad G 1), .ref (sj_ad G 6), .int x3, .null, .null] σ [] := by
  unfold wp_X6_trySlots_0 at h
  refine sj_aload_n dX6_trySlots_0 (i := 2) rfl rfl ?_
  refine sj_iload_n dX6_trySlots_1 (i := 3) rfl rfl ?_
  refine sj_aload_n dX6_trySlots_2 (i := 1) rfl rfl ?_
  refine sj_get (a := 1) (k9 := 1) (v := .ref (sj_ad G 3)) dX6_trySlots_3 (by decide +kernel) rfl ?_
  refine sj_iconst (v := (-1)) dX6_trySlots_6 (by decide +kernel) ?_
  obtain ⟨v1, σ1, hc1, h⟩ := h
  refine sj_callVi (M' := me_X7_allowed) (b := 6) (As := [.int x3, .ref (sj_ad G 3), .int (-1)]) (rest := []) dX6_trySlots_7 gX6_trySlots_X7_allowed rfl hd_X7_allowed (by decide +kernel) (by decide +kernel) rfl (Nat.le_of_ble_eq_true rfl) (by omega) rfl hc1 ?_
  refine sj_istore dX6_trySlots_10 (by decide) ?_
  refine sj_iconst (v := (nI 0)) dX6_trySlots_12 (by decide +kernel) ?_
  refine sj_istore dX6_trySlots_13 (by decide) ?_
  refine sj_fg [2] ?_
  exact h
theorem c_X6_trySlots {G : sj_G} (ok : sj_ok G) {R : sj_R} {x3 : Int32} {σ : sj_S} (h : wp_X6_trySlots_0 G R x3 σ) : sj_C G 7 me_X6_trySlots [.ref (sj_ad G 36), .ref (sj_ad G 1), .ref (sj_ad G 6), .int x3] σ R :=
  sj_enter ok (by decide +kernel) rfl rfl (Nat.le_of_ble_eq_true rfl) (by simp [Value.category]) (t_X6_trySlots_0 h)
def wp_X6_trySwap_42 (G : sj_G) (R : sj_R) (x3 : Int32) (x4 : Int32) (σ : sj_S) : Prop := vp_in x3 9 ∧ vp_in x3 9 ∧ vp_in x4 9 ∧ vp_in x4 9 ∧ R = (.ok 0, (sj_st (sj_st σ 38 x3.toNatClampNeg (σ 3 x3.toNatClampNeg)) 38 x4.toNatClampNeg (σ 3 x4.toNatClampNeg)))
set_option maxRecDepth 20000 in
theorem t_X6_trySwap_42 {G : sj_G} {R : sj_R} {x3 : Int32} {x4 : Int32} {σ : sj_S} (h : wp_X6_trySwap_42 G R x3 x4 σ) : sj_J G 7 me_X6_trySwap R 42 [.ref (sj_ad G 36), .ref (sj_ad G 1), .null, .int x3, .int x4] σ [] := by
  unfold wp_X6_trySwap_42 at h
  refine sj_aload_n dX6_trySwap_42 (i := 0) rfl rfl ?_
  refine sj_get (a := 36) (k9 := 1) (v := .ref (sj_ad G 38)) dX6_trySwap_43 (by decide +kernel) rfl ?_
  refine sj_iload_n dX6_trySwap_46 (i := 3) rfl rfl ?_
  refine sj_aload_n dX6_trySwap_47 (i := 1) rfl rfl ?_
  refine sj_get (a := 1) (k9 := 1) (v := .ref (sj_ad G 3)) dX6_trySwap_48 (by decide +kernel) rfl ?_
  refine sj_iload_n dX6_trySwap_51 (i := 3) rfl rfl ?_
  obtain ⟨b1, h⟩ := h
  refine sj_iald (a := 3) (j := x3.toNatClampNeg) (x := (σ 3 x3.toNatClampNeg)) dX6_trySwap_52 rfl (by decide +kernel) b1 rfl rfl ?_
  obtain ⟨b2, h⟩ := h
  refine sj_iast (a := 38) (j := x3.toNatClampNeg) dX6_trySwap_53 rfl (by decide +kernel) b2 rfl ?_
  refine sj_aload_n dX6_trySwap_54 (i := 0) rfl rfl ?_
  refine sj_get (a := 36) (k9 := 1) (v := .ref (sj_ad G 38)) dX6_trySwap_55 (by decide +kernel) rfl ?_
  refine sj_iload dX6_trySwap_58 rfl ?_
  refine sj_aload_n dX6_trySwap_60 (i := 1) rfl rfl ?_
  refine sj_get (a := 1) (k9 := 1) (v := .ref (sj_ad G 3)) dX6_trySwap_61 (by decide +kernel) rfl ?_
  refine sj_iload dX6_trySwap_64 rfl ?_
  obtain ⟨b3, h⟩ := h
  refine sj_iald (a := 3) (j := x4.toNatClampNeg) (x := (σ 3 x4.toNatClampNeg)) dX6_trySwap_66 rfl (by decide +kernel) b3 rfl rfl ?_
  obtain ⟨b4, h⟩ := h
  refine sj_iast (a := 38) (j := x4.toNatClampNeg) dX6_trySwap_67 rfl (by decide +kernel) b4 rfl ?_
  subst h
  exact sj_vret dX6_trySwap_68 rfl
def wp_X6_trySwap_0 (G : sj_G) (R : sj_R) (x3 : Int32) (x4 : Int32) (σ : sj_S) : Prop := vp_in x4 9 ∧ vp_in x3 9 ∧ vp_in x3 9 ∧ vp_in x4 9 ∧ ∃ v5 σ5, sj_C G 3 me_X7_isRight [.ref (sj_ad G 6), .ref (sj_ad G 38)] (sj_st (sj_st σ 38 x3.toNatClampNeg (σ 3 x4.toNatClampNeg)) 38 x4.toNatClampNeg (σ 3 x3.toNatClampNeg)) (.ok v5, σ5) ∧ (v5 = 0 → (wp_X6_trySwap_42 G R x3 x4 σ5)) ∧ (¬ (v5 = 0) → ∃ σ8, sj_C G 6 me_X6_weigh [.ref (sj_ad G 36), .ref (sj_ad G 1)] σ5 (.ok 0, σ8) ∧ (wp_X6_trySwap_42 G R x3 x4 σ8))
set_option maxRecDepth 20000 in
theorem t_X6_trySwap_0 {G : sj_G} {R : sj_R} {x3 : Int32} {x4 : Int32} {σ : sj_S} (h : wp_X6_trySwap_0 G R x3 x4 σ) : sj_J G 7 me_X6_trySwap R 0 [.ref (sj_ad G 36), .ref (sj_ad G 1), .ref (sj_ad G 6), .int x3, .int x4] σ [] := by
  unfold wp_X6_trySwap_0 at h
  refine sj_aload_n dX6_trySwap_0 (i := 0) rfl rfl ?_
  refine sj_get (a := 36) (k9 := 1) (v := .ref (sj_ad G 38)) dX6_trySwap_1 (by decide +kernel) rfl ?_
  refine sj_iload_n dX6_trySwap_4 (i := 3) rfl rfl ?_
  refine sj_aload_n dX6_trySwap_5 (i := 1) rfl rfl ?_
  refine sj_get (a := 1) (k9 := 1) (v := .ref (sj_ad G 3)) dX6_trySwap_6 (by decide +kernel) rfl ?_
  refine sj_iload dX6_trySwap_9 rfl ?_
  obtain ⟨b1, h⟩ := h
  refine sj_iald (a := 3) (j := x4.toNatClampNeg) (x := (σ 3 x4.toNatClampNeg)) dX6_trySwap_11 rfl (by decide +kernel) b1 rfl rfl ?_
  obtain ⟨b2, h⟩ := h
  refine sj_iast (a := 38) (j := x3.toNatClampNeg) dX6_trySwap_12 rfl (by decide +kernel) b2 rfl ?_
  refine sj_aload_n dX6_trySwap_13 (i := 0) rfl rfl ?_
  refine sj_get (a := 36) (k9 := 1) (v := .ref (sj_ad G 38)) dX6_trySwap_14 (by decide +kernel) rfl ?_
  refine sj_iload dX6_trySwap_17 rfl ?_
  refine sj_aload_n dX6_trySwap_19 (i := 1) rfl rfl ?_
  refine sj_get (a := 1) (k9 := 1) (v := .ref (sj_ad G 3)) dX6_trySwap_20 (by decide +kernel) rfl ?_
  refine sj_iload_n dX6_trySwap_23 (i := 3) rfl rfl ?_
  obtain ⟨b3, h⟩ := h
  refine sj_iald (a := 3) (j := x3.toNatClampNeg) (x := (σ 3 x3.toNatClampNeg)) dX6_trySwap_24 rfl (by decide +kernel) b3 rfl rfl ?_
  obtain ⟨b4, h⟩ := h
  refine sj_iast (a := 38) (j := x4.toNatClampNeg) dX6_trySwap_25 rfl (by decide +kernel) b4 rfl ?_
  refine sj_aload_n dX6_trySwap_26 (i := 2) rfl rfl ?_
  refine sj_aload_n dX6_trySwap_27 (i := 0) rfl rfl ?_
  refine sj_get (a := 36) (k9 := 1) (v := .ref (sj_ad G 38)) dX6_trySwap_28 (by decide +kernel) rfl ?_
  obtain ⟨v5, σ5, hc5, h⟩ := h
  refine sj_callVi (M' := me_X7_isRight) (b := 6) (As := [.ref (sj_ad G 38)]) (rest := []) dX6_trySwap_31 gX6_trySwap_X7_isRight rfl hd_X7_isRight (by decide +kernel) (by decide +kernel) rfl (Nat.le_of_ble_eq_true rfl) (by omega) rfl hc5 ?_
  refine sj_if_eq (tgt := 42) dX6_trySwap_34 (by decide) (fun c7 => ?_) (fun c7 => ?_)
  · replace h := h.1 c7
    refine sj_fg [2] ?_
    exact t_X6_trySwap_42 h
  · replace h := h.2 c7
    refine sj_aload_n dX6_trySwap_37 (i := 0) rfl rfl ?_
    refine sj_aload_n dX6_trySwap_38 (i := 1) rfl rfl ?_
    obtain ⟨σ8, hc8, h⟩ := h
    refine sj_callVv (M' := me_X6_weigh) (b := 36) (As := [.ref (sj_ad G 1)]) (rest := []) dX6_trySwap_39 gX6_trySwap_X6_weigh rfl hd_X6_weigh (by decide +kernel) (by decide +kernel) rfl (Nat.le_of_ble_eq_true rfl) (by omega) rfl hc8 ?_
    refine sj_fg [2] ?_
    exact t_X6_trySwap_42 h
theorem c_X6_trySwap {G : sj_G} (ok : sj_ok G) {R : sj_R} {x3 : Int32} {x4 : Int32} {σ : sj_S} (h : wp_X6_trySwap_0 G R x3 x4 σ) : sj_C G 7 me_X6_trySwap [.ref (sj_ad G 36), .ref (sj_ad G 1), .ref (sj_ad G 6), .int x3, .int x4] σ R :=
  sj_enter ok (by decide +kernel) rfl rfl (Nat.le_of_ble_eq_true rfl) (by simp [Value.category]) (t_X6_trySwap_0 h)
def wp_X6_weigh_38 (G : sj_G) (R : sj_R) (σ : sj_S) : Prop := R = (.ok 0, σ)
set_option maxRecDepth 20000 in
theorem t_X6_weigh_38 {G : sj_G} {R : sj_R} {σ : sj_S} (h : wp_X6_weigh_38 G R σ) : sj_J G 6 me_X6_weigh R 38 [.null, .null, .null] σ [] := by
  unfold wp_X6_weigh_38 at h
  subst h
  exact sj_vret dX6_weigh_38 rfl
def wp_X6_weigh_0 (G : sj_G) (R : sj_R) (σ : sj_S) : Prop := ∃ v1 σ1, sj_C G 5 me_X6_costOf [.ref (sj_ad G 36), .ref (sj_ad G 1), .ref (sj_ad G 38)] σ (.ok v1, σ1) ∧ (wp_X6_weigh_38 G R (if (σ1 36 2) ≤ v1 then σ1 else (sj_up (sj_st σ1 36 2 v1) 37 (va_cpy (σ1 38) (σ1 37) 0 0 9))))
set_option maxRecDepth 20000 in
theorem t_X6_weigh_0 {G : sj_G} {R : sj_R} {σ : sj_S} (h : wp_X6_weigh_0 G R σ) : sj_J G 6 me_X6_weigh R 0 [.ref (sj_ad G 36), .ref (sj_ad G 1), .null] σ [] := by
  unfold wp_X6_weigh_0 at h
  refine sj_aload_n dX6_weigh_0 (i := 0) rfl rfl ?_
  refine sj_aload_n dX6_weigh_1 (i := 1) rfl rfl ?_
  refine sj_aload_n dX6_weigh_2 (i := 0) rfl rfl ?_
  refine sj_get (a := 36) (k9 := 1) (v := .ref (sj_ad G 38)) dX6_weigh_3 (by decide +kernel) rfl ?_
  obtain ⟨v1, σ1, hc1, h⟩ := h
  refine sj_callVi (M' := me_X6_costOf) (b := 36) (As := [.ref (sj_ad G 1), .ref (sj_ad G 38)]) (rest := []) dX6_weigh_6 gX6_weigh_X6_costOf rfl hd_X6_costOf (by decide +kernel) (by decide +kernel) rfl (Nat.le_of_ble_eq_true rfl) (by omega) rfl hc1 ?_
  refine sj_istore_n dX6_weigh_9 (i := 2) rfl (by decide) ?_
  refine sj_iload_n dX6_weigh_10 (i := 2) rfl rfl ?_
  refine sj_aload_n dX6_weigh_11 (i := 0) rfl rfl ?_
  refine sj_get (a := 36) (k9 := 2) (v := .int (σ1 36 2)) dX6_weigh_12 (by decide +kernel) rfl ?_
  refine sj_icmp_ge (tgt := 38) dX6_weigh_15 (by decide) (fun c2 => ?_) (fun c2 => ?_)
  · try simp only [if_pos c2] at h
    refine sj_fg [0, 1, 2] ?_
    exact t_X6_weigh_38 h
  · refine sj_aload_n dX6_weigh_18 (i := 0) rfl rfl ?_
    refine sj_iload_n dX6_weigh_19 (i := 2) rfl rfl ?_
    refine sj_put (a := 36) (k9 := 2) dX6_weigh_20 (by decide +kernel) (by decide +kernel) rfl ?_
    refine sj_aload_n dX6_weigh_23 (i := 0) rfl rfl ?_
    refine sj_get (a := 36) (k9 := 1) (v := .ref (sj_ad G 38)) dX6_weigh_24 (by decide +kernel) rfl ?_
    refine sj_iconst (v := (nI 0)) dX6_weigh_27 (by decide +kernel) ?_
    refine sj_aload_n dX6_weigh_28 (i := 0) rfl rfl ?_
    refine sj_get (a := 36) (k9 := 0) (v := .ref (sj_ad G 37)) dX6_weigh_29 (by decide +kernel) rfl ?_
    refine sj_iconst (v := (nI 0)) dX6_weigh_32 (by decide +kernel) ?_
    refine sj_bipush (v := (nI 9)) dX6_weigh_33 (by decide +kernel) ?_
    refine sj_copy (a0 := 38) (a := 37) dX6_weigh_35 (by decide +kernel) (by omega) (Nat.le_of_ble_eq_true rfl) rfl (by decide +kernel) rfl (by decide +kernel) (nI_pos (by decide)) (nI_pos (by decide)) (nI_pos (by decide)) (by decide) (by decide) (nI_clamp (by decide)) (nI_clamp (by decide)) (nI_clamp (by decide)) ?_
    try simp only [if_neg c2] at h
    refine sj_fg [0, 1, 2] ?_
    exact t_X6_weigh_38 h
theorem c_X6_weigh {G : sj_G} (ok : sj_ok G) {R : sj_R} {σ : sj_S} (h : wp_X6_weigh_0 G R σ) : sj_C G 6 me_X6_weigh [.ref (sj_ad G 36), .ref (sj_ad G 1)] σ R :=
  sj_enter ok (by decide +kernel) rfl rfl (Nat.le_of_ble_eq_true rfl) (by simp [Value.category]) (t_X6_weigh_0 h)
