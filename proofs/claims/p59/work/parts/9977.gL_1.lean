def wp_L_areColours_51 (G : sj_G) (R : sj_R) (x1 : Int32) (x2 : Int32) (x4 : Int32) (x5 : Int32) (s0 : Int32) (s1 : Int32) (σ : sj_S) : Prop := vp_in x5 9 ∧ vp_in x2 9 ∧ (wp_L_areColours_76 G R x1 x2 (s1 + s0) x5 (if (σ 58 x5.toNatClampNeg) = (σ 58 x2.toNatClampNeg) then (nI 1) else (nI 0)) x4 σ)
set_option maxRecDepth 20000 in
theorem t_L_areColours_51 {G : sj_G} {R : sj_R} {x1 : Int32} {x2 : Int32} {x4 : Int32} {x5 : Int32} {s0 : Int32} {s1 : Int32} {σ : sj_S} (hO : sj_ad G 70 = sj_ad G 0) (h : wp_L_areColours_51 G R x1 x2 x4 x5 s0 s1 σ) : sj_J G 11 me_L_areColours R 51 [.ref (sj_ad G 56), .int x1, .int x2, .null, .int x4, .int x5] σ [.int s0, .int s1] := by
  unfold wp_L_areColours_51 at h
  refine sj_iadd dL_areColours_51 ?_
  refine sj_istore_n dL_areColours_52 (i := 3) rfl (by decide) ?_
  refine sj_iload dL_areColours_53 rfl ?_
  refine sj_aload_n dL_areColours_55 (i := 0) rfl rfl ?_
  refine sj_get (a := 56) (k9 := 3) (v := .ref (sj_ad G 58)) dL_areColours_56 (by decide +kernel) rfl ?_
  refine sj_iload dL_areColours_59 rfl ?_
  obtain ⟨b1, h⟩ := h
  refine sj_iald (a := 58) (j := x5.toNatClampNeg) (x := (σ 58 x5.toNatClampNeg)) dL_areColours_61 rfl (by decide +kernel) b1 rfl rfl ?_
  refine sj_aload_n dL_areColours_62 (i := 0) rfl rfl ?_
  refine sj_get (a := 56) (k9 := 3) (v := .ref (sj_ad G 58)) dL_areColours_63 (by decide +kernel) rfl ?_
  refine sj_iload_n dL_areColours_66 (i := 2) rfl rfl ?_
  obtain ⟨b2, h⟩ := h
  refine sj_iald (a := 58) (j := x2.toNatClampNeg) (x := (σ 58 x2.toNatClampNeg)) dL_areColours_67 rfl (by decide +kernel) b2 rfl rfl ?_
  refine sj_icmp_ne (tgt := 75) dL_areColours_68 (by decide) (fun c3 => ?_) (fun c3 => ?_)
  · refine sj_iconst (v := (nI 0)) dL_areColours_75 (by decide +kernel) ?_
    try simp only [if_neg c3] at h
    refine sj_fg [4] ?_
    exact t_L_areColours_76 hO h
  · refine sj_iconst (v := (nI 1)) dL_areColours_71 (by decide +kernel) ?_
    refine sj_goto (tgt := 76) dL_areColours_72 (by decide) ?_
    try simp only [if_pos c3] at h
    refine sj_fg [4] ?_
    exact t_L_areColours_76 hO h
def wp_L_areColours_20 (G : sj_G) (R : sj_R) (x1 : Int32) (x2 : Int32) (x3 : Int32) (x4 : Int32) (x5 : Int32) (σ : sj_S) : Prop := ((σ 56 13) ≤ x5 → sj_J G 11 me_L_areColours R 4 [.ref (sj_ad G 56), .int (if x1 < (if x3 < x4 then x4 else x3) then (if x3 < x4 then x4 else x3) else x1), .int (x2 + (nI 1)), .null, .null, .null] σ []) ∧ (¬ ((σ 56 13) ≤ x5) → vp_in x5 9 ∧ vp_in x2 9 ∧ (wp_L_areColours_51 G R x1 x2 x4 x5 (if (σ 57 x5.toNatClampNeg) = (σ 57 x2.toNatClampNeg) then (nI 1) else (nI 0)) x3 σ))
set_option maxRecDepth 20000 in
theorem t_L_areColours_20 {G : sj_G} {R : sj_R} {x1 : Int32} {x2 : Int32} {x3 : Int32} {x4 : Int32} {x5 : Int32} {σ : sj_S} (hO : sj_ad G 70 = sj_ad G 0) (h : wp_L_areColours_20 G R x1 x2 x3 x4 x5 σ) : sj_J G 11 me_L_areColours R 20 [.ref (sj_ad G 56), .int x1, .int x2, .int x3, .int x4, .int x5] σ [] := by
  unfold wp_L_areColours_20 at h
  refine sj_iload dL_areColours_20 rfl ?_
  refine sj_aload_n dL_areColours_22 (i := 0) rfl rfl ?_
  refine sj_get (a := 56) (k9 := 13) (v := .int (σ 56 13)) dL_areColours_23 (by decide +kernel) rfl ?_
  refine sj_icmp_ge (tgt := 145) dL_areColours_26 (by decide) (fun c1 => ?_) (fun c1 => ?_)
  · replace h := h.1 c1
    refine sj_iload_n dL_areColours_145 (i := 1) rfl rfl ?_
    refine sj_iload_n dL_areColours_146 (i := 3) rfl rfl ?_
    refine sj_iload dL_areColours_147 rfl ?_
    refine sj_mmax dL_areColours_149 (by decide +kernel) (by omega) (Nat.le_of_ble_eq_true rfl) ?_
    refine sj_mmax dL_areColours_152 (by decide +kernel) (by omega) (Nat.le_of_ble_eq_true rfl) ?_
    refine sj_istore_n dL_areColours_155 (i := 1) rfl (by decide) ?_
    refine sj_iinc (v := (x2 + (nI 1))) dL_areColours_156 (by decide) rfl rfl ?_
    refine sj_goto (tgt := 4) dL_areColours_159 (by decide) ?_
    refine sj_fg [3, 4, 5] ?_
    exact h
  · replace h := h.2 c1
    refine sj_iload_n dL_areColours_29 (i := 3) rfl rfl ?_
    refine sj_aload_n dL_areColours_30 (i := 0) rfl rfl ?_
    refine sj_get (a := 56) (k9 := 2) (v := .ref (sj_ad G 57)) dL_areColours_31 (by decide +kernel) rfl ?_
    refine sj_iload dL_areColours_34 rfl ?_
    obtain ⟨b2, h⟩ := h
    refine sj_iald (a := 57) (j := x5.toNatClampNeg) (x := (σ 57 x5.toNatClampNeg)) dL_areColours_36 rfl (by decide +kernel) b2 rfl rfl ?_
    refine sj_aload_n dL_areColours_37 (i := 0) rfl rfl ?_
    refine sj_get (a := 56) (k9 := 2) (v := .ref (sj_ad G 57)) dL_areColours_38 (by decide +kernel) rfl ?_
    refine sj_iload_n dL_areColours_41 (i := 2) rfl rfl ?_
    obtain ⟨b3, h⟩ := h
    refine sj_iald (a := 57) (j := x2.toNatClampNeg) (x := (σ 57 x2.toNatClampNeg)) dL_areColours_42 rfl (by decide +kernel) b3 rfl rfl ?_
    refine sj_icmp_ne (tgt := 50) dL_areColours_43 (by decide) (fun c4 => ?_) (fun c4 => ?_)
    · refine sj_iconst (v := (nI 0)) dL_areColours_50 (by decide +kernel) ?_
      try simp only [if_neg c4] at h
      refine sj_fg [3] ?_
      exact t_L_areColours_51 hO h
    · refine sj_iconst (v := (nI 1)) dL_areColours_46 (by decide +kernel) ?_
      refine sj_goto (tgt := 51) dL_areColours_47 (by decide) ?_
      try simp only [if_pos c4] at h
      refine sj_fg [3] ?_
      exact t_L_areColours_51 hO h
def wp_L_areColours_195 (G : sj_G) (R : sj_R) (σ : sj_S) : Prop := R = (.ok (nI 0), σ)
set_option maxRecDepth 20000 in
theorem t_L_areColours_195 {G : sj_G} {R : sj_R} {σ : sj_S} (hO : sj_ad G 70 = sj_ad G 0) (h : wp_L_areColours_195 G R σ) : sj_J G 11 me_L_areColours R 195 [.null, .null, .null, .null, .null, .null] σ [] := by
  unfold wp_L_areColours_195 at h
  refine sj_iconst (v := (nI 0)) dL_areColours_195 (by decide +kernel) ?_
  subst h
  exact sj_ret dL_areColours_196 rfl rfl
def wp_L_areColours_219 (G : sj_G) (R : sj_R) (s0 : Int32) (σ : sj_S) : Prop := R = (.ok s0, σ) ∧ (s0 = nI 0 ∨ s0 = nI 1)
set_option maxRecDepth 20000 in
theorem t_L_areColours_219 {G : sj_G} {R : sj_R} {s0 : Int32} {σ : sj_S} (hO : sj_ad G 70 = sj_ad G 0) (h : wp_L_areColours_219 G R s0 σ) : sj_J G 11 me_L_areColours R 219 [.null, .null, .null, .null, .null, .null] σ [.int s0] := by
  unfold wp_L_areColours_219 at h
  obtain ⟨h, hz⟩ := h
  subst h
  exact sj_ret dL_areColours_219 rfl (sj_nb hz)
def wp_L_areColours_164 (G : sj_G) (R : sj_R) (x1 : Int32) (x2 : Int32) (σ : sj_S) : Prop := ((σ 56 13) ≤ x2 → ∃ v2 σ2, sj_C G 5 me_X11_most [.ref (sj_ad G 0)] σ (.ok v2, σ2) ∧ (wp_L_areColours_219 G R (if v2 = x1 then (nI 1) else (nI 0)) σ2)) ∧ (¬ ((σ 56 13) ≤ x2) → ∃ v4 σ4, sj_C G 10 me_X11_colour [.ref (sj_ad G 0), .int x2] σ (.ok v4, σ4) ∧ (v4 < 0 → (wp_L_areColours_195 G R σ4)) ∧ (¬ (v4 < 0) → ∃ v6 σ6, sj_C G 10 me_X11_colour [.ref (sj_ad G 0), .int x2] σ4 (.ok v6, σ6) ∧ (v6 < x1 → sj_J G 11 me_L_areColours R 164 [.ref (sj_ad G 56), .int x1, .int (x2 + (nI 1)), .null, .null, .null] σ6 []) ∧ (¬ (v6 < x1) → (wp_L_areColours_195 G R σ6))))
set_option maxRecDepth 20000 in
theorem t_L_areColours_164 {G : sj_G} {R : sj_R} {x1 : Int32} {x2 : Int32} {σ : sj_S} (hO : sj_ad G 70 = sj_ad G 0) (h : wp_L_areColours_164 G R x1 x2 σ) : sj_J G 11 me_L_areColours R 164 [.ref (sj_ad G 56), .int x1, .int x2, .null, .null, .null] σ [] := by
  unfold wp_L_areColours_164 at h
  refine sj_iload_n dL_areColours_164 (i := 2) rfl rfl ?_
  refine sj_aload_n dL_areColours_165 (i := 0) rfl rfl ?_
  refine sj_get (a := 56) (k9 := 13) (v := .int (σ 56 13)) dL_areColours_166 (by decide +kernel) rfl ?_
  refine sj_icmp_ge (tgt := 203) dL_areColours_169 (by decide) (fun c1 => ?_) (fun c1 => ?_)
  · replace h := h.1 c1
    refine sj_aload_n dL_areColours_203 (i := 0) rfl rfl ?_
    refine sj_getO hO (a := 56) (k9 := 1) dL_areColours_204 (by decide +kernel) rfl ?_
    obtain ⟨v2, σ2, hc2, h⟩ := h
    refine sj_callVi (M' := me_X11_most) (b := 0) (As := []) (rest := []) dL_areColours_207 gL_areColours_X11_most rfl hd_X11_most (by decide +kernel) (by decide +kernel) rfl (Nat.le_of_ble_eq_true rfl) (by omega) rfl hc2 ?_
    refine sj_iload_n dL_areColours_210 (i := 1) rfl rfl ?_
    refine sj_icmp_ne (tgt := 218) dL_areColours_211 (by decide) (fun c3 => ?_) (fun c3 => ?_)
    · refine sj_iconst (v := (nI 0)) dL_areColours_218 (by decide +kernel) ?_
      try simp only [if_neg c3] at h
      refine sj_fg [0, 1, 2] ?_
      exact t_L_areColours_219 hO h
    · refine sj_iconst (v := (nI 1)) dL_areColours_214 (by decide +kernel) ?_
      refine sj_goto (tgt := 219) dL_areColours_215 (by decide) ?_
      try simp only [if_pos c3] at h
      refine sj_fg [0, 1, 2] ?_
      exact t_L_areColours_219 hO h
  · replace h := h.2 c1
    refine sj_aload_n dL_areColours_172 (i := 0) rfl rfl ?_
    refine sj_getO hO (a := 56) (k9 := 1) dL_areColours_173 (by decide +kernel) rfl ?_
    refine sj_iload_n dL_areColours_176 (i := 2) rfl rfl ?_
    obtain ⟨v4, σ4, hc4, h⟩ := h
    refine sj_callVi (M' := me_X11_colour) (b := 0) (As := [.int x2]) (rest := []) dL_areColours_177 gL_areColours_X11_colour rfl hd_X11_colour (by decide +kernel) (by decide +kernel) rfl (Nat.le_of_ble_eq_true rfl) (by omega) rfl hc4 ?_
    refine sj_if_lt (tgt := 195) dL_areColours_180 (by decide) (fun c5 => ?_) (fun c5 => ?_)
    · replace h := h.1 c5
      refine sj_fg [0, 1, 2] ?_
      exact t_L_areColours_195 hO h
    · replace h := h.2 c5
      refine sj_aload_n dL_areColours_183 (i := 0) rfl rfl ?_
      refine sj_getO hO (a := 56) (k9 := 1) dL_areColours_184 (by decide +kernel) rfl ?_
      refine sj_iload_n dL_areColours_187 (i := 2) rfl rfl ?_
      obtain ⟨v6, σ6, hc6, h⟩ := h
      refine sj_callVi (M' := me_X11_colour) (b := 0) (As := [.int x2]) (rest := []) dL_areColours_188 gL_areColours_X11_colour rfl hd_X11_colour (by decide +kernel) (by decide +kernel) rfl (Nat.le_of_ble_eq_true rfl) (by omega) rfl hc6 ?_
      refine sj_iload_n dL_areColours_191 (i := 1) rfl rfl ?_
      refine sj_icmp_lt (tgt := 197) dL_areColours_192 (by decide) (fun c7 => ?_) (fun c7 => ?_)
      · replace h := h.1 c7
        refine sj_iinc (v := (x2 + (nI 1))) dL_areColours_197 (by decide) rfl rfl ?_
        refine sj_goto (tgt := 164) dL_areColours_200 (by decide) ?_
        exact h
      · replace h := h.2 c7
        refine sj_fg [0, 1, 2] ?_
        exact t_L_areColours_195 hO h
def wp_L_areColours_0 (G : sj_G) (R : sj_R) (σ : sj_S) : Prop := sj_J G 11 me_L_areColours R 4 [.ref (sj_ad G 56), .int (nI 0), .int (nI 0), .null, .null, .null] σ []
set_option maxRecDepth 20000 in
theorem t_L_areColours_0 {G : sj_G} {R : sj_R} {σ : sj_S} (hO : sj_ad G 70 = sj_ad G 0) (h : wp_L_areColours_0 G R σ) : sj_J G 11 me_L_areColours R 0 [.ref (sj_ad G 56), .null, .null, .null, .null, .null] σ [] := by
  unfold wp_L_areColours_0 at h
  refine sj_iconst (v := (nI 0)) dL_areColours_0 (by decide +kernel) ?_
  refine sj_istore_n dL_areColours_1 (i := 1) rfl (by decide) ?_
  refine sj_iconst (v := (nI 0)) dL_areColours_2 (by decide +kernel) ?_
  refine sj_istore_n dL_areColours_3 (i := 2) rfl (by decide) ?_
  exact h
theorem c_L_areColours {G : sj_G} (ok : sj_ok G) {R : sj_R} {σ : sj_S} (hO : sj_ad G 70 = sj_ad G 0) (h : wp_L_areColours_0 G R σ) : sj_C G 11 me_L_areColours [.ref (sj_ad G 56)] σ R :=
  sj_enter ok (by decide +kernel) rfl rfl (Nat.le_of_ble_eq_true rfl) (by simp [Value.category]) (t_L_areColours_0 hO h)
def wp_L_areExams_7 (G : sj_G) (R : sj_R) (x1 : Int32) (σ : sj_S) : Prop := (x1 ≤ 0 → ∃ v2 σ2, sj_C G 42 me_X11_daysNeeded [.ref (sj_ad G 0)] σ (.ok v2, σ2) ∧ sj_J G 43 me_L_areExams R 104 [.ref (sj_ad G 56), .int v2, .int (nI 0), .int (nI 0), .null, .null] σ2 []) ∧ (¬ (x1 ≤ 0) → ∃ v3 σ3, sj_C G 2 me_L_next [.ref (sj_ad G 56), .int (nI 8)] σ (.ok v3, σ3) ∧ ∃ v4 σ4, sj_C G 2 me_L_next [.ref (sj_ad G 56), .int (nI 7)] σ3 (.ok v4, σ4) ∧ vp_in (((nI 8) * v3) + (((v3 + (nI 1)) + v4) - ((v3 + (nI 1)) + v4) / (nI 8) * (nI 8))) 64 ∧ ∀ y6 : Int32, y6 = (σ4 69 (((nI 8) * v3) + (((v3 + (nI 1)) + v4) - ((v3 + (nI 1)) + v4) / (nI 8) * (nI 8))).toNatClampNeg) → ∃ v7 σ7, sj_C G 11 me_X11_setApart [.ref (sj_ad G 0), .int v3, .int (((v3 + (nI 1)) + v4) - ((v3 + (nI 1)) + v4) / (nI 8) * (nI 8)), .int (nI 1)] σ4 (.ok v7, σ7) ∧ (v7 = y6 → vp_in (((nI 8) * v3) + (((v3 + (nI 1)) + v4) - ((v3 + (nI 1)) + v4) / (nI 8) * (nI 8))) 64 ∧ vp_in (((nI 8) * (((v3 + (nI 1)) + v4) - ((v3 + (nI 1)) + v4) / (nI 8) * (nI 8))) + v3) 64 ∧ sj_J G 43 me_L_areExams R 7 [.ref (sj_ad G 56), .int (x1 + (-1)), .null, .null, .null, .null] (sj_st (sj_st σ7 69 (((nI 8) * v3) + (((v3 + (nI 1)) + v4) - ((v3 + (nI 1)) + v4) / (nI 8) * (nI 8))).toNatClampNeg (nI 1)) 69 (((nI 8) * (((v3 + (nI 1)) + v4) - ((v3 + (nI 1)) + v4) / (nI 8) * (nI 8))) + v3).toNatClampNeg (nI 1)) []) ∧ (¬ (v7 = y6) → R = (.ok (nI 0), σ7)))
set_option maxRecDepth 20000 in
theorem t_L_areExams_7 {G : sj_G} {R : sj_R} {x1 : Int32} {σ : sj_S} (hO : sj_ad G 70 = sj_ad G 0) (h : wp_L_areExams_7 G R x1 σ) : sj_J G 43 me_L_areExams R 7 [.ref (sj_ad G 56), .int x1, .null, .null, .null, .null] σ [] := by
  unfold wp_L_areExams_7 at h
  refine sj_iload_n dL_areExams_7 (i := 1) rfl rfl ?_
  refine sj_if_le (tgt := 92) dL_areExams_8 (by decide) (fun c1 => ?_) (fun c1 => ?_)
  · replace h := h.1 c1
    refine sj_aload_n dL_areExams_92 (i := 0) rfl rfl ?_
    refine sj_getO hO (a := 56) (k9 := 1) dL_areExams_93 (by decide +kernel) rfl ?_
    obtain ⟨v2, σ2, hc2, h⟩ := h
    refine sj_callVi (M' := me_X11_daysNeeded) (b := 0) (As := []) (rest := []) dL_areExams_96 gL_areExams_X11_daysNeeded rfl hd_X11_daysNeeded (by decide +kernel) (by decide +kernel) rfl (Nat.le_of_ble_eq_true rfl) (by omega) rfl hc2 ?_
    refine sj_istore_n dL_areExams_99 (i := 1) rfl (by decide) ?_
    refine sj_iconst (v := (nI 0)) dL_areExams_100 (by decide +kernel) ?_
    refine sj_istore_n dL_areExams_101 (i := 2) rfl (by decide) ?_
    refine sj_iconst (v := (nI 0)) dL_areExams_102 (by decide +kernel) ?_
    refine sj_istore_n dL_areExams_103 (i := 3) rfl (by decide) ?_
    exact h
  · replace h := h.2 c1
    refine sj_aload_n dL_areExams_11 (i := 0) rfl rfl ?_
    refine sj_bipush (v := (nI 8)) dL_areExams_12 (by decide +kernel) ?_
    obtain ⟨v3, σ3, hc3, h⟩ := h
    refine sj_callVi (M' := me_L_next) (b := 56) (As := [.int (nI 8)]) (rest := []) dL_areExams_14 gL_areExams_L_next rfl hd_L_next (by decide +kernel) (by decide +kernel) rfl (Nat.le_of_ble_eq_true rfl) (by omega) rfl hc3 ?_
    refine sj_istore_n dL_areExams_17 (i := 2) rfl (by decide) ?_
    refine sj_iload_n dL_areExams_18 (i := 2) rfl rfl ?_
    refine sj_iconst (v := (nI 1)) dL_areExams_19 (by decide +kernel) ?_
    refine sj_iadd dL_areExams_20 ?_
    refine sj_aload_n dL_areExams_21 (i := 0) rfl rfl ?_
    refine sj_bipush (v := (nI 7)) dL_areExams_22 (by decide +kernel) ?_
    obtain ⟨v4, σ4, hc4, h⟩ := h
    refine sj_callVi (M' := me_L_next) (b := 56) (As := [.int (nI 7)]) (rest := [.int (v3 + (nI 1))]) dL_areExams_24 gL_areExams_L_next rfl hd_L_next (by decide +kernel) (by decide +kernel) rfl (Nat.le_of_ble_eq_true rfl) (by omega) rfl hc4 ?_
    refine sj_iadd dL_areExams_27 ?_
    refine sj_bipush (v := (nI 8)) dL_areExams_28 (by decide +kernel) ?_
    refine sj_irem dL_areExams_30 (by decide +kernel) ?_
    refine sj_istore_n dL_areExams_31 (i := 3) rfl (by decide) ?_
    refine sj_aload_n dL_areExams_32 (i := 0) rfl rfl ?_
    refine sj_get (a := 56) (k9 := 16) (v := .ref (sj_ad G 69)) dL_areExams_33 (by decide +kernel) rfl ?_
    refine sj_bipush (v := (nI 8)) dL_areExams_36 (by decide +kernel) ?_
    refine sj_iload_n dL_areExams_38 (i := 2) rfl rfl ?_
    refine sj_imul dL_areExams_39 ?_
    refine sj_iload_n dL_areExams_40 (i := 3) rfl rfl ?_
    refine sj_iadd dL_areExams_41 ?_
    obtain ⟨b5, h⟩ := h
    refine sj_zald (a := 69) (j := (((nI 8) * v3) + (((v3 + (nI 1)) + v4) - ((v3 + (nI 1)) + v4) / (nI 8) * (nI 8))).toNatClampNeg) (x := (σ4 69 (((nI 8) * v3) + (((v3 + (nI 1)) + v4) - ((v3 + (nI 1)) + v4) / (nI 8) * (nI 8))).toNatClampNeg)) dL_areExams_42 rfl (by decide +kernel) b5 rfl rfl ?_
    refine sj_topi (fun y6 hy6 => ?_)
    replace h := h y6 hy6
    refine sj_istore dL_areExams_43 (by decide) ?_
    refine sj_aload_n dL_areExams_45 (i := 0) rfl rfl ?_
    refine sj_getO hO (a := 56) (k9 := 1) dL_areExams_46 (by decide +kernel) rfl ?_
    refine sj_iload_n dL_areExams_49 (i := 2) rfl rfl ?_
    refine sj_iload_n dL_areExams_50 (i := 3) rfl rfl ?_
    refine sj_iconst (v := (nI 1)) dL_areExams_51 (by decide +kernel) ?_
    obtain ⟨v7, σ7, hc7, h⟩ := h
    refine sj_callVi (M' := me_X11_setApart) (b := 0) (As := [.int v3, .int (((v3 + (nI 1)) + v4) - ((v3 + (nI 1)) + v4) / (nI 8) * (nI 8)), .int (nI 1)]) (rest := []) dL_areExams_52 gL_areExams_X11_setApart rfl hd_X11_setApart (by decide +kernel) (by decide +kernel) rfl (Nat.le_of_ble_eq_true rfl) (by omega) rfl hc7 ?_
    refine sj_iload dL_areExams_55 rfl ?_
    refine sj_icmp_eq (tgt := 62) dL_areExams_57 (by decide) (fun c8 => ?_) (fun c8 => ?_)
    · replace h := h.1 c8
      refine sj_aload_n dL_areExams_62 (i := 0) rfl rfl ?_
      refine sj_get (a := 56) (k9 := 16) (v := .ref (sj_ad G 69)) dL_areExams_63 (by decide +kernel) rfl ?_
      refine sj_bipush (v := (nI 8)) dL_areExams_66 (by decide +kernel) ?_
      refine sj_iload_n dL_areExams_68 (i := 2) rfl rfl ?_
      refine sj_imul dL_areExams_69 ?_
      refine sj_iload_n dL_areExams_70 (i := 3) rfl rfl ?_
      refine sj_iadd dL_areExams_71 ?_
      refine sj_iconst (v := (nI 1)) dL_areExams_72 (by decide +kernel) ?_
      obtain ⟨b9, h⟩ := h
      refine sj_zast (a := 69) (j := (((nI 8) * v3) + (((v3 + (nI 1)) + v4) - ((v3 + (nI 1)) + v4) / (nI 8) * (nI 8))).toNatClampNeg) dL_areExams_73 rfl (by decide +kernel) b9 rfl rfl ?_
      refine sj_aload_n dL_areExams_74 (i := 0) rfl rfl ?_
      refine sj_get (a := 56) (k9 := 16) (v := .ref (sj_ad G 69)) dL_areExams_75 (by decide +kernel) rfl ?_
      refine sj_bipush (v := (nI 8)) dL_areExams_78 (by decide +kernel) ?_
      refine sj_iload_n dL_areExams_80 (i := 3) rfl rfl ?_
      refine sj_imul dL_areExams_81 ?_
      refine sj_iload_n dL_areExams_82 (i := 2) rfl rfl ?_
      refine sj_iadd dL_areExams_83 ?_
      refine sj_iconst (v := (nI 1)) dL_areExams_84 (by decide +kernel) ?_
      obtain ⟨b10, h⟩ := h
      refine sj_zast (a := 69) (j := (((nI 8) * (((v3 + (nI 1)) + v4) - ((v3 + (nI 1)) + v4) / (nI 8) * (nI 8))) + v3).toNatClampNeg) dL_areExams_85 rfl (by decide +kernel) b10 rfl rfl ?_
      refine sj_iinc (v := (x1 + (-1))) dL_areExams_86 (by decide) rfl rfl ?_
      refine sj_goto (tgt := 7) dL_areExams_89 (by decide) ?_
      refine sj_fg [2, 3, 4] ?_
      exact h
    · replace h := h.2 c8
      refine sj_iconst (v := (nI 0)) dL_areExams_60 (by decide +kernel) ?_
      subst h
      exact sj_ret dL_areExams_61 rfl rfl
def wp_L_areExams_133 (G : sj_G) (R : sj_R) (σ : sj_S) : Prop := R = (.ok (nI 0), σ)
set_option maxRecDepth 20000 in
theorem t_L_areExams_133 {G : sj_G} {R : sj_R} {σ : sj_S} (hO : sj_ad G 70 = sj_ad G 0) (h : wp_L_areExams_133 G R σ) : sj_J G 43 me_L_areExams R 133 [.null, .null, .null, .null, .null, .null] σ [] := by
  unfold wp_L_areExams_133 at h
  refine sj_iconst (v := (nI 0)) dL_areExams_133 (by decide +kernel) ?_
  subst h
  exact sj_ret dL_areExams_134 rfl rfl
def wp_L_areExams_104 (G : sj_G) (R : sj_R) (x1 : Int32) (x2 : Int32) (x3 : Int32) (σ : sj_S) : Prop := ((nI 8) ≤ x3 → ∃ v2 σ2, sj_C G 5 me_X11_group [.ref (sj_ad G 0)] σ (.ok v2, σ2) ∧ sj_J G 43 me_L_areExams R 204 [.ref (sj_ad G 56), .int x1, .int x2, .int v2, .int (nI 0), .null] σ2 []) ∧ (¬ ((nI 8) ≤ x3) → ∃ v3 σ3, sj_C G 42 me_X11_examDay [.ref (sj_ad G 0), .int x3] σ (.ok v3, σ3) ∧ (v3 < 0 → (wp_L_areExams_133 G R σ3)) ∧ (¬ (v3 < 0) → ∃ v5 σ5, sj_C G 42 me_X11_examDay [.ref (sj_ad G 0), .int x3] σ3 (.ok v5, σ5) ∧ (v5 < x1 → sj_J G 43 me_L_areExams R 138 [.ref (sj_ad G 56), .int x1, .int x2, .int x3, .int (nI 0), .null] σ5 []) ∧ (¬ (v5 < x1) → (wp_L_areExams_133 G R σ5))))
set_option maxRecDepth 20000 in
theorem t_L_areExams_104 {G : sj_G} {R : sj_R} {x1 : Int32} {x2 : Int32} {x3 : Int32} {σ : sj_S} (hO : sj_ad G 70 = sj_ad G 0) (h : wp_L_areExams_104 G R x1 x2 x3 σ) : sj_J G 43 me_L_areExams R 104 [.ref (sj_ad G 56), .int x1, .int x2, .int x3, .null, .null] σ [] := by
  unfold wp_L_areExams_104 at h
  refine sj_iload_n dL_areExams_104 (i := 3) rfl rfl ?_
  refine sj_bipush (v := (nI 8)) dL_areExams_105 (by decide +kernel) ?_
  refine sj_icmp_ge (tgt := 193) dL_areExams_107 (by decide) (fun c1 => ?_) (fun c1 => ?_)
  · replace h := h.1 c1
    refine sj_aload_n dL_areExams_193 (i := 0) rfl rfl ?_
    refine sj_getO hO (a := 56) (k9 := 1) dL_areExams_194 (by decide +kernel) rfl ?_
    obtain ⟨v2, σ2, hc2, h⟩ := h
    refine sj_callVi (M' := me_X11_group) (b := 0) (As := []) (rest := []) dL_areExams_197 gL_areExams_X11_group rfl hd_X11_group (by decide +kernel) (by decide +kernel) rfl (Nat.le_of_ble_eq_true rfl) (by omega) rfl hc2 ?_
    refine sj_istore_n dL_areExams_200 (i := 3) rfl (by decide) ?_
    refine sj_iconst (v := (nI 0)) dL_areExams_201 (by decide +kernel) ?_
    refine sj_istore dL_areExams_202 (by decide) ?_
    exact h
  · replace h := h.2 c1
    refine sj_aload_n dL_areExams_110 (i := 0) rfl rfl ?_
    refine sj_getO hO (a := 56) (k9 := 1) dL_areExams_111 (by decide +kernel) rfl ?_
    refine sj_iload_n dL_areExams_114 (i := 3) rfl rfl ?_
    obtain ⟨v3, σ3, hc3, h⟩ := h
    refine sj_callVi (M' := me_X11_examDay) (b := 0) (As := [.int x3]) (rest := []) dL_areExams_115 gL_areExams_X11_examDay rfl hd_X11_examDay (by decide +kernel) (by decide +kernel) rfl (Nat.le_of_ble_eq_true rfl) (by omega) rfl hc3 ?_
    refine sj_if_lt (tgt := 133) dL_areExams_118 (by decide) (fun c4 => ?_) (fun c4 => ?_)
    · replace h := h.1 c4
      refine sj_fg [0, 1, 2, 3] ?_
      exact t_L_areExams_133 hO h
    · replace h := h.2 c4
      refine sj_aload_n dL_areExams_121 (i := 0) rfl rfl ?_
      refine sj_getO hO (a := 56) (k9 := 1) dL_areExams_122 (by decide +kernel) rfl ?_
      refine sj_iload_n dL_areExams_125 (i := 3) rfl rfl ?_
      obtain ⟨v5, σ5, hc5, h⟩ := h
      refine sj_callVi (M' := me_X11_examDay) (b := 0) (As := [.int x3]) (rest := []) dL_areExams_126 gL_areExams_X11_examDay rfl hd_X11_examDay (by decide +kernel) (by decide +kernel) rfl (Nat.le_of_ble_eq_true rfl) (by omega) rfl hc5 ?_
      refine sj_iload_n dL_areExams_129 (i := 1) rfl rfl ?_
      refine sj_icmp_lt (tgt := 135) dL_areExams_130 (by decide) (fun c6 => ?_) (fun c6 => ?_)
      · replace h := h.1 c6
        refine sj_iconst (v := (nI 0)) dL_areExams_135 (by decide +kernel) ?_
        refine sj_istore dL_areExams_136 (by decide) ?_
        exact h
      · replace h := h.2 c6
        refine sj_fg [0, 1, 2, 3] ?_
        exact t_L_areExams_133 hO h
def wp_L_areExams_181 (G : sj_G) (R : sj_R) (x1 : Int32) (x2 : Int32) (x3 : Int32) (x4 : Int32) (σ : sj_S) : Prop := sj_J G 43 me_L_areExams R 138 [.ref (sj_ad G 56), .int x1, .int x2, .int x3, .int (x4 + (nI 1)), .null] σ []
set_option maxRecDepth 20000 in
theorem t_L_areExams_181 {G : sj_G} {R : sj_R} {x1 : Int32} {x2 : Int32} {x3 : Int32} {x4 : Int32} {σ : sj_S} (hO : sj_ad G 70 = sj_ad G 0) (h : wp_L_areExams_181 G R x1 x2 x3 x4 σ) : sj_J G 43 me_L_areExams R 181 [.ref (sj_ad G 56), .int x1, .int x2, .int x3, .int x4, .null] σ [] := by
  unfold wp_L_areExams_181 at h
  refine sj_iinc (v := (x4 + (nI 1))) dL_areExams_181 (by decide) rfl rfl ?_
  refine sj_goto (tgt := 138) dL_areExams_184 (by decide) ?_
  exact h
def wp_L_areExams_138 (G : sj_G) (R : sj_R) (x1 : Int32) (x2 : Int32) (x3 : Int32) (x4 : Int32) (σ : sj_S) : Prop := (x3 ≤ x4 → sj_J G 43 me_L_areExams R 104 [.ref (sj_ad G 56), .int x1, .int x2, .int (x3 + (nI 1)), .null, .null] σ []) ∧ (¬ (x3 ≤ x4) → vp_in (((nI 8) * x3) + x4) 64 ∧ ((σ 69 (((nI 8) * x3) + x4).toNatClampNeg) = 0 → (wp_L_areExams_181 G R x1 x2 x3 x4 σ)) ∧ (¬ ((σ 69 (((nI 8) * x3) + x4).toNatClampNeg) = 0) → ∃ v4 σ4, sj_C G 42 me_X11_examDay [.ref (sj_ad G 0), .int x4] σ (.ok v4, σ4) ∧ ∃ v5 σ5, sj_C G 42 me_X11_examDay [.ref (sj_ad G 0), .int x3] σ4 (.ok v5, σ5) ∧ (¬ v4 = v5 → (wp_L_areExams_181 G R x1 x2 x3 x4 σ5)) ∧ (v4 = v5 → R = (.ok (nI 0), σ5))))
set_option maxRecDepth 20000 in
theorem t_L_areExams_138 {G : sj_G} {R : sj_R} {x1 : Int32} {x2 : Int32} {x3 : Int32} {x4 : Int32} {σ : sj_S} (hO : sj_ad G 70 = sj_ad G 0) (h : wp_L_areExams_138 G R x1 x2 x3 x4 σ) : sj_J G 43 me_L_areExams R 138 [.ref (sj_ad G 56), .int x1, .int x2, .int x3, .int x4, .null] σ [] := by
  unfold wp_L_areExams_138 at h
  refine sj_iload dL_areExams_138 rfl ?_
  refine sj_iload_n dL_areExams_140 (i := 3) rfl rfl ?_
  refine sj_icmp_ge (tgt := 187) dL_areExams_141 (by decide) (fun c1 => ?_) (fun c1 => ?_)
  · replace h := h.1 c1
    refine sj_iinc (v := (x3 + (nI 1))) dL_areExams_187 (by decide) rfl rfl ?_
    refine sj_goto (tgt := 104) dL_areExams_190 (by decide) ?_
    refine sj_fg [4] ?_
    exact h
  · replace h := h.2 c1
    refine sj_aload_n dL_areExams_144 (i := 0) rfl rfl ?_
    refine sj_get (a := 56) (k9 := 16) (v := .ref (sj_ad G 69)) dL_areExams_145 (by decide +kernel) rfl ?_
    refine sj_bipush (v := (nI 8)) dL_areExams_148 (by decide +kernel) ?_
    refine sj_iload_n dL_areExams_150 (i := 3) rfl rfl ?_
    refine sj_imul dL_areExams_151 ?_
    refine sj_iload dL_areExams_152 rfl ?_
    refine sj_iadd dL_areExams_154 ?_
    obtain ⟨b2, h⟩ := h
    refine sj_zald (a := 69) (j := (((nI 8) * x3) + x4).toNatClampNeg) (x := (σ 69 (((nI 8) * x3) + x4).toNatClampNeg)) dL_areExams_155 rfl (by decide +kernel) b2 rfl rfl ?_
    refine sj_if_eq (tgt := 181) dL_areExams_156 (by decide) (fun c3 => ?_) (fun c3 => ?_)
    · replace h := h.1 c3
      exact t_L_areExams_181 hO h
    · replace h := h.2 c3
      refine sj_aload_n dL_areExams_159 (i := 0) rfl rfl ?_
      refine sj_getO hO (a := 56) (k9 := 1) dL_areExams_160 (by decide +kernel) rfl ?_
      refine sj_iload dL_areExams_163 rfl ?_
      obtain ⟨v4, σ4, hc4, h⟩ := h
      refine sj_callVi (M' := me_X11_examDay) (b := 0) (As := [.int x4]) (rest := []) dL_areExams_165 gL_areExams_X11_examDay rfl hd_X11_examDay (by decide +kernel) (by decide +kernel) rfl (Nat.le_of_ble_eq_true rfl) (by omega) rfl hc4 ?_
      refine sj_aload_n dL_areExams_168 (i := 0) rfl rfl ?_
      refine sj_getO hO (a := 56) (k9 := 1) dL_areExams_169 (by decide +kernel) rfl ?_
      refine sj_iload_n dL_areExams_172 (i := 3) rfl rfl ?_
      obtain ⟨v5, σ5, hc5, h⟩ := h
      refine sj_callVi (M' := me_X11_examDay) (b := 0) (As := [.int x3]) (rest := [.int v4]) dL_areExams_173 gL_areExams_X11_examDay rfl hd_X11_examDay (by decide +kernel) (by decide +kernel) rfl (Nat.le_of_ble_eq_true rfl) (by omega) rfl hc5 ?_
      refine sj_icmp_ne (tgt := 181) dL_areExams_176 (by decide) (fun c6 => ?_) (fun c6 => ?_)
      · replace h := h.1 c6
        exact t_L_areExams_181 hO h
      · replace h := h.2 c6
        refine sj_iconst (v := (nI 0)) dL_areExams_179 (by decide +kernel) ?_
        subst h
        exact sj_ret dL_areExams_180 rfl rfl
def wp_L_areExams_300 (G : sj_G) (R : sj_R) (s0 : Int32) (σ : sj_S) : Prop := R = (.ok s0, σ) ∧ (s0 = nI 0 ∨ s0 = nI 1)
set_option maxRecDepth 20000 in
theorem t_L_areExams_300 {G : sj_G} {R : sj_R} {s0 : Int32} {σ : sj_S} (hO : sj_ad G 70 = sj_ad G 0) (h : wp_L_areExams_300 G R s0 σ) : sj_J G 43 me_L_areExams R 300 [.null, .null, .null, .null, .null, .null] σ [.int s0] := by
  unfold wp_L_areExams_300 at h
  obtain ⟨h, hz⟩ := h
  subst h
  exact sj_ret dL_areExams_300 rfl (sj_nb hz)
def wp_L_areExams_299 (G : sj_G) (R : sj_R) (σ : sj_S) : Prop := (wp_L_areExams_300 G R (nI 0) σ)
set_option maxRecDepth 20000 in
theorem t_L_areExams_299 {G : sj_G} {R : sj_R} {σ : sj_S} (hO : sj_ad G 70 = sj_ad G 0) (h : wp_L_areExams_299 G R σ) : sj_J G 43 me_L_areExams R 299 [.null, .null, .null, .null, .null, .null] σ [] := by
  unfold wp_L_areExams_299 at h
  refine sj_iconst (v := (nI 0)) dL_areExams_299 (by decide +kernel) ?_
  exact t_L_areExams_300 hO h
def wp_L_areExams_204 (G : sj_G) (R : sj_R) (x1 : Int32) (x2 : Int32) (x3 : Int32) (x4 : Int32) (σ : sj_S) : Prop := ((nI 8) ≤ x4 → (x2 ≤ 0 → (wp_L_areExams_299 G R σ)) ∧ (¬ (x2 ≤ 0) → (x1 < x2 → (wp_L_areExams_299 G R σ)) ∧ (¬ (x1 < x2) → ∃ v7 σ7, sj_C G 42 me_X11_examDay [.ref (sj_ad G 0), .int (nI 0)] σ (.ok v7, σ7) ∧ (wp_L_areExams_300 G R (if v7 = 0 then (nI 1) else (nI 0)) σ7)))) ∧ (¬ ((nI 8) ≤ x4) → sj_J G 43 me_L_areExams R 223 [.ref (sj_ad G 56), .int x1, .int (x2 + ((x3 >>> (x4 &&& 31)) &&& (nI 1))), .int x3, .int x4, .int (nI 0)] σ [])
set_option maxRecDepth 20000 in
theorem t_L_areExams_204 {G : sj_G} {R : sj_R} {x1 : Int32} {x2 : Int32} {x3 : Int32} {x4 : Int32} {σ : sj_S} (hO : sj_ad G 70 = sj_ad G 0) (h : wp_L_areExams_204 G R x1 x2 x3 x4 σ) : sj_J G 43 me_L_areExams R 204 [.ref (sj_ad G 56), .int x1, .int x2, .int x3, .int x4, .null] σ [] := by
  unfold wp_L_areExams_204 at h
  refine sj_iload dL_areExams_204 rfl ?_
  refine sj_bipush (v := (nI 8)) dL_areExams_206 (by decide +kernel) ?_
  refine sj_icmp_ge (tgt := 275) dL_areExams_208 (by decide) (fun c1 => ?_) (fun c1 => ?_)
  · replace h := h.1 c1
    refine sj_iload_n dL_areExams_275 (i := 2) rfl rfl ?_
    refine sj_if_le (tgt := 299) dL_areExams_276 (by decide) (fun c4 => ?_) (fun c4 => ?_)
    · replace h := h.1 c4
      refine sj_fg [0, 1, 2, 3, 4] ?_
      exact t_L_areExams_299 hO h
    · replace h := h.2 c4
      refine sj_iload_n dL_areExams_279 (i := 2) rfl rfl ?_
      refine sj_iload_n dL_areExams_280 (i := 1) rfl rfl ?_
      refine sj_icmp_gt (tgt := 299) dL_areExams_281 (by decide) (fun c6 => ?_) (fun c6 => ?_)
      · replace h := h.1 c6
        refine sj_fg [0, 1, 2, 3, 4] ?_
        exact t_L_areExams_299 hO h
      · replace h := h.2 c6
        refine sj_aload_n dL_areExams_284 (i := 0) rfl rfl ?_
        refine sj_getO hO (a := 56) (k9 := 1) dL_areExams_285 (by decide +kernel) rfl ?_
        refine sj_iconst (v := (nI 0)) dL_areExams_288 (by decide +kernel) ?_
        obtain ⟨v7, σ7, hc7, h⟩ := h
        refine sj_callVi (M' := me_X11_examDay) (b := 0) (As := [.int (nI 0)]) (rest := []) dL_areExams_289 gL_areExams_X11_examDay rfl hd_X11_examDay (by decide +kernel) (by decide +kernel) rfl (Nat.le_of_ble_eq_true rfl) (by omega) rfl hc7 ?_
        refine sj_if_ne (tgt := 299) dL_areExams_292 (by decide) (fun c8 => ?_) (fun c8 => ?_)
        · refine sj_iconst (v := (nI 0)) dL_areExams_299 (by decide +kernel) ?_
          try simp only [if_neg c8] at h
          refine sj_fg [0, 1, 2, 3, 4] ?_
          exact t_L_areExams_300 hO h
        · refine sj_iconst (v := (nI 1)) dL_areExams_295 (by decide +kernel) ?_
          refine sj_goto (tgt := 300) dL_areExams_296 (by decide) ?_
          try simp only [if_pos c8] at h
          refine sj_fg [0, 1, 2, 3, 4] ?_
          exact t_L_areExams_300 hO h
  · replace h := h.2 c1
    refine sj_iload_n dL_areExams_211 (i := 2) rfl rfl ?_
    refine sj_iload_n dL_areExams_212 (i := 3) rfl rfl ?_
    refine sj_iload dL_areExams_213 rfl ?_
    refine sj_ishr dL_areExams_215 ?_
    refine sj_iconst (v := (nI 1)) dL_areExams_216 (by decide +kernel) ?_
    refine sj_iand dL_areExams_217 ?_
    refine sj_iadd dL_areExams_218 ?_
    refine sj_istore_n dL_areExams_219 (i := 2) rfl (by decide) ?_
    refine sj_iconst (v := (nI 0)) dL_areExams_220 (by decide +kernel) ?_
    refine sj_istore dL_areExams_221 (by decide) ?_
    exact h
def wp_L_areExams_263 (G : sj_G) (R : sj_R) (x1 : Int32) (x2 : Int32) (x3 : Int32) (x4 : Int32) (x5 : Int32) (σ : sj_S) : Prop := sj_J G 43 me_L_areExams R 223 [.ref (sj_ad G 56), .int x1, .int x2, .int x3, .int x4, .int (x5 + (nI 1))] σ []
set_option maxRecDepth 20000 in
theorem t_L_areExams_263 {G : sj_G} {R : sj_R} {x1 : Int32} {x2 : Int32} {x3 : Int32} {x4 : Int32} {x5 : Int32} {σ : sj_S} (hO : sj_ad G 70 = sj_ad G 0) (h : wp_L_areExams_263 G R x1 x2 x3 x4 x5 σ) : sj_J G 43 me_L_areExams R 263 [.ref (sj_ad G 56), .int x1, .int x2, .int x3, .int x4, .int x5] σ [] := by
  unfold wp_L_areExams_263 at h
  refine sj_iinc (v := (x5 + (nI 1))) dL_areExams_263 (by decide) rfl rfl ?_
  refine sj_goto (tgt := 223) dL_areExams_266 (by decide) ?_
  exact h
def wp_L_areExams_223 (G : sj_G) (R : sj_R) (x1 : Int32) (x2 : Int32) (x3 : Int32) (x4 : Int32) (x5 : Int32) (σ : sj_S) : Prop := (x4 ≤ x5 → sj_J G 43 me_L_areExams R 204 [.ref (sj_ad G 56), .int x1, .int x2, .int x3, .int (x4 + (nI 1)), .null] σ []) ∧ (¬ (x4 ≤ x5) → (¬ (((x3 >>> (x4 &&& 31)) &&& (x3 >>> (x5 &&& 31))) &&& (nI 1)) = (nI 1) → (wp_L_areExams_263 G R x1 x2 x3 x4 x5 σ)) ∧ ((((x3 >>> (x4 &&& 31)) &&& (x3 >>> (x5 &&& 31))) &&& (nI 1)) = (nI 1) → vp_in (((nI 8) * x4) + x5) 64 ∧ (¬ (σ 69 (((nI 8) * x4) + x5).toNatClampNeg) = 0 → (wp_L_areExams_263 G R x1 x2 x3 x4 x5 σ)) ∧ ((σ 69 (((nI 8) * x4) + x5).toNatClampNeg) = 0 → R = (.ok (nI 0), σ))))
set_option maxRecDepth 20000 in
theorem t_L_areExams_223 {G : sj_G} {R : sj_R} {x1 : Int32} {x2 : Int32} {x3 : Int32} {x4 : Int32} {x5 : Int32} {σ : sj_S} (hO : sj_ad G 70 = sj_ad G 0) (h : wp_L_areExams_223 G R x1 x2 x3 x4 x5 σ) : sj_J G 43 me_L_areExams R 223 [.ref (sj_ad G 56), .int x1, .int x2, .int x3, .int x4, .int x5] σ [] := by
  unfold wp_L_areExams_223 at h
  refine sj_iload dL_areExams_223 rfl ?_
  refine sj_iload dL_areExams_225 rfl ?_
  refine sj_icmp_ge (tgt := 269) dL_areExams_227 (by decide) (fun c1 => ?_) (fun c1 => ?_)
  · replace h := h.1 c1
    refine sj_iinc (v := (x4 + (nI 1))) dL_areExams_269 (by decide) rfl rfl ?_
    refine sj_goto (tgt := 204) dL_areExams_272 (by decide) ?_
    refine sj_fg [5] ?_
    exact h
  · replace h := h.2 c1
    refine sj_iload_n dL_areExams_230 (i := 3) rfl rfl ?_
    refine sj_iload dL_areExams_231 rfl ?_
    refine sj_ishr dL_areExams_233 ?_
    refine sj_iload_n dL_areExams_234 (i := 3) rfl rfl ?_
    refine sj_iload dL_areExams_235 rfl ?_
    refine sj_ishr dL_areExams_237 ?_
    refine sj_iand dL_areExams_238 ?_
    refine sj_iconst (v := (nI 1)) dL_areExams_239 (by decide +kernel) ?_
    refine sj_iand dL_areExams_240 ?_
    refine sj_iconst (v := (nI 1)) dL_areExams_241 (by decide +kernel) ?_
    refine sj_icmp_ne (tgt := 263) dL_areExams_242 (by decide) (fun c2 => ?_) (fun c2 => ?_)
    · replace h := h.1 c2
      exact t_L_areExams_263 hO h
    · replace h := h.2 c2
      refine sj_aload_n dL_areExams_245 (i := 0) rfl rfl ?_
      refine sj_get (a := 56) (k9 := 16) (v := .ref (sj_ad G 69)) dL_areExams_246 (by decide +kernel) rfl ?_
      refine sj_bipush (v := (nI 8)) dL_areExams_249 (by decide +kernel) ?_
      refine sj_iload dL_areExams_251 rfl ?_
      refine sj_imul dL_areExams_253 ?_
      refine sj_iload dL_areExams_254 rfl ?_
      refine sj_iadd dL_areExams_256 ?_
      obtain ⟨b3, h⟩ := h
      refine sj_zald (a := 69) (j := (((nI 8) * x4) + x5).toNatClampNeg) (x := (σ 69 (((nI 8) * x4) + x5).toNatClampNeg)) dL_areExams_257 rfl (by decide +kernel) b3 rfl rfl ?_
      refine sj_if_ne (tgt := 263) dL_areExams_258 (by decide) (fun c4 => ?_) (fun c4 => ?_)
      · replace h := h.1 c4
        exact t_L_areExams_263 hO h
      · replace h := h.2 c4
        refine sj_iconst (v := (nI 0)) dL_areExams_261 (by decide +kernel) ?_
        subst h
        exact sj_ret dL_areExams_262 rfl rfl
def wp_L_areExams_0 (G : sj_G) (R : sj_R) (σ : sj_S) : Prop := ∃ v1 σ1, sj_C G 2 me_L_next [.ref (sj_ad G 56), .int (nI 16)] σ (.ok v1, σ1) ∧ sj_J G 43 me_L_areExams R 7 [.ref (sj_ad G 56), .int v1, .null, .null, .null, .null] σ1 []
set_option maxRecDepth 20000 in
theorem t_L_areExams_0 {G : sj_G} {R : sj_R} {σ : sj_S} (hO : sj_ad G 70 = sj_ad G 0) (h : wp_L_areExams_0 G R σ) : sj_J G 43 me_L_areExams R 0 [.ref (sj_ad G 56), .null, .null, .null, .null, .null] σ [] := by
  unfold wp_L_areExams_0 at h
  refine sj_aload_n dL_areExams_0 (i := 0) rfl rfl ?_
  refine sj_bipush (v := (nI 16)) dL_areExams_1 (by decide +kernel) ?_
  obtain ⟨v1, σ1, hc1, h⟩ := h
  refine sj_callVi (M' := me_L_next) (b := 56) (As := [.int (nI 16)]) (rest := []) dL_areExams_3 gL_areExams_L_next rfl hd_L_next (by decide +kernel) (by decide +kernel) rfl (Nat.le_of_ble_eq_true rfl) (by omega) rfl hc1 ?_
  refine sj_istore_n dL_areExams_6 (i := 1) rfl (by decide) ?_
  exact h
theorem c_L_areExams {G : sj_G} (ok : sj_ok G) {R : sj_R} {σ : sj_S} (hO : sj_ad G 70 = sj_ad G 0) (h : wp_L_areExams_0 G R σ) : sj_C G 43 me_L_areExams [.ref (sj_ad G 56)] σ R :=
  sj_enter ok (by decide +kernel) rfl rfl (Nat.le_of_ble_eq_true rfl) (by simp [Value.category]) (t_L_areExams_0 hO h)
def wp_L_isYear_27 (G : sj_G) (R : sj_R) (σ : sj_S) : Prop := R = (.ok (nI 0), σ)
set_option maxRecDepth 20000 in
theorem t_L_isYear_27 {G : sj_G} {R : sj_R} {σ : sj_S} (hO : sj_ad G 70 = sj_ad G 0) (h : wp_L_isYear_27 G R σ) : sj_J G 12 me_L_isYear R 27 [.null, .null, .null, .null, .null, .null] σ [] := by
  unfold wp_L_isYear_27 at h
  refine sj_iconst (v := (nI 0)) dL_isYear_27 (by decide +kernel) ?_
  subst h
  exact sj_ret dL_isYear_28 rfl rfl
def wp_L_isYear_35 (G : sj_G) (R : sj_R) (x1 : Int32) (x2 : Int32) (σ : sj_S) : Prop := (x2 ≤ 0 → ∃ v2 σ2, sj_C G 4 me_X11_schoolDays [.ref (sj_ad G 0)] σ (.ok v2, σ2) ∧ sj_J G 12 me_L_isYear R 105 [.ref (sj_ad G 56), .int x1, .int v2, .int (nI 0), .null, .null] σ2 []) ∧ (¬ (x2 ≤ 0) → ∃ v3 σ3, sj_C G 2 me_L_next [.ref (sj_ad G 56), .int (nI 300)] σ (.ok v3, σ3) ∧ ∃ v4 σ4, sj_C G 10 me_X11_later [.ref (sj_ad G 0), .int x1, .int (v3 - (nI 5))] σ3 (.ok v4, σ4) ∧ ∃ v5 σ5, sj_C G 2 me_L_next [.ref (sj_ad G 56), .int (nI 20)] σ4 (.ok v5, σ5) ∧ ∃ v6 σ6, sj_C G 10 me_X11_later [.ref (sj_ad G 0), .int v4, .int v5] σ5 (.ok v6, σ6) ∧ ∃ v7 σ7, sj_C G 10 me_X11_holiday [.ref (sj_ad G 0), .int v4, .int v6] σ6 (.ok v7, σ7) ∧ ((nI 1) ≤ v7 → sj_J G 12 me_L_isYear R 35 [.ref (sj_ad G 56), .int x1, .int (x2 + (-1)), .null, .null, .null] σ7 []) ∧ (¬ ((nI 1) ≤ v7) → R = (.ok (nI 0), σ7)))
set_option maxRecDepth 20000 in
theorem t_L_isYear_35 {G : sj_G} {R : sj_R} {x1 : Int32} {x2 : Int32} {σ : sj_S} (hO : sj_ad G 70 = sj_ad G 0) (h : wp_L_isYear_35 G R x1 x2 σ) : sj_J G 12 me_L_isYear R 35 [.ref (sj_ad G 56), .int x1, .int x2, .null, .null, .null] σ [] := by
  unfold wp_L_isYear_35 at h
  refine sj_iload_n dL_isYear_35 (i := 2) rfl rfl ?_
  refine sj_if_le (tgt := 95) dL_isYear_36 (by decide) (fun c1 => ?_) (fun c1 => ?_)
  · replace h := h.1 c1
    refine sj_aload_n dL_isYear_95 (i := 0) rfl rfl ?_
    refine sj_getO hO (a := 56) (k9 := 1) dL_isYear_96 (by decide +kernel) rfl ?_
    obtain ⟨v2, σ2, hc2, h⟩ := h
    refine sj_callVi (M' := me_X11_schoolDays) (b := 0) (As := []) (rest := []) dL_isYear_99 gL_isYear_X11_schoolDays rfl hd_X11_schoolDays (by decide +kernel) (by decide +kernel) rfl (Nat.le_of_ble_eq_true rfl) (by omega) rfl hc2 ?_
    refine sj_istore_n dL_isYear_102 (i := 2) rfl (by decide) ?_
    refine sj_iconst (v := (nI 0)) dL_isYear_103 (by decide +kernel) ?_
    refine sj_istore_n dL_isYear_104 (i := 3) rfl (by decide) ?_
    exact h
  · replace h := h.2 c1
    refine sj_aload_n dL_isYear_39 (i := 0) rfl rfl ?_
    refine sj_getO hO (a := 56) (k9 := 1) dL_isYear_40 (by decide +kernel) rfl ?_
    refine sj_iload_n dL_isYear_43 (i := 1) rfl rfl ?_
    refine sj_aload_n dL_isYear_44 (i := 0) rfl rfl ?_
    refine sj_sipush (v := (nI 300)) dL_isYear_45 (by decide +kernel) ?_
    obtain ⟨v3, σ3, hc3, h⟩ := h
    refine sj_callVi (M' := me_L_next) (b := 56) (As := [.int (nI 300)]) (rest := [.int x1, .ref (sj_ad G 0)]) dL_isYear_48 gL_isYear_L_next rfl hd_L_next (by decide +kernel) (by decide +kernel) rfl (Nat.le_of_ble_eq_true rfl) (by omega) rfl hc3 ?_
    refine sj_iconst (v := (nI 5)) dL_isYear_51 (by decide +kernel) ?_
    refine sj_isub dL_isYear_52 ?_
    obtain ⟨v4, σ4, hc4, h⟩ := h
    refine sj_callVi (M' := me_X11_later) (b := 0) (As := [.int x1, .int (v3 - (nI 5))]) (rest := []) dL_isYear_53 gL_isYear_X11_later rfl hd_X11_later (by decide +kernel) (by decide +kernel) rfl (Nat.le_of_ble_eq_true rfl) (by omega) rfl hc4 ?_
    refine sj_istore_n dL_isYear_56 (i := 3) rfl (by decide) ?_
    refine sj_aload_n dL_isYear_57 (i := 0) rfl rfl ?_
    refine sj_getO hO (a := 56) (k9 := 1) dL_isYear_58 (by decide +kernel) rfl ?_
    refine sj_iload_n dL_isYear_61 (i := 3) rfl rfl ?_
    refine sj_aload_n dL_isYear_62 (i := 0) rfl rfl ?_
    refine sj_bipush (v := (nI 20)) dL_isYear_63 (by decide +kernel) ?_
    obtain ⟨v5, σ5, hc5, h⟩ := h
    refine sj_callVi (M' := me_L_next) (b := 56) (As := [.int (nI 20)]) (rest := [.int v4, .ref (sj_ad G 0)]) dL_isYear_65 gL_isYear_L_next rfl hd_L_next (by decide +kernel) (by decide +kernel) rfl (Nat.le_of_ble_eq_true rfl) (by omega) rfl hc5 ?_
    obtain ⟨v6, σ6, hc6, h⟩ := h
    refine sj_callVi (M' := me_X11_later) (b := 0) (As := [.int v4, .int v5]) (rest := []) dL_isYear_68 gL_isYear_X11_later rfl hd_X11_later (by decide +kernel) (by decide +kernel) rfl (Nat.le_of_ble_eq_true rfl) (by omega) rfl hc6 ?_
    refine sj_istore dL_isYear_71 (by decide) ?_
    refine sj_aload_n dL_isYear_73 (i := 0) rfl rfl ?_
    refine sj_getO hO (a := 56) (k9 := 1) dL_isYear_74 (by decide +kernel) rfl ?_
    refine sj_iload_n dL_isYear_77 (i := 3) rfl rfl ?_
    refine sj_iload dL_isYear_78 rfl ?_
    obtain ⟨v7, σ7, hc7, h⟩ := h
    refine sj_callVi (M' := me_X11_holiday) (b := 0) (As := [.int v4, .int v6]) (rest := []) dL_isYear_80 gL_isYear_X11_holiday rfl hd_X11_holiday (by decide +kernel) (by decide +kernel) rfl (Nat.le_of_ble_eq_true rfl) (by omega) rfl hc7 ?_
    refine sj_iconst (v := (nI 1)) dL_isYear_83 (by decide +kernel) ?_
    refine sj_icmp_ge (tgt := 89) dL_isYear_84 (by decide) (fun c8 => ?_) (fun c8 => ?_)
    · replace h := h.1 c8
      refine sj_iinc (v := (x2 + (-1))) dL_isYear_89 (by decide) rfl rfl ?_
      refine sj_goto (tgt := 35) dL_isYear_92 (by decide) ?_
      refine sj_fg [3, 4] ?_
      exact h
    · replace h := h.2 c8
      refine sj_iconst (v := (nI 0)) dL_isYear_87 (by decide +kernel) ?_
      subst h
      exact sj_ret dL_isYear_88 rfl rfl
def wp_L_isYear_187 (G : sj_G) (R : sj_R) (σ : sj_S) : Prop := R = (.ok (nI 0), σ)
set_option maxRecDepth 20000 in
theorem t_L_isYear_187 {G : sj_G} {R : sj_R} {σ : sj_S} (hO : sj_ad G 70 = sj_ad G 0) (h : wp_L_isYear_187 G R σ) : sj_J G 12 me_L_isYear R 187 [.null, .null, .null, .null, .null, .null] σ [] := by
  unfold wp_L_isYear_187 at h
  refine sj_iconst (v := (nI 0)) dL_isYear_187 (by decide +kernel) ?_
  subst h
  exact sj_ret dL_isYear_188 rfl rfl
def wp_L_isYear_233 (G : sj_G) (R : sj_R) (σ : sj_S) : Prop := R = (.ok (nI 0), σ)
set_option maxRecDepth 20000 in
theorem t_L_isYear_233 {G : sj_G} {R : sj_R} {σ : sj_S} (hO : sj_ad G 70 = sj_ad G 0) (h : wp_L_isYear_233 G R σ) : sj_J G 12 me_L_isYear R 233 [.null, .null, .null, .null, .null, .null] σ [] := by
  unfold wp_L_isYear_233 at h
  refine sj_iconst (v := (nI 0)) dL_isYear_233 (by decide +kernel) ?_
  subst h
  exact sj_ret dL_isYear_234 rfl rfl
def wp_L_isYear_235 (G : sj_G) (R : sj_R) (x1 : Int32) (x2 : Int32) (x3 : Int32) (σ : sj_S) : Prop := sj_J G 12 me_L_isYear R 105 [.ref (sj_ad G 56), .int x1, .int x2, .int (x3 + (nI 1)), .null, .null] σ []
set_option maxRecDepth 20000 in
theorem t_L_isYear_235 {G : sj_G} {R : sj_R} {x1 : Int32} {x2 : Int32} {x3 : Int32} {σ : sj_S} (hO : sj_ad G 70 = sj_ad G 0) (h : wp_L_isYear_235 G R x1 x2 x3 σ) : sj_J G 12 me_L_isYear R 235 [.ref (sj_ad G 56), .int x1, .int x2, .int x3, .null, .null] σ [] := by
  unfold wp_L_isYear_235 at h
  refine sj_iinc (v := (x3 + (nI 1))) dL_isYear_235 (by decide) rfl rfl ?_
  refine sj_goto (tgt := 105) dL_isYear_238 (by decide) ?_
  exact h
def wp_L_isYear_241 (G : sj_G) (R : sj_R) (x1 : Int32) (x2 : Int32) (σ : sj_S) : Prop := sj_J G 12 me_L_isYear R 246 [.ref (sj_ad G 56), .int x1, .int x2, .int (nI 0), .int (nI 0), .null] σ []
set_option maxRecDepth 20000 in
theorem t_L_isYear_241 {G : sj_G} {R : sj_R} {x1 : Int32} {x2 : Int32} {σ : sj_S} (hO : sj_ad G 70 = sj_ad G 0) (h : wp_L_isYear_241 G R x1 x2 σ) : sj_J G 12 me_L_isYear R 241 [.ref (sj_ad G 56), .int x1, .int x2, .null, .null, .null] σ [] := by
  unfold wp_L_isYear_241 at h
  refine sj_iconst (v := (nI 0)) dL_isYear_241 (by decide +kernel) ?_
  refine sj_istore_n dL_isYear_242 (i := 3) rfl (by decide) ?_
  refine sj_iconst (v := (nI 0)) dL_isYear_243 (by decide +kernel) ?_
  refine sj_istore dL_isYear_244 (by decide) ?_
  exact h
def wp_L_isYear_105 (G : sj_G) (R : sj_R) (x1 : Int32) (x2 : Int32) (x3 : Int32) (σ : sj_S) : Prop := ((nI 6) ≤ x3 → (wp_L_isYear_241 G R x1 x2 σ)) ∧ (¬ ((nI 6) ≤ x3) → (x2 ≤ 0 → (wp_L_isYear_241 G R x1 x2 σ)) ∧ (¬ (x2 ≤ 0) → ∃ v3 σ3, sj_C G 2 me_L_next [.ref (sj_ad G 56), .int x2] σ (.ok v3, σ3) ∧ ∃ v4 σ4, sj_C G 9 me_X11_dateOf [.ref (sj_ad G 0), .int v3] σ3 (.ok v4, σ4) ∧ ∃ v5 σ5, sj_C G 10 me_X11_numberOf [.ref (sj_ad G 0), .int v4] σ4 (.ok v5, σ5) ∧ (¬ v5 = v3 → (wp_L_isYear_187 G R σ5)) ∧ (v5 = v3 → ∃ v7 σ7, sj_C G 10 me_X11_dayOfWeek [.ref (sj_ad G 0), .int v4] σ5 (.ok v7, σ7) ∧ ((nI 4) < v7 → (wp_L_isYear_187 G R σ7)) ∧ (¬ ((nI 4) < v7) → ∃ v9 σ9, sj_C G 11 me_X11_weekOf [.ref (sj_ad G 0), .int v4, .int (nI 2)] σ7 (.ok v9, σ9) ∧ (v9 < (nI 1) → (wp_L_isYear_187 G R σ9)) ∧ (¬ (v9 < (nI 1)) → ∃ v11 σ11, sj_C G 11 me_X11_weekOf [.ref (sj_ad G 0), .int v4, .int (nI 1)] σ9 (.ok v11, σ11) ∧ (0 ≤ v11 → (v3 ≤ 0 → (wp_L_isYear_235 G R x1 x2 x3 σ11)) ∧ (¬ (v3 ≤ 0) → ∃ v14 σ14, sj_C G 9 me_X11_dateOf [.ref (sj_ad G 0), .int (v3 - (nI 1))] σ11 (.ok v14, σ14) ∧ (v4 ≤ v14 → (wp_L_isYear_233 G R σ14)) ∧ (¬ (v4 ≤ v14) → ∃ v16 σ16, sj_C G 9 me_X11_dateOf [.ref (sj_ad G 0), .int (v3 - (nI 1))] σ14 (.ok v16, σ16) ∧ ∃ v17 σ17, sj_C G 10 me_X11_nextDay [.ref (sj_ad G 0), .int v16] σ16 (.ok v17, σ17) ∧ (v17 = v4 → (wp_L_isYear_235 G R x1 x2 x3 σ17)) ∧ (¬ (v17 = v4) → (wp_L_isYear_233 G R σ17))))) ∧ (¬ (0 ≤ v11) → (wp_L_isYear_187 G R σ11)))))))
set_option maxRecDepth 20000 in
theorem t_L_isYear_105 {G : sj_G} {R : sj_R} {x1 : Int32} {x2 : Int32} {x3 : Int32} {σ : sj_S} (hO : sj_ad G 70 = sj_ad G 0) (h : wp_L_isYear_105 G R x1 x2 x3 σ) : sj_J G 12 me_L_isYear R 105 [.ref (sj_ad G 56), .int x1, .int x2, .int x3, .null, .null] σ [] := by
  unfold wp_L_isYear_105 at h
  refine sj_iload_n dL_isYear_105 (i := 3) rfl rfl ?_
  refine sj_bipush (v := (nI 6)) dL_isYear_106 (by decide +kernel) ?_
  refine sj_icmp_ge (tgt := 241) dL_isYear_108 (by decide) (fun c1 => ?_) (fun c1 => ?_)
  · replace h := h.1 c1
    refine sj_fg [3] ?_
    exact t_L_isYear_241 hO h
  · replace h := h.2 c1
    refine sj_iload_n dL_isYear_111 (i := 2) rfl rfl ?_
    refine sj_if_le (tgt := 241) dL_isYear_112 (by decide) (fun c2 => ?_) (fun c2 => ?_)
    · replace h := h.1 c2
      refine sj_fg [3] ?_
      exact t_L_isYear_241 hO h
    · replace h := h.2 c2
      refine sj_aload_n dL_isYear_115 (i := 0) rfl rfl ?_
      refine sj_iload_n dL_isYear_116 (i := 2) rfl rfl ?_
      obtain ⟨v3, σ3, hc3, h⟩ := h
      refine sj_callVi (M' := me_L_next) (b := 56) (As := [.int x2]) (rest := []) dL_isYear_117 gL_isYear_L_next rfl hd_L_next (by decide +kernel) (by decide +kernel) rfl (Nat.le_of_ble_eq_true rfl) (by omega) rfl hc3 ?_
      refine sj_istore dL_isYear_120 (by decide) ?_
      refine sj_aload_n dL_isYear_122 (i := 0) rfl rfl ?_
      refine sj_getO hO (a := 56) (k9 := 1) dL_isYear_123 (by decide +kernel) rfl ?_
      refine sj_iload dL_isYear_126 rfl ?_
      obtain ⟨v4, σ4, hc4, h⟩ := h
      refine sj_callVi (M' := me_X11_dateOf) (b := 0) (As := [.int v3]) (rest := []) dL_isYear_128 gL_isYear_X11_dateOf rfl hd_X11_dateOf (by decide +kernel) (by decide +kernel) rfl (Nat.le_of_ble_eq_true rfl) (by omega) rfl hc4 ?_
      refine sj_istore dL_isYear_131 (by decide) ?_
      refine sj_aload_n dL_isYear_133 (i := 0) rfl rfl ?_
      refine sj_getO hO (a := 56) (k9 := 1) dL_isYear_134 (by decide +kernel) rfl ?_
      refine sj_iload dL_isYear_137 rfl ?_
      obtain ⟨v5, σ5, hc5, h⟩ := h
      refine sj_callVi (M' := me_X11_numberOf) (b := 0) (As := [.int v4]) (rest := []) dL_isYear_139 gL_isYear_X11_numberOf rfl hd_X11_numberOf (by decide +kernel) (by decide +kernel) rfl (Nat.le_of_ble_eq_true rfl) (by omega) rfl hc5 ?_
      refine sj_iload dL_isYear_142 rfl ?_
      refine sj_icmp_ne (tgt := 187) dL_isYear_144 (by decide) (fun c6 => ?_) (fun c6 => ?_)
      · replace h := h.1 c6
        refine sj_fg [0, 1, 2, 3, 4, 5] ?_
        exact t_L_isYear_187 hO h
      · replace h := h.2 c6
        refine sj_aload_n dL_isYear_147 (i := 0) rfl rfl ?_
        refine sj_getO hO (a := 56) (k9 := 1) dL_isYear_148 (by decide +kernel) rfl ?_
        refine sj_iload dL_isYear_151 rfl ?_
        obtain ⟨v7, σ7, hc7, h⟩ := h
        refine sj_callVi (M' := me_X11_dayOfWeek) (b := 0) (As := [.int v4]) (rest := []) dL_isYear_153 gL_isYear_X11_dayOfWeek rfl hd_X11_dayOfWeek (by decide +kernel) (by decide +kernel) rfl (Nat.le_of_ble_eq_true rfl) (by omega) rfl hc7 ?_
        refine sj_iconst (v := (nI 4)) dL_isYear_156 (by decide +kernel) ?_
        refine sj_icmp_gt (tgt := 187) dL_isYear_157 (by decide) (fun c8 => ?_) (fun c8 => ?_)
        · replace h := h.1 c8
          refine sj_fg [0, 1, 2, 3, 4, 5] ?_
          exact t_L_isYear_187 hO h
        · replace h := h.2 c8
          refine sj_aload_n dL_isYear_160 (i := 0) rfl rfl ?_
          refine sj_getO hO (a := 56) (k9 := 1) dL_isYear_161 (by decide +kernel) rfl ?_
          refine sj_iload dL_isYear_164 rfl ?_
          refine sj_iconst (v := (nI 2)) dL_isYear_166 (by decide +kernel) ?_
          obtain ⟨v9, σ9, hc9, h⟩ := h
          refine sj_callVi (M' := me_X11_weekOf) (b := 0) (As := [.int v4, .int (nI 2)]) (rest := []) dL_isYear_167 gL_isYear_X11_weekOf rfl hd_X11_weekOf (by decide +kernel) (by decide +kernel) rfl (Nat.le_of_ble_eq_true rfl) (by omega) rfl hc9 ?_
          refine sj_iconst (v := (nI 1)) dL_isYear_170 (by decide +kernel) ?_
          refine sj_icmp_lt (tgt := 187) dL_isYear_171 (by decide) (fun c10 => ?_) (fun c10 => ?_)
          · replace h := h.1 c10
            refine sj_fg [0, 1, 2, 3, 4, 5] ?_
            exact t_L_isYear_187 hO h
          · replace h := h.2 c10
            refine sj_aload_n dL_isYear_174 (i := 0) rfl rfl ?_
            refine sj_getO hO (a := 56) (k9 := 1) dL_isYear_175 (by decide +kernel) rfl ?_
            refine sj_iload dL_isYear_178 rfl ?_
            refine sj_iconst (v := (nI 1)) dL_isYear_180 (by decide +kernel) ?_
            obtain ⟨v11, σ11, hc11, h⟩ := h
            refine sj_callVi (M' := me_X11_weekOf) (b := 0) (As := [.int v4, .int (nI 1)]) (rest := []) dL_isYear_181 gL_isYear_X11_weekOf rfl hd_X11_weekOf (by decide +kernel) (by decide +kernel) rfl (Nat.le_of_ble_eq_true rfl) (by omega) rfl hc11 ?_
            refine sj_if_ge (tgt := 189) dL_isYear_184 (by decide) (fun c12 => ?_) (fun c12 => ?_)
            · replace h := h.1 c12
              refine sj_iload dL_isYear_189 rfl ?_
              refine sj_if_le (tgt := 235) dL_isYear_191 (by decide) (fun c13 => ?_) (fun c13 => ?_)
              · replace h := h.1 c13
                refine sj_fg [4, 5] ?_
                exact t_L_isYear_235 hO h
              · replace h := h.2 c13
                refine sj_aload_n dL_isYear_194 (i := 0) rfl rfl ?_
                refine sj_getO hO (a := 56) (k9 := 1) dL_isYear_195 (by decide +kernel) rfl ?_
                refine sj_iload dL_isYear_198 rfl ?_
                refine sj_iconst (v := (nI 1)) dL_isYear_200 (by decide +kernel) ?_
                refine sj_isub dL_isYear_201 ?_
                obtain ⟨v14, σ14, hc14, h⟩ := h
                refine sj_callVi (M' := me_X11_dateOf) (b := 0) (As := [.int (v3 - (nI 1))]) (rest := []) dL_isYear_202 gL_isYear_X11_dateOf rfl hd_X11_dateOf (by decide +kernel) (by decide +kernel) rfl (Nat.le_of_ble_eq_true rfl) (by omega) rfl hc14 ?_
                refine sj_iload dL_isYear_205 rfl ?_
                refine sj_icmp_ge (tgt := 233) dL_isYear_207 (by decide) (fun c15 => ?_) (fun c15 => ?_)
                · replace h := h.1 c15
                  refine sj_fg [0, 1, 2, 3, 4, 5] ?_
                  exact t_L_isYear_233 hO h
                · replace h := h.2 c15
                  refine sj_aload_n dL_isYear_210 (i := 0) rfl rfl ?_
                  refine sj_getO hO (a := 56) (k9 := 1) dL_isYear_211 (by decide +kernel) rfl ?_
                  refine sj_aload_n dL_isYear_214 (i := 0) rfl rfl ?_
                  refine sj_getO hO (a := 56) (k9 := 1) dL_isYear_215 (by decide +kernel) rfl ?_
                  refine sj_iload dL_isYear_218 rfl ?_
                  refine sj_iconst (v := (nI 1)) dL_isYear_220 (by decide +kernel) ?_
                  refine sj_isub dL_isYear_221 ?_
                  obtain ⟨v16, σ16, hc16, h⟩ := h
                  refine sj_callVi (M' := me_X11_dateOf) (b := 0) (As := [.int (v3 - (nI 1))]) (rest := [.ref (sj_ad G 0)]) dL_isYear_222 gL_isYear_X11_dateOf rfl hd_X11_dateOf (by decide +kernel) (by decide +kernel) rfl (Nat.le_of_ble_eq_true rfl) (by omega) rfl hc16 ?_
                  obtain ⟨v17, σ17, hc17, h⟩ := h
                  refine sj_callVi (M' := me_X11_nextDay) (b := 0) (As := [.int v16]) (rest := []) dL_isYear_225 gL_isYear_X11_nextDay rfl hd_X11_nextDay (by decide +kernel) (by decide +kernel) rfl (Nat.le_of_ble_eq_true rfl) (by omega) rfl hc17 ?_
                  refine sj_iload dL_isYear_228 rfl ?_
                  refine sj_icmp_eq (tgt := 235) dL_isYear_230 (by decide) (fun c18 => ?_) (fun c18 => ?_)
                  · replace h := h.1 c18
                    refine sj_fg [4, 5] ?_
                    exact t_L_isYear_235 hO h
                  · replace h := h.2 c18
                    refine sj_fg [0, 1, 2, 3, 4, 5] ?_
                    exact t_L_isYear_233 hO h
            · replace h := h.2 c12
              refine sj_fg [0, 1, 2, 3, 4, 5] ?_
              exact t_L_isYear_187 hO h
def wp_L_isYear_307 (G : sj_G) (R : sj_R) (σ : sj_S) : Prop := R = (.ok (nI 0), σ)
set_option maxRecDepth 20000 in
theorem t_L_isYear_307 {G : sj_G} {R : sj_R} {σ : sj_S} (hO : sj_ad G 70 = sj_ad G 0) (h : wp_L_isYear_307 G R σ) : sj_J G 12 me_L_isYear R 307 [.null, .null, .null, .null, .null, .null] σ [] := by
  unfold wp_L_isYear_307 at h
  refine sj_iconst (v := (nI 0)) dL_isYear_307 (by decide +kernel) ?_
  subst h
  exact sj_ret dL_isYear_308 rfl rfl
def wp_L_isYear_403 (G : sj_G) (R : sj_R) (s0 : Int32) (σ : sj_S) : Prop := R = (.ok s0, σ) ∧ (s0 = nI 0 ∨ s0 = nI 1)
set_option maxRecDepth 20000 in
theorem t_L_isYear_403 {G : sj_G} {R : sj_R} {s0 : Int32} {σ : sj_S} (hO : sj_ad G 70 = sj_ad G 0) (h : wp_L_isYear_403 G R s0 σ) : sj_J G 12 me_L_isYear R 403 [.null, .null, .null, .null, .null, .null] σ [.int s0] := by
  unfold wp_L_isYear_403 at h
  obtain ⟨h, hz⟩ := h
  subst h
  exact sj_ret dL_isYear_403 rfl (sj_nb hz)
def wp_L_isYear_398 (G : sj_G) (R : sj_R) (σ : sj_S) : Prop := (wp_L_isYear_403 G R (nI 1) σ)
set_option maxRecDepth 20000 in
theorem t_L_isYear_398 {G : sj_G} {R : sj_R} {σ : sj_S} (hO : sj_ad G 70 = sj_ad G 0) (h : wp_L_isYear_398 G R σ) : sj_J G 12 me_L_isYear R 398 [.null, .null, .null, .null, .null, .null] σ [] := by
  unfold wp_L_isYear_398 at h
  refine sj_iconst (v := (nI 1)) dL_isYear_398 (by decide +kernel) ?_
  refine sj_goto (tgt := 403) dL_isYear_399 (by decide) ?_
  exact t_L_isYear_403 hO h
def wp_L_isYear_402 (G : sj_G) (R : sj_R) (σ : sj_S) : Prop := (wp_L_isYear_403 G R (nI 0) σ)
set_option maxRecDepth 20000 in
theorem t_L_isYear_402 {G : sj_G} {R : sj_R} {σ : sj_S} (hO : sj_ad G 70 = sj_ad G 0) (h : wp_L_isYear_402 G R σ) : sj_J G 12 me_L_isYear R 402 [.null, .null, .null, .null, .null, .null] σ [] := by
  unfold wp_L_isYear_402 at h
  refine sj_iconst (v := (nI 0)) dL_isYear_402 (by decide +kernel) ?_
  exact t_L_isYear_403 hO h
def wp_L_isYear_246 (G : sj_G) (R : sj_R) (x1 : Int32) (x2 : Int32) (x3 : Int32) (x4 : Int32) (σ : sj_S) : Prop := ((nI 40) ≤ x4 → ∃ v2 σ2, sj_C G 2 me_L_next [.ref (sj_ad G 56), .int (nI 2001)] σ (.ok v2, σ2) ∧ (¬ x3 = x2 → (wp_L_isYear_402 G R σ2)) ∧ (x3 = x2 → ∃ v5 σ5, sj_C G 10 me_X11_later [.ref (sj_ad G 0), .int x1, .int (nI 280)] σ2 (.ok v5, σ5) ∧ ∃ v6 σ6, sj_C G 11 me_X11_weekOf [.ref (sj_ad G 0), .int v5, .int (nI 0)] σ5 (.ok v6, σ6) ∧ (¬ v6 = (-1) → (wp_L_isYear_402 G R σ6)) ∧ (v6 = (-1) → ((v2 - (nI 1000)) < 0 → (wp_L_isYear_398 G R σ6)) ∧ (¬ ((v2 - (nI 1000)) < 0) → ∃ v12 σ12, sj_C G 10 me_X11_later [.ref (sj_ad G 0), .int x1, .int (v2 - (nI 1000))] σ6 (.ok v12, σ12) ∧ ∃ v13 σ13, sj_C G 10 me_X11_later [.ref (sj_ad G 0), .int v12, .int (-(v2 - (nI 1000)))] σ12 (.ok v13, σ13) ∧ (wp_L_isYear_403 G R (if v13 = x1 then (nI 1) else (nI 0)) σ13))))) ∧ (¬ ((nI 40) ≤ x4) → ∃ v15 σ15, sj_C G 10 me_X11_later [.ref (sj_ad G 0), .int x1, .int ((nI 7) * x4)] σ (.ok v15, σ15) ∧ ∃ v16 σ16, sj_C G 11 me_X11_weekOf [.ref (sj_ad G 0), .int v15, .int (nI 0)] σ15 (.ok v16, σ16) ∧ (¬ v16 = x4 → (wp_L_isYear_307 G R σ16)) ∧ (v16 = x4 → ∃ v18 σ18, sj_C G 10 me_X11_later [.ref (sj_ad G 0), .int v15, .int (nI 6)] σ16 (.ok v18, σ18) ∧ ∃ v19 σ19, sj_C G 11 me_X11_weekOf [.ref (sj_ad G 0), .int v18, .int (nI 0)] σ18 (.ok v19, σ19) ∧ (v19 = x4 → ∃ v21 σ21, sj_C G 11 me_X11_weekOf [.ref (sj_ad G 0), .int v15, .int (nI 2)] σ19 (.ok v21, σ21) ∧ sj_J G 12 me_L_isYear R 246 [.ref (sj_ad G 56), .int x1, .int x2, .int (x3 + v21), .int (x4 + (nI 1)), .null] σ21 []) ∧ (¬ (v19 = x4) → (wp_L_isYear_307 G R σ19))))
set_option maxRecDepth 20000 in
theorem t_L_isYear_246 {G : sj_G} {R : sj_R} {x1 : Int32} {x2 : Int32} {x3 : Int32} {x4 : Int32} {σ : sj_S} (hO : sj_ad G 70 = sj_ad G 0) (h : wp_L_isYear_246 G R x1 x2 x3 x4 σ) : sj_J G 12 me_L_isYear R 246 [.ref (sj_ad G 56), .int x1, .int x2, .int x3, .int x4, .null] σ [] := by
  unfold wp_L_isYear_246 at h
  refine sj_iload dL_isYear_246 rfl ?_
  refine sj_bipush (v := (nI 40)) dL_isYear_248 (by decide +kernel) ?_
  refine sj_icmp_ge (tgt := 328) dL_isYear_250 (by decide) (fun c1 => ?_) (fun c1 => ?_)
  · replace h := h.1 c1
    refine sj_aload_n dL_isYear_328 (i := 0) rfl rfl ?_
    refine sj_sipush (v := (nI 2001)) dL_isYear_329 (by decide +kernel) ?_
    obtain ⟨v2, σ2, hc2, h⟩ := h
    refine sj_callVi (M' := me_L_next) (b := 56) (As := [.int (nI 2001)]) (rest := []) dL_isYear_332 gL_isYear_L_next rfl hd_L_next (by decide +kernel) (by decide +kernel) rfl (Nat.le_of_ble_eq_true rfl) (by omega) rfl hc2 ?_
    refine sj_sipush (v := (nI 1000)) dL_isYear_335 (by decide +kernel) ?_
    refine sj_isub dL_isYear_338 ?_
    refine sj_istore dL_isYear_339 (by decide) ?_
    refine sj_iload_n dL_isYear_341 (i := 3) rfl rfl ?_
    refine sj_iload_n dL_isYear_342 (i := 2) rfl rfl ?_
    refine sj_icmp_ne (tgt := 402) dL_isYear_343 (by decide) (fun c4 => ?_) (fun c4 => ?_)
    · replace h := h.1 c4
      refine sj_fg [0, 1, 2, 3, 4] ?_
      exact t_L_isYear_402 hO h
    · replace h := h.2 c4
      refine sj_aload_n dL_isYear_346 (i := 0) rfl rfl ?_
      refine sj_getO hO (a := 56) (k9 := 1) dL_isYear_347 (by decide +kernel) rfl ?_
      refine sj_aload_n dL_isYear_350 (i := 0) rfl rfl ?_
      refine sj_getO hO (a := 56) (k9 := 1) dL_isYear_351 (by decide +kernel) rfl ?_
      refine sj_iload_n dL_isYear_354 (i := 1) rfl rfl ?_
      refine sj_sipush (v := (nI 280)) dL_isYear_355 (by decide +kernel) ?_
      obtain ⟨v5, σ5, hc5, h⟩ := h
      refine sj_callVi (M' := me_X11_later) (b := 0) (As := [.int x1, .int (nI 280)]) (rest := [.ref (sj_ad G 0)]) dL_isYear_358 gL_isYear_X11_later rfl hd_X11_later (by decide +kernel) (by decide +kernel) rfl (Nat.le_of_ble_eq_true rfl) (by omega) rfl hc5 ?_
      refine sj_iconst (v := (nI 0)) dL_isYear_361 (by decide +kernel) ?_
      obtain ⟨v6, σ6, hc6, h⟩ := h
      refine sj_callVi (M' := me_X11_weekOf) (b := 0) (As := [.int v5, .int (nI 0)]) (rest := []) dL_isYear_362 gL_isYear_X11_weekOf rfl hd_X11_weekOf (by decide +kernel) (by decide +kernel) rfl (Nat.le_of_ble_eq_true rfl) (by omega) rfl hc6 ?_
      refine sj_iconst (v := (-1)) dL_isYear_365 (by decide +kernel) ?_
      refine sj_icmp_ne (tgt := 402) dL_isYear_366 (by decide) (fun c9 => ?_) (fun c9 => ?_)
      · replace h := h.1 c9
        refine sj_fg [0, 1, 2, 3, 4] ?_
        exact t_L_isYear_402 hO h
      · replace h := h.2 c9
        refine sj_iload dL_isYear_369 rfl ?_
        refine sj_if_lt (tgt := 398) dL_isYear_371 (by decide) (fun c11 => ?_) (fun c11 => ?_)
        · replace h := h.1 c11
          refine sj_fg [0, 1, 2, 3, 4] ?_
          exact t_L_isYear_398 hO h
        · replace h := h.2 c11
          refine sj_aload_n dL_isYear_374 (i := 0) rfl rfl ?_
          refine sj_getO hO (a := 56) (k9 := 1) dL_isYear_375 (by decide +kernel) rfl ?_
          refine sj_aload_n dL_isYear_378 (i := 0) rfl rfl ?_
          refine sj_getO hO (a := 56) (k9 := 1) dL_isYear_379 (by decide +kernel) rfl ?_
          refine sj_iload_n dL_isYear_382 (i := 1) rfl rfl ?_
          refine sj_iload dL_isYear_383 rfl ?_
          obtain ⟨v12, σ12, hc12, h⟩ := h
          refine sj_callVi (M' := me_X11_later) (b := 0) (As := [.int x1, .int (v2 - (nI 1000))]) (rest := [.ref (sj_ad G 0)]) dL_isYear_385 gL_isYear_X11_later rfl hd_X11_later (by decide +kernel) (by decide +kernel) rfl (Nat.le_of_ble_eq_true rfl) (by omega) rfl hc12 ?_
          refine sj_iload dL_isYear_388 rfl ?_
          refine sj_ineg dL_isYear_390 ?_
          obtain ⟨v13, σ13, hc13, h⟩ := h
          refine sj_callVi (M' := me_X11_later) (b := 0) (As := [.int v12, .int (-(v2 - (nI 1000)))]) (rest := []) dL_isYear_391 gL_isYear_X11_later rfl hd_X11_later (by decide +kernel) (by decide +kernel) rfl (Nat.le_of_ble_eq_true rfl) (by omega) rfl hc13 ?_
          refine sj_iload_n dL_isYear_394 (i := 1) rfl rfl ?_
          refine sj_icmp_ne (tgt := 402) dL_isYear_395 (by decide) (fun c14 => ?_) (fun c14 => ?_)
          · refine sj_iconst (v := (nI 0)) dL_isYear_402 (by decide +kernel) ?_
            try simp only [if_neg c14] at h
            refine sj_fg [0, 1, 2, 3, 4] ?_
            exact t_L_isYear_403 hO h
          · refine sj_iconst (v := (nI 1)) dL_isYear_398 (by decide +kernel) ?_
            refine sj_goto (tgt := 403) dL_isYear_399 (by decide) ?_
            try simp only [if_pos c14] at h
            refine sj_fg [0, 1, 2, 3, 4] ?_
            exact t_L_isYear_403 hO h
  · replace h := h.2 c1
    refine sj_aload_n dL_isYear_253 (i := 0) rfl rfl ?_
    refine sj_getO hO (a := 56) (k9 := 1) dL_isYear_254 (by decide +kernel) rfl ?_
    refine sj_iload_n dL_isYear_257 (i := 1) rfl rfl ?_
    refine sj_bipush (v := (nI 7)) dL_isYear_258 (by decide +kernel) ?_
    refine sj_iload dL_isYear_260 rfl ?_
    refine sj_imul dL_isYear_262 ?_
    obtain ⟨v15, σ15, hc15, h⟩ := h
    refine sj_callVi (M' := me_X11_later) (b := 0) (As := [.int x1, .int ((nI 7) * x4)]) (rest := []) dL_isYear_263 gL_isYear_X11_later rfl hd_X11_later (by decide +kernel) (by decide +kernel) rfl (Nat.le_of_ble_eq_true rfl) (by omega) rfl hc15 ?_
    refine sj_istore dL_isYear_266 (by decide) ?_
    refine sj_aload_n dL_isYear_268 (i := 0) rfl rfl ?_
    refine sj_getO hO (a := 56) (k9 := 1) dL_isYear_269 (by decide +kernel) rfl ?_
    refine sj_iload dL_isYear_272 rfl ?_
    refine sj_iconst (v := (nI 0)) dL_isYear_274 (by decide +kernel) ?_
    obtain ⟨v16, σ16, hc16, h⟩ := h
    refine sj_callVi (M' := me_X11_weekOf) (b := 0) (As := [.int v15, .int (nI 0)]) (rest := []) dL_isYear_275 gL_isYear_X11_weekOf rfl hd_X11_weekOf (by decide +kernel) (by decide +kernel) rfl (Nat.le_of_ble_eq_true rfl) (by omega) rfl hc16 ?_
    refine sj_iload dL_isYear_278 rfl ?_
    refine sj_icmp_ne (tgt := 307) dL_isYear_280 (by decide) (fun c17 => ?_) (fun c17 => ?_)
    · replace h := h.1 c17
      refine sj_fg [0, 1, 2, 3, 4, 5] ?_
      exact t_L_isYear_307 hO h
    · replace h := h.2 c17
      refine sj_aload_n dL_isYear_283 (i := 0) rfl rfl ?_
      refine sj_getO hO (a := 56) (k9 := 1) dL_isYear_284 (by decide +kernel) rfl ?_
      refine sj_aload_n dL_isYear_287 (i := 0) rfl rfl ?_
      refine sj_getO hO (a := 56) (k9 := 1) dL_isYear_288 (by decide +kernel) rfl ?_
      refine sj_iload dL_isYear_291 rfl ?_
      refine sj_bipush (v := (nI 6)) dL_isYear_293 (by decide +kernel) ?_
      obtain ⟨v18, σ18, hc18, h⟩ := h
      refine sj_callVi (M' := me_X11_later) (b := 0) (As := [.int v15, .int (nI 6)]) (rest := [.ref (sj_ad G 0)]) dL_isYear_295 gL_isYear_X11_later rfl hd_X11_later (by decide +kernel) (by decide +kernel) rfl (Nat.le_of_ble_eq_true rfl) (by omega) rfl hc18 ?_
      refine sj_iconst (v := (nI 0)) dL_isYear_298 (by decide +kernel) ?_
      obtain ⟨v19, σ19, hc19, h⟩ := h
      refine sj_callVi (M' := me_X11_weekOf) (b := 0) (As := [.int v18, .int (nI 0)]) (rest := []) dL_isYear_299 gL_isYear_X11_weekOf rfl hd_X11_weekOf (by decide +kernel) (by decide +kernel) rfl (Nat.le_of_ble_eq_true rfl) (by omega) rfl hc19 ?_
      refine sj_iload dL_isYear_302 rfl ?_
      refine sj_icmp_eq (tgt := 309) dL_isYear_304 (by decide) (fun c20 => ?_) (fun c20 => ?_)
      · replace h := h.1 c20
        refine sj_iload_n dL_isYear_309 (i := 3) rfl rfl ?_
        refine sj_aload_n dL_isYear_310 (i := 0) rfl rfl ?_
        refine sj_getO hO (a := 56) (k9 := 1) dL_isYear_311 (by decide +kernel) rfl ?_
        refine sj_iload dL_isYear_314 rfl ?_
        refine sj_iconst (v := (nI 2)) dL_isYear_316 (by decide +kernel) ?_
        obtain ⟨v21, σ21, hc21, h⟩ := h
        refine sj_callVi (M' := me_X11_weekOf) (b := 0) (As := [.int v15, .int (nI 2)]) (rest := [.int x3]) dL_isYear_317 gL_isYear_X11_weekOf rfl hd_X11_weekOf (by decide +kernel) (by decide +kernel) rfl (Nat.le_of_ble_eq_true rfl) (by omega) rfl hc21 ?_
        refine sj_iadd dL_isYear_320 ?_
        refine sj_istore_n dL_isYear_321 (i := 3) rfl (by decide) ?_
        refine sj_iinc (v := (x4 + (nI 1))) dL_isYear_322 (by decide) rfl rfl ?_
        refine sj_goto (tgt := 246) dL_isYear_325 (by decide) ?_
        refine sj_fg [5] ?_
        exact h
      · replace h := h.2 c20
        refine sj_fg [0, 1, 2, 3, 4, 5] ?_
        exact t_L_isYear_307 hO h
def wp_L_isYear_0 (G : sj_G) (R : sj_R) (σ : sj_S) : Prop := ∃ v1 σ1, sj_C G 10 me_X11_dayOfWeek [.ref (sj_ad G 0), .int (nI 20200106)] σ (.ok v1, σ1) ∧ (¬ v1 = 0 → (wp_L_isYear_27 G R σ1)) ∧ (v1 = 0 → ∃ v3 σ3, sj_C G 10 me_X11_setYear [.ref (sj_ad G 0), .int (nI 20200106)] σ1 (.ok v3, σ3) ∧ (v3 = (nI 20260907) → ∃ v5 σ5, sj_C G 2 me_L_next [.ref (sj_ad G 56), .int (nI 4)] σ3 (.ok v5, σ5) ∧ sj_J G 12 me_L_isYear R 35 [.ref (sj_ad G 56), .int (nI 20200106), .int v5, .null, .null, .null] σ5 []) ∧ (¬ (v3 = (nI 20260907)) → (wp_L_isYear_27 G R σ3)))
set_option maxRecDepth 20000 in
theorem t_L_isYear_0 {G : sj_G} {R : sj_R} {σ : sj_S} (hO : sj_ad G 70 = sj_ad G 0) (h : wp_L_isYear_0 G R σ) : sj_J G 12 me_L_isYear R 0 [.ref (sj_ad G 56), .null, .null, .null, .null, .null] σ [] := by
  unfold wp_L_isYear_0 at h
  refine sj_ldc (v := (nI 20200106)) dL_isYear_0 (by decide +kernel) ?_
  refine sj_istore_n dL_isYear_2 (i := 1) rfl (by decide) ?_
  refine sj_aload_n dL_isYear_3 (i := 0) rfl rfl ?_
  refine sj_getO hO (a := 56) (k9 := 1) dL_isYear_4 (by decide +kernel) rfl ?_
  refine sj_iload_n dL_isYear_7 (i := 1) rfl rfl ?_
  obtain ⟨v1, σ1, hc1, h⟩ := h
  refine sj_callVi (M' := me_X11_dayOfWeek) (b := 0) (As := [.int (nI 20200106)]) (rest := []) dL_isYear_8 gL_isYear_X11_dayOfWeek rfl hd_X11_dayOfWeek (by decide +kernel) (by decide +kernel) rfl (Nat.le_of_ble_eq_true rfl) (by omega) rfl hc1 ?_
  refine sj_if_ne (tgt := 27) dL_isYear_11 (by decide) (fun c2 => ?_) (fun c2 => ?_)
  · replace h := h.1 c2
    refine sj_fg [0, 1] ?_
    exact t_L_isYear_27 hO h
  · replace h := h.2 c2
    refine sj_aload_n dL_isYear_14 (i := 0) rfl rfl ?_
    refine sj_getO hO (a := 56) (k9 := 1) dL_isYear_15 (by decide +kernel) rfl ?_
    refine sj_iload_n dL_isYear_18 (i := 1) rfl rfl ?_
    obtain ⟨v3, σ3, hc3, h⟩ := h
    refine sj_callVi (M' := me_X11_setYear) (b := 0) (As := [.int (nI 20200106)]) (rest := []) dL_isYear_19 gL_isYear_X11_setYear rfl hd_X11_setYear (by decide +kernel) (by decide +kernel) rfl (Nat.le_of_ble_eq_true rfl) (by omega) rfl hc3 ?_
    refine sj_ldc (v := (nI 20260907)) dL_isYear_22 (by decide +kernel) ?_
    refine sj_icmp_eq (tgt := 29) dL_isYear_24 (by decide) (fun c4 => ?_) (fun c4 => ?_)
    · replace h := h.1 c4
      refine sj_aload_n dL_isYear_29 (i := 0) rfl rfl ?_
      refine sj_iconst (v := (nI 4)) dL_isYear_30 (by decide +kernel) ?_
      obtain ⟨v5, σ5, hc5, h⟩ := h
      refine sj_callVi (M' := me_L_next) (b := 56) (As := [.int (nI 4)]) (rest := []) dL_isYear_31 gL_isYear_L_next rfl hd_L_next (by decide +kernel) (by decide +kernel) rfl (Nat.le_of_ble_eq_true rfl) (by omega) rfl hc5 ?_
      refine sj_istore_n dL_isYear_34 (i := 2) rfl (by decide) ?_
      exact h
    · replace h := h.2 c4
      refine sj_fg [0, 1] ?_
      exact t_L_isYear_27 hO h
theorem c_L_isYear {G : sj_G} (ok : sj_ok G) {R : sj_R} {σ : sj_S} (hO : sj_ad G 70 = sj_ad G 0) (h : wp_L_isYear_0 G R σ) : sj_C G 12 me_L_isYear [.ref (sj_ad G 56)] σ R :=
  sj_enter ok (by decide +kernel) rfl rfl (Nat.le_of_ble_eq_true rfl) (by simp [Value.category]) (t_L_isYear_0 hO h)
def wp_L_areBells_146 (G : sj_G) (R : sj_R) (σ : sj_S) : Prop := R = (.ok (nI 0), σ)
set_option maxRecDepth 20000 in
theorem t_L_areBells_146 {G : sj_G} {R : sj_R} {σ : sj_S} (hO : sj_ad G 70 = sj_ad G 0) (h : wp_L_areBells_146 G R σ) : sj_J G 12 me_L_areBells R 146 [.null, .null, .null, .null, .null, .null, .null, .null, .null, .null] σ [] := by
  unfold wp_L_areBells_146 at h
  refine sj_iconst (v := (nI 0)) dL_areBells_146 (by decide +kernel) ?_
  subst h
  exact sj_ret dL_areBells_147 rfl rfl
def wp_L_areBells_180 (G : sj_G) (R : sj_R) (σ : sj_S) : Prop := R = (.ok (nI 0), σ)
set_option maxRecDepth 20000 in
theorem t_L_areBells_180 {G : sj_G} {R : sj_R} {σ : sj_S} (hO : sj_ad G 70 = sj_ad G 0) (h : wp_L_areBells_180 G R σ) : sj_J G 12 me_L_areBells R 180 [.null, .null, .null, .null, .null, .null, .null, .null, .null, .null] σ [] := by
  unfold wp_L_areBells_180 at h
  refine sj_iconst (v := (nI 0)) dL_areBells_180 (by decide +kernel) ?_
  subst h
  exact sj_ret dL_areBells_181 rfl rfl
def wp_L_areBells_182 (G : sj_G) (R : sj_R) (x1 : Int32) (x2 : Int32) (x3 : Int32) (x4 : Int32) (x5 : Int32) (x6 : Int32) (σ : sj_S) : Prop := sj_J G 12 me_L_areBells R 53 [.ref (sj_ad G 56), .int x1, .int x2, .int x3, .int x4, .int x5, .int (x6 + (nI 1)), .null, .null, .null] σ []
set_option maxRecDepth 20000 in
theorem t_L_areBells_182 {G : sj_G} {R : sj_R} {x1 : Int32} {x2 : Int32} {x3 : Int32} {x4 : Int32} {x5 : Int32} {x6 : Int32} {σ : sj_S} (hO : sj_ad G 70 = sj_ad G 0) (h : wp_L_areBells_182 G R x1 x2 x3 x4 x5 x6 σ) : sj_J G 12 me_L_areBells R 182 [.ref (sj_ad G 56), .int x1, .int x2, .int x3, .int x4, .int x5, .int x6, .null, .null, .null] σ [] := by
  unfold wp_L_areBells_182 at h
  refine sj_iinc (v := (x6 + (nI 1))) dL_areBells_182 (by decide) rfl rfl ?_
  refine sj_goto (tgt := 53) dL_areBells_185 (by decide) ?_
  exact h
def wp_L_areBells_167 (G : sj_G) (R : sj_R) (x1 : Int32) (x2 : Int32) (x3 : Int32) (x4 : Int32) (x5 : Int32) (x6 : Int32) (x9 : Int32) (σ : sj_S) : Prop := (¬ x6 = (nI 3) → (wp_L_areBells_182 G R x1 x2 x3 x4 x5 x6 σ)) ∧ (x6 = (nI 3) → (x9 = x5 → (wp_L_areBells_182 G R x1 x2 x3 x4 x5 x6 σ)) ∧ (¬ (x9 = x5) → (wp_L_areBells_180 G R σ)))
set_option maxRecDepth 20000 in
theorem t_L_areBells_167 {G : sj_G} {R : sj_R} {x1 : Int32} {x2 : Int32} {x3 : Int32} {x4 : Int32} {x5 : Int32} {x6 : Int32} {x9 : Int32} {σ : sj_S} (hO : sj_ad G 70 = sj_ad G 0) (h : wp_L_areBells_167 G R x1 x2 x3 x4 x5 x6 x9 σ) : sj_J G 12 me_L_areBells R 167 [.ref (sj_ad G 56), .int x1, .int x2, .int x3, .int x4, .int x5, .int x6, .null, .null, .int x9] σ [] := by
  unfold wp_L_areBells_167 at h
  refine sj_iload dL_areBells_167 rfl ?_
  refine sj_iconst (v := (nI 3)) dL_areBells_169 (by decide +kernel) ?_
  refine sj_icmp_ne (tgt := 182) dL_areBells_170 (by decide) (fun c1 => ?_) (fun c1 => ?_)
  · replace h := h.1 c1
    refine sj_fg [9] ?_
    exact t_L_areBells_182 hO h
  · replace h := h.2 c1
    refine sj_iload dL_areBells_173 rfl ?_
    refine sj_iload dL_areBells_175 rfl ?_
    refine sj_icmp_eq (tgt := 182) dL_areBells_177 (by decide) (fun c2 => ?_) (fun c2 => ?_)
    · replace h := h.1 c2
      refine sj_fg [9] ?_
      exact t_L_areBells_182 hO h
    · replace h := h.2 c2
      refine sj_fg [0, 1, 2, 3, 4, 5, 6, 9] ?_
      exact t_L_areBells_180 hO h
def wp_L_areBells_208 (G : sj_G) (R : sj_R) (s0 : Int32) (σ : sj_S) : Prop := R = (.ok s0, σ) ∧ (s0 = nI 0 ∨ s0 = nI 1)
set_option maxRecDepth 20000 in
theorem t_L_areBells_208 {G : sj_G} {R : sj_R} {s0 : Int32} {σ : sj_S} (hO : sj_ad G 70 = sj_ad G 0) (h : wp_L_areBells_208 G R s0 σ) : sj_J G 12 me_L_areBells R 208 [.null, .null, .null, .null, .null, .null, .null, .null, .null, .null] σ [.int s0] := by
  unfold wp_L_areBells_208 at h
  obtain ⟨h, hz⟩ := h
  subst h
  exact sj_ret dL_areBells_208 rfl (sj_nb hz)
def wp_L_areBells_53 (G : sj_G) (R : sj_R) (x1 : Int32) (x2 : Int32) (x3 : Int32) (x4 : Int32) (x5 : Int32) (x6 : Int32) (σ : sj_S) : Prop := ((nI 4) ≤ x6 → ∃ v2 σ2, sj_C G 11 me_X11_slotAt [.ref (sj_ad G 0), .int x1, .int (x2 - (nI 1))] σ (.ok v2, σ2) ∧ (wp_L_areBells_208 G R (if v2 = (-1) then (nI 1) else (nI 0)) σ2)) ∧ (¬ ((nI 4) ≤ x6) → ∃ v4 σ4, sj_C G 11 me_X11_bell [.ref (sj_ad G 0), .int (((nI 4) * x1) + x6), .int (nI 0)] σ (.ok v4, σ4) ∧ ∃ v5 σ5, sj_C G 11 me_X11_bell [.ref (sj_ad G 0), .int (((nI 4) * x1) + x6), .int (nI 1)] σ4 (.ok v5, σ5) ∧ (¬ v4 = (x2 + (x6 * (x3 + x4))) → (wp_L_areBells_146 G R σ5)) ∧ (v4 = (x2 + (x6 * (x3 + x4))) → (¬ v5 = (v4 + x3) → (wp_L_areBells_146 G R σ5)) ∧ (v5 = (v4 + x3) → ∃ v8 σ8, sj_C G 11 me_X11_slotAt [.ref (sj_ad G 0), .int x1, .int v4] σ5 (.ok v8, σ8) ∧ (¬ v8 = (((nI 4) * x1) + x6) → (wp_L_areBells_146 G R σ8)) ∧ (v8 = (((nI 4) * x1) + x6) → ∃ v10 σ10, sj_C G 11 me_X11_slotAt [.ref (sj_ad G 0), .int x1, .int (v5 - (nI 1))] σ8 (.ok v10, σ10) ∧ (v10 = (((nI 4) * x1) + x6) → (x4 ≤ 0 → (wp_L_areBells_167 G R x1 x2 x3 x4 x5 x6 v5 σ10)) ∧ (¬ (x4 ≤ 0) → ∃ v13 σ13, sj_C G 11 me_X11_slotAt [.ref (sj_ad G 0), .int x1, .int v5] σ10 (.ok v13, σ13) ∧ (¬ v13 = (-1) → (wp_L_areBells_180 G R σ13)) ∧ (v13 = (-1) → (wp_L_areBells_167 G R x1 x2 x3 x4 x5 x6 v5 σ13)))) ∧ (¬ (v10 = (((nI 4) * x1) + x6)) → (wp_L_areBells_146 G R σ10))))))
set_option maxRecDepth 20000 in
theorem t_L_areBells_53 {G : sj_G} {R : sj_R} {x1 : Int32} {x2 : Int32} {x3 : Int32} {x4 : Int32} {x5 : Int32} {x6 : Int32} {σ : sj_S} (hO : sj_ad G 70 = sj_ad G 0) (h : wp_L_areBells_53 G R x1 x2 x3 x4 x5 x6 σ) : sj_J G 12 me_L_areBells R 53 [.ref (sj_ad G 56), .int x1, .int x2, .int x3, .int x4, .int x5, .int x6, .null, .null, .null] σ [] := by
  unfold wp_L_areBells_53 at h
  refine sj_iload dL_areBells_53 rfl ?_
  refine sj_iconst (v := (nI 4)) dL_areBells_55 (by decide +kernel) ?_
  refine sj_icmp_ge (tgt := 188) dL_areBells_56 (by decide) (fun c1 => ?_) (fun c1 => ?_)
  · replace h := h.1 c1
    refine sj_aload_n dL_areBells_188 (i := 0) rfl rfl ?_
    refine sj_getO hO (a := 56) (k9 := 1) dL_areBells_189 (by decide +kernel) rfl ?_
    refine sj_iload_n dL_areBells_192 (i := 1) rfl rfl ?_
    refine sj_iload_n dL_areBells_193 (i := 2) rfl rfl ?_
    refine sj_iconst (v := (nI 1)) dL_areBells_194 (by decide +kernel) ?_
    refine sj_isub dL_areBells_195 ?_
    obtain ⟨v2, σ2, hc2, h⟩ := h
    refine sj_callVi (M' := me_X11_slotAt) (b := 0) (As := [.int x1, .int (x2 - (nI 1))]) (rest := []) dL_areBells_196 gL_areBells_X11_slotAt rfl hd_X11_slotAt (by decide +kernel) (by decide +kernel) rfl (Nat.le_of_ble_eq_true rfl) (by omega) rfl hc2 ?_
    refine sj_iconst (v := (-1)) dL_areBells_199 (by decide +kernel) ?_
    refine sj_icmp_ne (tgt := 207) dL_areBells_200 (by decide) (fun c3 => ?_) (fun c3 => ?_)
    · refine sj_iconst (v := (nI 0)) dL_areBells_207 (by decide +kernel) ?_
      try simp only [if_neg c3] at h
      refine sj_fg [0, 1, 2, 3, 4, 5, 6] ?_
      exact t_L_areBells_208 hO h
    · refine sj_iconst (v := (nI 1)) dL_areBells_203 (by decide +kernel) ?_
      refine sj_goto (tgt := 208) dL_areBells_204 (by decide) ?_
      try simp only [if_pos c3] at h
      refine sj_fg [0, 1, 2, 3, 4, 5, 6] ?_
      exact t_L_areBells_208 hO h
  · replace h := h.2 c1
    refine sj_iconst (v := (nI 4)) dL_areBells_59 (by decide +kernel) ?_
    refine sj_iload_n dL_areBells_60 (i := 1) rfl rfl ?_
    refine sj_imul dL_areBells_61 ?_
    refine sj_iload dL_areBells_62 rfl ?_
    refine sj_iadd dL_areBells_64 ?_
    refine sj_istore dL_areBells_65 (by decide) ?_
    refine sj_aload_n dL_areBells_67 (i := 0) rfl rfl ?_
    refine sj_getO hO (a := 56) (k9 := 1) dL_areBells_68 (by decide +kernel) rfl ?_
    refine sj_iload dL_areBells_71 rfl ?_
    refine sj_iconst (v := (nI 0)) dL_areBells_73 (by decide +kernel) ?_
    obtain ⟨v4, σ4, hc4, h⟩ := h
    refine sj_callVi (M' := me_X11_bell) (b := 0) (As := [.int (((nI 4) * x1) + x6), .int (nI 0)]) (rest := []) dL_areBells_74 gL_areBells_X11_bell rfl hd_X11_bell (by decide +kernel) (by decide +kernel) rfl (Nat.le_of_ble_eq_true rfl) (by omega) rfl hc4 ?_
    refine sj_istore dL_areBells_77 (by decide) ?_
    refine sj_aload_n dL_areBells_79 (i := 0) rfl rfl ?_
    refine sj_getO hO (a := 56) (k9 := 1) dL_areBells_80 (by decide +kernel) rfl ?_
    refine sj_iload dL_areBells_83 rfl ?_
    refine sj_iconst (v := (nI 1)) dL_areBells_85 (by decide +kernel) ?_
    obtain ⟨v5, σ5, hc5, h⟩ := h
    refine sj_callVi (M' := me_X11_bell) (b := 0) (As := [.int (((nI 4) * x1) + x6), .int (nI 1)]) (rest := []) dL_areBells_86 gL_areBells_X11_bell rfl hd_X11_bell (by decide +kernel) (by decide +kernel) rfl (Nat.le_of_ble_eq_true rfl) (by omega) rfl hc5 ?_
    refine sj_istore dL_areBells_89 (by decide) ?_
    refine sj_iload dL_areBells_91 rfl ?_
    refine sj_iload_n dL_areBells_93 (i := 2) rfl rfl ?_
    refine sj_iload dL_areBells_94 rfl ?_
    refine sj_iload_n dL_areBells_96 (i := 3) rfl rfl ?_
    refine sj_iload dL_areBells_97 rfl ?_
    refine sj_iadd dL_areBells_99 ?_
    refine sj_imul dL_areBells_100 ?_
    refine sj_iadd dL_areBells_101 ?_
    refine sj_icmp_ne (tgt := 146) dL_areBells_102 (by decide) (fun c6 => ?_) (fun c6 => ?_)
    · replace h := h.1 c6
      refine sj_fg [0, 1, 2, 3, 4, 5, 6, 7, 8, 9] ?_
      exact t_L_areBells_146 hO h
    · replace h := h.2 c6
      refine sj_iload dL_areBells_105 rfl ?_
      refine sj_iload dL_areBells_107 rfl ?_
      refine sj_iload_n dL_areBells_109 (i := 3) rfl rfl ?_
      refine sj_iadd dL_areBells_110 ?_
      refine sj_icmp_ne (tgt := 146) dL_areBells_111 (by decide) (fun c7 => ?_) (fun c7 => ?_)
      · replace h := h.1 c7
        refine sj_fg [0, 1, 2, 3, 4, 5, 6, 7, 8, 9] ?_
        exact t_L_areBells_146 hO h
      · replace h := h.2 c7
        refine sj_aload_n dL_areBells_114 (i := 0) rfl rfl ?_
        refine sj_getO hO (a := 56) (k9 := 1) dL_areBells_115 (by decide +kernel) rfl ?_
        refine sj_iload_n dL_areBells_118 (i := 1) rfl rfl ?_
        refine sj_iload dL_areBells_119 rfl ?_
        obtain ⟨v8, σ8, hc8, h⟩ := h
        refine sj_callVi (M' := me_X11_slotAt) (b := 0) (As := [.int x1, .int v4]) (rest := []) dL_areBells_121 gL_areBells_X11_slotAt rfl hd_X11_slotAt (by decide +kernel) (by decide +kernel) rfl (Nat.le_of_ble_eq_true rfl) (by omega) rfl hc8 ?_
        refine sj_iload dL_areBells_124 rfl ?_
        refine sj_icmp_ne (tgt := 146) dL_areBells_126 (by decide) (fun c9 => ?_) (fun c9 => ?_)
        · replace h := h.1 c9
          refine sj_fg [0, 1, 2, 3, 4, 5, 6, 7, 8, 9] ?_
          exact t_L_areBells_146 hO h
        · replace h := h.2 c9
          refine sj_aload_n dL_areBells_129 (i := 0) rfl rfl ?_
          refine sj_getO hO (a := 56) (k9 := 1) dL_areBells_130 (by decide +kernel) rfl ?_
          refine sj_iload_n dL_areBells_133 (i := 1) rfl rfl ?_
          refine sj_iload dL_areBells_134 rfl ?_
          refine sj_iconst (v := (nI 1)) dL_areBells_136 (by decide +kernel) ?_
          refine sj_isub dL_areBells_137 ?_
          obtain ⟨v10, σ10, hc10, h⟩ := h
          refine sj_callVi (M' := me_X11_slotAt) (b := 0) (As := [.int x1, .int (v5 - (nI 1))]) (rest := []) dL_areBells_138 gL_areBells_X11_slotAt rfl hd_X11_slotAt (by decide +kernel) (by decide +kernel) rfl (Nat.le_of_ble_eq_true rfl) (by omega) rfl hc10 ?_
          refine sj_iload dL_areBells_141 rfl ?_
          refine sj_icmp_eq (tgt := 148) dL_areBells_143 (by decide) (fun c11 => ?_) (fun c11 => ?_)
          · replace h := h.1 c11
            refine sj_iload dL_areBells_148 rfl ?_
            refine sj_if_le (tgt := 167) dL_areBells_150 (by decide) (fun c12 => ?_) (fun c12 => ?_)
            · replace h := h.1 c12
              refine sj_fg [7, 8] ?_
              exact t_L_areBells_167 hO h
            · replace h := h.2 c12
              refine sj_aload_n dL_areBells_153 (i := 0) rfl rfl ?_
              refine sj_getO hO (a := 56) (k9 := 1) dL_areBells_154 (by decide +kernel) rfl ?_
              refine sj_iload_n dL_areBells_157 (i := 1) rfl rfl ?_
              refine sj_iload dL_areBells_158 rfl ?_
              obtain ⟨v13, σ13, hc13, h⟩ := h
              refine sj_callVi (M' := me_X11_slotAt) (b := 0) (As := [.int x1, .int v5]) (rest := []) dL_areBells_160 gL_areBells_X11_slotAt rfl hd_X11_slotAt (by decide +kernel) (by decide +kernel) rfl (Nat.le_of_ble_eq_true rfl) (by omega) rfl hc13 ?_
              refine sj_iconst (v := (-1)) dL_areBells_163 (by decide +kernel) ?_
              refine sj_icmp_ne (tgt := 180) dL_areBells_164 (by decide) (fun c14 => ?_) (fun c14 => ?_)
              · replace h := h.1 c14
                refine sj_fg [0, 1, 2, 3, 4, 5, 6, 7, 8, 9] ?_
                exact t_L_areBells_180 hO h
              · replace h := h.2 c14
                refine sj_fg [7, 8] ?_
                exact t_L_areBells_167 hO h
          · replace h := h.2 c11
            refine sj_fg [0, 1, 2, 3, 4, 5, 6, 7, 8, 9] ?_
            exact t_L_areBells_146 hO h
def wp_L_areBells_0 (G : sj_G) (R : sj_R) (σ : sj_S) : Prop := ∃ v1 σ1, sj_C G 2 me_L_next [.ref (sj_ad G 56), .int (nI 5)] σ (.ok v1, σ1) ∧ ∃ v2 σ2, sj_C G 2 me_L_next [.ref (sj_ad G 56), .int (nI 181)] σ1 (.ok v2, σ2) ∧ ∃ v3 σ3, sj_C G 2 me_L_next [.ref (sj_ad G 56), .int (nI 31)] σ2 (.ok v3, σ3) ∧ ∃ v4 σ4, sj_C G 2 me_L_next [.ref (sj_ad G 56), .int (nI 31)] σ3 (.ok v4, σ4) ∧ ∃ v5 σ5, sj_C G 11 me_X11_setBells [.ref (sj_ad G 0), .int v1, .int ((nI 420) + v2), .int ((nI 30) + v3), .int v4] σ4 (.ok v5, σ5) ∧ sj_J G 12 me_L_areBells R 53 [.ref (sj_ad G 56), .int v1, .int ((nI 420) + v2), .int ((nI 30) + v3), .int v4, .int v5, .int (nI 0), .null, .null, .null] σ5 []
set_option maxRecDepth 20000 in
theorem t_L_areBells_0 {G : sj_G} {R : sj_R} {σ : sj_S} (hO : sj_ad G 70 = sj_ad G 0) (h : wp_L_areBells_0 G R σ) : sj_J G 12 me_L_areBells R 0 [.ref (sj_ad G 56), .null, .null, .null, .null, .null, .null, .null, .null, .null] σ [] := by
  unfold wp_L_areBells_0 at h
  refine sj_aload_n dL_areBells_0 (i := 0) rfl rfl ?_
  refine sj_iconst (v := (nI 5)) dL_areBells_1 (by decide +kernel) ?_
  obtain ⟨v1, σ1, hc1, h⟩ := h
  refine sj_callVi (M' := me_L_next) (b := 56) (As := [.int (nI 5)]) (rest := []) dL_areBells_2 gL_areBells_L_next rfl hd_L_next (by decide +kernel) (by decide +kernel) rfl (Nat.le_of_ble_eq_true rfl) (by omega) rfl hc1 ?_
  refine sj_istore_n dL_areBells_5 (i := 1) rfl (by decide) ?_
  refine sj_sipush (v := (nI 420)) dL_areBells_6 (by decide +kernel) ?_
  refine sj_aload_n dL_areBells_9 (i := 0) rfl rfl ?_
  refine sj_sipush (v := (nI 181)) dL_areBells_10 (by decide +kernel) ?_
  obtain ⟨v2, σ2, hc2, h⟩ := h
  refine sj_callVi (M' := me_L_next) (b := 56) (As := [.int (nI 181)]) (rest := [.int (nI 420)]) dL_areBells_13 gL_areBells_L_next rfl hd_L_next (by decide +kernel) (by decide +kernel) rfl (Nat.le_of_ble_eq_true rfl) (by omega) rfl hc2 ?_
  refine sj_iadd dL_areBells_16 ?_
  refine sj_istore_n dL_areBells_17 (i := 2) rfl (by decide) ?_
  refine sj_bipush (v := (nI 30)) dL_areBells_18 (by decide +kernel) ?_
  refine sj_aload_n dL_areBells_20 (i := 0) rfl rfl ?_
  refine sj_bipush (v := (nI 31)) dL_areBells_21 (by decide +kernel) ?_
  obtain ⟨v3, σ3, hc3, h⟩ := h
  refine sj_callVi (M' := me_L_next) (b := 56) (As := [.int (nI 31)]) (rest := [.int (nI 30)]) dL_areBells_23 gL_areBells_L_next rfl hd_L_next (by decide +kernel) (by decide +kernel) rfl (Nat.le_of_ble_eq_true rfl) (by omega) rfl hc3 ?_
  refine sj_iadd dL_areBells_26 ?_
  refine sj_istore_n dL_areBells_27 (i := 3) rfl (by decide) ?_
  refine sj_aload_n dL_areBells_28 (i := 0) rfl rfl ?_
  refine sj_bipush (v := (nI 31)) dL_areBells_29 (by decide +kernel) ?_
  obtain ⟨v4, σ4, hc4, h⟩ := h
  refine sj_callVi (M' := me_L_next) (b := 56) (As := [.int (nI 31)]) (rest := []) dL_areBells_31 gL_areBells_L_next rfl hd_L_next (by decide +kernel) (by decide +kernel) rfl (Nat.le_of_ble_eq_true rfl) (by omega) rfl hc4 ?_
  refine sj_istore dL_areBells_34 (by decide) ?_
  refine sj_aload_n dL_areBells_36 (i := 0) rfl rfl ?_
  refine sj_getO hO (a := 56) (k9 := 1) dL_areBells_37 (by decide +kernel) rfl ?_
  refine sj_iload_n dL_areBells_40 (i := 1) rfl rfl ?_
  refine sj_iload_n dL_areBells_41 (i := 2) rfl rfl ?_
  refine sj_iload_n dL_areBells_42 (i := 3) rfl rfl ?_
  refine sj_iload dL_areBells_43 rfl ?_
  obtain ⟨v5, σ5, hc5, h⟩ := h
  refine sj_callVi (M' := me_X11_setBells) (b := 0) (As := [.int v1, .int ((nI 420) + v2), .int ((nI 30) + v3), .int v4]) (rest := []) dL_areBells_45 gL_areBells_X11_setBells rfl hd_X11_setBells (by decide +kernel) (by decide +kernel) rfl (Nat.le_of_ble_eq_true rfl) (by omega) rfl hc5 ?_
  refine sj_istore dL_areBells_48 (by decide) ?_
  refine sj_iconst (v := (nI 0)) dL_areBells_50 (by decide +kernel) ?_
  refine sj_istore dL_areBells_51 (by decide) ?_
  exact h
theorem c_L_areBells {G : sj_G} (ok : sj_ok G) {R : sj_R} {σ : sj_S} (hO : sj_ad G 70 = sj_ad G 0) (h : wp_L_areBells_0 G R σ) : sj_C G 12 me_L_areBells [.ref (sj_ad G 56)] σ R :=
  sj_enter ok (by decide +kernel) rfl rfl (Nat.le_of_ble_eq_true rfl) (by simp [Value.category]) (t_L_areBells_0 hO h)
