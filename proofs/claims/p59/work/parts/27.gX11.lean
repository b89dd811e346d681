def wp_X11_lesson_110 (G : sj_G) (R : sj_R) (s0 : Int32) (s1 : Int32) (s2 : Int32) (s3 : Int32) (s4 : Int32) (σ : sj_S) : Prop := ∃ v1 σ1, sj_C G 2 me_X8_addLesson [.ref (sj_ad G 1), .int s4, .int s3, .int s2, .int s1, .int s0] σ (.ok v1, σ1) ∧ R = (.ok v1, σ1)
set_option maxRecDepth 20000 in
theorem t_X11_lesson_110 {G : sj_G} {R : sj_R} {s0 : Int32} {s1 : Int32} {s2 : Int32} {s3 : Int32} {s4 : Int32} {σ : sj_S} (h : wp_X11_lesson_110 G R s0 s1 s2 s3 s4 σ) : sj_J G 11 me_X11_lesson R 110 [.null, .null, .null, .null, .null, .null] σ [.int s0, .int s1, .int s2, .int s3, .int s4, .ref (sj_ad G 1)] := by
  unfold wp_X11_lesson_110 at h
  obtain ⟨v1, σ1, hc1, h⟩ := h
  refine sj_callVi (M' := me_X8_addLesson) (b := 1) (As := [.int s4, .int s3, .int s2, .int s1, .int s0]) (rest := []) dX11_lesson_110 gX11_lesson_X8_addLesson rfl hd_X8_addLesson (by decide +kernel) (by decide +kernel) rfl (Nat.le_of_ble_eq_true rfl) (by omega) rfl hc1 ?_
  subst h
  exact sj_ret dX11_lesson_113 rfl rfl
def wp_X11_lesson_33 (G : sj_G) (R : sj_R) (x1 : Int32) (x2 : Int32) (x3 : Int32) (x4 : Int32) (x5 : Int32) (σ : sj_S) : Prop := ∃ v1 σ1, sj_C G 2 me_X8_subjectsOf [.ref (sj_ad G 1), .int x2] σ (.ok v1, σ1) ∧ (¬ ((v1 >>> (x3 &&& 31)) &&& (nI 1)) = 0 → ∃ v3 σ3, sj_C G 2 me_X8_lessonTotal [.ref (sj_ad G 1)] σ1 (.ok v3, σ3) ∧ (v3 < (nI 9) → ∃ σ5, sj_C G 3 me_X11_beginChange [.ref (sj_ad G 0)] σ3 (.ok 0, σ5) ∧ ∃ σ6, sj_C G 2 me_X8_loseTable [.ref (sj_ad G 1)] σ5 (.ok 0, σ6) ∧ (wp_X11_lesson_110 G R (if x5 = 0 then (nI 0) else (nI 1)) x4 x3 x2 x1 σ6)) ∧ (¬ (v3 < (nI 9)) → R = (.error 2, σ3))) ∧ (((v1 >>> (x3 &&& 31)) &&& (nI 1)) = 0 → R = (.error 1, σ1))
set_option maxRecDepth 20000 in
theorem t_X11_lesson_33 {G : sj_G} {R : sj_R} {x1 : Int32} {x2 : Int32} {x3 : Int32} {x4 : Int32} {x5 : Int32} {σ : sj_S} (h : wp_X11_lesson_33 G R x1 x2 x3 x4 x5 σ) : sj_J G 11 me_X11_lesson R 33 [.ref (sj_ad G 0), .int x1, .int x2, .int x3, .int x4, .int x5] σ [] := by
  unfold wp_X11_lesson_33 at h
  refine sj_aload_n dX11_lesson_33 (i := 0) rfl rfl ?_
  refine sj_get (a := 0) (k9 := 0) (v := .ref (sj_ad G 1)) dX11_lesson_34 (by decide +kernel) rfl ?_
  refine sj_iload_n dX11_lesson_37 (i := 2) rfl rfl ?_
  obtain ⟨v1, σ1, hc1, h⟩ := h
  refine sj_callVi (M' := me_X8_subjectsOf) (b := 1) (As := [.int x2]) (rest := []) dX11_lesson_38 gX11_lesson_X8_subjectsOf rfl hd_X8_subjectsOf (by decide +kernel) (by decide +kernel) rfl (Nat.le_of_ble_eq_true rfl) (by omega) rfl hc1 ?_
  refine sj_iload_n dX11_lesson_41 (i := 3) rfl rfl ?_
  refine sj_ishr dX11_lesson_42 ?_
  refine sj_iconst (v := (nI 1)) dX11_lesson_43 (by decide +kernel) ?_
  refine sj_iand dX11_lesson_44 ?_
  refine sj_if_ne (tgt := 58) dX11_lesson_45 (by decide) (fun c2 => ?_) (fun c2 => ?_)
  · replace h := h.1 c2
    refine sj_aload_n dX11_lesson_58 (i := 0) rfl rfl ?_
    refine sj_get (a := 0) (k9 := 0) (v := .ref (sj_ad G 1)) dX11_lesson_59 (by decide +kernel) rfl ?_
    obtain ⟨v3, σ3, hc3, h⟩ := h
    refine sj_callVi (M' := me_X8_lessonTotal) (b := 1) (As := []) (rest := []) dX11_lesson_62 gX11_lesson_X8_lessonTotal rfl hd_X8_lessonTotal (by decide +kernel) (by decide +kernel) rfl (Nat.le_of_ble_eq_true rfl) (by omega) rfl hc3 ?_
    refine sj_bipush (v := (nI 9)) dX11_lesson_65 (by decide +kernel) ?_
    refine sj_icmp_lt (tgt := 80) dX11_lesson_67 (by decide) (fun c4 => ?_) (fun c4 => ?_)
    · replace h := h.1 c4
      refine sj_aload_n dX11_lesson_80 (i := 0) rfl rfl ?_
      obtain ⟨σ5, hc5, h⟩ := h
      refine sj_callVv (M' := me_X11_beginChange) (b := 0) (As := []) (rest := []) dX11_lesson_81 gX11_lesson_X11_beginChange rfl hd_X11_beginChange (by decide +kernel) (by decide +kernel) rfl (Nat.le_of_ble_eq_true rfl) (by omega) rfl hc5 ?_
      refine sj_aload_n dX11_lesson_84 (i := 0) rfl rfl ?_
      refine sj_get (a := 0) (k9 := 0) (v := .ref (sj_ad G 1)) dX11_lesson_85 (by decide +kernel) rfl ?_
      obtain ⟨σ6, hc6, h⟩ := h
      refine sj_callVv (M' := me_X8_loseTable) (b := 1) (As := []) (rest := []) dX11_lesson_88 gX11_lesson_X8_loseTable rfl hd_X8_loseTable (by decide +kernel) (by decide +kernel) rfl (Nat.le_of_ble_eq_true rfl) (by omega) rfl hc6 ?_
      refine sj_aload_n dX11_lesson_91 (i := 0) rfl rfl ?_
      refine sj_get (a := 0) (k9 := 0) (v := .ref (sj_ad G 1)) dX11_lesson_92 (by decide +kernel) rfl ?_
      refine sj_iload_n dX11_lesson_95 (i := 1) rfl rfl ?_
      refine sj_iload_n dX11_lesson_96 (i := 2) rfl rfl ?_
      refine sj_iload_n dX11_lesson_97 (i := 3) rfl rfl ?_
      refine sj_iload dX11_lesson_98 rfl ?_
      refine sj_iload dX11_lesson_100 rfl ?_
      refine sj_if_eq (tgt := 109) dX11_lesson_102 (by decide) (fun c7 => ?_) (fun c7 => ?_)
      · refine sj_iconst (v := (nI 0)) dX11_lesson_109 (by decide +kernel) ?_
        try simp only [if_pos c7] at h
        refine sj_fg [0, 1, 2, 3, 4, 5] ?_
        exact t_X11_lesson_110 h
      · refine sj_iconst (v := (nI 1)) dX11_lesson_105 (by decide +kernel) ?_
        refine sj_goto (tgt := 110) dX11_lesson_106 (by decide) ?_
        try simp only [if_neg c7] at h
        refine sj_fg [0, 1, 2, 3, 4, 5] ?_
        exact t_X11_lesson_110 h
    · replace h := h.2 c4
      subst h
      exact sj_throwS (k9 := 2) (text := "there are 9 lessons") dX11_lesson_70 dX11_lesson_73 dX11_lesson_74 dX11_lesson_76 dX11_lesson_79 rfl (by decide +kernel) (by decide +kernel) (by decide +kernel) (by decide +kernel) (by decide +kernel) (by decide) (Nat.le_of_ble_eq_true rfl)
  · replace h := h.2 c2
    subst h
    exact sj_throwS (k9 := 1) (text := "the teacher cannot teach the subject") dX11_lesson_48 dX11_lesson_51 dX11_lesson_52 dX11_lesson_54 dX11_lesson_57 rfl (by decide +kernel) (by decide +kernel) (by decide +kernel) (by decide +kernel) (by decide +kernel) (by decide) (Nat.le_of_ble_eq_true rfl)
def wp_X11_lesson_0 (G : sj_G) (R : sj_R) (x1 : Int32) (x2 : Int32) (x3 : Int32) (x4 : Int32) (x5 : Int32) (σ : sj_S) : Prop := ((∃ σ1, sj_C G 10 me_X11_requireRange [.ref (sj_ad G 0), .int x1, .int (nI 4)] σ (.ok 0, σ1) ∧ ((∃ σ2, sj_C G 10 me_X11_requireRange [.ref (sj_ad G 0), .int x2, .int (nI 6)] σ1 (.ok 0, σ2) ∧ ((∃ σ3, sj_C G 10 me_X11_requireRange [.ref (sj_ad G 0), .int x3, .int (nI 6)] σ2 (.ok 0, σ3) ∧ (x4 = (-1) → (wp_X11_lesson_33 G R x1 x2 x3 x4 x5 σ3)) ∧ (¬ (x4 = (-1)) → ((∃ σ6, sj_C G 10 me_X11_requireRange [.ref (sj_ad G 0), .int x4, .int (nI 3)] σ3 (.ok 0, σ6) ∧ (wp_X11_lesson_33 G R x1 x2 x3 x4 x5 σ6)) ∨ (∃ k6 σ6, sj_C G 10 me_X11_requireRange [.ref (sj_ad G 0), .int x4, .int (nI 3)] σ3 (.error k6, σ6) ∧ R = (.error k6, σ6))))) ∨ (∃ k3 σ3, sj_C G 10 me_X11_requireRange [.ref (sj_ad G 0), .int x3, .int (nI 6)] σ2 (.error k3, σ3) ∧ R = (.error k3, σ3)))) ∨ (∃ k2 σ2, sj_C G 10 me_X11_requireRange [.ref (sj_ad G 0), .int x2, .int (nI 6)] σ1 (.error k2, σ2) ∧ R = (.error k2, σ2)))) ∨ (∃ k1 σ1, sj_C G 10 me_X11_requireRange [.ref (sj_ad G 0), .int x1, .int (nI 4)] σ (.error k1, σ1) ∧ R = (.error k1, σ1)))
set_option maxRecDepth 20000 in
theorem t_X11_lesson_0 {G : sj_G} {R : sj_R} {x1 : Int32} {x2 : Int32} {x3 : Int32} {x4 : Int32} {x5 : Int32} {σ : sj_S} (h : wp_X11_lesson_0 G R x1 x2 x3 x4 x5 σ) : sj_J G 11 me_X11_lesson R 0 [.ref (sj_ad G 0), .int x1, .int x2, .int x3, .int x4, .int x5] σ [] := by
  unfold wp_X11_lesson_0 at h
  refine sj_aload_n dX11_lesson_0 (i := 0) rfl rfl ?_
  refine sj_iload_n dX11_lesson_1 (i := 1) rfl rfl ?_
  refine sj_iconst (v := (nI 4)) dX11_lesson_2 (by decide +kernel) ?_
  rcases h with ⟨σ1, hc1, h⟩ | ⟨k1, σ1, hc1, h⟩
  · refine sj_callVv (M' := me_X11_requireRange) (b := 0) (As := [.int x1, .int (nI 4)]) (rest := []) dX11_lesson_3 gX11_lesson_X11_requireRange rfl hd_X11_requireRange (by decide +kernel) (by decide +kernel) rfl (Nat.le_of_ble_eq_true rfl) (by omega) rfl hc1 ?_
    refine sj_aload_n dX11_lesson_6 (i := 0) rfl rfl ?_
    refine sj_iload_n dX11_lesson_7 (i := 2) rfl rfl ?_
    refine sj_bipush (v := (nI 6)) dX11_lesson_8 (by decide +kernel) ?_
    rcases h with ⟨σ2, hc2, h⟩ | ⟨k2, σ2, hc2, h⟩
    · refine sj_callVv (M' := me_X11_requireRange) (b := 0) (As := [.int x2, .int (nI 6)]) (rest := []) dX11_lesson_10 gX11_lesson_X11_requireRange rfl hd_X11_requireRange (by decide +kernel) (by decide +kernel) rfl (Nat.le_of_ble_eq_true rfl) (by omega) rfl hc2 ?_
      refine sj_aload_n dX11_lesson_13 (i := 0) rfl rfl ?_
      refine sj_iload_n dX11_lesson_14 (i := 3) rfl rfl ?_
      refine sj_bipush (v := (nI 6)) dX11_lesson_15 (by decide +kernel) ?_
      rcases h with ⟨σ3, hc3, h⟩ | ⟨k3, σ3, hc3, h⟩
      · refine sj_callVv (M' := me_X11_requireRange) (b := 0) (As := [.int x3, .int (nI 6)]) (rest := []) dX11_lesson_17 gX11_lesson_X11_requireRange rfl hd_X11_requireRange (by decide +kernel) (by decide +kernel) rfl (Nat.le_of_ble_eq_true rfl) (by omega) rfl hc3 ?_
        refine sj_iload dX11_lesson_20 rfl ?_
        refine sj_iconst (v := (-1)) dX11_lesson_22 (by decide +kernel) ?_
        refine sj_icmp_eq (tgt := 33) dX11_lesson_23 (by decide) (fun c5 => ?_) (fun c5 => ?_)
        · replace h := h.1 c5
          exact t_X11_lesson_33 h
        · replace h := h.2 c5
          refine sj_aload_n dX11_lesson_26 (i := 0) rfl rfl ?_
          refine sj_iload dX11_lesson_27 rfl ?_
          refine sj_iconst (v := (nI 3)) dX11_lesson_29 (by decide +kernel) ?_
          rcases h with ⟨σ6, hc6, h⟩ | ⟨k6, σ6, hc6, h⟩
          · refine sj_callVv (M' := me_X11_requireRange) (b := 0) (As := [.int x4, .int (nI 3)]) (rest := []) dX11_lesson_30 gX11_lesson_X11_requireRange rfl hd_X11_requireRange (by decide +kernel) (by decide +kernel) rfl (Nat.le_of_ble_eq_true rfl) (by omega) rfl hc6 ?_
            exact t_X11_lesson_33 h
          · subst h
            exact sj_callVx (M' := me_X11_requireRange) (b := 0) (As := [.int x4, .int (nI 3)]) (rest := []) dX11_lesson_30 gX11_lesson_X11_requireRange rfl hd_X11_requireRange (by decide +kernel) (by decide +kernel) rfl (Nat.le_of_ble_eq_true rfl) (by omega) hc6
      · subst h
        exact sj_callVx (M' := me_X11_requireRange) (b := 0) (As := [.int x3, .int (nI 6)]) (rest := []) dX11_lesson_17 gX11_lesson_X11_requireRange rfl hd_X11_requireRange (by decide +kernel) (by decide +kernel) rfl (Nat.le_of_ble_eq_true rfl) (by omega) hc3
    · subst h
      exact sj_callVx (M' := me_X11_requireRange) (b := 0) (As := [.int x2, .int (nI 6)]) (rest := []) dX11_lesson_10 gX11_lesson_X11_requireRange rfl hd_X11_requireRange (by decide +kernel) (by decide +kernel) rfl (Nat.le_of_ble_eq_true rfl) (by omega) hc2
  · subst h
    exact sj_callVx (M' := me_X11_requireRange) (b := 0) (As := [.int x1, .int (nI 4)]) (rest := []) dX11_lesson_3 gX11_lesson_X11_requireRange rfl hd_X11_requireRange (by decide +kernel) (by decide +kernel) rfl (Nat.le_of_ble_eq_true rfl) (by omega) hc1
theorem c_X11_lesson {G : sj_G} (ok : sj_ok G) {R : sj_R} {x1 : Int32} {x2 : Int32} {x3 : Int32} {x4 : Int32} {x5 : Int32} {σ : sj_S} (h : wp_X11_lesson_0 G R x1 x2 x3 x4 x5 σ) : sj_C G 11 me_X11_lesson [.ref (sj_ad G 0), .int x1, .int x2, .int x3, .int x4, .int x5] σ R :=
  sj_enter ok (by decide +kernel) rfl rfl (Nat.le_of_ble_eq_true rfl) (by simp [Value.category]) (t_X11_lesson_0 h)
def wp_X11_lessons_0 (G : sj_G) (R : sj_R) (σ : sj_S) : Prop := ∃ v1 σ1, sj_C G 2 me_X8_lessonTotal [.ref (sj_ad G 1)] σ (.ok v1, σ1) ∧ R = (.ok v1, σ1)
set_option maxRecDepth 20000 in
theorem t_X11_lessons_0 {G : sj_G} {R : sj_R} {σ : sj_S} (h : wp_X11_lessons_0 G R σ) : sj_J G 3 me_X11_lessons R 0 [.ref (sj_ad G 0)] σ [] := by
  unfold wp_X11_lessons_0 at h
  refine sj_aload_n dX11_lessons_0 (i := 0) rfl rfl ?_
  refine sj_get (a := 0) (k9 := 0) (v := .ref (sj_ad G 1)) dX11_lessons_1 (by decide +kernel) rfl ?_
  obtain ⟨v1, σ1, hc1, h⟩ := h
  refine sj_callVi (M' := me_X8_lessonTotal) (b := 1) (As := []) (rest := []) dX11_lessons_4 gX11_lessons_X8_lessonTotal rfl hd_X8_lessonTotal (by decide +kernel) (by decide +kernel) rfl (Nat.le_of_ble_eq_true rfl) (by omega) rfl hc1 ?_
  subst h
  exact sj_ret dX11_lessons_7 rfl rfl
theorem c_X11_lessons {G : sj_G} (ok : sj_ok G) {R : sj_R} {σ : sj_S} (h : wp_X11_lessons_0 G R σ) : sj_C G 3 me_X11_lessons [.ref (sj_ad G 0)] σ R :=
  sj_enter ok (by decide +kernel) rfl rfl (Nat.le_of_ble_eq_true rfl) (by simp [Value.category]) (t_X11_lessons_0 h)
def wp_X11_setRooms_0 (G : sj_G) (R : sj_R) (x1 : Int32) (x2 : Int32) (σ : sj_S) : Prop := ((∃ σ1, sj_C G 10 me_X11_requireRange [.ref (sj_ad G 0), .int x1, .int (nI 3)] σ (.ok 0, σ1) ∧ ((∃ σ2, sj_C G 10 me_X11_requireRange [.ref (sj_ad G 0), .int x2, .int (nI 4)] σ1 (.ok 0, σ2) ∧ ∃ σ3, sj_C G 3 me_X11_beginChange [.ref (sj_ad G 0)] σ2 (.ok 0, σ3) ∧ ∃ σ4, sj_C G 2 me_X8_loseTable [.ref (sj_ad G 1)] σ3 (.ok 0, σ4) ∧ ∃ v5 σ5, sj_C G 2 me_X8_putRooms [.ref (sj_ad G 1), .int x1, .int x2] σ4 (.ok v5, σ5) ∧ R = (.ok v5, σ5)) ∨ (∃ k2 σ2, sj_C G 10 me_X11_requireRange [.ref (sj_ad G 0), .int x2, .int (nI 4)] σ1 (.error k2, σ2) ∧ R = (.error k2, σ2)))) ∨ (∃ k1 σ1, sj_C G 10 me_X11_requireRange [.ref (sj_ad G 0), .int x1, .int (nI 3)] σ (.error k1, σ1) ∧ R = (.error k1, σ1)))
set_option maxRecDepth 20000 in
theorem t_X11_setRooms_0 {G : sj_G} {R : sj_R} {x1 : Int32} {x2 : Int32} {σ : sj_S} (h : wp_X11_setRooms_0 G R x1 x2 σ) : sj_J G 11 me_X11_setRooms R 0 [.ref (sj_ad G 0), .int x1, .int x2] σ [] := by
  unfold wp_X11_setRooms_0 at h
  refine sj_aload_n dX11_setRooms_0 (i := 0) rfl rfl ?_
  refine sj_iload_n dX11_setRooms_1 (i := 1) rfl rfl ?_
  refine sj_iconst (v := (nI 3)) dX11_setRooms_2 (by decide +kernel) ?_
  rcases h with ⟨σ1, hc1, h⟩ | ⟨k1, σ1, hc1, h⟩
  · refine sj_callVv (M' := me_X11_requireRange) (b := 0) (As := [.int x1, .int (nI 3)]) (rest := []) dX11_setRooms_3 gX11_setRooms_X11_requireRange rfl hd_X11_requireRange (by decide +kernel) (by decide +kernel) rfl (Nat.le_of_ble_eq_true rfl) (by omega) rfl hc1 ?_
    refine sj_aload_n dX11_setRooms_6 (i := 0) rfl rfl ?_
    refine sj_iload_n dX11_setRooms_7 (i := 2) rfl rfl ?_
    refine sj_iconst (v := (nI 4)) dX11_setRooms_8 (by decide +kernel) ?_
    rcases h with ⟨σ2, hc2, h⟩ | ⟨k2, σ2, hc2, h⟩
    · refine sj_callVv (M' := me_X11_requireRange) (b := 0) (As := [.int x2, .int (nI 4)]) (rest := []) dX11_setRooms_9 gX11_setRooms_X11_requireRange rfl hd_X11_requireRange (by decide +kernel) (by decide +kernel) rfl (Nat.le_of_ble_eq_true rfl) (by omega) rfl hc2 ?_
      refine sj_aload_n dX11_setRooms_12 (i := 0) rfl rfl ?_
      obtain ⟨σ3, hc3, h⟩ := h
      refine sj_callVv (M' := me_X11_beginChange) (b := 0) (As := []) (rest := []) dX11_setRooms_13 gX11_setRooms_X11_beginChange rfl hd_X11_beginChange (by decide +kernel) (by decide +kernel) rfl (Nat.le_of_ble_eq_true rfl) (by omega) rfl hc3 ?_
      refine sj_aload_n dX11_setRooms_16 (i := 0) rfl rfl ?_
      refine sj_get (a := 0) (k9 := 0) (v := .ref (sj_ad G 1)) dX11_setRooms_17 (by decide +kernel) rfl ?_
      obtain ⟨σ4, hc4, h⟩ := h
      refine sj_callVv (M' := me_X8_loseTable) (b := 1) (As := []) (rest := []) dX11_setRooms_20 gX11_setRooms_X8_loseTable rfl hd_X8_loseTable (by decide +kernel) (by decide +kernel) rfl (Nat.le_of_ble_eq_true rfl) (by omega) rfl hc4 ?_
      refine sj_aload_n dX11_setRooms_23 (i := 0) rfl rfl ?_
      refine sj_get (a := 0) (k9 := 0) (v := .ref (sj_ad G 1)) dX11_setRooms_24 (by decide +kernel) rfl ?_
      refine sj_iload_n dX11_setRooms_27 (i := 1) rfl rfl ?_
      refine sj_iload_n dX11_setRooms_28 (i := 2) rfl rfl ?_
      obtain ⟨v5, σ5, hc5, h⟩ := h
      refine sj_callVi (M' := me_X8_putRooms) (b := 1) (As := [.int x1, .int x2]) (rest := []) dX11_setRooms_29 gX11_setRooms_X8_putRooms rfl hd_X8_putRooms (by decide +kernel) (by decide +kernel) rfl (Nat.le_of_ble_eq_true rfl) (by omega) rfl hc5 ?_
      subst h
      exact sj_ret dX11_setRooms_32 rfl rfl
    · subst h
      exact sj_callVx (M' := me_X11_requireRange) (b := 0) (As := [.int x2, .int (nI 4)]) (rest := []) dX11_setRooms_9 gX11_setRooms_X11_requireRange rfl hd_X11_requireRange (by decide +kernel) (by decide +kernel) rfl (Nat.le_of_ble_eq_true rfl) (by omega) hc2
  · subst h
    exact sj_callVx (M' := me_X11_requireRange) (b := 0) (As := [.int x1, .int (nI 3)]) (rest := []) dX11_setRooms_3 gX11_setRooms_X11_requireRange rfl hd_X11_requireRange (by decide +kernel) (by decide +kernel) rfl (Nat.le_of_ble_eq_true rfl) (by omega) hc1
theorem c_X11_setRooms {G : sj_G} (ok : sj_ok G) {R : sj_R} {x1 : Int32} {x2 : Int32} {σ : sj_S} (h : wp_X11_setRooms_0 G R x1 x2 σ) : sj_C G 11 me_X11_setRooms [.ref (sj_ad G 0), .int x1, .int x2] σ R :=
  sj_enter ok (by decide +kernel) rfl rfl (Nat.le_of_ble_eq_true rfl) (by simp [Value.category]) (t_X11_setRooms_0 h)
def wp_X11_wish_108 (G : sj_G) (R : sj_R) (x1 : Int32) (x2 : Int32) (x3 : Int32) (x4 : Int32) (σ : sj_S) : Prop := ∃ v1 σ1, sj_C G 2 me_X8_wishTotal [.ref (sj_ad G 1)] σ (.ok v1, σ1) ∧ (v1 < (nI 12) → ∃ σ3, sj_C G 3 me_X11_beginChange [.ref (sj_ad G 0)] σ1 (.ok 0, σ3) ∧ ∃ σ4, sj_C G 2 me_X8_loseTable [.ref (sj_ad G 1)] σ3 (.ok 0, σ4) ∧ ∃ v5 σ5, sj_C G 2 me_X8_addWish [.ref (sj_ad G 1), .int x1, .int x2, .int x3, .int x4] σ4 (.ok v5, σ5) ∧ R = (.ok v5, σ5)) ∧ (¬ (v1 < (nI 12)) → R = (.error 2, σ1))
set_option maxRecDepth 20000 in
theorem t_X11_wish_108 {G : sj_G} {R : sj_R} {x1 : Int32} {x2 : Int32} {x3 : Int32} {x4 : Int32} {σ : sj_S} (h : wp_X11_wish_108 G R x1 x2 x3 x4 σ) : sj_J G 11 me_X11_wish R 108 [.ref (sj_ad G 0), .int x1, .int x2, .int x3, .int x4] σ [] := by
  unfold wp_X11_wish_108 at h
  refine sj_aload_n dX11_wish_108 (i := 0) rfl rfl ?_
  refine sj_get (a := 0) (k9 := 0) (v := .ref (sj_ad G 1)) dX11_wish_109 (by decide +kernel) rfl ?_
  obtain ⟨v1, σ1, hc1, h⟩ := h
  refine sj_callVi (M' := me_X8_wishTotal) (b := 1) (As := []) (rest := []) dX11_wish_112 gX11_wish_X8_wishTotal rfl hd_X8_wishTotal (by decide +kernel) (by decide +kernel) rfl (Nat.le_of_ble_eq_true rfl) (by omega) rfl hc1 ?_
  refine sj_bipush (v := (nI 12)) dX11_wish_115 (by decide +kernel) ?_
  refine sj_icmp_lt (tgt := 130) dX11_wish_117 (by decide) (fun c2 => ?_) (fun c2 => ?_)
  · replace h := h.1 c2
    refine sj_aload_n dX11_wish_130 (i := 0) rfl rfl ?_
    obtain ⟨σ3, hc3, h⟩ := h
    refine sj_callVv (M' := me_X11_beginChange) (b := 0) (As := []) (rest := []) dX11_wish_131 gX11_wish_X11_beginChange rfl hd_X11_beginChange (by decide +kernel) (by decide +kernel) rfl (Nat.le_of_ble_eq_true rfl) (by omega) rfl hc3 ?_
    refine sj_aload_n dX11_wish_134 (i := 0) rfl rfl ?_
    refine sj_get (a := 0) (k9 := 0) (v := .ref (sj_ad G 1)) dX11_wish_135 (by decide +kernel) rfl ?_
    obtain ⟨σ4, hc4, h⟩ := h
    refine sj_callVv (M' := me_X8_loseTable) (b := 1) (As := []) (rest := []) dX11_wish_138 gX11_wish_X8_loseTable rfl hd_X8_loseTable (by decide +kernel) (by decide +kernel) rfl (Nat.le_of_ble_eq_true rfl) (by omega) rfl hc4 ?_
    refine sj_aload_n dX11_wish_141 (i := 0) rfl rfl ?_
    refine sj_get (a := 0) (k9 := 0) (v := .ref (sj_ad G 1)) dX11_wish_142 (by decide +kernel) rfl ?_
    refine sj_iload_n dX11_wish_145 (i := 1) rfl rfl ?_
    refine sj_iload_n dX11_wish_146 (i := 2) rfl rfl ?_
    refine sj_iload_n dX11_wish_147 (i := 3) rfl rfl ?_
    refine sj_iload dX11_wish_148 rfl ?_
    obtain ⟨v5, σ5, hc5, h⟩ := h
    refine sj_callVi (M' := me_X8_addWish) (b := 1) (As := [.int x1, .int x2, .int x3, .int x4]) (rest := []) dX11_wish_150 gX11_wish_X8_addWish rfl hd_X8_addWish (by decide +kernel) (by decide +kernel) rfl (Nat.le_of_ble_eq_true rfl) (by omega) rfl hc5 ?_
    subst h
    exact sj_ret dX11_wish_153 rfl rfl
  · replace h := h.2 c2
    subst h
    exact sj_throwS (k9 := 2) (text := "there are 12 wishes") dX11_wish_120 dX11_wish_123 dX11_wish_124 dX11_wish_126 dX11_wish_129 rfl (by decide +kernel) (by decide +kernel) (by decide +kernel) (by decide +kernel) (by decide +kernel) (by decide) (Nat.le_of_ble_eq_true rfl)
def wp_X11_wish_36 (G : sj_G) (R : sj_R) (x1 : Int32) (x2 : Int32) (x3 : Int32) (x4 : Int32) (s0 : Int32) (s1 : Int32) (σ : sj_S) : Prop := ((∃ σ1, sj_C G 10 me_X11_requireRange [.ref (sj_ad G 0), .int s1, .int s0] σ (.ok 0, σ1) ∧ ((∃ σ2, sj_C G 10 me_X11_requireRange [.ref (sj_ad G 0), .int x3, .int (nI 20)] σ1 (.ok 0, σ2) ∧ (wp_X11_wish_108 G R x1 x2 x3 x4 σ2)) ∨ (∃ k2 σ2, sj_C G 10 me_X11_requireRange [.ref (sj_ad G 0), .int x3, .int (nI 20)] σ1 (.error k2, σ2) ∧ R = (.error k2, σ2)))) ∨ (∃ k1 σ1, sj_C G 10 me_X11_requireRange [.ref (sj_ad G 0), .int s1, .int s0] σ (.error k1, σ1) ∧ R = (.error k1, σ1)))
set_option maxRecDepth 20000 in
theorem t_X11_wish_36 {G : sj_G} {R : sj_R} {x1 : Int32} {x2 : Int32} {x3 : Int32} {x4 : Int32} {s0 : Int32} {s1 : Int32} {σ : sj_S} (h : wp_X11_wish_36 G R x1 x2 x3 x4 s0 s1 σ) : sj_J G 11 me_X11_wish R 36 [.ref (sj_ad G 0), .int x1, .int x2, .int x3, .int x4] σ [.int s0, .int s1, .ref (sj_ad G 0)] := by
  unfold wp_X11_wish_36 at h
  rcases h with ⟨σ1, hc1, h⟩ | ⟨k1, σ1, hc1, h⟩
  · refine sj_callVv (M' := me_X11_requireRange) (b := 0) (As := [.int s1, .int s0]) (rest := []) dX11_wish_36 gX11_wish_X11_requireRange rfl hd_X11_requireRange (by decide +kernel) (by decide +kernel) rfl (Nat.le_of_ble_eq_true rfl) (by omega) rfl hc1 ?_
    refine sj_aload_n dX11_wish_39 (i := 0) rfl rfl ?_
    refine sj_iload_n dX11_wish_40 (i := 3) rfl rfl ?_
    refine sj_bipush (v := (nI 20)) dX11_wish_41 (by decide +kernel) ?_
    rcases h with ⟨σ2, hc2, h⟩ | ⟨k2, σ2, hc2, h⟩
    · refine sj_callVv (M' := me_X11_requireRange) (b := 0) (As := [.int x3, .int (nI 20)]) (rest := []) dX11_wish_43 gX11_wish_X11_requireRange rfl hd_X11_requireRange (by decide +kernel) (by decide +kernel) rfl (Nat.le_of_ble_eq_true rfl) (by omega) rfl hc2 ?_
      refine sj_goto (tgt := 108) dX11_wish_46 (by decide) ?_
      exact t_X11_wish_108 h
    · subst h
      exact sj_callVx (M' := me_X11_requireRange) (b := 0) (As := [.int x3, .int (nI 20)]) (rest := []) dX11_wish_43 gX11_wish_X11_requireRange rfl hd_X11_requireRange (by decide +kernel) (by decide +kernel) rfl (Nat.le_of_ble_eq_true rfl) (by omega) hc2
  · subst h
    exact sj_callVx (M' := me_X11_requireRange) (b := 0) (As := [.int s1, .int s0]) (rest := []) dX11_wish_36 gX11_wish_X11_requireRange rfl hd_X11_requireRange (by decide +kernel) (by decide +kernel) rfl (Nat.le_of_ble_eq_true rfl) (by omega) hc1
def wp_X11_wish_24 (G : sj_G) (R : sj_R) (x1 : Int32) (x2 : Int32) (x3 : Int32) (x4 : Int32) (σ : sj_S) : Prop := (wp_X11_wish_36 G R x1 x2 x3 x4 (if x1 = 0 then (nI 6) else (nI 4)) x2 σ)
set_option maxRecDepth 20000 in
theorem t_X11_wish_24 {G : sj_G} {R : sj_R} {x1 : Int32} {x2 : Int32} {x3 : Int32} {x4 : Int32} {σ : sj_S} (h : wp_X11_wish_24 G R x1 x2 x3 x4 σ) : sj_J G 11 me_X11_wish R 24 [.ref (sj_ad G 0), .int x1, .int x2, .int x3, .int x4] σ [] := by
  unfold wp_X11_wish_24 at h
  refine sj_aload_n dX11_wish_24 (i := 0) rfl rfl ?_
  refine sj_iload_n dX11_wish_25 (i := 2) rfl rfl ?_
  refine sj_iload_n dX11_wish_26 (i := 1) rfl rfl ?_
  refine sj_if_ne (tgt := 35) dX11_wish_27 (by decide) (fun c1 => ?_) (fun c1 => ?_)
  · refine sj_iconst (v := (nI 4)) dX11_wish_35 (by decide +kernel) ?_
    try simp only [if_neg c1] at h
    exact t_X11_wish_36 h
  · refine sj_bipush (v := (nI 6)) dX11_wish_30 (by decide +kernel) ?_
    refine sj_goto (tgt := 36) dX11_wish_32 (by decide) ?_
    try simp only [if_pos c1] at h
    exact t_X11_wish_36 h
def wp_X11_wish_72 (G : sj_G) (R : sj_R) (x1 : Int32) (x2 : Int32) (x3 : Int32) (x4 : Int32) (s0 : Int32) (s1 : Int32) (σ : sj_S) : Prop := ((∃ σ1, sj_C G 10 me_X11_requireRange [.ref (sj_ad G 0), .int s1, .int s0] σ (.ok 0, σ1) ∧ ((∃ σ2, sj_C G 9 me_X11_requireLesson [.ref (sj_ad G 0), .int x2] σ1 (.ok 0, σ2) ∧ (wp_X11_wish_108 G R x1 x2 x3 x4 σ2)) ∨ (∃ k2 σ2, sj_C G 9 me_X11_requireLesson [.ref (sj_ad G 0), .int x2] σ1 (.error k2, σ2) ∧ R = (.error k2, σ2)))) ∨ (∃ k1 σ1, sj_C G 10 me_X11_requireRange [.ref (sj_ad G 0), .int s1, .int s0] σ (.error k1, σ1) ∧ R = (.error k1, σ1)))
set_option maxRecDepth 20000 in
theorem t_X11_wish_72 {G : sj_G} {R : sj_R} {x1 : Int32} {x2 : Int32} {x3 : Int32} {x4 : Int32} {s0 : Int32} {s1 : Int32} {σ : sj_S} (h : wp_X11_wish_72 G R x1 x2 x3 x4 s0 s1 σ) : sj_J G 11 me_X11_wish R 72 [.ref (sj_ad G 0), .int x1, .int x2, .int x3, .int x4] σ [.int s0, .int s1, .ref (sj_ad G 0)] := by
  unfold wp_X11_wish_72 at h
  rcases h with ⟨σ1, hc1, h⟩ | ⟨k1, σ1, hc1, h⟩
  · refine sj_callVv (M' := me_X11_requireRange) (b := 0) (As := [.int s1, .int s0]) (rest := []) dX11_wish_72 gX11_wish_X11_requireRange rfl hd_X11_requireRange (by decide +kernel) (by decide +kernel) rfl (Nat.le_of_ble_eq_true rfl) (by omega) rfl hc1 ?_
    refine sj_aload_n dX11_wish_75 (i := 0) rfl rfl ?_
    refine sj_iload_n dX11_wish_76 (i := 2) rfl rfl ?_
    rcases h with ⟨σ2, hc2, h⟩ | ⟨k2, σ2, hc2, h⟩
    · refine sj_callVv (M' := me_X11_requireLesson) (b := 0) (As := [.int x2]) (rest := []) dX11_wish_77 gX11_wish_X11_requireLesson rfl hd_X11_requireLesson (by decide +kernel) (by decide +kernel) rfl (Nat.le_of_ble_eq_true rfl) (by omega) rfl hc2 ?_
      refine sj_goto (tgt := 108) dX11_wish_80 (by decide) ?_
      exact t_X11_wish_108 h
    · subst h
      exact sj_callVx (M' := me_X11_requireLesson) (b := 0) (As := [.int x2]) (rest := []) dX11_wish_77 gX11_wish_X11_requireLesson rfl hd_X11_requireLesson (by decide +kernel) (by decide +kernel) rfl (Nat.le_of_ble_eq_true rfl) (by omega) hc2
  · subst h
    exact sj_callVx (M' := me_X11_requireRange) (b := 0) (As := [.int s1, .int s0]) (rest := []) dX11_wish_72 gX11_wish_X11_requireRange rfl hd_X11_requireRange (by decide +kernel) (by decide +kernel) rfl (Nat.le_of_ble_eq_true rfl) (by omega) hc1
def wp_X11_wish_59 (G : sj_G) (R : sj_R) (x1 : Int32) (x2 : Int32) (x3 : Int32) (x4 : Int32) (σ : sj_S) : Prop := (wp_X11_wish_72 G R x1 x2 x3 x4 (if x1 = (nI 2) then (nI 5) else (nI 20)) x3 σ)
set_option maxRecDepth 20000 in
theorem t_X11_wish_59 {G : sj_G} {R : sj_R} {x1 : Int32} {x2 : Int32} {x3 : Int32} {x4 : Int32} {σ : sj_S} (h : wp_X11_wish_59 G R x1 x2 x3 x4 σ) : sj_J G 11 me_X11_wish R 59 [.ref (sj_ad G 0), .int x1, .int x2, .int x3, .int x4] σ [] := by
  unfold wp_X11_wish_59 at h
  refine sj_aload_n dX11_wish_59 (i := 0) rfl rfl ?_
  refine sj_iload_n dX11_wish_60 (i := 3) rfl rfl ?_
  refine sj_iload_n dX11_wish_61 (i := 1) rfl rfl ?_
  refine sj_iconst (v := (nI 2)) dX11_wish_62 (by decide +kernel) ?_
  refine sj_icmp_ne (tgt := 70) dX11_wish_63 (by decide) (fun c1 => ?_) (fun c1 => ?_)
  · refine sj_bipush (v := (nI 20)) dX11_wish_70 (by decide +kernel) ?_
    try simp only [if_neg c1] at h
    exact t_X11_wish_72 h
  · refine sj_iconst (v := (nI 5)) dX11_wish_66 (by decide +kernel) ?_
    refine sj_goto (tgt := 72) dX11_wish_67 (by decide) ?_
    try simp only [if_pos c1] at h
    exact t_X11_wish_72 h
def wp_X11_wish_0 (G : sj_G) (R : sj_R) (x1 : Int32) (x2 : Int32) (x3 : Int32) (x4 : Int32) (σ : sj_S) : Prop := ((∃ σ1, sj_C G 10 me_X11_requireRange [.ref (sj_ad G 0), .int x1, .int (nI 7)] σ (.ok 0, σ1) ∧ ((∃ σ2, sj_C G 10 me_X11_requireRange [.ref (sj_ad G 0), .int x4, .int (nI 10)] σ1 (.ok 0, σ2) ∧ (x1 = 0 → (wp_X11_wish_24 G R x1 x2 x3 x4 σ2)) ∧ (¬ (x1 = 0) → (¬ x1 = (nI 1) → (x1 = (nI 2) → (wp_X11_wish_59 G R x1 x2 x3 x4 σ2)) ∧ (¬ (x1 = (nI 2)) → (¬ x1 = (nI 3) → (¬ x2 = x3 → ((∃ σ8, sj_C G 9 me_X11_requireLesson [.ref (sj_ad G 0), .int x2] σ2 (.ok 0, σ8) ∧ ((∃ σ9, sj_C G 9 me_X11_requireLesson [.ref (sj_ad G 0), .int x3] σ8 (.ok 0, σ9) ∧ (wp_X11_wish_108 G R x1 x2 x3 x4 σ9)) ∨ (∃ k9 σ9, sj_C G 9 me_X11_requireLesson [.ref (sj_ad G 0), .int x3] σ8 (.error k9, σ9) ∧ R = (.error k9, σ9)))) ∨ (∃ k8 σ8, sj_C G 9 me_X11_requireLesson [.ref (sj_ad G 0), .int x2] σ2 (.error k8, σ8) ∧ R = (.error k8, σ8)))) ∧ (x2 = x3 → R = (.error 1, σ2))) ∧ (x1 = (nI 3) → (wp_X11_wish_59 G R x1 x2 x3 x4 σ2)))) ∧ (x1 = (nI 1) → (wp_X11_wish_24 G R x1 x2 x3 x4 σ2)))) ∨ (∃ k2 σ2, sj_C G 10 me_X11_requireRange [.ref (sj_ad G 0), .int x4, .int (nI 10)] σ1 (.error k2, σ2) ∧ R = (.error k2, σ2)))) ∨ (∃ k1 σ1, sj_C G 10 me_X11_requireRange [.ref (sj_ad G 0), .int x1, .int (nI 7)] σ (.error k1, σ1) ∧ R = (.error k1, σ1)))
set_option maxRecDepth 20000 in
theorem t_X11_wish_0 {G : sj_G} {R : sj_R} {x1 : Int32} {x2 : Int32} {x3 : Int32} {x4 : Int32} {σ : sj_S} (h : wp_X11_wish_0 G R x1 x2 x3 x4 σ) : sj_J G 11 me_X11_wish R 0 [.ref (sj_ad G 0), .int x1, .int x2, .int x3, .int x4] σ [] := by
  unfold wp_X11_wish_0 at h
  refine sj_aload_n dX11_wish_0 (i := 0) rfl rfl ?_
  refine sj_iload_n dX11_wish_1 (i := 1) rfl rfl ?_
  refine sj_bipush (v := (nI 7)) dX11_wish_2 (by decide +kernel) ?_
  rcases h with ⟨σ1, hc1, h⟩ | ⟨k1, σ1, hc1, h⟩
  · refine sj_callVv (M' := me_X11_requireRange) (b := 0) (As := [.int x1, .int (nI 7)]) (rest := []) dX11_wish_4 gX11_wish_X11_requireRange rfl hd_X11_requireRange (by decide +kernel) (by decide +kernel) rfl (Nat.le_of_ble_eq_true rfl) (by omega) rfl hc1 ?_
    refine sj_aload_n dX11_wish_7 (i := 0) rfl rfl ?_
    refine sj_iload dX11_wish_8 rfl ?_
    refine sj_bipush (v := (nI 10)) dX11_wish_10 (by decide +kernel) ?_
    rcases h with ⟨σ2, hc2, h⟩ | ⟨k2, σ2, hc2, h⟩
    · refine sj_callVv (M' := me_X11_requireRange) (b := 0) (As := [.int x4, .int (nI 10)]) (rest := []) dX11_wish_12 gX11_wish_X11_requireRange rfl hd_X11_requireRange (by decide +kernel) (by decide +kernel) rfl (Nat.le_of_ble_eq_true rfl) (by omega) rfl hc2 ?_
      refine sj_iload_n dX11_wish_15 (i := 1) rfl rfl ?_
      refine sj_if_eq (tgt := 24) dX11_wish_16 (by decide) (fun c3 => ?_) (fun c3 => ?_)
      · replace h := h.1 c3
        exact t_X11_wish_24 h
      · replace h := h.2 c3
        refine sj_iload_n dX11_wish_19 (i := 1) rfl rfl ?_
        refine sj_iconst (v := (nI 1)) dX11_wish_20 (by decide +kernel) ?_
        refine sj_icmp_ne (tgt := 49) dX11_wish_21 (by decide) (fun c4 => ?_) (fun c4 => ?_)
        · replace h := h.1 c4
          refine sj_iload_n dX11_wish_49 (i := 1) rfl rfl ?_
          refine sj_iconst (v := (nI 2)) dX11_wish_50 (by decide +kernel) ?_
          refine sj_icmp_eq (tgt := 59) dX11_wish_51 (by decide) (fun c5 => ?_) (fun c5 => ?_)
          · replace h := h.1 c5
            exact t_X11_wish_59 h
          · replace h := h.2 c5
            refine sj_iload_n dX11_wish_54 (i := 1) rfl rfl ?_
            refine sj_iconst (v := (nI 3)) dX11_wish_55 (by decide +kernel) ?_
            refine sj_icmp_ne (tgt := 83) dX11_wish_56 (by decide) (fun c6 => ?_) (fun c6 => ?_)
            · replace h := h.1 c6
              refine sj_iload_n dX11_wish_83 (i := 2) rfl rfl ?_
              refine sj_iload_n dX11_wish_84 (i := 3) rfl rfl ?_
              refine sj_icmp_ne (tgt := 98) dX11_wish_85 (by decide) (fun c7 => ?_) (fun c7 => ?_)
              · replace h := h.1 c7
                refine sj_aload_n dX11_wish_98 (i := 0) rfl rfl ?_
                refine sj_iload_n dX11_wish_99 (i := 2) rfl rfl ?_
                rcases h with ⟨σ8, hc8, h⟩ | ⟨k8, σ8, hc8, h⟩
                · refine sj_callVv (M' := me_X11_requireLesson) (b := 0) (As := [.int x2]) (rest := []) dX11_wish_100 gX11_wish_X11_requireLesson rfl hd_X11_requireLesson (by decide +kernel) (by decide +kernel) rfl (Nat.le_of_ble_eq_true rfl) (by omega) rfl hc8 ?_
                  refine sj_aload_n dX11_wish_103 (i := 0) rfl rfl ?_
                  refine sj_iload_n dX11_wish_104 (i := 3) rfl rfl ?_
                  rcases h with ⟨σ9, hc9, h⟩ | ⟨k9, σ9, hc9, h⟩
                  · refine sj_callVv (M' := me_X11_requireLesson) (b := 0) (As := [.int x3]) (rest := []) dX11_wish_105 gX11_wish_X11_requireLesson rfl hd_X11_requireLesson (by decide +kernel) (by decide +kernel) rfl (Nat.le_of_ble_eq_true rfl) (by omega) rfl hc9 ?_
                    exact t_X11_wish_108 h
                  · subst h
                    exact sj_callVx (M' := me_X11_requireLesson) (b := 0) (As := [.int x3]) (rest := []) dX11_wish_105 gX11_wish_X11_requireLesson rfl hd_X11_requireLesson (by decide +kernel) (by decide +kernel) rfl (Nat.le_of_ble_eq_true rfl) (by omega) hc9
                · subst h
                  exact sj_callVx (M' := me_X11_requireLesson) (b := 0) (As := [.int x2]) (rest := []) dX11_wish_100 gX11_wish_X11_requireLesson rfl hd_X11_requireLesson (by decide +kernel) (by decide +kernel) rfl (Nat.le_of_ble_eq_true rfl) (by omega) hc8
              · replace h := h.2 c7
                subst h
                exact sj_throwS (k9 := 1) (text := "a lesson is told twice") dX11_wish_88 dX11_wish_91 dX11_wish_92 dX11_wish_94 dX11_wish_97 rfl (by decide +kernel) (by decide +kernel) (by decide +kernel) (by decide +kernel) (by decide +kernel) (by decide) (Nat.le_of_ble_eq_true rfl)
            · replace h := h.2 c6
              exact t_X11_wish_59 h
        · replace h := h.2 c4
          exact t_X11_wish_24 h
    · subst h
      exact sj_callVx (M' := me_X11_requireRange) (b := 0) (As := [.int x4, .int (nI 10)]) (rest := []) dX11_wish_12 gX11_wish_X11_requireRange rfl hd_X11_requireRange (by decide +kernel) (by decide +kernel) rfl (Nat.le_of_ble_eq_true rfl) (by omega) hc2
  · subst h
    exact sj_callVx (M' := me_X11_requireRange) (b := 0) (As := [.int x1, .int (nI 7)]) (rest := []) dX11_wish_4 gX11_wish_X11_requireRange rfl hd_X11_requireRange (by decide +kernel) (by decide +kernel) rfl (Nat.le_of_ble_eq_true rfl) (by omega) hc1
theorem c_X11_wish {G : sj_G} (ok : sj_ok G) {R : sj_R} {x1 : Int32} {x2 : Int32} {x3 : Int32} {x4 : Int32} {σ : sj_S} (h : wp_X11_wish_0 G R x1 x2 x3 x4 σ) : sj_C G 11 me_X11_wish [.ref (sj_ad G 0), .int x1, .int x2, .int x3, .int x4] σ R :=
  sj_enter ok (by decide +kernel) rfl rfl (Nat.le_of_ble_eq_true rfl) (by simp [Value.category]) (t_X11_wish_0 h)
def wp_X11_wishes_0 (G : sj_G) (R : sj_R) (σ : sj_S) : Prop := ∃ v1 σ1, sj_C G 2 me_X8_wishTotal [.ref (sj_ad G 1)] σ (.ok v1, σ1) ∧ R = (.ok v1, σ1)
set_option maxRecDepth 20000 in
theorem t_X11_wishes_0 {G : sj_G} {R : sj_R} {σ : sj_S} (h : wp_X11_wishes_0 G R σ) : sj_J G 3 me_X11_wishes R 0 [.ref (sj_ad G 0)] σ [] := by
  unfold wp_X11_wishes_0 at h
  refine sj_aload_n dX11_wishes_0 (i := 0) rfl rfl ?_
  refine sj_get (a := 0) (k9 := 0) (v := .ref (sj_ad G 1)) dX11_wishes_1 (by decide +kernel) rfl ?_
  obtain ⟨v1, σ1, hc1, h⟩ := h
  refine sj_callVi (M' := me_X8_wishTotal) (b := 1) (As := []) (rest := []) dX11_wishes_4 gX11_wishes_X8_wishTotal rfl hd_X8_wishTotal (by decide +kernel) (by decide +kernel) rfl (Nat.le_of_ble_eq_true rfl) (by omega) rfl hc1 ?_
  subst h
  exact sj_ret dX11_wishes_7 rfl rfl
theorem c_X11_wishes {G : sj_G} (ok : sj_ok G) {R : sj_R} {σ : sj_S} (h : wp_X11_wishes_0 G R σ) : sj_C G 3 me_X11_wishes [.ref (sj_ad G 0)] σ R :=
  sj_enter ok (by decide +kernel) rfl rfl (Nat.le_of_ble_eq_true rfl) (by simp [Value.category]) (t_X11_wishes_0 h)
def wp_X11_find_0 (G : sj_G) (R : sj_R) (σ : sj_S) : Prop := ∃ v1 σ1, sj_C G 122 me_X4_seekFirst [.ref (sj_ad G 30), .ref (sj_ad G 1)] σ (.ok v1, σ1) ∧ (¬ v1 = 0 → ∃ σ3, sj_C G 3 me_X11_beginChange [.ref (sj_ad G 0)] σ1 (.ok 0, σ3) ∧ ∃ σ4, sj_C G 2 me_X8_putTable [.ref (sj_ad G 1), .ref (sj_ad G 31)] σ3 (.ok 0, σ4) ∧ R = (.ok (nI 1), σ4)) ∧ (v1 = 0 → ∃ σ5, sj_C G 122 me_X4_seekProof [.ref (sj_ad G 30), .ref (sj_ad G 1)] σ1 (.ok 0, σ5) ∧ R = (.ok (nI 0), σ5))
set_option maxRecDepth 20000 in
theorem t_X11_find_0 {G : sj_G} {R : sj_R} {σ : sj_S} (h : wp_X11_find_0 G R σ) : sj_J G 123 me_X11_find R 0 [.ref (sj_ad G 0)] σ [] := by
  unfold wp_X11_find_0 at h
  refine sj_aload_n dX11_find_0 (i := 0) rfl rfl ?_
  refine sj_get (a := 0) (k9 := 3) (v := .ref (sj_ad G 30)) dX11_find_1 (by decide +kernel) rfl ?_
  refine sj_aload_n dX11_find_4 (i := 0) rfl rfl ?_
  refine sj_get (a := 0) (k9 := 0) (v := .ref (sj_ad G 1)) dX11_find_5 (by decide +kernel) rfl ?_
  obtain ⟨v1, σ1, hc1, h⟩ := h
  refine sj_callVi (M' := me_X4_seekFirst) (b := 30) (As := [.ref (sj_ad G 1)]) (rest := []) dX11_find_8 gX11_find_X4_seekFirst rfl hd_X4_seekFirst (by decide +kernel) (by decide +kernel) rfl (Nat.le_of_ble_eq_true rfl) (by omega) rfl hc1 ?_
  refine sj_if_ne (tgt := 27) dX11_find_11 (by decide) (fun c2 => ?_) (fun c2 => ?_)
  · replace h := h.1 c2
    refine sj_aload_n dX11_find_27 (i := 0) rfl rfl ?_
    obtain ⟨σ3, hc3, h⟩ := h
    refine sj_callVv (M' := me_X11_beginChange) (b := 0) (As := []) (rest := []) dX11_find_28 gX11_find_X11_beginChange rfl hd_X11_beginChange (by decide +kernel) (by decide +kernel) rfl (Nat.le_of_ble_eq_true rfl) (by omega) rfl hc3 ?_
    refine sj_aload_n dX11_find_31 (i := 0) rfl rfl ?_
    refine sj_get (a := 0) (k9 := 0) (v := .ref (sj_ad G 1)) dX11_find_32 (by decide +kernel) rfl ?_
    refine sj_aload_n dX11_find_35 (i := 0) rfl rfl ?_
    refine sj_get (a := 0) (k9 := 3) (v := .ref (sj_ad G 30)) dX11_find_36 (by decide +kernel) rfl ?_
    refine sj_get (a := 30) (k9 := 1) (v := .ref (sj_ad G 31)) dX11_find_39 (by decide +kernel) rfl ?_
    obtain ⟨σ4, hc4, h⟩ := h
    refine sj_callVv (M' := me_X8_putTable) (b := 1) (As := [.ref (sj_ad G 31)]) (rest := []) dX11_find_42 gX11_find_X8_putTable rfl hd_X8_putTable (by decide +kernel) (by decide +kernel) rfl (Nat.le_of_ble_eq_true rfl) (by omega) rfl hc4 ?_
    refine sj_iconst (v := (nI 1)) dX11_find_45 (by decide +kernel) ?_
    subst h
    exact sj_ret dX11_find_46 rfl rfl
  · replace h := h.2 c2
    refine sj_aload_n dX11_find_14 (i := 0) rfl rfl ?_
    refine sj_get (a := 0) (k9 := 3) (v := .ref (sj_ad G 30)) dX11_find_15 (by decide +kernel) rfl ?_
    refine sj_aload_n dX11_find_18 (i := 0) rfl rfl ?_
    refine sj_get (a := 0) (k9 := 0) (v := .ref (sj_ad G 1)) dX11_find_19 (by decide +kernel) rfl ?_
    obtain ⟨σ5, hc5, h⟩ := h
    refine sj_callVv (M' := me_X4_seekProof) (b := 30) (As := [.ref (sj_ad G 1)]) (rest := []) dX11_find_22 gX11_find_X4_seekProof rfl hd_X4_seekProof (by decide +kernel) (by decide +kernel) rfl (Nat.le_of_ble_eq_true rfl) (by omega) rfl hc5 ?_
    refine sj_iconst (v := (nI 0)) dX11_find_25 (by decide +kernel) ?_
    subst h
    exact sj_ret dX11_find_26 rfl rfl
theorem c_X11_find {G : sj_G} (ok : sj_ok G) {R : sj_R} {σ : sj_S} (h : wp_X11_find_0 G R σ) : sj_C G 123 me_X11_find [.ref (sj_ad G 0)] σ R :=
  sj_enter ok (by decide +kernel) rfl rfl (Nat.le_of_ble_eq_true rfl) (by simp [Value.category]) (t_X11_find_0 h)
def wp_X11_proof_0 (G : sj_G) (R : sj_R) (σ : sj_S) : Prop := R = (.ok (σ 30 3), σ)
set_option maxRecDepth 20000 in
theorem t_X11_proof_0 {G : sj_G} {R : sj_R} {σ : sj_S} (h : wp_X11_proof_0 G R σ) : sj_J G 2 me_X11_proof R 0 [.ref (sj_ad G 0)] σ [] := by
  unfold wp_X11_proof_0 at h
  refine sj_aload_n dX11_proof_0 (i := 0) rfl rfl ?_
  refine sj_get (a := 0) (k9 := 3) (v := .ref (sj_ad G 30)) dX11_proof_1 (by decide +kernel) rfl ?_
  refine sj_get (a := 30) (k9 := 3) (v := .int (σ 30 3)) dX11_proof_4 (by decide +kernel) rfl ?_
  subst h
  exact sj_ret dX11_proof_7 rfl rfl
theorem c_X11_proof {G : sj_G} (ok : sj_ok G) {R : sj_R} {σ : sj_S} (h : wp_X11_proof_0 G R σ) : sj_C G 2 me_X11_proof [.ref (sj_ad G 0)] σ R :=
  sj_enter ok (by decide +kernel) rfl rfl (Nat.le_of_ble_eq_true rfl) (by simp [Value.category]) (t_X11_proof_0 h)
def wp_X11_proofAt_15 (G : sj_G) (R : sj_R) (σ : sj_S) : Prop := R = (.error 3, σ)
set_option maxRecDepth 20000 in
theorem t_X11_proofAt_15 {G : sj_G} {R : sj_R} {σ : sj_S} (h : wp_X11_proofAt_15 G R σ) : sj_J G 9 me_X11_proofAt R 15 [.null, .null] σ [] := by
  unfold wp_X11_proofAt_15 at h
  subst h
  exact sj_throwS (k9 := 3) (text := "there is no such place of a proof") dX11_proofAt_15 dX11_proofAt_18 dX11_proofAt_19 dX11_proofAt_21 dX11_proofAt_24 rfl (by decide +kernel) (by decide +kernel) (by decide +kernel) (by decide +kernel) (by decide +kernel) (by decide) (Nat.le_of_ble_eq_true rfl)
def wp_X11_proofAt_0 (G : sj_G) (R : sj_R) (x1 : Int32) (σ : sj_S) : Prop := (x1 < 0 → (wp_X11_proofAt_15 G R σ)) ∧ (¬ (x1 < 0) → (x1 < (σ 30 3) → vp_in x1 12 ∧ R = (.ok (σ 32 x1.toNatClampNeg), σ)) ∧ (¬ (x1 < (σ 30 3)) → (wp_X11_proofAt_15 G R σ)))
set_option maxRecDepth 20000 in
theorem t_X11_proofAt_0 {G : sj_G} {R : sj_R} {x1 : Int32} {σ : sj_S} (h : wp_X11_proofAt_0 G R x1 σ) : sj_J G 9 me_X11_proofAt R 0 [.ref (sj_ad G 0), .int x1] σ [] := by
  unfold wp_X11_proofAt_0 at h
  refine sj_iload_n dX11_proofAt_0 (i := 1) rfl rfl ?_
  refine sj_if_lt (tgt := 15) dX11_proofAt_1 (by decide) (fun c1 => ?_) (fun c1 => ?_)
  · replace h := h.1 c1
    refine sj_fg [0, 1] ?_
    exact t_X11_proofAt_15 h
  · replace h := h.2 c1
    refine sj_iload_n dX11_proofAt_4 (i := 1) rfl rfl ?_
    refine sj_aload_n dX11_proofAt_5 (i := 0) rfl rfl ?_
    refine sj_get (a := 0) (k9 := 3) (v := .ref (sj_ad G 30)) dX11_proofAt_6 (by decide +kernel) rfl ?_
    refine sj_get (a := 30) (k9 := 3) (v := .int (σ 30 3)) dX11_proofAt_9 (by decide +kernel) rfl ?_
    refine sj_icmp_lt (tgt := 25) dX11_proofAt_12 (by decide) (fun c2 => ?_) (fun c2 => ?_)
    · replace h := h.1 c2
      refine sj_aload_n dX11_proofAt_25 (i := 0) rfl rfl ?_
      refine sj_get (a := 0) (k9 := 3) (v := .ref (sj_ad G 30)) dX11_proofAt_26 (by decide +kernel) rfl ?_
      refine sj_get (a := 30) (k9 := 2) (v := .ref (sj_ad G 32)) dX11_proofAt_29 (by decide +kernel) rfl ?_
      refine sj_iload_n dX11_proofAt_32 (i := 1) rfl rfl ?_
      obtain ⟨b3, h⟩ := h
      refine sj_iald (a := 32) (j := x1.toNatClampNeg) (x := (σ 32 x1.toNatClampNeg)) dX11_proofAt_33 rfl (by decide +kernel) b3 rfl rfl ?_
      subst h
      exact sj_ret dX11_proofAt_34 rfl rfl
    · replace h := h.2 c2
      refine sj_fg [0, 1] ?_
      exact t_X11_proofAt_15 h
theorem c_X11_proofAt {G : sj_G} (ok : sj_ok G) {R : sj_R} {x1 : Int32} {σ : sj_S} (h : wp_X11_proofAt_0 G R x1 σ) : sj_C G 9 me_X11_proofAt [.ref (sj_ad G 0), .int x1] σ R :=
  sj_enter ok (by decide +kernel) rfl rfl (Nat.le_of_ble_eq_true rfl) (by simp [Value.category]) (t_X11_proofAt_0 h)
def wp_X11_slotOf_0 (G : sj_G) (R : sj_R) (x1 : Int32) (σ : sj_S) : Prop := ((∃ σ1, sj_C G 9 me_X11_requireLesson [.ref (sj_ad G 0), .int x1] σ (.ok 0, σ1) ∧ ((∃ σ2, sj_C G 9 me_X11_requireTable [.ref (sj_ad G 0)] σ1 (.ok 0, σ2) ∧ vp_in x1 9 ∧ R = (.ok (σ2 3 x1.toNatClampNeg), σ2)) ∨ (∃ k2 σ2, sj_C G 9 me_X11_requireTable [.ref (sj_ad G 0)] σ1 (.error k2, σ2) ∧ R = (.error k2, σ2)))) ∨ (∃ k1 σ1, sj_C G 9 me_X11_requireLesson [.ref (sj_ad G 0), .int x1] σ (.error k1, σ1) ∧ R = (.error k1, σ1)))
set_option maxRecDepth 20000 in
theorem t_X11_slotOf_0 {G : sj_G} {R : sj_R} {x1 : Int32} {σ : sj_S} (h : wp_X11_slotOf_0 G R x1 σ) : sj_J G 10 me_X11_slotOf R 0 [.ref (sj_ad G 0), .int x1] σ [] := by
  unfold wp_X11_slotOf_0 at h
  refine sj_aload_n dX11_slotOf_0 (i := 0) rfl rfl ?_
  refine sj_iload_n dX11_slotOf_1 (i := 1) rfl rfl ?_
  rcases h with ⟨σ1, hc1, h⟩ | ⟨k1, σ1, hc1, h⟩
  · refine sj_callVv (M' := me_X11_requireLesson) (b := 0) (As := [.int x1]) (rest := []) dX11_slotOf_2 gX11_slotOf_X11_requireLesson rfl hd_X11_requireLesson (by decide +kernel) (by decide +kernel) rfl (Nat.le_of_ble_eq_true rfl) (by omega) rfl hc1 ?_
    refine sj_aload_n dX11_slotOf_5 (i := 0) rfl rfl ?_
    rcases h with ⟨σ2, hc2, h⟩ | ⟨k2, σ2, hc2, h⟩
    · refine sj_callVv (M' := me_X11_requireTable) (b := 0) (As := []) (rest := []) dX11_slotOf_6 gX11_slotOf_X11_requireTable rfl hd_X11_requireTable (by decide +kernel) (by decide +kernel) rfl (Nat.le_of_ble_eq_true rfl) (by omega) rfl hc2 ?_
      refine sj_aload_n dX11_slotOf_9 (i := 0) rfl rfl ?_
      refine sj_get (a := 0) (k9 := 0) (v := .ref (sj_ad G 1)) dX11_slotOf_10 (by decide +kernel) rfl ?_
      refine sj_get (a := 1) (k9 := 1) (v := .ref (sj_ad G 3)) dX11_slotOf_13 (by decide +kernel) rfl ?_
      refine sj_iload_n dX11_slotOf_16 (i := 1) rfl rfl ?_
      obtain ⟨b3, h⟩ := h
      refine sj_iald (a := 3) (j := x1.toNatClampNeg) (x := (σ2 3 x1.toNatClampNeg)) dX11_slotOf_17 rfl (by decide +kernel) b3 rfl rfl ?_
      subst h
      exact sj_ret dX11_slotOf_18 rfl rfl
    · subst h
      exact sj_callVx (M' := me_X11_requireTable) (b := 0) (As := []) (rest := []) dX11_slotOf_6 gX11_slotOf_X11_requireTable rfl hd_X11_requireTable (by decide +kernel) (by decide +kernel) rfl (Nat.le_of_ble_eq_true rfl) (by omega) hc2
  · subst h
    exact sj_callVx (M' := me_X11_requireLesson) (b := 0) (As := [.int x1]) (rest := []) dX11_slotOf_2 gX11_slotOf_X11_requireLesson rfl hd_X11_requireLesson (by decide +kernel) (by decide +kernel) rfl (Nat.le_of_ble_eq_true rfl) (by omega) hc1
theorem c_X11_slotOf {G : sj_G} (ok : sj_ok G) {R : sj_R} {x1 : Int32} {σ : sj_S} (h : wp_X11_slotOf_0 G R x1 σ) : sj_C G 10 me_X11_slotOf [.ref (sj_ad G 0), .int x1] σ R :=
  sj_enter ok (by decide +kernel) rfl rfl (Nat.le_of_ble_eq_true rfl) (by simp [Value.category]) (t_X11_slotOf_0 h)
def wp_X11_lessonAt_72 (G : sj_G) (R : sj_R) (x1 : Int32) (x2 : Int32) (x3 : Int32) (x4 : Int32) (σ : sj_S) : Prop := sj_J G 12 me_X11_lessonAt R 20 [.ref (sj_ad G 0), .int x1, .int x2, .int x3, .int (x4 + (nI 1))] σ []
set_option maxRecDepth 20000 in
theorem t_X11_lessonAt_72 {G : sj_G} {R : sj_R} {x1 : Int32} {x2 : Int32} {x3 : Int32} {x4 : Int32} {σ : sj_S} (h : wp_X11_lessonAt_72 G R x1 x2 x3 x4 σ) : sj_J G 12 me_X11_lessonAt R 72 [.ref (sj_ad G 0), .int x1, .int x2, .int x3, .int x4] σ [] := by
  unfold wp_X11_lessonAt_72 at h
  refine sj_iinc (v := (x4 + (nI 1))) dX11_lessonAt_72 (by decide) rfl rfl ?_
  refine sj_goto (tgt := 20) dX11_lessonAt_75 (by decide) ?_
  exact h
def wp_X11_lessonAt_20 (G : sj_G) (R : sj_R) (x1 : Int32) (x2 : Int32) (x3 : Int32) (x4 : Int32) (σ : sj_S) : Prop := ∃ v1 σ1, sj_C G 2 me_X8_lessonTotal [.ref (sj_ad G 1)] σ (.ok v1, σ1) ∧ (v1 ≤ x4 → R = (.ok (-1), σ1)) ∧ (¬ (v1 ≤ x4) → ∃ v3 σ3, sj_C G 2 me_X8_isOf [.ref (sj_ad G 1), .int x4, .int x1, .int x2] σ1 (.ok v3, σ3) ∧ (v3 = 0 → (wp_X11_lessonAt_72 G R x1 x2 x3 x4 σ3)) ∧ (¬ (v3 = 0) → ∃ v5 σ5, sj_C G 2 me_X8_slotsTaken [.ref (sj_ad G 1), .int x4, .ref (sj_ad G 3)] σ3 (.ok v5, σ5) ∧ (((v5 >>> (x3 &&& 31)) &&& (nI 1)) = 0 → (wp_X11_lessonAt_72 G R x1 x2 x3 x4 σ5)) ∧ (¬ (((v5 >>> (x3 &&& 31)) &&& (nI 1)) = 0) → R = (.ok x4, σ5))))
set_option maxRecDepth 20000 in
theorem t_X11_lessonAt_20 {G : sj_G} {R : sj_R} {x1 : Int32} {x2 : Int32} {x3 : Int32} {x4 : Int32} {σ : sj_S} (h : wp_X11_lessonAt_20 G R x1 x2 x3 x4 σ) : sj_J G 12 me_X11_lessonAt R 20 [.ref (sj_ad G 0), .int x1, .int x2, .int x3, .int x4] σ [] := by
  unfold wp_X11_lessonAt_20 at h
  refine sj_iload dX11_lessonAt_20 rfl ?_
  refine sj_aload_n dX11_lessonAt_22 (i := 0) rfl rfl ?_
  refine sj_get (a := 0) (k9 := 0) (v := .ref (sj_ad G 1)) dX11_lessonAt_23 (by decide +kernel) rfl ?_
  obtain ⟨v1, σ1, hc1, h⟩ := h
  refine sj_callVi (M' := me_X8_lessonTotal) (b := 1) (As := []) (rest := [.int x4]) dX11_lessonAt_26 gX11_lessonAt_X8_lessonTotal rfl hd_X8_lessonTotal (by decide +kernel) (by decide +kernel) rfl (Nat.le_of_ble_eq_true rfl) (by omega) rfl hc1 ?_
  refine sj_icmp_ge (tgt := 78) dX11_lessonAt_29 (by decide) (fun c2 => ?_) (fun c2 => ?_)
  · replace h := h.1 c2
    refine sj_iconst (v := (-1)) dX11_lessonAt_78 (by decide +kernel) ?_
    subst h
    exact sj_ret dX11_lessonAt_79 rfl rfl
  · replace h := h.2 c2
    refine sj_aload_n dX11_lessonAt_32 (i := 0) rfl rfl ?_
    refine sj_get (a := 0) (k9 := 0) (v := .ref (sj_ad G 1)) dX11_lessonAt_33 (by decide +kernel) rfl ?_
    refine sj_iload dX11_lessonAt_36 rfl ?_
    refine sj_iload_n dX11_lessonAt_38 (i := 1) rfl rfl ?_
    refine sj_iload_n dX11_lessonAt_39 (i := 2) rfl rfl ?_
    obtain ⟨v3, σ3, hc3, h⟩ := h
    refine sj_callVi (M' := me_X8_isOf) (b := 1) (As := [.int x4, .int x1, .int x2]) (rest := []) dX11_lessonAt_40 gX11_lessonAt_X8_isOf rfl hd_X8_isOf (by decide +kernel) (by decide +kernel) rfl (Nat.le_of_ble_eq_true rfl) (by omega) rfl hc3 ?_
    refine sj_if_eq (tgt := 72) dX11_lessonAt_43 (by decide) (fun c4 => ?_) (fun c4 => ?_)
    · replace h := h.1 c4
      exact t_X11_lessonAt_72 h
    · replace h := h.2 c4
      refine sj_aload_n dX11_lessonAt_46 (i := 0) rfl rfl ?_
      refine sj_get (a := 0) (k9 := 0) (v := .ref (sj_ad G 1)) dX11_lessonAt_47 (by decide +kernel) rfl ?_
      refine sj_iload dX11_lessonAt_50 rfl ?_
      refine sj_aload_n dX11_lessonAt_52 (i := 0) rfl rfl ?_
      refine sj_get (a := 0) (k9 := 0) (v := .ref (sj_ad G 1)) dX11_lessonAt_53 (by decide +kernel) rfl ?_
      refine sj_get (a := 1) (k9 := 1) (v := .ref (sj_ad G 3)) dX11_lessonAt_56 (by decide +kernel) rfl ?_
      obtain ⟨v5, σ5, hc5, h⟩ := h
      refine sj_callVi (M' := me_X8_slotsTaken) (b := 1) (As := [.int x4, .ref (sj_ad G 3)]) (rest := []) dX11_lessonAt_59 gX11_lessonAt_X8_slotsTaken rfl hd_X8_slotsTaken (by decide +kernel) (by decide +kernel) rfl (Nat.le_of_ble_eq_true rfl) (by omega) rfl hc5 ?_
      refine sj_iload_n dX11_lessonAt_62 (i := 3) rfl rfl ?_
      refine sj_ishr dX11_lessonAt_63 ?_
      refine sj_iconst (v := (nI 1)) dX11_lessonAt_64 (by decide +kernel) ?_
      refine sj_iand dX11_lessonAt_65 ?_
      refine sj_if_eq (tgt := 72) dX11_lessonAt_66 (by decide) (fun c6 => ?_) (fun c6 => ?_)
      · replace h := h.1 c6
        exact t_X11_lessonAt_72 h
      · replace h := h.2 c6
        refine sj_iload dX11_lessonAt_69 rfl ?_
        subst h
        exact sj_ret dX11_lessonAt_71 rfl rfl
def wp_X11_lessonAt_0 (G : sj_G) (R : sj_R) (x1 : Int32) (x2 : Int32) (x3 : Int32) (σ : sj_S) : Prop := ((∃ σ1, sj_C G 11 me_X11_requirePerson [.ref (sj_ad G 0), .int x1, .int x2] σ (.ok 0, σ1) ∧ ((∃ σ2, sj_C G 10 me_X11_requireRange [.ref (sj_ad G 0), .int x3, .int (nI 20)] σ1 (.ok 0, σ2) ∧ ((∃ σ3, sj_C G 9 me_X11_requireTable [.ref (sj_ad G 0)] σ2 (.ok 0, σ3) ∧ sj_J G 12 me_X11_lessonAt R 20 [.ref (sj_ad G 0), .int x1, .int x2, .int x3, .int (nI 0)] σ3 []) ∨ (∃ k3 σ3, sj_C G 9 me_X11_requireTable [.ref (sj_ad G 0)] σ2 (.error k3, σ3) ∧ R = (.error k3, σ3)))) ∨ (∃ k2 σ2, sj_C G 10 me_X11_requireRange [.ref (sj_ad G 0), .int x3, .int (nI 20)] σ1 (.error k2, σ2) ∧ R = (.error k2, σ2)))) ∨ (∃ k1 σ1, sj_C G 11 me_X11_requirePerson [.ref (sj_ad G 0), .int x1, .int x2] σ (.error k1, σ1) ∧ R = (.error k1, σ1)))
set_option maxRecDepth 20000 in
theorem t_X11_lessonAt_0 {G : sj_G} {R : sj_R} {x1 : Int32} {x2 : Int32} {x3 : Int32} {σ : sj_S} (h : wp_X11_lessonAt_0 G R x1 x2 x3 σ) : sj_J G 12 me_X11_lessonAt R 0 [.ref (sj_ad G 0), .int x1, .int x2, .int x3, .null] σ [] := by
  unfold wp_X11_lessonAt_0 at h
  refine sj_aload_n dX11_lessonAt_0 (i := 0) rfl rfl ?_
  refine sj_iload_n dX11_lessonAt_1 (i := 1) rfl rfl ?_
  refine sj_iload_n dX11_lessonAt_2 (i := 2) rfl rfl ?_
  rcases h with ⟨σ1, hc1, h⟩ | ⟨k1, σ1, hc1, h⟩
  · refine sj_callVv (M' := me_X11_requirePerson) (b := 0) (As := [.int x1, .int x2]) (rest := []) dX11_lessonAt_3 gX11_lessonAt_X11_requirePerson rfl hd_X11_requirePerson (by decide +kernel) (by decide +kernel) rfl (Nat.le_of_ble_eq_true rfl) (by omega) rfl hc1 ?_
    refine sj_aload_n dX11_lessonAt_6 (i := 0) rfl rfl ?_
    refine sj_iload_n dX11_lessonAt_7 (i := 3) rfl rfl ?_
    refine sj_bipush (v := (nI 20)) dX11_lessonAt_8 (by decide +kernel) ?_
    rcases h with ⟨σ2, hc2, h⟩ | ⟨k2, σ2, hc2, h⟩
    · refine sj_callVv (M' := me_X11_requireRange) (b := 0) (As := [.int x3, .int (nI 20)]) (rest := []) dX11_lessonAt_10 gX11_lessonAt_X11_requireRange rfl hd_X11_requireRange (by decide +kernel) (by decide +kernel) rfl (Nat.le_of_ble_eq_true rfl) (by omega) rfl hc2 ?_
      refine sj_aload_n dX11_lessonAt_13 (i := 0) rfl rfl ?_
      rcases h with ⟨σ3, hc3, h⟩ | ⟨k3, σ3, hc3, h⟩
      · refine sj_callVv (M' := me_X11_requireTable) (b := 0) (As := []) (rest := []) dX11_lessonAt_14 gX11_lessonAt_X11_requireTable rfl hd_X11_requireTable (by decide +kernel) (by decide +kernel) rfl (Nat.le_of_ble_eq_true rfl) (by omega) rfl hc3 ?_
        refine sj_iconst (v := (nI 0)) dX11_lessonAt_17 (by decide +kernel) ?_
        refine sj_istore dX11_lessonAt_18 (by decide) ?_
        exact h
      · subst h
        exact sj_callVx (M' := me_X11_requireTable) (b := 0) (As := []) (rest := []) dX11_lessonAt_14 gX11_lessonAt_X11_requireTable rfl hd_X11_requireTable (by decide +kernel) (by decide +kernel) rfl (Nat.le_of_ble_eq_true rfl) (by omega) hc3
    · subst h
      exact sj_callVx (M' := me_X11_requireRange) (b := 0) (As := [.int x3, .int (nI 20)]) (rest := []) dX11_lessonAt_10 gX11_lessonAt_X11_requireRange rfl hd_X11_requireRange (by decide +kernel) (by decide +kernel) rfl (Nat.le_of_ble_eq_true rfl) (by omega) hc2
  · subst h
    exact sj_callVx (M' := me_X11_requirePerson) (b := 0) (As := [.int x1, .int x2]) (rest := []) dX11_lessonAt_3 gX11_lessonAt_X11_requirePerson rfl hd_X11_requirePerson (by decide +kernel) (by decide +kernel) rfl (Nat.le_of_ble_eq_true rfl) (by omega) hc1
theorem c_X11_lessonAt {G : sj_G} (ok : sj_ok G) {R : sj_R} {x1 : Int32} {x2 : Int32} {x3 : Int32} {σ : sj_S} (h : wp_X11_lessonAt_0 G R x1 x2 x3 σ) : sj_C G 12 me_X11_lessonAt [.ref (sj_ad G 0), .int x1, .int x2, .int x3] σ R :=
  sj_enter ok (by decide +kernel) rfl rfl (Nat.le_of_ble_eq_true rfl) (by simp [Value.category]) (t_X11_lessonAt_0 h)
def wp_X11_roomOf_0 (G : sj_G) (R : sj_R) (x1 : Int32) (σ : sj_S) : Prop := ((∃ σ1, sj_C G 9 me_X11_requireLesson [.ref (sj_ad G 0), .int x1] σ (.ok 0, σ1) ∧ ((∃ σ2, sj_C G 9 me_X11_requireTable [.ref (sj_ad G 0)] σ1 (.ok 0, σ2) ∧ ∃ σ3, sj_C G 5 me_X7_take [.ref (sj_ad G 6), .ref (sj_ad G 1), .int (nI 0)] σ2 (.ok 0, σ3) ∧ ∃ v4 σ4, sj_C G 3 me_X7_giveRooms [.ref (sj_ad G 6), .ref (sj_ad G 3), .int x1] σ3 (.ok v4, σ4) ∧ R = (.ok v4, σ4)) ∨ (∃ k2 σ2, sj_C G 9 me_X11_requireTable [.ref (sj_ad G 0)] σ1 (.error k2, σ2) ∧ R = (.error k2, σ2)))) ∨ (∃ k1 σ1, sj_C G 9 me_X11_requireLesson [.ref (sj_ad G 0), .int x1] σ (.error k1, σ1) ∧ R = (.error k1, σ1)))
set_option maxRecDepth 20000 in
theorem t_X11_roomOf_0 {G : sj_G} {R : sj_R} {x1 : Int32} {σ : sj_S} (h : wp_X11_roomOf_0 G R x1 σ) : sj_J G 10 me_X11_roomOf R 0 [.ref (sj_ad G 0), .int x1] σ [] := by
  unfold wp_X11_roomOf_0 at h
  refine sj_aload_n dX11_roomOf_0 (i := 0) rfl rfl ?_
  refine sj_iload_n dX11_roomOf_1 (i := 1) rfl rfl ?_
  rcases h with ⟨σ1, hc1, h⟩ | ⟨k1, σ1, hc1, h⟩
  · refine sj_callVv (M' := me_X11_requireLesson) (b := 0) (As := [.int x1]) (rest := []) dX11_roomOf_2 gX11_roomOf_X11_requireLesson rfl hd_X11_requireLesson (by decide +kernel) (by decide +kernel) rfl (Nat.le_of_ble_eq_true rfl) (by omega) rfl hc1 ?_
    refine sj_aload_n dX11_roomOf_5 (i := 0) rfl rfl ?_
    rcases h with ⟨σ2, hc2, h⟩ | ⟨k2, σ2, hc2, h⟩
    · refine sj_callVv (M' := me_X11_requireTable) (b := 0) (As := []) (rest := []) dX11_roomOf_6 gX11_roomOf_X11_requireTable rfl hd_X11_requireTable (by decide +kernel) (by decide +kernel) rfl (Nat.le_of_ble_eq_true rfl) (by omega) rfl hc2 ?_
      refine sj_aload_n dX11_roomOf_9 (i := 0) rfl rfl ?_
      refine sj_get (a := 0) (k9 := 2) (v := .ref (sj_ad G 6)) dX11_roomOf_10 (by decide +kernel) rfl ?_
      refine sj_aload_n dX11_roomOf_13 (i := 0) rfl rfl ?_
      refine sj_get (a := 0) (k9 := 0) (v := .ref (sj_ad G 1)) dX11_roomOf_14 (by decide +kernel) rfl ?_
      refine sj_iconst (v := (nI 0)) dX11_roomOf_17 (by decide +kernel) ?_
      obtain ⟨σ3, hc3, h⟩ := h
      refine sj_callVv (M' := me_X7_take) (b := 6) (As := [.ref (sj_ad G 1), .int (nI 0)]) (rest := []) dX11_roomOf_18 gX11_roomOf_X7_take rfl hd_X7_take (by decide +kernel) (by decide +kernel) rfl (Nat.le_of_ble_eq_true rfl) (by omega) rfl hc3 ?_
      refine sj_aload_n dX11_roomOf_21 (i := 0) rfl rfl ?_
      refine sj_get (a := 0) (k9 := 2) (v := .ref (sj_ad G 6)) dX11_roomOf_22 (by decide +kernel) rfl ?_
      refine sj_aload_n dX11_roomOf_25 (i := 0) rfl rfl ?_
      refine sj_get (a := 0) (k9 := 0) (v := .ref (sj_ad G 1)) dX11_roomOf_26 (by decide +kernel) rfl ?_
      refine sj_get (a := 1) (k9 := 1) (v := .ref (sj_ad G 3)) dX11_roomOf_29 (by decide +kernel) rfl ?_
      refine sj_iload_n dX11_roomOf_32 (i := 1) rfl rfl ?_
      obtain ⟨v4, σ4, hc4, h⟩ := h
      refine sj_callVi (M' := me_X7_giveRooms) (b := 6) (As := [.ref (sj_ad G 3), .int x1]) (rest := []) dX11_roomOf_33 gX11_roomOf_X7_giveRooms rfl hd_X7_giveRooms (by decide +kernel) (by decide +kernel) rfl (Nat.le_of_ble_eq_true rfl) (by omega) rfl hc4 ?_
      subst h
      exact sj_ret dX11_roomOf_36 rfl rfl
    · subst h
      exact sj_callVx (M' := me_X11_requireTable) (b := 0) (As := []) (rest := []) dX11_roomOf_6 gX11_roomOf_X11_requireTable rfl hd_X11_requireTable (by decide +kernel) (by decide +kernel) rfl (Nat.le_of_ble_eq_true rfl) (by omega) hc2
  · subst h
    exact sj_callVx (M' := me_X11_requireLesson) (b := 0) (As := [.int x1]) (rest := []) dX11_roomOf_2 gX11_roomOf_X11_requireLesson rfl hd_X11_requireLesson (by decide +kernel) (by decide +kernel) rfl (Nat.le_of_ble_eq_true rfl) (by omega) hc1
theorem c_X11_roomOf {G : sj_G} (ok : sj_ok G) {R : sj_R} {x1 : Int32} {σ : sj_S} (h : wp_X11_roomOf_0 G R x1 σ) : sj_C G 10 me_X11_roomOf [.ref (sj_ad G 0), .int x1] σ R :=
  sj_enter ok (by decide +kernel) rfl rfl (Nat.le_of_ble_eq_true rfl) (by simp [Value.category]) (t_X11_roomOf_0 h)
def wp_X11_choices_0 (G : sj_G) (R : sj_R) (x1 : Int32) (σ : sj_S) : Prop := ((∃ σ1, sj_C G 9 me_X11_requireLesson [.ref (sj_ad G 0), .int x1] σ (.ok 0, σ1) ∧ ((∃ σ2, sj_C G 9 me_X11_requireTable [.ref (sj_ad G 0)] σ1 (.ok 0, σ2) ∧ ∃ v3 σ3, sj_C G 3 me_X8_hardWishes [.ref (sj_ad G 1)] σ2 (.ok v3, σ3) ∧ ∃ σ4, sj_C G 5 me_X7_take [.ref (sj_ad G 6), .ref (sj_ad G 1), .int v3] σ3 (.ok 0, σ4) ∧ ∃ v5 σ5, sj_C G 2 me_X7_allowed [.ref (sj_ad G 6), .int x1, .ref (sj_ad G 3), .int (-1)] σ4 (.ok v5, σ5) ∧ vp_in x1 9 ∧ ∃ v7 σ7, sj_C G 2 me_J6_bitCount_0f7a4 [.int (v5 &&& (((nI 1) <<< ((σ5 3 x1.toNatClampNeg) &&& 31)) ^^^ (-1)))] σ5 (.ok v7, σ7) ∧ R = (.ok v7, σ7)) ∨ (∃ k2 σ2, sj_C G 9 me_X11_requireTable [.ref (sj_ad G 0)] σ1 (.error k2, σ2) ∧ R = (.error k2, σ2)))) ∨ (∃ k1 σ1, sj_C G 9 me_X11_requireLesson [.ref (sj_ad G 0), .int x1] σ (.error k1, σ1) ∧ R = (.error k1, σ1)))
set_option maxRecDepth 20000 in
theorem t_X11_choices_0 {G : sj_G} {R : sj_R} {x1 : Int32} {σ : sj_S} (h : wp_X11_choices_0 G R x1 σ) : sj_J G 10 me_X11_choices R 0 [.ref (sj_ad G 0), .int x1] σ [] := by
  unfold wp_X11_choices_0 at h
  refine sj_aload_n dX11_choices_0 (i := 0) rfl rfl ?_
  refine sj_iload_n dX11_choices_1 (i := 1) rfl rfl ?_
  rcases h with ⟨σ1, hc1, h⟩ | ⟨k1, σ1, hc1, h⟩
  · refine sj_callVv (M' := me_X11_requireLesson) (b := 0) (As := [.int x1]) (rest := []) dX11_choices_2 gX11_choices_X11_requireLesson rfl hd_X11_requireLesson (by decide +kernel) (by decide +kernel) rfl (Nat.le_of_ble_eq_true rfl) (by omega) rfl hc1 ?_
    refine sj_aload_n dX11_choices_5 (i := 0) rfl rfl ?_
    rcases h with ⟨σ2, hc2, h⟩ | ⟨k2, σ2, hc2, h⟩
    · refine sj_callVv (M' := me_X11_requireTable) (b := 0) (As := []) (rest := []) dX11_choices_6 gX11_choices_X11_requireTable rfl hd_X11_requireTable (by decide +kernel) (by decide +kernel) rfl (Nat.le_of_ble_eq_true rfl) (by omega) rfl hc2 ?_
      refine sj_aload_n dX11_choices_9 (i := 0) rfl rfl ?_
      refine sj_get (a := 0) (k9 := 2) (v := .ref (sj_ad G 6)) dX11_choices_10 (by decide +kernel) rfl ?_
      refine sj_aload_n dX11_choices_13 (i := 0) rfl rfl ?_
      refine sj_get (a := 0) (k9 := 0) (v := .ref (sj_ad G 1)) dX11_choices_14 (by decide +kernel) rfl ?_
      refine sj_aload_n dX11_choices_17 (i := 0) rfl rfl ?_
      refine sj_get (a := 0) (k9 := 0) (v := .ref (sj_ad G 1)) dX11_choices_18 (by decide +kernel) rfl ?_
      obtain ⟨v3, σ3, hc3, h⟩ := h
      refine sj_callVi (M' := me_X8_hardWishes) (b := 1) (As := []) (rest := [.ref (sj_ad G 1), .ref (sj_ad G 6)]) dX11_choices_21 gX11_choices_X8_hardWishes rfl hd_X8_hardWishes (by decide +kernel) (by decide +kernel) rfl (Nat.le_of_ble_eq_true rfl) (by omega) rfl hc3 ?_
      obtain ⟨σ4, hc4, h⟩ := h
      refine sj_callVv (M' := me_X7_take) (b := 6) (As := [.ref (sj_ad G 1), .int v3]) (rest := []) dX11_choices_24 gX11_choices_X7_take rfl hd_X7_take (by decide +kernel) (by decide +kernel) rfl (Nat.le_of_ble_eq_true rfl) (by omega) rfl hc4 ?_
      refine sj_aload_n dX11_choices_27 (i := 0) rfl rfl ?_
      refine sj_get (a := 0) (k9 := 2) (v := .ref (sj_ad G 6)) dX11_choices_28 (by decide +kernel) rfl ?_
      refine sj_iload_n dX11_choices_31 (i := 1) rfl rfl ?_
      refine sj_aload_n dX11_choices_32 (i := 0) rfl rfl ?_
      refine sj_get (a := 0) (k9 := 0) (v := .ref (sj_ad G 1)) dX11_choices_33 (by decide +kernel) rfl ?_
      refine sj_get (a := 1) (k9 := 1) (v := .ref (sj_ad G 3)) dX11_choices_36 (by decide +kernel) rfl ?_
      refine sj_iconst (v := (-1)) dX11_choices_39 (by decide +kernel) ?_
      obtain ⟨v5, σ5, hc5, h⟩ := h
      refine sj_callVi (M' := me_X7_allowed) (b := 6) (As := [.int x1, .ref (sj_ad G 3), .int (-1)]) (rest := []) dX11_choices_40 gX11_choices_X7_allowed rfl hd_X7_allowed (by decide +kernel) (by decide +kernel) rfl (Nat.le_of_ble_eq_true rfl) (by omega) rfl hc5 ?_
      refine sj_iconst (v := (nI 1)) dX11_choices_43 (by decide +kernel) ?_
      refine sj_aload_n dX11_choices_44 (i := 0) rfl rfl ?_
      refine sj_get (a := 0) (k9 := 0) (v := .ref (sj_ad G 1)) dX11_choices_45 (by decide +kernel) rfl ?_
      refine sj_get (a := 1) (k9 := 1) (v := .ref (sj_ad G 3)) dX11_choices_48 (by decide +kernel) rfl ?_
      refine sj_iload_n dX11_choices_51 (i := 1) rfl rfl ?_
      obtain ⟨b6, h⟩ := h
      refine sj_iald (a := 3) (j := x1.toNatClampNeg) (x := (σ5 3 x1.toNatClampNeg)) dX11_choices_52 rfl (by decide +kernel) b6 rfl rfl ?_
      refine sj_ishl dX11_choices_53 ?_
      refine sj_iconst (v := (-1)) dX11_choices_54 (by decide +kernel) ?_
      refine sj_ixor dX11_choices_55 ?_
      refine sj_iand dX11_choices_56 ?_
      obtain ⟨v7, σ7, hc7, h⟩ := h
      refine sj_callSi (M' := me_J6_bitCount_0f7a4) (As := [.int (v5 &&& (((nI 1) <<< ((σ5 3 x1.toNatClampNeg) &&& 31)) ^^^ (-1)))]) (rest := []) dX11_choices_57 gX11_choices_J6_bitCount_0f7a4 rfl hd_J6_bitCount_0f7a4 (Nat.le_of_ble_eq_true rfl) (by omega) rfl hc7 ?_
      subst h
      exact sj_ret dX11_choices_60 rfl rfl
    · subst h
      exact sj_callVx (M' := me_X11_requireTable) (b := 0) (As := []) (rest := []) dX11_choices_6 gX11_choices_X11_requireTable rfl hd_X11_requireTable (by decide +kernel) (by decide +kernel) rfl (Nat.le_of_ble_eq_true rfl) (by omega) hc2
  · subst h
    exact sj_callVx (M' := me_X11_requireLesson) (b := 0) (As := [.int x1]) (rest := []) dX11_choices_2 gX11_choices_X11_requireLesson rfl hd_X11_requireLesson (by decide +kernel) (by decide +kernel) rfl (Nat.le_of_ble_eq_true rfl) (by omega) hc1
theorem c_X11_choices {G : sj_G} (ok : sj_ok G) {R : sj_R} {x1 : Int32} {σ : sj_S} (h : wp_X11_choices_0 G R x1 σ) : sj_C G 10 me_X11_choices [.ref (sj_ad G 0), .int x1] σ R :=
  sj_enter ok (by decide +kernel) rfl rfl (Nat.le_of_ble_eq_true rfl) (by simp [Value.category]) (t_X11_choices_0 h)
def wp_X11_holds_0 (G : sj_G) (R : sj_R) (x1 : Int32) (σ : sj_S) : Prop := ((∃ σ1, sj_C G 9 me_X11_requireWish [.ref (sj_ad G 0), .int x1] σ (.ok 0, σ1) ∧ ((∃ σ2, sj_C G 9 me_X11_requireTable [.ref (sj_ad G 0)] σ1 (.ok 0, σ2) ∧ ∃ v3 σ3, sj_C G 4 me_X8_fulfils [.ref (sj_ad G 1), .int x1, .ref (sj_ad G 3)] σ2 (.ok v3, σ3) ∧ R = (.ok v3, σ3) ∧ (v3 = nI 0 ∨ v3 = nI 1)) ∨ (∃ k2 σ2, sj_C G 9 me_X11_requireTable [.ref (sj_ad G 0)] σ1 (.error k2, σ2) ∧ R = (.error k2, σ2)))) ∨ (∃ k1 σ1, sj_C G 9 me_X11_requireWish [.ref (sj_ad G 0), .int x1] σ (.error k1, σ1) ∧ R = (.error k1, σ1)))
set_option maxRecDepth 20000 in
theorem t_X11_holds_0 {G : sj_G} {R : sj_R} {x1 : Int32} {σ : sj_S} (h : wp_X11_holds_0 G R x1 σ) : sj_J G 10 me_X11_holds R 0 [.ref (sj_ad G 0), .int x1] σ [] := by
  unfold wp_X11_holds_0 at h
  refine sj_aload_n dX11_holds_0 (i := 0) rfl rfl ?_
  refine sj_iload_n dX11_holds_1 (i := 1) rfl rfl ?_
  rcases h with ⟨σ1, hc1, h⟩ | ⟨k1, σ1, hc1, h⟩
  · refine sj_callVv (M' := me_X11_requireWish) (b := 0) (As := [.int x1]) (rest := []) dX11_holds_2 gX11_holds_X11_requireWish rfl hd_X11_requireWish (by decide +kernel) (by decide +kernel) rfl (Nat.le_of_ble_eq_true rfl) (by omega) rfl hc1 ?_
    refine sj_aload_n dX11_holds_5 (i := 0) rfl rfl ?_
    rcases h with ⟨σ2, hc2, h⟩ | ⟨k2, σ2, hc2, h⟩
    · refine sj_callVv (M' := me_X11_requireTable) (b := 0) (As := []) (rest := []) dX11_holds_6 gX11_holds_X11_requireTable rfl hd_X11_requireTable (by decide +kernel) (by decide +kernel) rfl (Nat.le_of_ble_eq_true rfl) (by omega) rfl hc2 ?_
      refine sj_aload_n dX11_holds_9 (i := 0) rfl rfl ?_
      refine sj_get (a := 0) (k9 := 0) (v := .ref (sj_ad G 1)) dX11_holds_10 (by decide +kernel) rfl ?_
      refine sj_iload_n dX11_holds_13 (i := 1) rfl rfl ?_
      refine sj_aload_n dX11_holds_14 (i := 0) rfl rfl ?_
      refine sj_get (a := 0) (k9 := 0) (v := .ref (sj_ad G 1)) dX11_holds_15 (by decide +kernel) rfl ?_
      refine sj_get (a := 1) (k9 := 1) (v := .ref (sj_ad G 3)) dX11_holds_18 (by decide +kernel) rfl ?_
      obtain ⟨v3, σ3, hc3, h⟩ := h
      refine sj_callVi (M' := me_X8_fulfils) (b := 1) (As := [.int x1, .ref (sj_ad G 3)]) (rest := []) dX11_holds_21 gX11_holds_X8_fulfils rfl hd_X8_fulfils (by decide +kernel) (by decide +kernel) rfl (Nat.le_of_ble_eq_true rfl) (by omega) rfl hc3 ?_
      obtain ⟨h, hz⟩ := h
      subst h
      exact sj_ret dX11_holds_24 rfl (sj_nb hz)
    · subst h
      exact sj_callVx (M' := me_X11_requireTable) (b := 0) (As := []) (rest := []) dX11_holds_6 gX11_holds_X11_requireTable rfl hd_X11_requireTable (by decide +kernel) (by decide +kernel) rfl (Nat.le_of_ble_eq_true rfl) (by omega) hc2
  · subst h
    exact sj_callVx (M' := me_X11_requireWish) (b := 0) (As := [.int x1]) (rest := []) dX11_holds_2 gX11_holds_X11_requireWish rfl hd_X11_requireWish (by decide +kernel) (by decide +kernel) rfl (Nat.le_of_ble_eq_true rfl) (by omega) hc1
theorem c_X11_holds {G : sj_G} (ok : sj_ok G) {R : sj_R} {x1 : Int32} {σ : sj_S} (h : wp_X11_holds_0 G R x1 σ) : sj_C G 10 me_X11_holds [.ref (sj_ad G 0), .int x1] σ R :=
  sj_enter ok (by decide +kernel) rfl rfl (Nat.le_of_ble_eq_true rfl) (by simp [Value.category]) (t_X11_holds_0 h)
def wp_X11_cost_0 (G : sj_G) (R : sj_R) (σ : sj_S) : Prop := ((∃ σ1, sj_C G 9 me_X11_requireTable [.ref (sj_ad G 0)] σ (.ok 0, σ1) ∧ ∃ v2 σ2, sj_C G 5 me_X6_costOf [.ref (sj_ad G 36), .ref (sj_ad G 1), .ref (sj_ad G 3)] σ1 (.ok v2, σ2) ∧ R = (.ok v2, σ2)) ∨ (∃ k1 σ1, sj_C G 9 me_X11_requireTable [.ref (sj_ad G 0)] σ (.error k1, σ1) ∧ R = (.error k1, σ1)))
set_option maxRecDepth 20000 in
theorem t_X11_cost_0 {G : sj_G} {R : sj_R} {σ : sj_S} (h : wp_X11_cost_0 G R σ) : sj_J G 10 me_X11_cost R 0 [.ref (sj_ad G 0)] σ [] := by
  unfold wp_X11_cost_0 at h
  refine sj_aload_n dX11_cost_0 (i := 0) rfl rfl ?_
  rcases h with ⟨σ1, hc1, h⟩ | ⟨k1, σ1, hc1, h⟩
  · refine sj_callVv (M' := me_X11_requireTable) (b := 0) (As := []) (rest := []) dX11_cost_1 gX11_cost_X11_requireTable rfl hd_X11_requireTable (by decide +kernel) (by decide +kernel) rfl (Nat.le_of_ble_eq_true rfl) (by omega) rfl hc1 ?_
    refine sj_aload_n dX11_cost_4 (i := 0) rfl rfl ?_
    refine sj_get (a := 0) (k9 := 4) (v := .ref (sj_ad G 36)) dX11_cost_5 (by decide +kernel) rfl ?_
    refine sj_aload_n dX11_cost_8 (i := 0) rfl rfl ?_
    refine sj_get (a := 0) (k9 := 0) (v := .ref (sj_ad G 1)) dX11_cost_9 (by decide +kernel) rfl ?_
    refine sj_aload_n dX11_cost_12 (i := 0) rfl rfl ?_
    refine sj_get (a := 0) (k9 := 0) (v := .ref (sj_ad G 1)) dX11_cost_13 (by decide +kernel) rfl ?_
    refine sj_get (a := 1) (k9 := 1) (v := .ref (sj_ad G 3)) dX11_cost_16 (by decide +kernel) rfl ?_
    obtain ⟨v2, σ2, hc2, h⟩ := h
    refine sj_callVi (M' := me_X6_costOf) (b := 36) (As := [.ref (sj_ad G 1), .ref (sj_ad G 3)]) (rest := []) dX11_cost_19 gX11_cost_X6_costOf rfl hd_X6_costOf (by decide +kernel) (by decide +kernel) rfl (Nat.le_of_ble_eq_true rfl) (by omega) rfl hc2 ?_
    subst h
    exact sj_ret dX11_cost_22 rfl rfl
  · subst h
    exact sj_callVx (M' := me_X11_requireTable) (b := 0) (As := []) (rest := []) dX11_cost_1 gX11_cost_X11_requireTable rfl hd_X11_requireTable (by decide +kernel) (by decide +kernel) rfl (Nat.le_of_ble_eq_true rfl) (by omega) hc1
theorem c_X11_cost {G : sj_G} (ok : sj_ok G) {R : sj_R} {σ : sj_S} (h : wp_X11_cost_0 G R σ) : sj_C G 10 me_X11_cost [.ref (sj_ad G 0)] σ R :=
  sj_enter ok (by decide +kernel) rfl rfl (Nat.le_of_ble_eq_true rfl) (by simp [Value.category]) (t_X11_cost_0 h)
def wp_X11_gaps_0 (G : sj_G) (R : sj_R) (x1 : Int32) (x2 : Int32) (σ : sj_S) : Prop := ((∃ σ1, sj_C G 11 me_X11_requirePerson [.ref (sj_ad G 0), .int x1, .int x2] σ (.ok 0, σ1) ∧ ((∃ σ2, sj_C G 9 me_X11_requireTable [.ref (sj_ad G 0)] σ1 (.ok 0, σ2) ∧ ∃ v3 σ3, sj_C G 3 me_X8_slotsOfPerson [.ref (sj_ad G 1), .int x1, .int x2, .ref (sj_ad G 3)] σ2 (.ok v3, σ3) ∧ ∃ v4 σ4, sj_C G 3 me_X6_gapsIn [.ref (sj_ad G 36), .int v3] σ3 (.ok v4, σ4) ∧ R = (.ok v4, σ4)) ∨ (∃ k2 σ2, sj_C G 9 me_X11_requireTable [.ref (sj_ad G 0)] σ1 (.error k2, σ2) ∧ R = (.error k2, σ2)))) ∨ (∃ k1 σ1, sj_C G 11 me_X11_requirePerson [.ref (sj_ad G 0), .int x1, .int x2] σ (.error k1, σ1) ∧ R = (.error k1, σ1)))
set_option maxRecDepth 20000 in
theorem t_X11_gaps_0 {G : sj_G} {R : sj_R} {x1 : Int32} {x2 : Int32} {σ : sj_S} (h : wp_X11_gaps_0 G R x1 x2 σ) : sj_J G 12 me_X11_gaps R 0 [.ref (sj_ad G 0), .int x1, .int x2] σ [] := by
  unfold wp_X11_gaps_0 at h
  refine sj_aload_n dX11_gaps_0 (i := 0) rfl rfl ?_
  refine sj_iload_n dX11_gaps_1 (i := 1) rfl rfl ?_
  refine sj_iload_n dX11_gaps_2 (i := 2) rfl rfl ?_
  rcases h with ⟨σ1, hc1, h⟩ | ⟨k1, σ1, hc1, h⟩
  · refine sj_callVv (M' := me_X11_requirePerson) (b := 0) (As := [.int x1, .int x2]) (rest := []) dX11_gaps_3 gX11_gaps_X11_requirePerson rfl hd_X11_requirePerson (by decide +kernel) (by decide +kernel) rfl (Nat.le_of_ble_eq_true rfl) (by omega) rfl hc1 ?_
    refine sj_aload_n dX11_gaps_6 (i := 0) rfl rfl ?_
    rcases h with ⟨σ2, hc2, h⟩ | ⟨k2, σ2, hc2, h⟩
    · refine sj_callVv (M' := me_X11_requireTable) (b := 0) (As := []) (rest := []) dX11_gaps_7 gX11_gaps_X11_requireTable rfl hd_X11_requireTable (by decide +kernel) (by decide +kernel) rfl (Nat.le_of_ble_eq_true rfl) (by omega) rfl hc2 ?_
      refine sj_aload_n dX11_gaps_10 (i := 0) rfl rfl ?_
      refine sj_get (a := 0) (k9 := 4) (v := .ref (sj_ad G 36)) dX11_gaps_11 (by decide +kernel) rfl ?_
      refine sj_aload_n dX11_gaps_14 (i := 0) rfl rfl ?_
      refine sj_get (a := 0) (k9 := 0) (v := .ref (sj_ad G 1)) dX11_gaps_15 (by decide +kernel) rfl ?_
      refine sj_iload_n dX11_gaps_18 (i := 1) rfl rfl ?_
      refine sj_iload_n dX11_gaps_19 (i := 2) rfl rfl ?_
      refine sj_aload_n dX11_gaps_20 (i := 0) rfl rfl ?_
      refine sj_get (a := 0) (k9 := 0) (v := .ref (sj_ad G 1)) dX11_gaps_21 (by decide +kernel) rfl ?_
      refine sj_get (a := 1) (k9 := 1) (v := .ref (sj_ad G 3)) dX11_gaps_24 (by decide +kernel) rfl ?_
      obtain ⟨v3, σ3, hc3, h⟩ := h
      refine sj_callVi (M' := me_X8_slotsOfPerson) (b := 1) (As := [.int x1, .int x2, .ref (sj_ad G 3)]) (rest := [.ref (sj_ad G 36)]) dX11_gaps_27 gX11_gaps_X8_slotsOfPerson rfl hd_X8_slotsOfPerson (by decide +kernel) (by decide +kernel) rfl (Nat.le_of_ble_eq_true rfl) (by omega) rfl hc3 ?_
      obtain ⟨v4, σ4, hc4, h⟩ := h
      refine sj_callVi (M' := me_X6_gapsIn) (b := 36) (As := [.int v3]) (rest := []) dX11_gaps_30 gX11_gaps_X6_gapsIn rfl hd_X6_gapsIn (by decide +kernel) (by decide +kernel) rfl (Nat.le_of_ble_eq_true rfl) (by omega) rfl hc4 ?_
      subst h
      exact sj_ret dX11_gaps_33 rfl rfl
    · subst h
      exact sj_callVx (M' := me_X11_requireTable) (b := 0) (As := []) (rest := []) dX11_gaps_7 gX11_gaps_X11_requireTable rfl hd_X11_requireTable (by decide +kernel) (by decide +kernel) rfl (Nat.le_of_ble_eq_true rfl) (by omega) hc2
  · subst h
    exact sj_callVx (M' := me_X11_requirePerson) (b := 0) (As := [.int x1, .int x2]) (rest := []) dX11_gaps_3 gX11_gaps_X11_requirePerson rfl hd_X11_requirePerson (by decide +kernel) (by decide +kernel) rfl (Nat.le_of_ble_eq_true rfl) (by omega) hc1
theorem c_X11_gaps {G : sj_G} (ok : sj_ok G) {R : sj_R} {x1 : Int32} {x2 : Int32} {σ : sj_S} (h : wp_X11_gaps_0 G R x1 x2 σ) : sj_C G 12 me_X11_gaps [.ref (sj_ad G 0), .int x1, .int x2] σ R :=
  sj_enter ok (by decide +kernel) rfl rfl (Nat.le_of_ble_eq_true rfl) (by simp [Value.category]) (t_X11_gaps_0 h)
def wp_X11_improve_60 (G : sj_G) (R : sj_R) (x1 : Int32) (σ : sj_S) : Prop := R = (.ok x1, σ)
set_option maxRecDepth 20000 in
theorem t_X11_improve_60 {G : sj_G} {R : sj_R} {x1 : Int32} {σ : sj_S} (h : wp_X11_improve_60 G R x1 σ) : sj_J G 10 me_X11_improve R 60 [.null, .int x1] σ [] := by
  unfold wp_X11_improve_60 at h
  refine sj_iload_n dX11_improve_60 (i := 1) rfl rfl ?_
  subst h
  exact sj_ret dX11_improve_61 rfl rfl
def wp_X11_improve_0 (G : sj_G) (R : sj_R) (σ : sj_S) : Prop := ((∃ σ1, sj_C G 9 me_X11_requireTable [.ref (sj_ad G 0)] σ (.ok 0, σ1) ∧ ∃ v2 σ2, sj_C G 3 me_X8_hardWishes [.ref (sj_ad G 1)] σ1 (.ok v2, σ2) ∧ ∃ σ3, sj_C G 5 me_X7_take [.ref (sj_ad G 6), .ref (sj_ad G 1), .int v2] σ2 (.ok 0, σ3) ∧ ∃ v4 σ4, sj_C G 8 me_X6_seekBest [.ref (sj_ad G 36), .ref (sj_ad G 1), .ref (sj_ad G 6)] σ3 (.ok v4, σ4) ∧ (v4 ≤ 0 → (wp_X11_improve_60 G R v4 σ4)) ∧ (¬ (v4 ≤ 0) → ∃ σ7, sj_C G 3 me_X11_beginChange [.ref (sj_ad G 0)] σ4 (.ok 0, σ7) ∧ ∃ σ8, sj_C G 2 me_X8_putTable [.ref (sj_ad G 1), .ref (sj_ad G 37)] σ7 (.ok 0, σ8) ∧ (wp_X11_improve_60 G R v4 σ8))) ∨ (∃ k1 σ1, sj_C G 9 me_X11_requireTable [.ref (sj_ad G 0)] σ (.error k1, σ1) ∧ R = (.error k1, σ1)))
set_option maxRecDepth 20000 in
theorem t_X11_improve_0 {G : sj_G} {R : sj_R} {σ : sj_S} (h : wp_X11_improve_0 G R σ) : sj_J G 10 me_X11_improve R 0 [.ref (sj_ad G 0), .null] σ [] := by
  unfold wp_X11_improve_0 at h
  refine sj_aload_n dX11_improve_0 (i := 0) rfl rfl ?_
  rcases h with ⟨σ1, hc1, h⟩ | ⟨k1, σ1, hc1, h⟩
  · refine sj_callVv (M' := me_X11_requireTable) (b := 0) (As := []) (rest := []) dX11_improve_1 gX11_improve_X11_requireTable rfl hd_X11_requireTable (by decide +kernel) (by decide +kernel) rfl (Nat.le_of_ble_eq_true rfl) (by omega) rfl hc1 ?_
    refine sj_aload_n dX11_improve_4 (i := 0) rfl rfl ?_
    refine sj_get (a := 0) (k9 := 2) (v := .ref (sj_ad G 6)) dX11_improve_5 (by decide +kernel) rfl ?_
    refine sj_aload_n dX11_improve_8 (i := 0) rfl rfl ?_
    refine sj_get (a := 0) (k9 := 0) (v := .ref (sj_ad G 1)) dX11_improve_9 (by decide +kernel) rfl ?_
    refine sj_aload_n dX11_improve_12 (i := 0) rfl rfl ?_
    refine sj_get (a := 0) (k9 := 0) (v := .ref (sj_ad G 1)) dX11_improve_13 (by decide +kernel) rfl ?_
    obtain ⟨v2, σ2, hc2, h⟩ := h
    refine sj_callVi (M' := me_X8_hardWishes) (b := 1) (As := []) (rest := [.ref (sj_ad G 1), .ref (sj_ad G 6)]) dX11_improve_16 gX11_improve_X8_hardWishes rfl hd_X8_hardWishes (by decide +kernel) (by decide +kernel) rfl (Nat.le_of_ble_eq_true rfl) (by omega) rfl hc2 ?_
    obtain ⟨σ3, hc3, h⟩ := h
    refine sj_callVv (M' := me_X7_take) (b := 6) (As := [.ref (sj_ad G 1), .int v2]) (rest := []) dX11_improve_19 gX11_improve_X7_take rfl hd_X7_take (by decide +kernel) (by decide +kernel) rfl (Nat.le_of_ble_eq_true rfl) (by omega) rfl hc3 ?_
    refine sj_aload_n dX11_improve_22 (i := 0) rfl rfl ?_
    refine sj_get (a := 0) (k9 := 4) (v := .ref (sj_ad G 36)) dX11_improve_23 (by decide +kernel) rfl ?_
    refine sj_aload_n dX11_improve_26 (i := 0) rfl rfl ?_
    refine sj_get (a := 0) (k9 := 0) (v := .ref (sj_ad G 1)) dX11_improve_27 (by decide +kernel) rfl ?_
    refine sj_aload_n dX11_improve_30 (i := 0) rfl rfl ?_
    refine sj_get (a := 0) (k9 := 2) (v := .ref (sj_ad G 6)) dX11_improve_31 (by decide +kernel) rfl ?_
    obtain ⟨v4, σ4, hc4, h⟩ := h
    refine sj_callVi (M' := me_X6_seekBest) (b := 36) (As := [.ref (sj_ad G 1), .ref (sj_ad G 6)]) (rest := []) dX11_improve_34 gX11_improve_X6_seekBest rfl hd_X6_seekBest (by decide +kernel) (by decide +kernel) rfl (Nat.le_of_ble_eq_true rfl) (by omega) rfl hc4 ?_
    refine sj_istore_n dX11_improve_37 (i := 1) rfl (by decide) ?_
    refine sj_iload_n dX11_improve_38 (i := 1) rfl rfl ?_
    refine sj_if_le (tgt := 60) dX11_improve_39 (by decide) (fun c6 => ?_) (fun c6 => ?_)
    · replace h := h.1 c6
      refine sj_fg [0] ?_
      exact t_X11_improve_60 h
    · replace h := h.2 c6
      refine sj_aload_n dX11_improve_42 (i := 0) rfl rfl ?_
      obtain ⟨σ7, hc7, h⟩ := h
      refine sj_callVv (M' := me_X11_beginChange) (b := 0) (As := []) (rest := []) dX11_improve_43 gX11_improve_X11_beginChange rfl hd_X11_beginChange (by decide +kernel) (by decide +kernel) rfl (Nat.le_of_ble_eq_true rfl) (by omega) rfl hc7 ?_
      refine sj_aload_n dX11_improve_46 (i := 0) rfl rfl ?_
      refine sj_get (a := 0) (k9 := 0) (v := .ref (sj_ad G 1)) dX11_improve_47 (by decide +kernel) rfl ?_
      refine sj_aload_n dX11_improve_50 (i := 0) rfl rfl ?_
      refine sj_get (a := 0) (k9 := 4) (v := .ref (sj_ad G 36)) dX11_improve_51 (by decide +kernel) rfl ?_
      refine sj_get (a := 36) (k9 := 0) (v := .ref (sj_ad G 37)) dX11_improve_54 (by decide +kernel) rfl ?_
      obtain ⟨σ8, hc8, h⟩ := h
      refine sj_callVv (M' := me_X8_putTable) (b := 1) (As := [.ref (sj_ad G 37)]) (rest := []) dX11_improve_57 gX11_improve_X8_putTable rfl hd_X8_putTable (by decide +kernel) (by decide +kernel) rfl (Nat.le_of_ble_eq_true rfl) (by omega) rfl hc8 ?_
      refine sj_fg [0] ?_
      exact t_X11_improve_60 h
  · subst h
    exact sj_callVx (M' := me_X11_requireTable) (b := 0) (As := []) (rest := []) dX11_improve_1 gX11_improve_X11_requireTable rfl hd_X11_requireTable (by decide +kernel) (by decide +kernel) rfl (Nat.le_of_ble_eq_true rfl) (by omega) hc1
theorem c_X11_improve {G : sj_G} (ok : sj_ok G) {R : sj_R} {σ : sj_S} (h : wp_X11_improve_0 G R σ) : sj_C G 10 me_X11_improve [.ref (sj_ad G 0)] σ R :=
  sj_enter ok (by decide +kernel) rfl rfl (Nat.le_of_ble_eq_true rfl) (by simp [Value.category]) (t_X11_improve_0 h)
def wp_X11_most_0 (G : sj_G) (R : sj_R) (σ : sj_S) : Prop := ∃ v1 σ1, sj_C G 4 me_X1_mostOf [.ref (sj_ad G 39), .ref (sj_ad G 1)] σ (.ok v1, σ1) ∧ R = (.ok v1, σ1)
set_option maxRecDepth 20000 in
theorem t_X11_most_0 {G : sj_G} {R : sj_R} {σ : sj_S} (h : wp_X11_most_0 G R σ) : sj_J G 5 me_X11_most R 0 [.ref (sj_ad G 0)] σ [] := by
  unfold wp_X11_most_0 at h
  refine sj_aload_n dX11_most_0 (i := 0) rfl rfl ?_
  refine sj_get (a := 0) (k9 := 5) (v := .ref (sj_ad G 39)) dX11_most_1 (by decide +kernel) rfl ?_
  refine sj_aload_n dX11_most_4 (i := 0) rfl rfl ?_
  refine sj_get (a := 0) (k9 := 0) (v := .ref (sj_ad G 1)) dX11_most_5 (by decide +kernel) rfl ?_
  obtain ⟨v1, σ1, hc1, h⟩ := h
  refine sj_callVi (M' := me_X1_mostOf) (b := 39) (As := [.ref (sj_ad G 1)]) (rest := []) dX11_most_8 gX11_most_X1_mostOf rfl hd_X1_mostOf (by decide +kernel) (by decide +kernel) rfl (Nat.le_of_ble_eq_true rfl) (by omega) rfl hc1 ?_
  subst h
  exact sj_ret dX11_most_11 rfl rfl
theorem c_X11_most {G : sj_G} (ok : sj_ok G) {R : sj_R} {σ : sj_S} (h : wp_X11_most_0 G R σ) : sj_C G 5 me_X11_most [.ref (sj_ad G 0)] σ R :=
  sj_enter ok (by decide +kernel) rfl rfl (Nat.le_of_ble_eq_true rfl) (by simp [Value.category]) (t_X11_most_0 h)
def wp_X11_colour_0 (G : sj_G) (R : sj_R) (x1 : Int32) (σ : sj_S) : Prop := ((∃ σ1, sj_C G 9 me_X11_requireLesson [.ref (sj_ad G 0), .int x1] σ (.ok 0, σ1) ∧ ∃ σ2, sj_C G 5 me_X1_paint [.ref (sj_ad G 39), .ref (sj_ad G 1)] σ1 (.ok 0, σ2) ∧ vp_in x1 9 ∧ R = (.ok (σ2 40 x1.toNatClampNeg), σ2)) ∨ (∃ k1 σ1, sj_C G 9 me_X11_requireLesson [.ref (sj_ad G 0), .int x1] σ (.error k1, σ1) ∧ R = (.error k1, σ1)))
set_option maxRecDepth 20000 in
theorem t_X11_colour_0 {G : sj_G} {R : sj_R} {x1 : Int32} {σ : sj_S} (h : wp_X11_colour_0 G R x1 σ) : sj_J G 10 me_X11_colour R 0 [.ref (sj_ad G 0), .int x1] σ [] := by
  unfold wp_X11_colour_0 at h
  refine sj_aload_n dX11_colour_0 (i := 0) rfl rfl ?_
  refine sj_iload_n dX11_colour_1 (i := 1) rfl rfl ?_
  rcases h with ⟨σ1, hc1, h⟩ | ⟨k1, σ1, hc1, h⟩
  · refine sj_callVv (M' := me_X11_requireLesson) (b := 0) (As := [.int x1]) (rest := []) dX11_colour_2 gX11_colour_X11_requireLesson rfl hd_X11_requireLesson (by decide +kernel) (by decide +kernel) rfl (Nat.le_of_ble_eq_true rfl) (by omega) rfl hc1 ?_
    refine sj_aload_n dX11_colour_5 (i := 0) rfl rfl ?_
    refine sj_get (a := 0) (k9 := 5) (v := .ref (sj_ad G 39)) dX11_colour_6 (by decide +kernel) rfl ?_
    refine sj_aload_n dX11_colour_9 (i := 0) rfl rfl ?_
    refine sj_get (a := 0) (k9 := 0) (v := .ref (sj_ad G 1)) dX11_colour_10 (by decide +kernel) rfl ?_
    obtain ⟨σ2, hc2, h⟩ := h
    refine sj_callVv (M' := me_X1_paint) (b := 39) (As := [.ref (sj_ad G 1)]) (rest := []) dX11_colour_13 gX11_colour_X1_paint rfl hd_X1_paint (by decide +kernel) (by decide +kernel) rfl (Nat.le_of_ble_eq_true rfl) (by omega) rfl hc2 ?_
    refine sj_aload_n dX11_colour_16 (i := 0) rfl rfl ?_
    refine sj_get (a := 0) (k9 := 5) (v := .ref (sj_ad G 39)) dX11_colour_17 (by decide +kernel) rfl ?_
    refine sj_get (a := 39) (k9 := 0) (v := .ref (sj_ad G 40)) dX11_colour_20 (by decide +kernel) rfl ?_
    refine sj_iload_n dX11_colour_23 (i := 1) rfl rfl ?_
    obtain ⟨b3, h⟩ := h
    refine sj_iald (a := 40) (j := x1.toNatClampNeg) (x := (σ2 40 x1.toNatClampNeg)) dX11_colour_24 rfl (by decide +kernel) b3 rfl rfl ?_
    subst h
    exact sj_ret dX11_colour_25 rfl rfl
  · subst h
    exact sj_callVx (M' := me_X11_requireLesson) (b := 0) (As := [.int x1]) (rest := []) dX11_colour_2 gX11_colour_X11_requireLesson rfl hd_X11_requireLesson (by decide +kernel) (by decide +kernel) rfl (Nat.le_of_ble_eq_true rfl) (by omega) hc1
theorem c_X11_colour {G : sj_G} (ok : sj_ok G) {R : sj_R} {x1 : Int32} {σ : sj_S} (h : wp_X11_colour_0 G R x1 σ) : sj_C G 10 me_X11_colour [.ref (sj_ad G 0), .int x1] σ R :=
  sj_enter ok (by decide +kernel) rfl rfl (Nat.le_of_ble_eq_true rfl) (by simp [Value.category]) (t_X11_colour_0 h)
def wp_X11_setIll_0 (G : sj_G) (R : sj_R) (x1 : Int32) (x2 : Int32) (x3 : Int32) (σ : sj_S) : Prop := ((∃ σ1, sj_C G 10 me_X11_requireRange [.ref (sj_ad G 0), .int x1, .int (nI 6)] σ (.ok 0, σ1) ∧ ((∃ σ2, sj_C G 10 me_X11_requireRange [.ref (sj_ad G 0), .int x2, .int (nI 5)] σ1 (.ok 0, σ2) ∧ ∃ σ3, sj_C G 3 me_X11_beginChange [.ref (sj_ad G 0)] σ2 (.ok 0, σ3) ∧ ∃ v4 σ4, sj_C G 3 me_X8_putIll [.ref (sj_ad G 1), .int x1, .int x2, .int x3] σ3 (.ok v4, σ4) ∧ R = (.ok v4, σ4) ∧ (v4 = nI 0 ∨ v4 = nI 1)) ∨ (∃ k2 σ2, sj_C G 10 me_X11_requireRange [.ref (sj_ad G 0), .int x2, .int (nI 5)] σ1 (.error k2, σ2) ∧ R = (.error k2, σ2)))) ∨ (∃ k1 σ1, sj_C G 10 me_X11_requireRange [.ref (sj_ad G 0), .int x1, .int (nI 6)] σ (.error k1, σ1) ∧ R = (.error k1, σ1)))
set_option maxRecDepth 20000 in
theorem t_X11_setIll_0 {G : sj_G} {R : sj_R} {x1 : Int32} {x2 : Int32} {x3 : Int32} {σ : sj_S} (h : wp_X11_setIll_0 G R x1 x2 x3 σ) : sj_J G 11 me_X11_setIll R 0 [.ref (sj_ad G 0), .int x1, .int x2, .int x3] σ [] := by
  unfold wp_X11_setIll_0 at h
  refine sj_aload_n dX11_setIll_0 (i := 0) rfl rfl ?_
  refine sj_iload_n dX11_setIll_1 (i := 1) rfl rfl ?_
  refine sj_bipush (v := (nI 6)) dX11_setIll_2 (by decide +kernel) ?_
  rcases h with ⟨σ1, hc1, h⟩ | ⟨k1, σ1, hc1, h⟩
  · refine sj_callVv (M' := me_X11_requireRange) (b := 0) (As := [.int x1, .int (nI 6)]) (rest := []) dX11_setIll_4 gX11_setIll_X11_requireRange rfl hd_X11_requireRange (by decide +kernel) (by decide +kernel) rfl (Nat.le_of_ble_eq_true rfl) (by omega) rfl hc1 ?_
    refine sj_aload_n dX11_setIll_7 (i := 0) rfl rfl ?_
    refine sj_iload_n dX11_setIll_8 (i := 2) rfl rfl ?_
    refine sj_iconst (v := (nI 5)) dX11_setIll_9 (by decide +kernel) ?_
    rcases h with ⟨σ2, hc2, h⟩ | ⟨k2, σ2, hc2, h⟩
    · refine sj_callVv (M' := me_X11_requireRange) (b := 0) (As := [.int x2, .int (nI 5)]) (rest := []) dX11_setIll_10 gX11_setIll_X11_requireRange rfl hd_X11_requireRange (by decide +kernel) (by decide +kernel) rfl (Nat.le_of_ble_eq_true rfl) (by omega) rfl hc2 ?_
      refine sj_aload_n dX11_setIll_13 (i := 0) rfl rfl ?_
      obtain ⟨σ3, hc3, h⟩ := h
      refine sj_callVv (M' := me_X11_beginChange) (b := 0) (As := []) (rest := []) dX11_setIll_14 gX11_setIll_X11_beginChange rfl hd_X11_beginChange (by decide +kernel) (by decide +kernel) rfl (Nat.le_of_ble_eq_true rfl) (by omega) rfl hc3 ?_
      refine sj_aload_n dX11_setIll_17 (i := 0) rfl rfl ?_
      refine sj_get (a := 0) (k9 := 0) (v := .ref (sj_ad G 1)) dX11_setIll_18 (by decide +kernel) rfl ?_
      refine sj_iload_n dX11_setIll_21 (i := 1) rfl rfl ?_
      refine sj_iload_n dX11_setIll_22 (i := 2) rfl rfl ?_
      refine sj_iload_n dX11_setIll_23 (i := 3) rfl rfl ?_
      obtain ⟨v4, σ4, hc4, h⟩ := h
      refine sj_callVi (M' := me_X8_putIll) (b := 1) (As := [.int x1, .int x2, .int x3]) (rest := []) dX11_setIll_24 gX11_setIll_X8_putIll rfl hd_X8_putIll (by decide +kernel) (by decide +kernel) rfl (Nat.le_of_ble_eq_true rfl) (by omega) rfl hc4 ?_
      obtain ⟨h, hz⟩ := h
      subst h
      exact sj_ret dX11_setIll_27 rfl (sj_nb hz)
    · subst h
      exact sj_callVx (M' := me_X11_requireRange) (b := 0) (As := [.int x2, .int (nI 5)]) (rest := []) dX11_setIll_10 gX11_setIll_X11_requireRange rfl hd_X11_requireRange (by decide +kernel) (by decide +kernel) rfl (Nat.le_of_ble_eq_true rfl) (by omega) hc2
  · subst h
    exact sj_callVx (M' := me_X11_requireRange) (b := 0) (As := [.int x1, .int (nI 6)]) (rest := []) dX11_setIll_4 gX11_setIll_X11_requireRange rfl hd_X11_requireRange (by decide +kernel) (by decide +kernel) rfl (Nat.le_of_ble_eq_true rfl) (by omega) hc1
theorem c_X11_setIll {G : sj_G} (ok : sj_ok G) {R : sj_R} {x1 : Int32} {x2 : Int32} {x3 : Int32} {σ : sj_S} (h : wp_X11_setIll_0 G R x1 x2 x3 σ) : sj_C G 11 me_X11_setIll [.ref (sj_ad G 0), .int x1, .int x2, .int x3] σ R :=
  sj_enter ok (by decide +kernel) rfl rfl (Nat.le_of_ble_eq_true rfl) (by simp [Value.category]) (t_X11_setIll_0 h)
def wp_X11_ill_62 (G : sj_G) (R : sj_R) (x1 : Int32) (x2 : Int32) (x4 : Int32) (s0 : Int32) (s1 : Int32) (σ : sj_S) : Prop := ∃ v1 σ1, sj_C G 2 me_J6_bitCount_0f7a4 [.int s0] σ (.ok v1, σ1) ∧ sj_J G 43 me_X11_ill R 17 [.ref (sj_ad G 0), .int x1, .int x2, .int (s1 + v1), .int (x4 + (nI 1))] σ1 []
set_option maxRecDepth 20000 in
theorem t_X11_ill_62 {G : sj_G} {R : sj_R} {x1 : Int32} {x2 : Int32} {x4 : Int32} {s0 : Int32} {s1 : Int32} {σ : sj_S} (h : wp_X11_ill_62 G R x1 x2 x4 s0 s1 σ) : sj_J G 43 me_X11_ill R 62 [.ref (sj_ad G 0), .int x1, .int x2, .null, .int x4] σ [.int s0, .int s1] := by
  unfold wp_X11_ill_62 at h
  obtain ⟨v1, σ1, hc1, h⟩ := h
  refine sj_callSi (M' := me_J6_bitCount_0f7a4) (As := [.int s0]) (rest := [.int s1]) dX11_ill_62 gX11_ill_J6_bitCount_0f7a4 rfl hd_J6_bitCount_0f7a4 (Nat.le_of_ble_eq_true rfl) (by omega) rfl hc1 ?_
  refine sj_iadd dX11_ill_65 ?_
  refine sj_istore_n dX11_ill_66 (i := 3) rfl (by decide) ?_
  refine sj_iinc (v := (x4 + (nI 1))) dX11_ill_67 (by decide) rfl rfl ?_
  refine sj_goto (tgt := 17) dX11_ill_70 (by decide) ?_
  exact h
def wp_X11_ill_17 (G : sj_G) (R : sj_R) (x1 : Int32) (x2 : Int32) (x3 : Int32) (x4 : Int32) (σ : sj_S) : Prop := (((x1 + (nI 1)) * (nI 4)) ≤ x4 → R = (.ok x3, σ)) ∧ (¬ (((x1 + (nI 1)) * (nI 4)) ≤ x4) → ∃ σ2, sj_C G 42 me_X2_plan [.ref (sj_ad G 41), .ref (sj_ad G 1), .int x4] σ (.ok 0, σ2) ∧ (wp_X11_ill_62 G R x1 x2 x4 (if x2 = 0 then (σ2 41 1) else (σ2 41 2)) x3 σ2))
set_option maxRecDepth 20000 in
theorem t_X11_ill_17 {G : sj_G} {R : sj_R} {x1 : Int32} {x2 : Int32} {x3 : Int32} {x4 : Int32} {σ : sj_S} (h : wp_X11_ill_17 G R x1 x2 x3 x4 σ) : sj_J G 43 me_X11_ill R 17 [.ref (sj_ad G 0), .int x1, .int x2, .int x3, .int x4] σ [] := by
  unfold wp_X11_ill_17 at h
  refine sj_iload dX11_ill_17 rfl ?_
  refine sj_iload_n dX11_ill_19 (i := 1) rfl rfl ?_
  refine sj_iconst (v := (nI 1)) dX11_ill_20 (by decide +kernel) ?_
  refine sj_iadd dX11_ill_21 ?_
  refine sj_iconst (v := (nI 4)) dX11_ill_22 (by decide +kernel) ?_
  refine sj_imul dX11_ill_23 ?_
  refine sj_icmp_ge (tgt := 73) dX11_ill_24 (by decide) (fun c1 => ?_) (fun c1 => ?_)
  · replace h := h.1 c1
    refine sj_iload_n dX11_ill_73 (i := 3) rfl rfl ?_
    subst h
    exact sj_ret dX11_ill_74 rfl rfl
  · replace h := h.2 c1
    refine sj_aload_n dX11_ill_27 (i := 0) rfl rfl ?_
    refine sj_get (a := 0) (k9 := 6) (v := .ref (sj_ad G 41)) dX11_ill_28 (by decide +kernel) rfl ?_
    refine sj_aload_n dX11_ill_31 (i := 0) rfl rfl ?_
    refine sj_get (a := 0) (k9 := 0) (v := .ref (sj_ad G 1)) dX11_ill_32 (by decide +kernel) rfl ?_
    refine sj_iload dX11_ill_35 rfl ?_
    obtain ⟨σ2, hc2, h⟩ := h
    refine sj_callVv (M' := me_X2_plan) (b := 41) (As := [.ref (sj_ad G 1), .int x4]) (rest := []) dX11_ill_37 gX11_ill_X2_plan rfl hd_X2_plan (by decide +kernel) (by decide +kernel) rfl (Nat.le_of_ble_eq_true rfl) (by omega) rfl hc2 ?_
    refine sj_iload_n dX11_ill_40 (i := 3) rfl rfl ?_
    refine sj_iload_n dX11_ill_41 (i := 2) rfl rfl ?_
    refine sj_if_eq (tgt := 55) dX11_ill_42 (by decide) (fun c3 => ?_) (fun c3 => ?_)
    · refine sj_aload_n dX11_ill_55 (i := 0) rfl rfl ?_
      refine sj_get (a := 0) (k9 := 6) (v := .ref (sj_ad G 41)) dX11_ill_56 (by decide +kernel) rfl ?_
      refine sj_get (a := 41) (k9 := 1) (v := .int (σ2 41 1)) dX11_ill_59 (by decide +kernel) rfl ?_
      try simp only [if_pos c3] at h
      refine sj_fg [3] ?_
      exact t_X11_ill_62 h
    · refine sj_aload_n dX11_ill_45 (i := 0) rfl rfl ?_
      refine sj_get (a := 0) (k9 := 6) (v := .ref (sj_ad G 41)) dX11_ill_46 (by decide +kernel) rfl ?_
      refine sj_get (a := 41) (k9 := 2) (v := .int (σ2 41 2)) dX11_ill_49 (by decide +kernel) rfl ?_
      refine sj_goto (tgt := 62) dX11_ill_52 (by decide) ?_
      try simp only [if_neg c3] at h
      refine sj_fg [3] ?_
      exact t_X11_ill_62 h
def wp_X11_ill_0 (G : sj_G) (R : sj_R) (x1 : Int32) (x2 : Int32) (σ : sj_S) : Prop := ((∃ σ1, sj_C G 10 me_X11_requireRange [.ref (sj_ad G 0), .int x1, .int (nI 5)] σ (.ok 0, σ1) ∧ ((∃ σ2, sj_C G 9 me_X11_requireTable [.ref (sj_ad G 0)] σ1 (.ok 0, σ2) ∧ sj_J G 43 me_X11_ill R 17 [.ref (sj_ad G 0), .int x1, .int x2, .int (nI 0), .int (x1 * (nI 4))] σ2 []) ∨ (∃ k2 σ2, sj_C G 9 me_X11_requireTable [.ref (sj_ad G 0)] σ1 (.error k2, σ2) ∧ R = (.error k2, σ2)))) ∨ (∃ k1 σ1, sj_C G 10 me_X11_requireRange [.ref (sj_ad G 0), .int x1, .int (nI 5)] σ (.error k1, σ1) ∧ R = (.error k1, σ1)))
set_option maxRecDepth 20000 in
theorem t_X11_ill_0 {G : sj_G} {R : sj_R} {x1 : Int32} {x2 : Int32} {σ : sj_S} (h : wp_X11_ill_0 G R x1 x2 σ) : sj_J G 43 me_X11_ill R 0 [.ref (sj_ad G 0), .int x1, .int x2, .null, .null] σ [] := by
  unfold wp_X11_ill_0 at h
  refine sj_aload_n dX11_ill_0 (i := 0) rfl rfl ?_
  refine sj_iload_n dX11_ill_1 (i := 1) rfl rfl ?_
  refine sj_iconst (v := (nI 5)) dX11_ill_2 (by decide +kernel) ?_
  rcases h with ⟨σ1, hc1, h⟩ | ⟨k1, σ1, hc1, h⟩
  · refine sj_callVv (M' := me_X11_requireRange) (b := 0) (As := [.int x1, .int (nI 5)]) (rest := []) dX11_ill_3 gX11_ill_X11_requireRange rfl hd_X11_requireRange (by decide +kernel) (by decide +kernel) rfl (Nat.le_of_ble_eq_true rfl) (by omega) rfl hc1 ?_
    refine sj_aload_n dX11_ill_6 (i := 0) rfl rfl ?_
    rcases h with ⟨σ2, hc2, h⟩ | ⟨k2, σ2, hc2, h⟩
    · refine sj_callVv (M' := me_X11_requireTable) (b := 0) (As := []) (rest := []) dX11_ill_7 gX11_ill_X11_requireTable rfl hd_X11_requireTable (by decide +kernel) (by decide +kernel) rfl (Nat.le_of_ble_eq_true rfl) (by omega) rfl hc2 ?_
      refine sj_iconst (v := (nI 0)) dX11_ill_10 (by decide +kernel) ?_
      refine sj_istore_n dX11_ill_11 (i := 3) rfl (by decide) ?_
      refine sj_iload_n dX11_ill_12 (i := 1) rfl rfl ?_
      refine sj_iconst (v := (nI 4)) dX11_ill_13 (by decide +kernel) ?_
      refine sj_imul dX11_ill_14 ?_
      refine sj_istore dX11_ill_15 (by decide) ?_
      exact h
    · subst h
      exact sj_callVx (M' := me_X11_requireTable) (b := 0) (As := []) (rest := []) dX11_ill_7 gX11_ill_X11_requireTable rfl hd_X11_requireTable (by decide +kernel) (by decide +kernel) rfl (Nat.le_of_ble_eq_true rfl) (by omega) hc2
  · subst h
    exact sj_callVx (M' := me_X11_requireRange) (b := 0) (As := [.int x1, .int (nI 5)]) (rest := []) dX11_ill_3 gX11_ill_X11_requireRange rfl hd_X11_requireRange (by decide +kernel) (by decide +kernel) rfl (Nat.le_of_ble_eq_true rfl) (by omega) hc1
theorem c_X11_ill {G : sj_G} (ok : sj_ok G) {R : sj_R} {x1 : Int32} {x2 : Int32} {σ : sj_S} (h : wp_X11_ill_0 G R x1 x2 σ) : sj_C G 43 me_X11_ill [.ref (sj_ad G 0), .int x1, .int x2] σ R :=
  sj_enter ok (by decide +kernel) rfl rfl (Nat.le_of_ble_eq_true rfl) (by simp [Value.category]) (t_X11_ill_0 h)
def wp_X11_substitute_0 (G : sj_G) (R : sj_R) (x1 : Int32) (x2 : Int32) (σ : sj_S) : Prop := ((∃ σ1, sj_C G 9 me_X11_requireLesson [.ref (sj_ad G 0), .int x1] σ (.ok 0, σ1) ∧ ((∃ σ2, sj_C G 10 me_X11_requireRange [.ref (sj_ad G 0), .int x2, .int (nI 20)] σ1 (.ok 0, σ2) ∧ ((∃ σ3, sj_C G 9 me_X11_requireTable [.ref (sj_ad G 0)] σ2 (.ok 0, σ3) ∧ ∃ σ4, sj_C G 42 me_X2_plan [.ref (sj_ad G 41), .ref (sj_ad G 1), .int x2] σ3 (.ok 0, σ4) ∧ vp_in x1 9 ∧ R = (.ok (σ4 42 x1.toNatClampNeg), σ4)) ∨ (∃ k3 σ3, sj_C G 9 me_X11_requireTable [.ref (sj_ad G 0)] σ2 (.error k3, σ3) ∧ R = (.error k3, σ3)))) ∨ (∃ k2 σ2, sj_C G 10 me_X11_requireRange [.ref (sj_ad G 0), .int x2, .int (nI 20)] σ1 (.error k2, σ2) ∧ R = (.error k2, σ2)))) ∨ (∃ k1 σ1, sj_C G 9 me_X11_requireLesson [.ref (sj_ad G 0), .int x1] σ (.error k1, σ1) ∧ R = (.error k1, σ1)))
set_option maxRecDepth 20000 in
theorem t_X11_substitute_0 {G : sj_G} {R : sj_R} {x1 : Int32} {x2 : Int32} {σ : sj_S} (h : wp_X11_substitute_0 G R x1 x2 σ) : sj_J G 43 me_X11_substitute R 0 [.ref (sj_ad G 0), .int x1, .int x2] σ [] := by
  unfold wp_X11_substitute_0 at h
  refine sj_aload_n dX11_substitute_0 (i := 0) rfl rfl ?_
  refine sj_iload_n dX11_substitute_1 (i := 1) rfl rfl ?_
  rcases h with ⟨σ1, hc1, h⟩ | ⟨k1, σ1, hc1, h⟩
  · refine sj_callVv (M' := me_X11_requireLesson) (b := 0) (As := [.int x1]) (rest := []) dX11_substitute_2 gX11_substitute_X11_requireLesson rfl hd_X11_requireLesson (by decide +kernel) (by decide +kernel) rfl (Nat.le_of_ble_eq_true rfl) (by omega) rfl hc1 ?_
    refine sj_aload_n dX11_substitute_5 (i := 0) rfl rfl ?_
    refine sj_iload_n dX11_substitute_6 (i := 2) rfl rfl ?_
    refine sj_bipush (v := (nI 20)) dX11_substitute_7 (by decide +kernel) ?_
    rcases h with ⟨σ2, hc2, h⟩ | ⟨k2, σ2, hc2, h⟩
    · refine sj_callVv (M' := me_X11_requireRange) (b := 0) (As := [.int x2, .int (nI 20)]) (rest := []) dX11_substitute_9 gX11_substitute_X11_requireRange rfl hd_X11_requireRange (by decide +kernel) (by decide +kernel) rfl (Nat.le_of_ble_eq_true rfl) (by omega) rfl hc2 ?_
      refine sj_aload_n dX11_substitute_12 (i := 0) rfl rfl ?_
      rcases h with ⟨σ3, hc3, h⟩ | ⟨k3, σ3, hc3, h⟩
      · refine sj_callVv (M' := me_X11_requireTable) (b := 0) (As := []) (rest := []) dX11_substitute_13 gX11_substitute_X11_requireTable rfl hd_X11_requireTable (by decide +kernel) (by decide +kernel) rfl (Nat.le_of_ble_eq_true rfl) (by omega) rfl hc3 ?_
        refine sj_aload_n dX11_substitute_16 (i := 0) rfl rfl ?_
        refine sj_get (a := 0) (k9 := 6) (v := .ref (sj_ad G 41)) dX11_substitute_17 (by decide +kernel) rfl ?_
        refine sj_aload_n dX11_substitute_20 (i := 0) rfl rfl ?_
        refine sj_get (a := 0) (k9 := 0) (v := .ref (sj_ad G 1)) dX11_substitute_21 (by decide +kernel) rfl ?_
        refine sj_iload_n dX11_substitute_24 (i := 2) rfl rfl ?_
        obtain ⟨σ4, hc4, h⟩ := h
        refine sj_callVv (M' := me_X2_plan) (b := 41) (As := [.ref (sj_ad G 1), .int x2]) (rest := []) dX11_substitute_25 gX11_substitute_X2_plan rfl hd_X2_plan (by decide +kernel) (by decide +kernel) rfl (Nat.le_of_ble_eq_true rfl) (by omega) rfl hc4 ?_
        refine sj_aload_n dX11_substitute_28 (i := 0) rfl rfl ?_
        refine sj_get (a := 0) (k9 := 6) (v := .ref (sj_ad G 41)) dX11_substitute_29 (by decide +kernel) rfl ?_
        refine sj_get (a := 41) (k9 := 0) (v := .ref (sj_ad G 42)) dX11_substitute_32 (by decide +kernel) rfl ?_
        refine sj_iload_n dX11_substitute_35 (i := 1) rfl rfl ?_
        obtain ⟨b5, h⟩ := h
        refine sj_iald (a := 42) (j := x1.toNatClampNeg) (x := (σ4 42 x1.toNatClampNeg)) dX11_substitute_36 rfl (by decide +kernel) b5 rfl rfl ?_
        subst h
        exact sj_ret dX11_substitute_37 rfl rfl
      · subst h
        exact sj_callVx (M' := me_X11_requireTable) (b := 0) (As := []) (rest := []) dX11_substitute_13 gX11_substitute_X11_requireTable rfl hd_X11_requireTable (by decide +kernel) (by decide +kernel) rfl (Nat.le_of_ble_eq_true rfl) (by omega) hc3
    · subst h
      exact sj_callVx (M' := me_X11_requireRange) (b := 0) (As := [.int x2, .int (nI 20)]) (rest := []) dX11_substitute_9 gX11_substitute_X11_requireRange rfl hd_X11_requireRange (by decide +kernel) (by decide +kernel) rfl (Nat.le_of_ble_eq_true rfl) (by omega) hc2
  · subst h
    exact sj_callVx (M' := me_X11_requireLesson) (b := 0) (As := [.int x1]) (rest := []) dX11_substitute_2 gX11_substitute_X11_requireLesson rfl hd_X11_requireLesson (by decide +kernel) (by decide +kernel) rfl (Nat.le_of_ble_eq_true rfl) (by omega) hc1
theorem c_X11_substitute {G : sj_G} (ok : sj_ok G) {R : sj_R} {x1 : Int32} {x2 : Int32} {σ : sj_S} (h : wp_X11_substitute_0 G R x1 x2 σ) : sj_C G 43 me_X11_substitute [.ref (sj_ad G 0), .int x1, .int x2] σ R :=
  sj_enter ok (by decide +kernel) rfl rfl (Nat.le_of_ble_eq_true rfl) (by simp [Value.category]) (t_X11_substitute_0 h)
def wp_X11_takes_15 (G : sj_G) (R : sj_R) (x1 : Int32) (x2 : Int32) (x3 : Int32) (σ : sj_S) : Prop := ((nI 20) ≤ x3 → R = (.ok x2, σ)) ∧ (¬ ((nI 20) ≤ x3) → ∃ σ2, sj_C G 42 me_X2_plan [.ref (sj_ad G 41), .ref (sj_ad G 1), .int x3] σ (.ok 0, σ2) ∧ sj_J G 43 me_X11_takes R 15 [.ref (sj_ad G 0), .int x1, .int (x2 + ((((σ2 41 3) >>> (x1 &&& 31)) &&& (nI 1)) ^^^ (nI 1))), .int (x3 + (nI 1))] σ2 [])
set_option maxRecDepth 20000 in
theorem t_X11_takes_15 {G : sj_G} {R : sj_R} {x1 : Int32} {x2 : Int32} {x3 : Int32} {σ : sj_S} (h : wp_X11_takes_15 G R x1 x2 x3 σ) : sj_J G 43 me_X11_takes R 15 [.ref (sj_ad G 0), .int x1, .int x2, .int x3] σ [] := by
  unfold wp_X11_takes_15 at h
  refine sj_iload_n dX11_takes_15 (i := 3) rfl rfl ?_
  refine sj_bipush (v := (nI 20)) dX11_takes_16 (by decide +kernel) ?_
  refine sj_icmp_ge (tgt := 55) dX11_takes_18 (by decide) (fun c1 => ?_) (fun c1 => ?_)
  · replace h := h.1 c1
    refine sj_iload_n dX11_takes_55 (i := 2) rfl rfl ?_
    subst h
    exact sj_ret dX11_takes_56 rfl rfl
  · replace h := h.2 c1
    refine sj_aload_n dX11_takes_21 (i := 0) rfl rfl ?_
    refine sj_get (a := 0) (k9 := 6) (v := .ref (sj_ad G 41)) dX11_takes_22 (by decide +kernel) rfl ?_
    refine sj_aload_n dX11_takes_25 (i := 0) rfl rfl ?_
    refine sj_get (a := 0) (k9 := 0) (v := .ref (sj_ad G 1)) dX11_takes_26 (by decide +kernel) rfl ?_
    refine sj_iload_n dX11_takes_29 (i := 3) rfl rfl ?_
    obtain ⟨σ2, hc2, h⟩ := h
    refine sj_callVv (M' := me_X2_plan) (b := 41) (As := [.ref (sj_ad G 1), .int x3]) (rest := []) dX11_takes_30 gX11_takes_X2_plan rfl hd_X2_plan (by decide +kernel) (by decide +kernel) rfl (Nat.le_of_ble_eq_true rfl) (by omega) rfl hc2 ?_
    refine sj_iload_n dX11_takes_33 (i := 2) rfl rfl ?_
    refine sj_aload_n dX11_takes_34 (i := 0) rfl rfl ?_
    refine sj_get (a := 0) (k9 := 6) (v := .ref (sj_ad G 41)) dX11_takes_35 (by decide +kernel) rfl ?_
    refine sj_get (a := 41) (k9 := 3) (v := .int (σ2 41 3)) dX11_takes_38 (by decide +kernel) rfl ?_
    refine sj_iload_n dX11_takes_41 (i := 1) rfl rfl ?_
    refine sj_ishr dX11_takes_42 ?_
    refine sj_iconst (v := (nI 1)) dX11_takes_43 (by decide +kernel) ?_
    refine sj_iand dX11_takes_44 ?_
    refine sj_iconst (v := (nI 1)) dX11_takes_45 (by decide +kernel) ?_
    refine sj_ixor dX11_takes_46 ?_
    refine sj_iadd dX11_takes_47 ?_
    refine sj_istore_n dX11_takes_48 (i := 2) rfl (by decide) ?_
    refine sj_iinc (v := (x3 + (nI 1))) dX11_takes_49 (by decide) rfl rfl ?_
    refine sj_goto (tgt := 15) dX11_takes_52 (by decide) ?_
    exact h
def wp_X11_takes_0 (G : sj_G) (R : sj_R) (x1 : Int32) (σ : sj_S) : Prop := ((∃ σ1, sj_C G 10 me_X11_requireRange [.ref (sj_ad G 0), .int x1, .int (nI 6)] σ (.ok 0, σ1) ∧ ((∃ σ2, sj_C G 9 me_X11_requireTable [.ref (sj_ad G 0)] σ1 (.ok 0, σ2) ∧ sj_J G 43 me_X11_takes R 15 [.ref (sj_ad G 0), .int x1, .int (nI 0), .int (nI 0)] σ2 []) ∨ (∃ k2 σ2, sj_C G 9 me_X11_requireTable [.ref (sj_ad G 0)] σ1 (.error k2, σ2) ∧ R = (.error k2, σ2)))) ∨ (∃ k1 σ1, sj_C G 10 me_X11_requireRange [.ref (sj_ad G 0), .int x1, .int (nI 6)] σ (.error k1, σ1) ∧ R = (.error k1, σ1)))
set_option maxRecDepth 20000 in
theorem t_X11_takes_0 {G : sj_G} {R : sj_R} {x1 : Int32} {σ : sj_S} (h : wp_X11_takes_0 G R x1 σ) : sj_J G 43 me_X11_takes R 0 [.ref (sj_ad G 0), .int x1, .null, .null] σ [] := by
  unfold wp_X11_takes_0 at h
  refine sj_aload_n dX11_takes_0 (i := 0) rfl rfl ?_
  refine sj_iload_n dX11_takes_1 (i := 1) rfl rfl ?_
  refine sj_bipush (v := (nI 6)) dX11_takes_2 (by decide +kernel) ?_
  rcases h with ⟨σ1, hc1, h⟩ | ⟨k1, σ1, hc1, h⟩
  · refine sj_callVv (M' := me_X11_requireRange) (b := 0) (As := [.int x1, .int (nI 6)]) (rest := []) dX11_takes_4 gX11_takes_X11_requireRange rfl hd_X11_requireRange (by decide +kernel) (by decide +kernel) rfl (Nat.le_of_ble_eq_true rfl) (by omega) rfl hc1 ?_
    refine sj_aload_n dX11_takes_7 (i := 0) rfl rfl ?_
    rcases h with ⟨σ2, hc2, h⟩ | ⟨k2, σ2, hc2, h⟩
    · refine sj_callVv (M' := me_X11_requireTable) (b := 0) (As := []) (rest := []) dX11_takes_8 gX11_takes_X11_requireTable rfl hd_X11_requireTable (by decide +kernel) (by decide +kernel) rfl (Nat.le_of_ble_eq_true rfl) (by omega) rfl hc2 ?_
      refine sj_iconst (v := (nI 0)) dX11_takes_11 (by decide +kernel) ?_
      refine sj_istore_n dX11_takes_12 (i := 2) rfl (by decide) ?_
      refine sj_iconst (v := (nI 0)) dX11_takes_13 (by decide +kernel) ?_
      refine sj_istore_n dX11_takes_14 (i := 3) rfl (by decide) ?_
      exact h
    · subst h
      exact sj_callVx (M' := me_X11_requireTable) (b := 0) (As := []) (rest := []) dX11_takes_8 gX11_takes_X11_requireTable rfl hd_X11_requireTable (by decide +kernel) (by decide +kernel) rfl (Nat.le_of_ble_eq_true rfl) (by omega) hc2
  · subst h
    exact sj_callVx (M' := me_X11_requireRange) (b := 0) (As := [.int x1, .int (nI 6)]) (rest := []) dX11_takes_4 gX11_takes_X11_requireRange rfl hd_X11_requireRange (by decide +kernel) (by decide +kernel) rfl (Nat.le_of_ble_eq_true rfl) (by omega) hc1
theorem c_X11_takes {G : sj_G} (ok : sj_ok G) {R : sj_R} {x1 : Int32} {σ : sj_S} (h : wp_X11_takes_0 G R x1 σ) : sj_C G 43 me_X11_takes [.ref (sj_ad G 0), .int x1] σ R :=
  sj_enter ok (by decide +kernel) rfl rfl (Nat.le_of_ble_eq_true rfl) (by simp [Value.category]) (t_X11_takes_0 h)
def wp_X11_setApart_0 (G : sj_G) (R : sj_R) (x1 : Int32) (x2 : Int32) (x3 : Int32) (σ : sj_S) : Prop := ((∃ σ1, sj_C G 10 me_X11_requireRange [.ref (sj_ad G 0), .int x1, .int (nI 8)] σ (.ok 0, σ1) ∧ ((∃ σ2, sj_C G 10 me_X11_requireRange [.ref (sj_ad G 0), .int x2, .int (nI 8)] σ1 (.ok 0, σ2) ∧ (¬ x1 = x2 → ∃ σ4, sj_C G 3 me_X11_beginChange [.ref (sj_ad G 0)] σ2 (.ok 0, σ4) ∧ ∃ v5 σ5, sj_C G 3 me_X8_putApart [.ref (sj_ad G 1), .int x1, .int x2, .int x3] σ4 (.ok v5, σ5) ∧ R = (.ok v5, σ5) ∧ (v5 = nI 0 ∨ v5 = nI 1)) ∧ (x1 = x2 → R = (.error 1, σ2))) ∨ (∃ k2 σ2, sj_C G 10 me_X11_requireRange [.ref (sj_ad G 0), .int x2, .int (nI 8)] σ1 (.error k2, σ2) ∧ R = (.error k2, σ2)))) ∨ (∃ k1 σ1, sj_C G 10 me_X11_requireRange [.ref (sj_ad G 0), .int x1, .int (nI 8)] σ (.error k1, σ1) ∧ R = (.error k1, σ1)))
set_option maxRecDepth 20000 in
theorem t_X11_setApart_0 {G : sj_G} {R : sj_R} {x1 : Int32} {x2 : Int32} {x3 : Int32} {σ : sj_S} (h : wp_X11_setApart_0 G R x1 x2 x3 σ) : sj_J G 11 me_X11_setApart R 0 [.ref (sj_ad G 0), .int x1, .int x2, .int x3] σ [] := by
  unfold wp_X11_setApart_0 at h
  refine sj_aload_n dX11_setApart_0 (i := 0) rfl rfl ?_
  refine sj_iload_n dX11_setApart_1 (i := 1) rfl rfl ?_
  refine sj_bipush (v := (nI 8)) dX11_setApart_2 (by decide +kernel) ?_
  rcases h with ⟨σ1, hc1, h⟩ | ⟨k1, σ1, hc1, h⟩
  · refine sj_callVv (M' := me_X11_requireRange) (b := 0) (As := [.int x1, .int (nI 8)]) (rest := []) dX11_setApart_4 gX11_setApart_X11_requireRange rfl hd_X11_requireRange (by decide +kernel) (by decide +kernel) rfl (Nat.le_of_ble_eq_true rfl) (by omega) rfl hc1 ?_
    refine sj_aload_n dX11_setApart_7 (i := 0) rfl rfl ?_
    refine sj_iload_n dX11_setApart_8 (i := 2) rfl rfl ?_
    refine sj_bipush (v := (nI 8)) dX11_setApart_9 (by decide +kernel) ?_
    rcases h with ⟨σ2, hc2, h⟩ | ⟨k2, σ2, hc2, h⟩
    · refine sj_callVv (M' := me_X11_requireRange) (b := 0) (As := [.int x2, .int (nI 8)]) (rest := []) dX11_setApart_11 gX11_setApart_X11_requireRange rfl hd_X11_requireRange (by decide +kernel) (by decide +kernel) rfl (Nat.le_of_ble_eq_true rfl) (by omega) rfl hc2 ?_
      refine sj_iload_n dX11_setApart_14 (i := 1) rfl rfl ?_
      refine sj_iload_n dX11_setApart_15 (i := 2) rfl rfl ?_
      refine sj_icmp_ne (tgt := 30) dX11_setApart_16 (by decide) (fun c3 => ?_) (fun c3 => ?_)
      · replace h := h.1 c3
        refine sj_aload_n dX11_setApart_30 (i := 0) rfl rfl ?_
        obtain ⟨σ4, hc4, h⟩ := h
        refine sj_callVv (M' := me_X11_beginChange) (b := 0) (As := []) (rest := []) dX11_setApart_31 gX11_setApart_X11_beginChange rfl hd_X11_beginChange (by decide +kernel) (by decide +kernel) rfl (Nat.le_of_ble_eq_true rfl) (by omega) rfl hc4 ?_
        refine sj_aload_n dX11_setApart_34 (i := 0) rfl rfl ?_
        refine sj_get (a := 0) (k9 := 0) (v := .ref (sj_ad G 1)) dX11_setApart_35 (by decide +kernel) rfl ?_
        refine sj_iload_n dX11_setApart_38 (i := 1) rfl rfl ?_
        refine sj_iload_n dX11_setApart_39 (i := 2) rfl rfl ?_
        refine sj_iload_n dX11_setApart_40 (i := 3) rfl rfl ?_
        obtain ⟨v5, σ5, hc5, h⟩ := h
        refine sj_callVi (M' := me_X8_putApart) (b := 1) (As := [.int x1, .int x2, .int x3]) (rest := []) dX11_setApart_41 gX11_setApart_X8_putApart rfl hd_X8_putApart (by decide +kernel) (by decide +kernel) rfl (Nat.le_of_ble_eq_true rfl) (by omega) rfl hc5 ?_
        obtain ⟨h, hz⟩ := h
        subst h
        exact sj_ret dX11_setApart_44 rfl (sj_nb hz)
      · replace h := h.2 c3
        subst h
        exact sj_throwSW (k9 := 1) (text := "both exams are the same") dX11_setApart_19 dX11_setApart_22 dX11_setApart_23 dX11_setApart_26 dX11_setApart_29 rfl (by decide +kernel) (by decide +kernel) (by decide +kernel) (by decide +kernel) (by decide +kernel) (by decide) (Nat.le_of_ble_eq_true rfl)
    · subst h
      exact sj_callVx (M' := me_X11_requireRange) (b := 0) (As := [.int x2, .int (nI 8)]) (rest := []) dX11_setApart_11 gX11_setApart_X11_requireRange rfl hd_X11_requireRange (by decide +kernel) (by decide +kernel) rfl (Nat.le_of_ble_eq_true rfl) (by omega) hc2
  · subst h
    exact sj_callVx (M' := me_X11_requireRange) (b := 0) (As := [.int x1, .int (nI 8)]) (rest := []) dX11_setApart_4 gX11_setApart_X11_requireRange rfl hd_X11_requireRange (by decide +kernel) (by decide +kernel) rfl (Nat.le_of_ble_eq_true rfl) (by omega) hc1
theorem c_X11_setApart {G : sj_G} (ok : sj_ok G) {R : sj_R} {x1 : Int32} {x2 : Int32} {x3 : Int32} {σ : sj_S} (h : wp_X11_setApart_0 G R x1 x2 x3 σ) : sj_C G 11 me_X11_setApart [.ref (sj_ad G 0), .int x1, .int x2, .int x3] σ R :=
  sj_enter ok (by decide +kernel) rfl rfl (Nat.le_of_ble_eq_true rfl) (by simp [Value.category]) (t_X11_setApart_0 h)
def wp_X11_daysNeeded_0 (G : sj_G) (R : sj_R) (σ : sj_S) : Prop := ∃ v1 σ1, sj_C G 41 me_X3_plan [.ref (sj_ad G 44), .ref (sj_ad G 1)] σ (.ok v1, σ1) ∧ R = (.ok v1, σ1)
set_option maxRecDepth 20000 in
theorem t_X11_daysNeeded_0 {G : sj_G} {R : sj_R} {σ : sj_S} (h : wp_X11_daysNeeded_0 G R σ) : sj_J G 42 me_X11_daysNeeded R 0 [.ref (sj_ad G 0)] σ [] := by
  unfold wp_X11_daysNeeded_0 at h
  refine sj_aload_n dX11_daysNeeded_0 (i := 0) rfl rfl ?_
  refine sj_get (a := 0) (k9 := 7) (v := .ref (sj_ad G 44)) dX11_daysNeeded_1 (by decide +kernel) rfl ?_
  refine sj_aload_n dX11_daysNeeded_4 (i := 0) rfl rfl ?_
  refine sj_get (a := 0) (k9 := 0) (v := .ref (sj_ad G 1)) dX11_daysNeeded_5 (by decide +kernel) rfl ?_
  obtain ⟨v1, σ1, hc1, h⟩ := h
  refine sj_callVi (M' := me_X3_plan) (b := 44) (As := [.ref (sj_ad G 1)]) (rest := []) dX11_daysNeeded_8 gX11_daysNeeded_X3_plan rfl hd_X3_plan (by decide +kernel) (by decide +kernel) rfl (Nat.le_of_ble_eq_true rfl) (by omega) rfl hc1 ?_
  subst h
  exact sj_ret dX11_daysNeeded_11 rfl rfl
theorem c_X11_daysNeeded {G : sj_G} (ok : sj_ok G) {R : sj_R} {σ : sj_S} (h : wp_X11_daysNeeded_0 G R σ) : sj_C G 42 me_X11_daysNeeded [.ref (sj_ad G 0)] σ R :=
  sj_enter ok (by decide +kernel) rfl rfl (Nat.le_of_ble_eq_true rfl) (by simp [Value.category]) (t_X11_daysNeeded_0 h)
def wp_X11_examDay_0 (G : sj_G) (R : sj_R) (x1 : Int32) (σ : sj_S) : Prop := ((∃ σ1, sj_C G 10 me_X11_requireRange [.ref (sj_ad G 0), .int x1, .int (nI 8)] σ (.ok 0, σ1) ∧ ∃ v2 σ2, sj_C G 41 me_X3_plan [.ref (sj_ad G 44), .ref (sj_ad G 1)] σ1 (.ok v2, σ2) ∧ vp_in x1 8 ∧ R = (.ok (σ2 45 x1.toNatClampNeg), σ2)) ∨ (∃ k1 σ1, sj_C G 10 me_X11_requireRange [.ref (sj_ad G 0), .int x1, .int (nI 8)] σ (.error k1, σ1) ∧ R = (.error k1, σ1)))
set_option maxRecDepth 20000 in
theorem t_X11_examDay_0 {G : sj_G} {R : sj_R} {x1 : Int32} {σ : sj_S} (h : wp_X11_examDay_0 G R x1 σ) : sj_J G 42 me_X11_examDay R 0 [.ref (sj_ad G 0), .int x1] σ [] := by
  unfold wp_X11_examDay_0 at h
  refine sj_aload_n dX11_examDay_0 (i := 0) rfl rfl ?_
  refine sj_iload_n dX11_examDay_1 (i := 1) rfl rfl ?_
  refine sj_bipush (v := (nI 8)) dX11_examDay_2 (by decide +kernel) ?_
  rcases h with ⟨σ1, hc1, h⟩ | ⟨k1, σ1, hc1, h⟩
  · refine sj_callVv (M' := me_X11_requireRange) (b := 0) (As := [.int x1, .int (nI 8)]) (rest := []) dX11_examDay_4 gX11_examDay_X11_requireRange rfl hd_X11_requireRange (by decide +kernel) (by decide +kernel) rfl (Nat.le_of_ble_eq_true rfl) (by omega) rfl hc1 ?_
    refine sj_aload_n dX11_examDay_7 (i := 0) rfl rfl ?_
    refine sj_get (a := 0) (k9 := 7) (v := .ref (sj_ad G 44)) dX11_examDay_8 (by decide +kernel) rfl ?_
    refine sj_aload_n dX11_examDay_11 (i := 0) rfl rfl ?_
    refine sj_get (a := 0) (k9 := 0) (v := .ref (sj_ad G 1)) dX11_examDay_12 (by decide +kernel) rfl ?_
    obtain ⟨v2, σ2, hc2, h⟩ := h
    refine sj_callVi (M' := me_X3_plan) (b := 44) (As := [.ref (sj_ad G 1)]) (rest := []) dX11_examDay_15 gX11_examDay_X3_plan rfl hd_X3_plan (by decide +kernel) (by decide +kernel) rfl (Nat.le_of_ble_eq_true rfl) (by omega) rfl hc2 ?_
    refine sj_pop dX11_examDay_18 rfl ?_
    refine sj_aload_n dX11_examDay_19 (i := 0) rfl rfl ?_
    refine sj_get (a := 0) (k9 := 7) (v := .ref (sj_ad G 44)) dX11_examDay_20 (by decide +kernel) rfl ?_
    refine sj_get (a := 44) (k9 := 0) (v := .ref (sj_ad G 45)) dX11_examDay_23 (by decide +kernel) rfl ?_
    refine sj_iload_n dX11_examDay_26 (i := 1) rfl rfl ?_
    obtain ⟨b3, h⟩ := h
    refine sj_iald (a := 45) (j := x1.toNatClampNeg) (x := (σ2 45 x1.toNatClampNeg)) dX11_examDay_27 rfl (by decide +kernel) b3 rfl rfl ?_
    subst h
    exact sj_ret dX11_examDay_28 rfl rfl
  · subst h
    exact sj_callVx (M' := me_X11_requireRange) (b := 0) (As := [.int x1, .int (nI 8)]) (rest := []) dX11_examDay_4 gX11_examDay_X11_requireRange rfl hd_X11_requireRange (by decide +kernel) (by decide +kernel) rfl (Nat.le_of_ble_eq_true rfl) (by omega) hc1
theorem c_X11_examDay {G : sj_G} (ok : sj_ok G) {R : sj_R} {x1 : Int32} {σ : sj_S} (h : wp_X11_examDay_0 G R x1 σ) : sj_C G 42 me_X11_examDay [.ref (sj_ad G 0), .int x1] σ R :=
  sj_enter ok (by decide +kernel) rfl rfl (Nat.le_of_ble_eq_true rfl) (by simp [Value.category]) (t_X11_examDay_0 h)
def wp_X11_group_0 (G : sj_G) (R : sj_R) (σ : sj_S) : Prop := ∃ v1 σ1, sj_C G 4 me_X3_greatestGroup [.ref (sj_ad G 44), .ref (sj_ad G 1)] σ (.ok v1, σ1) ∧ R = (.ok v1, σ1)
set_option maxRecDepth 20000 in
theorem t_X11_group_0 {G : sj_G} {R : sj_R} {σ : sj_S} (h : wp_X11_group_0 G R σ) : sj_J G 5 me_X11_group R 0 [.ref (sj_ad G 0)] σ [] := by
  unfold wp_X11_group_0 at h
  refine sj_aload_n dX11_group_0 (i := 0) rfl rfl ?_
  refine sj_get (a := 0) (k9 := 7) (v := .ref (sj_ad G 44)) dX11_group_1 (by decide +kernel) rfl ?_
  refine sj_aload_n dX11_group_4 (i := 0) rfl rfl ?_
  refine sj_get (a := 0) (k9 := 0) (v := .ref (sj_ad G 1)) dX11_group_5 (by decide +kernel) rfl ?_
  obtain ⟨v1, σ1, hc1, h⟩ := h
  refine sj_callVi (M' := me_X3_greatestGroup) (b := 44) (As := [.ref (sj_ad G 1)]) (rest := []) dX11_group_8 gX11_group_X3_greatestGroup rfl hd_X3_greatestGroup (by decide +kernel) (by decide +kernel) rfl (Nat.le_of_ble_eq_true rfl) (by omega) rfl hc1 ?_
  subst h
  exact sj_ret dX11_group_11 rfl rfl
theorem c_X11_group {G : sj_G} (ok : sj_ok G) {R : sj_R} {σ : sj_S} (h : wp_X11_group_0 G R σ) : sj_C G 5 me_X11_group [.ref (sj_ad G 0)] σ R :=
  sj_enter ok (by decide +kernel) rfl rfl (Nat.le_of_ble_eq_true rfl) (by simp [Value.category]) (t_X11_group_0 h)
def wp_X11_setBells_0 (G : sj_G) (R : sj_R) (x1 : Int32) (x2 : Int32) (x3 : Int32) (x4 : Int32) (σ : sj_S) : Prop := ((∃ σ1, sj_C G 10 me_X11_requireRange [.ref (sj_ad G 0), .int x1, .int (nI 5)] σ (.ok 0, σ1) ∧ ((∃ σ2, sj_C G 9 me_X11_requireBetween [.ref (sj_ad G 0), .int x2, .int (nI 420), .int (nI 600)] σ1 (.ok 0, σ2) ∧ ((∃ σ3, sj_C G 9 me_X11_requireBetween [.ref (sj_ad G 0), .int x3, .int (nI 30), .int (nI 60)] σ2 (.ok 0, σ3) ∧ ((∃ σ4, sj_C G 9 me_X11_requireBetween [.ref (sj_ad G 0), .int x4, .int (nI 0), .int (nI 30)] σ3 (.ok 0, σ4) ∧ ∃ σ5, sj_C G 2 me_X0_put [.ref (sj_ad G 46), .int x1, .int x2, .int x3, .int x4] σ4 (.ok 0, σ5) ∧ ∃ v6 σ6, sj_C G 2 me_X0_minute [.ref (sj_ad G 46), .int (((x1 + (nI 1)) * (nI 4)) - (nI 1)), .int (nI 1)] σ5 (.ok v6, σ6) ∧ R = (.ok v6, σ6)) ∨ (∃ k4 σ4, sj_C G 9 me_X11_requireBetween [.ref (sj_ad G 0), .int x4, .int (nI 0), .int (nI 30)] σ3 (.error k4, σ4) ∧ R = (.error k4, σ4)))) ∨ (∃ k3 σ3, sj_C G 9 me_X11_requireBetween [.ref (sj_ad G 0), .int x3, .int (nI 30), .int (nI 60)] σ2 (.error k3, σ3) ∧ R = (.error k3, σ3)))) ∨ (∃ k2 σ2, sj_C G 9 me_X11_requireBetween [.ref (sj_ad G 0), .int x2, .int (nI 420), .int (nI 600)] σ1 (.error k2, σ2) ∧ R = (.error k2, σ2)))) ∨ (∃ k1 σ1, sj_C G 10 me_X11_requireRange [.ref (sj_ad G 0), .int x1, .int (nI 5)] σ (.error k1, σ1) ∧ R = (.error k1, σ1)))
set_option maxRecDepth 20000 in
theorem t_X11_setBells_0 {G : sj_G} {R : sj_R} {x1 : Int32} {x2 : Int32} {x3 : Int32} {x4 : Int32} {σ : sj_S} (h : wp_X11_setBells_0 G R x1 x2 x3 x4 σ) : sj_J G 11 me_X11_setBells R 0 [.ref (sj_ad G 0), .int x1, .int x2, .int x3, .int x4] σ [] := by
  unfold wp_X11_setBells_0 at h
  refine sj_aload_n dX11_setBells_0 (i := 0) rfl rfl ?_
  refine sj_iload_n dX11_setBells_1 (i := 1) rfl rfl ?_
  refine sj_iconst (v := (nI 5)) dX11_setBells_2 (by decide +kernel) ?_
  rcases h with ⟨σ1, hc1, h⟩ | ⟨k1, σ1, hc1, h⟩
  · refine sj_callVv (M' := me_X11_requireRange) (b := 0) (As := [.int x1, .int (nI 5)]) (rest := []) dX11_setBells_3 gX11_setBells_X11_requireRange rfl hd_X11_requireRange (by decide +kernel) (by decide +kernel) rfl (Nat.le_of_ble_eq_true rfl) (by omega) rfl hc1 ?_
    refine sj_aload_n dX11_setBells_6 (i := 0) rfl rfl ?_
    refine sj_iload_n dX11_setBells_7 (i := 2) rfl rfl ?_
    refine sj_sipush (v := (nI 420)) dX11_setBells_8 (by decide +kernel) ?_
    refine sj_sipush (v := (nI 600)) dX11_setBells_11 (by decide +kernel) ?_
    rcases h with ⟨σ2, hc2, h⟩ | ⟨k2, σ2, hc2, h⟩
    · refine sj_callVv (M' := me_X11_requireBetween) (b := 0) (As := [.int x2, .int (nI 420), .int (nI 600)]) (rest := []) dX11_setBells_14 gX11_setBells_X11_requireBetween rfl hd_X11_requireBetween (by decide +kernel) (by decide +kernel) rfl (Nat.le_of_ble_eq_true rfl) (by omega) rfl hc2 ?_
      refine sj_aload_n dX11_setBells_17 (i := 0) rfl rfl ?_
      refine sj_iload_n dX11_setBells_18 (i := 3) rfl rfl ?_
      refine sj_bipush (v := (nI 30)) dX11_setBells_19 (by decide +kernel) ?_
      refine sj_bipush (v := (nI 60)) dX11_setBells_21 (by decide +kernel) ?_
      rcases h with ⟨σ3, hc3, h⟩ | ⟨k3, σ3, hc3, h⟩
      · refine sj_callVv (M' := me_X11_requireBetween) (b := 0) (As := [.int x3, .int (nI 30), .int (nI 60)]) (rest := []) dX11_setBells_23 gX11_setBells_X11_requireBetween rfl hd_X11_requireBetween (by decide +kernel) (by decide +kernel) rfl (Nat.le_of_ble_eq_true rfl) (by omega) rfl hc3 ?_
        refine sj_aload_n dX11_setBells_26 (i := 0) rfl rfl ?_
        refine sj_iload dX11_setBells_27 rfl ?_
        refine sj_iconst (v := (nI 0)) dX11_setBells_29 (by decide +kernel) ?_
        refine sj_bipush (v := (nI 30)) dX11_setBells_30 (by decide +kernel) ?_
        rcases h with ⟨σ4, hc4, h⟩ | ⟨k4, σ4, hc4, h⟩
        · refine sj_callVv (M' := me_X11_requireBetween) (b := 0) (As := [.int x4, .int (nI 0), .int (nI 30)]) (rest := []) dX11_setBells_32 gX11_setBells_X11_requireBetween rfl hd_X11_requireBetween (by decide +kernel) (by decide +kernel) rfl (Nat.le_of_ble_eq_true rfl) (by omega) rfl hc4 ?_
          refine sj_aload_n dX11_setBells_35 (i := 0) rfl rfl ?_
          refine sj_get (a := 0) (k9 := 8) (v := .ref (sj_ad G 46)) dX11_setBells_36 (by decide +kernel) rfl ?_
          refine sj_iload_n dX11_setBells_39 (i := 1) rfl rfl ?_
          refine sj_iload_n dX11_setBells_40 (i := 2) rfl rfl ?_
          refine sj_iload_n dX11_setBells_41 (i := 3) rfl rfl ?_
          refine sj_iload dX11_setBells_42 rfl ?_
          obtain ⟨σ5, hc5, h⟩ := h
          refine sj_callVv (M' := me_X0_put) (b := 46) (As := [.int x1, .int x2, .int x3, .int x4]) (rest := []) dX11_setBells_44 gX11_setBells_X0_put rfl hd_X0_put (by decide +kernel) (by decide +kernel) rfl (Nat.le_of_ble_eq_true rfl) (by omega) rfl hc5 ?_
          refine sj_aload_n dX11_setBells_47 (i := 0) rfl rfl ?_
          refine sj_get (a := 0) (k9 := 8) (v := .ref (sj_ad G 46)) dX11_setBells_48 (by decide +kernel) rfl ?_
          refine sj_iload_n dX11_setBells_51 (i := 1) rfl rfl ?_
          refine sj_iconst (v := (nI 1)) dX11_setBells_52 (by decide +kernel) ?_
          refine sj_iadd dX11_setBells_53 ?_
          refine sj_iconst (v := (nI 4)) dX11_setBells_54 (by decide +kernel) ?_
          refine sj_imul dX11_setBells_55 ?_
          refine sj_iconst (v := (nI 1)) dX11_setBells_56 (by decide +kernel) ?_
          refine sj_isub dX11_setBells_57 ?_
          refine sj_iconst (v := (nI 1)) dX11_setBells_58 (by decide +kernel) ?_
          obtain ⟨v6, σ6, hc6, h⟩ := h
          refine sj_callVi (M' := me_X0_minute) (b := 46) (As := [.int (((x1 + (nI 1)) * (nI 4)) - (nI 1)), .int (nI 1)]) (rest := []) dX11_setBells_59 gX11_setBells_X0_minute rfl hd_X0_minute (by decide +kernel) (by decide +kernel) rfl (Nat.le_of_ble_eq_true rfl) (by omega) rfl hc6 ?_
          subst h
          exact sj_ret dX11_setBells_62 rfl rfl
        · subst h
          exact sj_callVx (M' := me_X11_requireBetween) (b := 0) (As := [.int x4, .int (nI 0), .int (nI 30)]) (rest := []) dX11_setBells_32 gX11_setBells_X11_requireBetween rfl hd_X11_requireBetween (by decide +kernel) (by decide +kernel) rfl (Nat.le_of_ble_eq_true rfl) (by omega) hc4
      · subst h
        exact sj_callVx (M' := me_X11_requireBetween) (b := 0) (As := [.int x3, .int (nI 30), .int (nI 60)]) (rest := []) dX11_setBells_23 gX11_setBells_X11_requireBetween rfl hd_X11_requireBetween (by decide +kernel) (by decide +kernel) rfl (Nat.le_of_ble_eq_true rfl) (by omega) hc3
    · subst h
      exact sj_callVx (M' := me_X11_requireBetween) (b := 0) (As := [.int x2, .int (nI 420), .int (nI 600)]) (rest := []) dX11_setBells_14 gX11_setBells_X11_requireBetween rfl hd_X11_requireBetween (by decide +kernel) (by decide +kernel) rfl (Nat.le_of_ble_eq_true rfl) (by omega) hc2
  · subst h
    exact sj_callVx (M' := me_X11_requireRange) (b := 0) (As := [.int x1, .int (nI 5)]) (rest := []) dX11_setBells_3 gX11_setBells_X11_requireRange rfl hd_X11_requireRange (by decide +kernel) (by decide +kernel) rfl (Nat.le_of_ble_eq_true rfl) (by omega) hc1
theorem c_X11_setBells {G : sj_G} (ok : sj_ok G) {R : sj_R} {x1 : Int32} {x2 : Int32} {x3 : Int32} {x4 : Int32} {σ : sj_S} (h : wp_X11_setBells_0 G R x1 x2 x3 x4 σ) : sj_C G 11 me_X11_setBells [.ref (sj_ad G 0), .int x1, .int x2, .int x3, .int x4] σ R :=
  sj_enter ok (by decide +kernel) rfl rfl (Nat.le_of_ble_eq_true rfl) (by simp [Value.category]) (t_X11_setBells_0 h)
def wp_X11_bell_0 (G : sj_G) (R : sj_R) (x1 : Int32) (x2 : Int32) (σ : sj_S) : Prop := ((∃ σ1, sj_C G 10 me_X11_requireRange [.ref (sj_ad G 0), .int x1, .int (nI 20)] σ (.ok 0, σ1) ∧ ∃ v2 σ2, sj_C G 2 me_X0_minute [.ref (sj_ad G 46), .int x1, .int x2] σ1 (.ok v2, σ2) ∧ R = (.ok v2, σ2)) ∨ (∃ k1 σ1, sj_C G 10 me_X11_requireRange [.ref (sj_ad G 0), .int x1, .int (nI 20)] σ (.error k1, σ1) ∧ R = (.error k1, σ1)))
set_option maxRecDepth 20000 in
theorem t_X11_bell_0 {G : sj_G} {R : sj_R} {x1 : Int32} {x2 : Int32} {σ : sj_S} (h : wp_X11_bell_0 G R x1 x2 σ) : sj_J G 11 me_X11_bell R 0 [.ref (sj_ad G 0), .int x1, .int x2] σ [] := by
  unfold wp_X11_bell_0 at h
  refine sj_aload_n dX11_bell_0 (i := 0) rfl rfl ?_
  refine sj_iload_n dX11_bell_1 (i := 1) rfl rfl ?_
  refine sj_bipush (v := (nI 20)) dX11_bell_2 (by decide +kernel) ?_
  rcases h with ⟨σ1, hc1, h⟩ | ⟨k1, σ1, hc1, h⟩
  · refine sj_callVv (M' := me_X11_requireRange) (b := 0) (As := [.int x1, .int (nI 20)]) (rest := []) dX11_bell_4 gX11_bell_X11_requireRange rfl hd_X11_requireRange (by decide +kernel) (by decide +kernel) rfl (Nat.le_of_ble_eq_true rfl) (by omega) rfl hc1 ?_
    refine sj_aload_n dX11_bell_7 (i := 0) rfl rfl ?_
    refine sj_get (a := 0) (k9 := 8) (v := .ref (sj_ad G 46)) dX11_bell_8 (by decide +kernel) rfl ?_
    refine sj_iload_n dX11_bell_11 (i := 1) rfl rfl ?_
    refine sj_iload_n dX11_bell_12 (i := 2) rfl rfl ?_
    obtain ⟨v2, σ2, hc2, h⟩ := h
    refine sj_callVi (M' := me_X0_minute) (b := 46) (As := [.int x1, .int x2]) (rest := []) dX11_bell_13 gX11_bell_X0_minute rfl hd_X0_minute (by decide +kernel) (by decide +kernel) rfl (Nat.le_of_ble_eq_true rfl) (by omega) rfl hc2 ?_
    subst h
    exact sj_ret dX11_bell_16 rfl rfl
  · subst h
    exact sj_callVx (M' := me_X11_requireRange) (b := 0) (As := [.int x1, .int (nI 20)]) (rest := []) dX11_bell_4 gX11_bell_X11_requireRange rfl hd_X11_requireRange (by decide +kernel) (by decide +kernel) rfl (Nat.le_of_ble_eq_true rfl) (by omega) hc1
theorem c_X11_bell {G : sj_G} (ok : sj_ok G) {R : sj_R} {x1 : Int32} {x2 : Int32} {σ : sj_S} (h : wp_X11_bell_0 G R x1 x2 σ) : sj_C G 11 me_X11_bell [.ref (sj_ad G 0), .int x1, .int x2] σ R :=
  sj_enter ok (by decide +kernel) rfl rfl (Nat.le_of_ble_eq_true rfl) (by simp [Value.category]) (t_X11_bell_0 h)
def wp_X11_slotAt_55 (G : sj_G) (R : sj_R) (x1 : Int32) (x2 : Int32) (x3 : Int32) (σ : sj_S) : Prop := sj_J G 11 me_X11_slotAt R 18 [.ref (sj_ad G 0), .int x1, .int x2, .int (x3 + (nI 1))] σ []
set_option maxRecDepth 20000 in
theorem t_X11_slotAt_55 {G : sj_G} {R : sj_R} {x1 : Int32} {x2 : Int32} {x3 : Int32} {σ : sj_S} (h : wp_X11_slotAt_55 G R x1 x2 x3 σ) : sj_J G 11 me_X11_slotAt R 55 [.ref (sj_ad G 0), .int x1, .int x2, .int x3] σ [] := by
  unfold wp_X11_slotAt_55 at h
  refine sj_iinc (v := (x3 + (nI 1))) dX11_slotAt_55 (by decide) rfl rfl ?_
  refine sj_goto (tgt := 18) dX11_slotAt_58 (by decide) ?_
  exact h
def wp_X11_slotAt_18 (G : sj_G) (R : sj_R) (x1 : Int32) (x2 : Int32) (x3 : Int32) (σ : sj_S) : Prop := (((x1 + (nI 1)) * (nI 4)) ≤ x3 → R = (.ok (-1), σ)) ∧ (¬ (((x1 + (nI 1)) * (nI 4)) ≤ x3) → ∃ v2 σ2, sj_C G 2 me_X0_minute [.ref (sj_ad G 46), .int x3, .int (nI 0)] σ (.ok v2, σ2) ∧ (x2 < v2 → (wp_X11_slotAt_55 G R x1 x2 x3 σ2)) ∧ (¬ (x2 < v2) → ∃ v4 σ4, sj_C G 2 me_X0_minute [.ref (sj_ad G 46), .int x3, .int (nI 1)] σ2 (.ok v4, σ4) ∧ (v4 ≤ x2 → (wp_X11_slotAt_55 G R x1 x2 x3 σ4)) ∧ (¬ (v4 ≤ x2) → R = (.ok x3, σ4))))
set_option maxRecDepth 20000 in
theorem t_X11_slotAt_18 {G : sj_G} {R : sj_R} {x1 : Int32} {x2 : Int32} {x3 : Int32} {σ : sj_S} (h : wp_X11_slotAt_18 G R x1 x2 x3 σ) : sj_J G 11 me_X11_slotAt R 18 [.ref (sj_ad G 0), .int x1, .int x2, .int x3] σ [] := by
  unfold wp_X11_slotAt_18 at h
  refine sj_iload_n dX11_slotAt_18 (i := 3) rfl rfl ?_
  refine sj_iload_n dX11_slotAt_19 (i := 1) rfl rfl ?_
  refine sj_iconst (v := (nI 1)) dX11_slotAt_20 (by decide +kernel) ?_
  refine sj_iadd dX11_slotAt_21 ?_
  refine sj_iconst (v := (nI 4)) dX11_slotAt_22 (by decide +kernel) ?_
  refine sj_imul dX11_slotAt_23 ?_
  refine sj_icmp_ge (tgt := 61) dX11_slotAt_24 (by decide) (fun c1 => ?_) (fun c1 => ?_)
  · replace h := h.1 c1
    refine sj_iconst (v := (-1)) dX11_slotAt_61 (by decide +kernel) ?_
    subst h
    exact sj_ret dX11_slotAt_62 rfl rfl
  · replace h := h.2 c1
    refine sj_aload_n dX11_slotAt_27 (i := 0) rfl rfl ?_
    refine sj_get (a := 0) (k9 := 8) (v := .ref (sj_ad G 46)) dX11_slotAt_28 (by decide +kernel) rfl ?_
    refine sj_iload_n dX11_slotAt_31 (i := 3) rfl rfl ?_
    refine sj_iconst (v := (nI 0)) dX11_slotAt_32 (by decide +kernel) ?_
    obtain ⟨v2, σ2, hc2, h⟩ := h
    refine sj_callVi (M' := me_X0_minute) (b := 46) (As := [.int x3, .int (nI 0)]) (rest := []) dX11_slotAt_33 gX11_slotAt_X0_minute rfl hd_X0_minute (by decide +kernel) (by decide +kernel) rfl (Nat.le_of_ble_eq_true rfl) (by omega) rfl hc2 ?_
    refine sj_iload_n dX11_slotAt_36 (i := 2) rfl rfl ?_
    refine sj_icmp_gt (tgt := 55) dX11_slotAt_37 (by decide) (fun c3 => ?_) (fun c3 => ?_)
    · replace h := h.1 c3
      exact t_X11_slotAt_55 h
    · replace h := h.2 c3
      refine sj_iload_n dX11_slotAt_40 (i := 2) rfl rfl ?_
      refine sj_aload_n dX11_slotAt_41 (i := 0) rfl rfl ?_
      refine sj_get (a := 0) (k9 := 8) (v := .ref (sj_ad G 46)) dX11_slotAt_42 (by decide +kernel) rfl ?_
      refine sj_iload_n dX11_slotAt_45 (i := 3) rfl rfl ?_
      refine sj_iconst (v := (nI 1)) dX11_slotAt_46 (by decide +kernel) ?_
      obtain ⟨v4, σ4, hc4, h⟩ := h
      refine sj_callVi (M' := me_X0_minute) (b := 46) (As := [.int x3, .int (nI 1)]) (rest := [.int x2]) dX11_slotAt_47 gX11_slotAt_X0_minute rfl hd_X0_minute (by decide +kernel) (by decide +kernel) rfl (Nat.le_of_ble_eq_true rfl) (by omega) rfl hc4 ?_
      refine sj_icmp_ge (tgt := 55) dX11_slotAt_50 (by decide) (fun c5 => ?_) (fun c5 => ?_)
      · replace h := h.1 c5
        exact t_X11_slotAt_55 h
      · replace h := h.2 c5
        refine sj_iload_n dX11_slotAt_53 (i := 3) rfl rfl ?_
        subst h
        exact sj_ret dX11_slotAt_54 rfl rfl
def wp_X11_slotAt_0 (G : sj_G) (R : sj_R) (x1 : Int32) (x2 : Int32) (σ : sj_S) : Prop := ((∃ σ1, sj_C G 10 me_X11_requireRange [.ref (sj_ad G 0), .int x1, .int (nI 5)] σ (.ok 0, σ1) ∧ ((∃ σ2, sj_C G 10 me_X11_requireRange [.ref (sj_ad G 0), .int x2, .int (nI 1440)] σ1 (.ok 0, σ2) ∧ sj_J G 11 me_X11_slotAt R 18 [.ref (sj_ad G 0), .int x1, .int x2, .int (x1 * (nI 4))] σ2 []) ∨ (∃ k2 σ2, sj_C G 10 me_X11_requireRange [.ref (sj_ad G 0), .int x2, .int (nI 1440)] σ1 (.error k2, σ2) ∧ R = (.error k2, σ2)))) ∨ (∃ k1 σ1, sj_C G 10 me_X11_requireRange [.ref (sj_ad G 0), .int x1, .int (nI 5)] σ (.error k1, σ1) ∧ R = (.error k1, σ1)))
set_option maxRecDepth 20000 in
theorem t_X11_slotAt_0 {G : sj_G} {R : sj_R} {x1 : Int32} {x2 : Int32} {σ : sj_S} (h : wp_X11_slotAt_0 G R x1 x2 σ) : sj_J G 11 me_X11_slotAt R 0 [.ref (sj_ad G 0), .int x1, .int x2, .null] σ [] := by
  unfold wp_X11_slotAt_0 at h
  refine sj_aload_n dX11_slotAt_0 (i := 0) rfl rfl ?_
  refine sj_iload_n dX11_slotAt_1 (i := 1) rfl rfl ?_
  refine sj_iconst (v := (nI 5)) dX11_slotAt_2 (by decide +kernel) ?_
  rcases h with ⟨σ1, hc1, h⟩ | ⟨k1, σ1, hc1, h⟩
  · refine sj_callVv (M' := me_X11_requireRange) (b := 0) (As := [.int x1, .int (nI 5)]) (rest := []) dX11_slotAt_3 gX11_slotAt_X11_requireRange rfl hd_X11_requireRange (by decide +kernel) (by decide +kernel) rfl (Nat.le_of_ble_eq_true rfl) (by omega) rfl hc1 ?_
    refine sj_aload_n dX11_slotAt_6 (i := 0) rfl rfl ?_
    refine sj_iload_n dX11_slotAt_7 (i := 2) rfl rfl ?_
    refine sj_sipush (v := (nI 1440)) dX11_slotAt_8 (by decide +kernel) ?_
    rcases h with ⟨σ2, hc2, h⟩ | ⟨k2, σ2, hc2, h⟩
    · refine sj_callVv (M' := me_X11_requireRange) (b := 0) (As := [.int x2, .int (nI 1440)]) (rest := []) dX11_slotAt_11 gX11_slotAt_X11_requireRange rfl hd_X11_requireRange (by decide +kernel) (by decide +kernel) rfl (Nat.le_of_ble_eq_true rfl) (by omega) rfl hc2 ?_
      refine sj_iload_n dX11_slotAt_14 (i := 1) rfl rfl ?_
      refine sj_iconst (v := (nI 4)) dX11_slotAt_15 (by decide +kernel) ?_
      refine sj_imul dX11_slotAt_16 ?_
      refine sj_istore_n dX11_slotAt_17 (i := 3) rfl (by decide) ?_
      exact h
    · subst h
      exact sj_callVx (M' := me_X11_requireRange) (b := 0) (As := [.int x2, .int (nI 1440)]) (rest := []) dX11_slotAt_11 gX11_slotAt_X11_requireRange rfl hd_X11_requireRange (by decide +kernel) (by decide +kernel) rfl (Nat.le_of_ble_eq_true rfl) (by omega) hc2
  · subst h
    exact sj_callVx (M' := me_X11_requireRange) (b := 0) (As := [.int x1, .int (nI 5)]) (rest := []) dX11_slotAt_3 gX11_slotAt_X11_requireRange rfl hd_X11_requireRange (by decide +kernel) (by decide +kernel) rfl (Nat.le_of_ble_eq_true rfl) (by omega) hc1
theorem c_X11_slotAt {G : sj_G} (ok : sj_ok G) {R : sj_R} {x1 : Int32} {x2 : Int32} {σ : sj_S} (h : wp_X11_slotAt_0 G R x1 x2 σ) : sj_C G 11 me_X11_slotAt [.ref (sj_ad G 0), .int x1, .int x2] σ R :=
  sj_enter ok (by decide +kernel) rfl rfl (Nat.le_of_ble_eq_true rfl) (by simp [Value.category]) (t_X11_slotAt_0 h)
def wp_X11_setYear_0 (G : sj_G) (R : sj_R) (x1 : Int32) (σ : sj_S) : Prop := ((∃ v1 σ1, sj_C G 9 me_X11_requireDate [.ref (sj_ad G 0), .int x1] σ (.ok v1, σ1) ∧ ∃ v2 σ2, sj_C G 3 me_X10_weekday [.ref (sj_ad G 50), .int v1] σ1 (.ok v2, σ2) ∧ (v2 = 0 → ∃ v4 σ4, sj_C G 3 me_X10_beginAt [.ref (sj_ad G 50), .int v1] σ2 (.ok v4, σ4) ∧ R = (.ok v4, σ4)) ∧ (¬ (v2 = 0) → R = (.error 1, σ2))) ∨ (∃ k1 σ1, sj_C G 9 me_X11_requireDate [.ref (sj_ad G 0), .int x1] σ (.error k1, σ1) ∧ R = (.error k1, σ1)))
set_option maxRecDepth 20000 in
theorem t_X11_setYear_0 {G : sj_G} {R : sj_R} {x1 : Int32} {σ : sj_S} (h : wp_X11_setYear_0 G R x1 σ) : sj_J G 10 me_X11_setYear R 0 [.ref (sj_ad G 0), .int x1, .null] σ [] := by
  unfold wp_X11_setYear_0 at h
  refine sj_aload_n dX11_setYear_0 (i := 0) rfl rfl ?_
  refine sj_iload_n dX11_setYear_1 (i := 1) rfl rfl ?_
  rcases h with ⟨v1, σ1, hc1, h⟩ | ⟨k1, σ1, hc1, h⟩
  · refine sj_callVi (M' := me_X11_requireDate) (b := 0) (As := [.int x1]) (rest := []) dX11_setYear_2 gX11_setYear_X11_requireDate rfl hd_X11_requireDate (by decide +kernel) (by decide +kernel) rfl (Nat.le_of_ble_eq_true rfl) (by omega) rfl hc1 ?_
    refine sj_istore_n dX11_setYear_5 (i := 2) rfl (by decide) ?_
    refine sj_aload_n dX11_setYear_6 (i := 0) rfl rfl ?_
    refine sj_get (a := 0) (k9 := 9) (v := .ref (sj_ad G 50)) dX11_setYear_7 (by decide +kernel) rfl ?_
    refine sj_iload_n dX11_setYear_10 (i := 2) rfl rfl ?_
    obtain ⟨v2, σ2, hc2, h⟩ := h
    refine sj_callVi (M' := me_X10_weekday) (b := 50) (As := [.int v1]) (rest := []) dX11_setYear_11 gX11_setYear_X10_weekday rfl hd_X10_weekday (by decide +kernel) (by decide +kernel) rfl (Nat.le_of_ble_eq_true rfl) (by omega) rfl hc2 ?_
    refine sj_if_eq (tgt := 28) dX11_setYear_14 (by decide) (fun c3 => ?_) (fun c3 => ?_)
    · replace h := h.1 c3
      refine sj_aload_n dX11_setYear_28 (i := 0) rfl rfl ?_
      refine sj_get (a := 0) (k9 := 9) (v := .ref (sj_ad G 50)) dX11_setYear_29 (by decide +kernel) rfl ?_
      refine sj_iload_n dX11_setYear_32 (i := 2) rfl rfl ?_
      obtain ⟨v4, σ4, hc4, h⟩ := h
      refine sj_callVi (M' := me_X10_beginAt) (b := 50) (As := [.int v1]) (rest := []) dX11_setYear_33 gX11_setYear_X10_beginAt rfl hd_X10_beginAt (by decide +kernel) (by decide +kernel) rfl (Nat.le_of_ble_eq_true rfl) (by omega) rfl hc4 ?_
      subst h
      exact sj_ret dX11_setYear_36 rfl rfl
    · replace h := h.2 c3
      subst h
      exact sj_throwSW (k9 := 1) (text := "the date is no Monday") dX11_setYear_17 dX11_setYear_20 dX11_setYear_21 dX11_setYear_24 dX11_setYear_27 rfl (by decide +kernel) (by decide +kernel) (by decide +kernel) (by decide +kernel) (by decide +kernel) (by decide) (Nat.le_of_ble_eq_true rfl)
  · subst h
    exact sj_callVx (M' := me_X11_requireDate) (b := 0) (As := [.int x1]) (rest := []) dX11_setYear_2 gX11_setYear_X11_requireDate rfl hd_X11_requireDate (by decide +kernel) (by decide +kernel) rfl (Nat.le_of_ble_eq_true rfl) (by omega) hc1
theorem c_X11_setYear {G : sj_G} (ok : sj_ok G) {R : sj_R} {x1 : Int32} {σ : sj_S} (h : wp_X11_setYear_0 G R x1 σ) : sj_C G 10 me_X11_setYear [.ref (sj_ad G 0), .int x1] σ R :=
  sj_enter ok (by decide +kernel) rfl rfl (Nat.le_of_ble_eq_true rfl) (by simp [Value.category]) (t_X11_setYear_0 h)
def wp_X11_holiday_0 (G : sj_G) (R : sj_R) (x1 : Int32) (x2 : Int32) (σ : sj_S) : Prop := ((∃ v1 σ1, sj_C G 9 me_X11_requireDate [.ref (sj_ad G 0), .int x1] σ (.ok v1, σ1) ∧ ((∃ v2 σ2, sj_C G 9 me_X11_requireDate [.ref (sj_ad G 0), .int x2] σ1 (.ok v2, σ2) ∧ (v1 ≤ v2 → ((σ2 50 2) < (nI 10) → ∃ v5 σ5, sj_C G 2 me_X10_addHoliday [.ref (sj_ad G 50), .int v1, .int v2] σ2 (.ok v5, σ5) ∧ R = (.ok v5, σ5)) ∧ (¬ ((σ2 50 2) < (nI 10)) → R = (.error 2, σ2))) ∧ (¬ (v1 ≤ v2) → R = (.error 1, σ2))) ∨ (∃ k2 σ2, sj_C G 9 me_X11_requireDate [.ref (sj_ad G 0), .int x2] σ1 (.error k2, σ2) ∧ R = (.error k2, σ2)))) ∨ (∃ k1 σ1, sj_C G 9 me_X11_requireDate [.ref (sj_ad G 0), .int x1] σ (.error k1, σ1) ∧ R = (.error k1, σ1)))
set_option maxRecDepth 20000 in
theorem t_X11_holiday_0 {G : sj_G} {R : sj_R} {x1 : Int32} {x2 : Int32} {σ : sj_S} (h : wp_X11_holiday_0 G R x1 x2 σ) : sj_J G 10 me_X11_holiday R 0 [.ref (sj_ad G 0), .int x1, .int x2, .null, .null] σ [] := by
  unfold wp_X11_holiday_0 at h
  refine sj_aload_n dX11_holiday_0 (i := 0) rfl rfl ?_
  refine sj_iload_n dX11_holiday_1 (i := 1) rfl rfl ?_
  rcases h with ⟨v1, σ1, hc1, h⟩ | ⟨k1, σ1, hc1, h⟩
  · refine sj_callVi (M' := me_X11_requireDate) (b := 0) (As := [.int x1]) (rest := []) dX11_holiday_2 gX11_holiday_X11_requireDate rfl hd_X11_requireDate (by decide +kernel) (by decide +kernel) rfl (Nat.le_of_ble_eq_true rfl) (by omega) rfl hc1 ?_
    refine sj_istore_n dX11_holiday_5 (i := 3) rfl (by decide) ?_
    refine sj_aload_n dX11_holiday_6 (i := 0) rfl rfl ?_
    refine sj_iload_n dX11_holiday_7 (i := 2) rfl rfl ?_
    rcases h with ⟨v2, σ2, hc2, h⟩ | ⟨k2, σ2, hc2, h⟩
    · refine sj_callVi (M' := me_X11_requireDate) (b := 0) (As := [.int x2]) (rest := []) dX11_holiday_8 gX11_holiday_X11_requireDate rfl hd_X11_requireDate (by decide +kernel) (by decide +kernel) rfl (Nat.le_of_ble_eq_true rfl) (by omega) rfl hc2 ?_
      refine sj_istore dX11_holiday_11 (by decide) ?_
      refine sj_iload dX11_holiday_13 rfl ?_
      refine sj_iload_n dX11_holiday_15 (i := 3) rfl rfl ?_
      refine sj_icmp_ge (tgt := 30) dX11_holiday_16 (by decide) (fun c3 => ?_) (fun c3 => ?_)
      · replace h := h.1 c3
        refine sj_aload_n dX11_holiday_30 (i := 0) rfl rfl ?_
        refine sj_get (a := 0) (k9 := 9) (v := .ref (sj_ad G 50)) dX11_holiday_31 (by decide +kernel) rfl ?_
        refine sj_get (a := 50) (k9 := 2) (v := .int (σ2 50 2)) dX11_holiday_34 (by decide +kernel) rfl ?_
        refine sj_bipush (v := (nI 10)) dX11_holiday_37 (by decide +kernel) ?_
        refine sj_icmp_lt (tgt := 53) dX11_holiday_39 (by decide) (fun c4 => ?_) (fun c4 => ?_)
        · replace h := h.1 c4
          refine sj_aload_n dX11_holiday_53 (i := 0) rfl rfl ?_
          refine sj_get (a := 0) (k9 := 9) (v := .ref (sj_ad G 50)) dX11_holiday_54 (by decide +kernel) rfl ?_
          refine sj_iload_n dX11_holiday_57 (i := 3) rfl rfl ?_
          refine sj_iload dX11_holiday_58 rfl ?_
          obtain ⟨v5, σ5, hc5, h⟩ := h
          refine sj_callVi (M' := me_X10_addHoliday) (b := 50) (As := [.int v1, .int v2]) (rest := []) dX11_holiday_60 gX11_holiday_X10_addHoliday rfl hd_X10_addHoliday (by decide +kernel) (by decide +kernel) rfl (Nat.le_of_ble_eq_true rfl) (by omega) rfl hc5 ?_
          subst h
          exact sj_ret dX11_holiday_63 rfl rfl
        · replace h := h.2 c4
          subst h
          exact sj_throwSW (k9 := 2) (text := "there are 10 holidays") dX11_holiday_42 dX11_holiday_45 dX11_holiday_46 dX11_holiday_49 dX11_holiday_52 rfl (by decide +kernel) (by decide +kernel) (by decide +kernel) (by decide +kernel) (by decide +kernel) (by decide) (Nat.le_of_ble_eq_true rfl)
      · replace h := h.2 c3
        subst h
        exact sj_throwSW (k9 := 1) (text := "the last date is ahead of the first one") dX11_holiday_19 dX11_holiday_22 dX11_holiday_23 dX11_holiday_26 dX11_holiday_29 rfl (by decide +kernel) (by decide +kernel) (by decide +kernel) (by decide +kernel) (by decide +kernel) (by decide) (Nat.le_of_ble_eq_true rfl)
    · subst h
      exact sj_callVx (M' := me_X11_requireDate) (b := 0) (As := [.int x2]) (rest := []) dX11_holiday_8 gX11_holiday_X11_requireDate rfl hd_X11_requireDate (by decide +kernel) (by decide +kernel) rfl (Nat.le_of_ble_eq_true rfl) (by omega) hc2
  · subst h
    exact sj_callVx (M' := me_X11_requireDate) (b := 0) (As := [.int x1]) (rest := []) dX11_holiday_2 gX11_holiday_X11_requireDate rfl hd_X11_requireDate (by decide +kernel) (by decide +kernel) rfl (Nat.le_of_ble_eq_true rfl) (by omega) hc1
theorem c_X11_holiday {G : sj_G} (ok : sj_ok G) {R : sj_R} {x1 : Int32} {x2 : Int32} {σ : sj_S} (h : wp_X11_holiday_0 G R x1 x2 σ) : sj_C G 10 me_X11_holiday [.ref (sj_ad G 0), .int x1, .int x2] σ R :=
  sj_enter ok (by decide +kernel) rfl rfl (Nat.le_of_ble_eq_true rfl) (by simp [Value.category]) (t_X11_holiday_0 h)
def wp_X11_schoolDays_0 (G : sj_G) (R : sj_R) (σ : sj_S) : Prop := ∃ v1 σ1, sj_C G 3 me_X10_daysBetween [.ref (sj_ad G 50), .int (nI 0), .int (nI 280)] σ (.ok v1, σ1) ∧ R = (.ok v1, σ1)
set_option maxRecDepth 20000 in
theorem t_X11_schoolDays_0 {G : sj_G} {R : sj_R} {σ : sj_S} (h : wp_X11_schoolDays_0 G R σ) : sj_J G 4 me_X11_schoolDays R 0 [.ref (sj_ad G 0)] σ [] := by
  unfold wp_X11_schoolDays_0 at h
  refine sj_aload_n dX11_schoolDays_0 (i := 0) rfl rfl ?_
  refine sj_get (a := 0) (k9 := 9) (v := .ref (sj_ad G 50)) dX11_schoolDays_1 (by decide +kernel) rfl ?_
  refine sj_iconst (v := (nI 0)) dX11_schoolDays_4 (by decide +kernel) ?_
  refine sj_sipush (v := (nI 280)) dX11_schoolDays_5 (by decide +kernel) ?_
  obtain ⟨v1, σ1, hc1, h⟩ := h
  refine sj_callVi (M' := me_X10_daysBetween) (b := 50) (As := [.int (nI 0), .int (nI 280)]) (rest := []) dX11_schoolDays_8 gX11_schoolDays_X10_daysBetween rfl hd_X10_daysBetween (by decide +kernel) (by decide +kernel) rfl (Nat.le_of_ble_eq_true rfl) (by omega) rfl hc1 ?_
  subst h
  exact sj_ret dX11_schoolDays_11 rfl rfl
theorem c_X11_schoolDays {G : sj_G} (ok : sj_ok G) {R : sj_R} {σ : sj_S} (h : wp_X11_schoolDays_0 G R σ) : sj_C G 4 me_X11_schoolDays [.ref (sj_ad G 0)] σ R :=
  sj_enter ok (by decide +kernel) rfl rfl (Nat.le_of_ble_eq_true rfl) (by simp [Value.category]) (t_X11_schoolDays_0 h)
def wp_X11_dateOf_50 (G : sj_G) (R : sj_R) (x2 : Int32) (x3 : Int32) (σ : sj_S) : Prop := sj_J G 9 me_X11_dateOf R 4 [.ref (sj_ad G 0), .null, .int x2, .int (x3 + (nI 1))] σ []
set_option maxRecDepth 20000 in
theorem t_X11_dateOf_50 {G : sj_G} {R : sj_R} {x2 : Int32} {x3 : Int32} {σ : sj_S} (h : wp_X11_dateOf_50 G R x2 x3 σ) : sj_J G 9 me_X11_dateOf R 50 [.ref (sj_ad G 0), .null, .int x2, .int x3] σ [] := by
  unfold wp_X11_dateOf_50 at h
  refine sj_iinc (v := (x3 + (nI 1))) dX11_dateOf_50 (by decide) rfl rfl ?_
  refine sj_goto (tgt := 4) dX11_dateOf_53 (by decide) ?_
  exact h
def wp_X11_dateOf_56 (G : sj_G) (R : sj_R) (σ : sj_S) : Prop := R = (.error 3, σ)
set_option maxRecDepth 20000 in
theorem t_X11_dateOf_56 {G : sj_G} {R : sj_R} {σ : sj_S} (h : wp_X11_dateOf_56 G R σ) : sj_J G 9 me_X11_dateOf R 56 [.null, .null, .null, .null] σ [] := by
  unfold wp_X11_dateOf_56 at h
  subst h
  exact sj_throwSW (k9 := 3) (text := "there is no such school day") dX11_dateOf_56 dX11_dateOf_59 dX11_dateOf_60 dX11_dateOf_63 dX11_dateOf_66 rfl (by decide +kernel) (by decide +kernel) (by decide +kernel) (by decide +kernel) (by decide +kernel) (by decide) (Nat.le_of_ble_eq_true rfl)
def wp_X11_dateOf_4 (G : sj_G) (R : sj_R) (x2 : Int32) (x3 : Int32) (σ : sj_S) : Prop := ((nI 280) ≤ x3 → (wp_X11_dateOf_56 G R σ)) ∧ (¬ ((nI 280) ≤ x3) → (x2 < 0 → (wp_X11_dateOf_56 G R σ)) ∧ (¬ (x2 < 0) → ∃ v3 σ3, sj_C G 2 me_X10_isSchoolDay [.ref (sj_ad G 50), .int x3] σ (.ok v3, σ3) ∧ (v3 = 0 → (wp_X11_dateOf_50 G R x2 x3 σ3)) ∧ (¬ (v3 = 0) → (¬ x2 = 0 → (wp_X11_dateOf_50 G R (x2 + (-1)) x3 σ3)) ∧ (x2 = 0 → ∃ v6 σ6, sj_C G 2 me_X10_dateAt [.ref (sj_ad G 50), .int ((σ3 50 1) + x3)] σ3 (.ok v6, σ6) ∧ R = (.ok v6, σ6)))))
set_option maxRecDepth 20000 in
theorem t_X11_dateOf_4 {G : sj_G} {R : sj_R} {x2 : Int32} {x3 : Int32} {σ : sj_S} (h : wp_X11_dateOf_4 G R x2 x3 σ) : sj_J G 9 me_X11_dateOf R 4 [.ref (sj_ad G 0), .null, .int x2, .int x3] σ [] := by
  unfold wp_X11_dateOf_4 at h
  refine sj_iload_n dX11_dateOf_4 (i := 3) rfl rfl ?_
  refine sj_sipush (v := (nI 280)) dX11_dateOf_5 (by decide +kernel) ?_
  refine sj_icmp_ge (tgt := 56) dX11_dateOf_8 (by decide) (fun c1 => ?_) (fun c1 => ?_)
  · replace h := h.1 c1
    refine sj_fg [0, 2, 3] ?_
    exact t_X11_dateOf_56 h
  · replace h := h.2 c1
    refine sj_iload_n dX11_dateOf_11 (i := 2) rfl rfl ?_
    refine sj_if_lt (tgt := 56) dX11_dateOf_12 (by decide) (fun c2 => ?_) (fun c2 => ?_)
    · replace h := h.1 c2
      refine sj_fg [0, 2, 3] ?_
      exact t_X11_dateOf_56 h
    · replace h := h.2 c2
      refine sj_aload_n dX11_dateOf_15 (i := 0) rfl rfl ?_
      refine sj_get (a := 0) (k9 := 9) (v := .ref (sj_ad G 50)) dX11_dateOf_16 (by decide +kernel) rfl ?_
      refine sj_iload_n dX11_dateOf_19 (i := 3) rfl rfl ?_
      obtain ⟨v3, σ3, hc3, h⟩ := h
      refine sj_callVi (M' := me_X10_isSchoolDay) (b := 50) (As := [.int x3]) (rest := []) dX11_dateOf_20 gX11_dateOf_X10_isSchoolDay rfl hd_X10_isSchoolDay (by decide +kernel) (by decide +kernel) rfl (Nat.le_of_ble_eq_true rfl) (by omega) rfl hc3 ?_
      refine sj_if_eq (tgt := 50) dX11_dateOf_23 (by decide) (fun c4 => ?_) (fun c4 => ?_)
      · replace h := h.1 c4
        exact t_X11_dateOf_50 h
      · replace h := h.2 c4
        refine sj_iload_n dX11_dateOf_26 (i := 2) rfl rfl ?_
        refine sj_if_ne (tgt := 47) dX11_dateOf_27 (by decide) (fun c5 => ?_) (fun c5 => ?_)
        · replace h := h.1 c5
          refine sj_iinc (v := (x2 + (-1))) dX11_dateOf_47 (by decide) rfl rfl ?_
          exact t_X11_dateOf_50 h
        · replace h := h.2 c5
          refine sj_aload_n dX11_dateOf_30 (i := 0) rfl rfl ?_
          refine sj_get (a := 0) (k9 := 9) (v := .ref (sj_ad G 50)) dX11_dateOf_31 (by decide +kernel) rfl ?_
          refine sj_aload_n dX11_dateOf_34 (i := 0) rfl rfl ?_
          refine sj_get (a := 0) (k9 := 9) (v := .ref (sj_ad G 50)) dX11_dateOf_35 (by decide +kernel) rfl ?_
          refine sj_get (a := 50) (k9 := 1) (v := .int (σ3 50 1)) dX11_dateOf_38 (by decide +kernel) rfl ?_
          refine sj_iload_n dX11_dateOf_41 (i := 3) rfl rfl ?_
          refine sj_iadd dX11_dateOf_42 ?_
          obtain ⟨v6, σ6, hc6, h⟩ := h
          refine sj_callVi (M' := me_X10_dateAt) (b := 50) (As := [.int ((σ3 50 1) + x3)]) (rest := []) dX11_dateOf_43 gX11_dateOf_X10_dateAt rfl hd_X10_dateAt (by decide +kernel) (by decide +kernel) rfl (Nat.le_of_ble_eq_true rfl) (by omega) rfl hc6 ?_
          subst h
          exact sj_ret dX11_dateOf_46 rfl rfl
def wp_X11_dateOf_0 (G : sj_G) (R : sj_R) (x1 : Int32) (σ : sj_S) : Prop := sj_J G 9 me_X11_dateOf R 4 [.ref (sj_ad G 0), .null, .int x1, .int (nI 0)] σ []
set_option maxRecDepth 20000 in
theorem t_X11_dateOf_0 {G : sj_G} {R : sj_R} {x1 : Int32} {σ : sj_S} (h : wp_X11_dateOf_0 G R x1 σ) : sj_J G 9 me_X11_dateOf R 0 [.ref (sj_ad G 0), .int x1, .null, .null] σ [] := by
  unfold wp_X11_dateOf_0 at h
  refine sj_iload_n dX11_dateOf_0 (i := 1) rfl rfl ?_
  refine sj_istore_n dX11_dateOf_1 (i := 2) rfl (by decide) ?_
  refine sj_iconst (v := (nI 0)) dX11_dateOf_2 (by decide +kernel) ?_
  refine sj_istore_n dX11_dateOf_3 (i := 3) rfl (by decide) ?_
  refine sj_fg [1] ?_
  exact h
theorem c_X11_dateOf {G : sj_G} (ok : sj_ok G) {R : sj_R} {x1 : Int32} {σ : sj_S} (h : wp_X11_dateOf_0 G R x1 σ) : sj_C G 9 me_X11_dateOf [.ref (sj_ad G 0), .int x1] σ R :=
  sj_enter ok (by decide +kernel) rfl rfl (Nat.le_of_ble_eq_true rfl) (by simp [Value.category]) (t_X11_dateOf_0 h)
def wp_X11_numberOf_38 (G : sj_G) (R : sj_R) (s0 : Int32) (σ : sj_S) : Prop := R = (.ok s0, σ)
set_option maxRecDepth 20000 in
theorem t_X11_numberOf_38 {G : sj_G} {R : sj_R} {s0 : Int32} {σ : sj_S} (h : wp_X11_numberOf_38 G R s0 σ) : sj_J G 10 me_X11_numberOf R 38 [.null, .null, .null] σ [.int s0] := by
  unfold wp_X11_numberOf_38 at h
  subst h
  exact sj_ret dX11_numberOf_38 rfl rfl
def wp_X11_numberOf_0 (G : sj_G) (R : sj_R) (x1 : Int32) (σ : sj_S) : Prop := ((∃ v1 σ1, sj_C G 9 me_X11_requireDate [.ref (sj_ad G 0), .int x1] σ (.ok v1, σ1) ∧ ∃ v2 σ2, sj_C G 2 me_X10_isSchoolDay [.ref (sj_ad G 50), .int (v1 - (σ1 50 1))] σ1 (.ok v2, σ2) ∧ (v2 = 0 → (wp_X11_numberOf_38 G R (-1) σ2)) ∧ (¬ (v2 = 0) → ∃ v5 σ5, sj_C G 3 me_X10_daysBetween [.ref (sj_ad G 50), .int (nI 0), .int (v1 - (σ1 50 1))] σ2 (.ok v5, σ5) ∧ (wp_X11_numberOf_38 G R v5 σ5))) ∨ (∃ k1 σ1, sj_C G 9 me_X11_requireDate [.ref (sj_ad G 0), .int x1] σ (.error k1, σ1) ∧ R = (.error k1, σ1)))
set_option maxRecDepth 20000 in
theorem t_X11_numberOf_0 {G : sj_G} {R : sj_R} {x1 : Int32} {σ : sj_S} (h : wp_X11_numberOf_0 G R x1 σ) : sj_J G 10 me_X11_numberOf R 0 [.ref (sj_ad G 0), .int x1, .null] σ [] := by
  unfold wp_X11_numberOf_0 at h
  refine sj_aload_n dX11_numberOf_0 (i := 0) rfl rfl ?_
  refine sj_iload_n dX11_numberOf_1 (i := 1) rfl rfl ?_
  rcases h with ⟨v1, σ1, hc1, h⟩ | ⟨k1, σ1, hc1, h⟩
  · refine sj_callVi (M' := me_X11_requireDate) (b := 0) (As := [.int x1]) (rest := []) dX11_numberOf_2 gX11_numberOf_X11_requireDate rfl hd_X11_requireDate (by decide +kernel) (by decide +kernel) rfl (Nat.le_of_ble_eq_true rfl) (by omega) rfl hc1 ?_
    refine sj_aload_n dX11_numberOf_5 (i := 0) rfl rfl ?_
    refine sj_get (a := 0) (k9 := 9) (v := .ref (sj_ad G 50)) dX11_numberOf_6 (by decide +kernel) rfl ?_
    refine sj_get (a := 50) (k9 := 1) (v := .int (σ1 50 1)) dX11_numberOf_9 (by decide +kernel) rfl ?_
    refine sj_isub dX11_numberOf_12 ?_
    refine sj_istore_n dX11_numberOf_13 (i := 2) rfl (by decide) ?_
    refine sj_aload_n dX11_numberOf_14 (i := 0) rfl rfl ?_
    refine sj_get (a := 0) (k9 := 9) (v := .ref (sj_ad G 50)) dX11_numberOf_15 (by decide +kernel) rfl ?_
    refine sj_iload_n dX11_numberOf_18 (i := 2) rfl rfl ?_
    obtain ⟨v2, σ2, hc2, h⟩ := h
    refine sj_callVi (M' := me_X10_isSchoolDay) (b := 50) (As := [.int (v1 - (σ1 50 1))]) (rest := []) dX11_numberOf_19 gX11_numberOf_X10_isSchoolDay rfl hd_X10_isSchoolDay (by decide +kernel) (by decide +kernel) rfl (Nat.le_of_ble_eq_true rfl) (by omega) rfl hc2 ?_
    refine sj_if_eq (tgt := 37) dX11_numberOf_22 (by decide) (fun c4 => ?_) (fun c4 => ?_)
    · replace h := h.1 c4
      refine sj_iconst (v := (-1)) dX11_numberOf_37 (by decide +kernel) ?_
      refine sj_fg [0, 1, 2] ?_
      exact t_X11_numberOf_38 h
    · replace h := h.2 c4
      refine sj_aload_n dX11_numberOf_25 (i := 0) rfl rfl ?_
      refine sj_get (a := 0) (k9 := 9) (v := .ref (sj_ad G 50)) dX11_numberOf_26 (by decide +kernel) rfl ?_
      refine sj_iconst (v := (nI 0)) dX11_numberOf_29 (by decide +kernel) ?_
      refine sj_iload_n dX11_numberOf_30 (i := 2) rfl rfl ?_
      obtain ⟨v5, σ5, hc5, h⟩ := h
      refine sj_callVi (M' := me_X10_daysBetween) (b := 50) (As := [.int (nI 0), .int (v1 - (σ1 50 1))]) (rest := []) dX11_numberOf_31 gX11_numberOf_X10_daysBetween rfl hd_X10_daysBetween (by decide +kernel) (by decide +kernel) rfl (Nat.le_of_ble_eq_true rfl) (by omega) rfl hc5 ?_
      refine sj_goto (tgt := 38) dX11_numberOf_34 (by decide) ?_
      refine sj_fg [0, 1, 2] ?_
      exact t_X11_numberOf_38 h
  · subst h
    exact sj_callVx (M' := me_X11_requireDate) (b := 0) (As := [.int x1]) (rest := []) dX11_numberOf_2 gX11_numberOf_X11_requireDate rfl hd_X11_requireDate (by decide +kernel) (by decide +kernel) rfl (Nat.le_of_ble_eq_true rfl) (by omega) hc1
theorem c_X11_numberOf {G : sj_G} (ok : sj_ok G) {R : sj_R} {x1 : Int32} {σ : sj_S} (h : wp_X11_numberOf_0 G R x1 σ) : sj_C G 10 me_X11_numberOf [.ref (sj_ad G 0), .int x1] σ R :=
  sj_enter ok (by decide +kernel) rfl rfl (Nat.le_of_ble_eq_true rfl) (by simp [Value.category]) (t_X11_numberOf_0 h)
def wp_X11_nextDay_22 (G : sj_G) (R : sj_R) (x3 : Int32) (σ : sj_S) : Prop := ((nI 280) ≤ x3 → R = (.ok (-1), σ)) ∧ (¬ ((nI 280) ≤ x3) → ∃ v2 σ2, sj_C G 2 me_X10_isSchoolDay [.ref (sj_ad G 50), .int x3] σ (.ok v2, σ2) ∧ (v2 = 0 → sj_J G 10 me_X11_nextDay R 22 [.ref (sj_ad G 0), .null, .null, .int (x3 + (nI 1))] σ2 []) ∧ (¬ (v2 = 0) → ∃ v4 σ4, sj_C G 2 me_X10_dateAt [.ref (sj_ad G 50), .int ((σ2 50 1) + x3)] σ2 (.ok v4, σ4) ∧ R = (.ok v4, σ4)))
set_option maxRecDepth 20000 in
theorem t_X11_nextDay_22 {G : sj_G} {R : sj_R} {x3 : Int32} {σ : sj_S} (h : wp_X11_nextDay_22 G R x3 σ) : sj_J G 10 me_X11_nextDay R 22 [.ref (sj_ad G 0), .null, .null, .int x3] σ [] := by
  unfold wp_X11_nextDay_22 at h
  refine sj_iload_n dX11_nextDay_22 (i := 3) rfl rfl ?_
  refine sj_sipush (v := (nI 280)) dX11_nextDay_23 (by decide +kernel) ?_
  refine sj_icmp_ge (tgt := 63) dX11_nextDay_26 (by decide) (fun c1 => ?_) (fun c1 => ?_)
  · replace h := h.1 c1
    refine sj_iconst (v := (-1)) dX11_nextDay_63 (by decide +kernel) ?_
    subst h
    exact sj_ret dX11_nextDay_64 rfl rfl
  · replace h := h.2 c1
    refine sj_aload_n dX11_nextDay_29 (i := 0) rfl rfl ?_
    refine sj_get (a := 0) (k9 := 9) (v := .ref (sj_ad G 50)) dX11_nextDay_30 (by decide +kernel) rfl ?_
    refine sj_iload_n dX11_nextDay_33 (i := 3) rfl rfl ?_
    obtain ⟨v2, σ2, hc2, h⟩ := h
    refine sj_callVi (M' := me_X10_isSchoolDay) (b := 50) (As := [.int x3]) (rest := []) dX11_nextDay_34 gX11_nextDay_X10_isSchoolDay rfl hd_X10_isSchoolDay (by decide +kernel) (by decide +kernel) rfl (Nat.le_of_ble_eq_true rfl) (by omega) rfl hc2 ?_
    refine sj_if_eq (tgt := 57) dX11_nextDay_37 (by decide) (fun c3 => ?_) (fun c3 => ?_)
    · replace h := h.1 c3
      refine sj_iinc (v := (x3 + (nI 1))) dX11_nextDay_57 (by decide) rfl rfl ?_
      refine sj_goto (tgt := 22) dX11_nextDay_60 (by decide) ?_
      exact h
    · replace h := h.2 c3
      refine sj_aload_n dX11_nextDay_40 (i := 0) rfl rfl ?_
      refine sj_get (a := 0) (k9 := 9) (v := .ref (sj_ad G 50)) dX11_nextDay_41 (by decide +kernel) rfl ?_
      refine sj_aload_n dX11_nextDay_44 (i := 0) rfl rfl ?_
      refine sj_get (a := 0) (k9 := 9) (v := .ref (sj_ad G 50)) dX11_nextDay_45 (by decide +kernel) rfl ?_
      refine sj_get (a := 50) (k9 := 1) (v := .int (σ2 50 1)) dX11_nextDay_48 (by decide +kernel) rfl ?_
      refine sj_iload_n dX11_nextDay_51 (i := 3) rfl rfl ?_
      refine sj_iadd dX11_nextDay_52 ?_
      obtain ⟨v4, σ4, hc4, h⟩ := h
      refine sj_callVi (M' := me_X10_dateAt) (b := 50) (As := [.int ((σ2 50 1) + x3)]) (rest := []) dX11_nextDay_53 gX11_nextDay_X10_dateAt rfl hd_X10_dateAt (by decide +kernel) (by decide +kernel) rfl (Nat.le_of_ble_eq_true rfl) (by omega) rfl hc4 ?_
      subst h
      exact sj_ret dX11_nextDay_56 rfl rfl
def wp_X11_nextDay_0 (G : sj_G) (R : sj_R) (x1 : Int32) (σ : sj_S) : Prop := ((∃ v1 σ1, sj_C G 9 me_X11_requireDate [.ref (sj_ad G 0), .int x1] σ (.ok v1, σ1) ∧ sj_J G 10 me_X11_nextDay R 22 [.ref (sj_ad G 0), .null, .null, .int (if ((v1 - (σ1 50 1)) + (nI 1)) < (nI 0) then (nI 0) else ((v1 - (σ1 50 1)) + (nI 1)))] σ1 []) ∨ (∃ k1 σ1, sj_C G 9 me_X11_requireDate [.ref (sj_ad G 0), .int x1] σ (.error k1, σ1) ∧ R = (.error k1, σ1)))
set_option maxRecDepth 20000 in
theorem t_X11_nextDay_0 {G : sj_G} {R : sj_R} {x1 : Int32} {σ : sj_S} (h : wp_X11_nextDay_0 G R x1 σ) : sj_J G 10 me_X11_nextDay R 0 [.ref (sj_ad G 0), .int x1, .null, .null] σ [] := by
  unfold wp_X11_nextDay_0 at h
  refine sj_aload_n dX11_nextDay_0 (i := 0) rfl rfl ?_
  refine sj_iload_n dX11_nextDay_1 (i := 1) rfl rfl ?_
  rcases h with ⟨v1, σ1, hc1, h⟩ | ⟨k1, σ1, hc1, h⟩
  · refine sj_callVi (M' := me_X11_requireDate) (b := 0) (As := [.int x1]) (rest := []) dX11_nextDay_2 gX11_nextDay_X11_requireDate rfl hd_X11_requireDate (by decide +kernel) (by decide +kernel) rfl (Nat.le_of_ble_eq_true rfl) (by omega) rfl hc1 ?_
    refine sj_aload_n dX11_nextDay_5 (i := 0) rfl rfl ?_
    refine sj_get (a := 0) (k9 := 9) (v := .ref (sj_ad G 50)) dX11_nextDay_6 (by decide +kernel) rfl ?_
    refine sj_get (a := 50) (k9 := 1) (v := .int (σ1 50 1)) dX11_nextDay_9 (by decide +kernel) rfl ?_
    refine sj_isub dX11_nextDay_12 ?_
    refine sj_iconst (v := (nI 1)) dX11_nextDay_13 (by decide +kernel) ?_
    refine sj_iadd dX11_nextDay_14 ?_
    refine sj_istore_n dX11_nextDay_15 (i := 2) rfl (by decide) ?_
    refine sj_iload_n dX11_nextDay_16 (i := 2) rfl rfl ?_
    refine sj_iconst (v := (nI 0)) dX11_nextDay_17 (by decide +kernel) ?_
    refine sj_mmax dX11_nextDay_18 (by decide +kernel) (by omega) (Nat.le_of_ble_eq_true rfl) ?_
    refine sj_istore_n dX11_nextDay_21 (i := 3) rfl (by decide) ?_
    refine sj_fg [1, 2] ?_
    exact h
  · subst h
    exact sj_callVx (M' := me_X11_requireDate) (b := 0) (As := [.int x1]) (rest := []) dX11_nextDay_2 gX11_nextDay_X11_requireDate rfl hd_X11_requireDate (by decide +kernel) (by decide +kernel) rfl (Nat.le_of_ble_eq_true rfl) (by omega) hc1
theorem c_X11_nextDay {G : sj_G} (ok : sj_ok G) {R : sj_R} {x1 : Int32} {σ : sj_S} (h : wp_X11_nextDay_0 G R x1 σ) : sj_C G 10 me_X11_nextDay [.ref (sj_ad G 0), .int x1] σ R :=
  sj_enter ok (by decide +kernel) rfl rfl (Nat.le_of_ble_eq_true rfl) (by simp [Value.category]) (t_X11_nextDay_0 h)
def wp_X11_weekOf_31 (G : sj_G) (R : sj_R) (σ : sj_S) : Prop := R = (.ok (-1), σ)
set_option maxRecDepth 20000 in
theorem t_X11_weekOf_31 {G : sj_G} {R : sj_R} {σ : sj_S} (h : wp_X11_weekOf_31 G R σ) : sj_J G 11 me_X11_weekOf R 31 [.null, .null, .null, .null, .null] σ [] := by
  unfold wp_X11_weekOf_31 at h
  refine sj_iconst (v := (-1)) dX11_weekOf_31 (by decide +kernel) ?_
  subst h
  exact sj_ret dX11_weekOf_32 rfl rfl
def wp_X11_weekOf_83 (G : sj_G) (R : sj_R) (s0 : Int32) (σ : sj_S) : Prop := R = (.ok s0, σ)
set_option maxRecDepth 20000 in
theorem t_X11_weekOf_83 {G : sj_G} {R : sj_R} {s0 : Int32} {σ : sj_S} (h : wp_X11_weekOf_83 G R s0 σ) : sj_J G 11 me_X11_weekOf R 83 [.null, .null, .null, .null, .null] σ [.int s0] := by
  unfold wp_X11_weekOf_83 at h
  subst h
  exact sj_ret dX11_weekOf_83 rfl rfl
def wp_X11_weekOf_0 (G : sj_G) (R : sj_R) (x1 : Int32) (x2 : Int32) (σ : sj_S) : Prop := ((∃ v1 σ1, sj_C G 9 me_X11_requireDate [.ref (sj_ad G 0), .int x1] σ (.ok v1, σ1) ∧ ((∃ σ2, sj_C G 10 me_X11_requireRange [.ref (sj_ad G 0), .int x2, .int (nI 3)] σ1 (.ok 0, σ2) ∧ ((v1 - (σ1 50 1)) < 0 → (wp_X11_weekOf_31 G R σ2)) ∧ (¬ ((v1 - (σ1 50 1)) < 0) → ((v1 - (σ1 50 1)) < (nI 280) → (¬ x2 = 0 → (¬ x2 = (nI 1) → ∃ v8 σ8, sj_C G 3 me_X10_daysBetween [.ref (sj_ad G 50), .int (((v1 - (σ1 50 1)) / (nI 7)) * (nI 7)), .int ((((v1 - (σ1 50 1)) / (nI 7)) * (nI 7)) + (nI 7))] σ2 (.ok v8, σ8) ∧ (wp_X11_weekOf_83 G R v8 σ8)) ∧ (x2 = (nI 1) → ∃ v9 σ9, sj_C G 5 me_X10_letterOf [.ref (sj_ad G 50), .int ((v1 - (σ1 50 1)) / (nI 7))] σ2 (.ok v9, σ9) ∧ (wp_X11_weekOf_83 G R v9 σ9))) ∧ (x2 = 0 → R = (.ok ((v1 - (σ1 50 1)) / (nI 7)), σ2))) ∧ (¬ ((v1 - (σ1 50 1)) < (nI 280)) → (wp_X11_weekOf_31 G R σ2)))) ∨ (∃ k2 σ2, sj_C G 10 me_X11_requireRange [.ref (sj_ad G 0), .int x2, .int (nI 3)] σ1 (.error k2, σ2) ∧ R = (.error k2, σ2)))) ∨ (∃ k1 σ1, sj_C G 9 me_X11_requireDate [.ref (sj_ad G 0), .int x1] σ (.error k1, σ1) ∧ R = (.error k1, σ1)))
set_option maxRecDepth 20000 in
theorem t_X11_weekOf_0 {G : sj_G} {R : sj_R} {x1 : Int32} {x2 : Int32} {σ : sj_S} (h : wp_X11_weekOf_0 G R x1 x2 σ) : sj_J G 11 me_X11_weekOf R 0 [.ref (sj_ad G 0), .int x1, .int x2, .null, .null] σ [] := by
  unfold wp_X11_weekOf_0 at h
  refine sj_aload_n dX11_weekOf_0 (i := 0) rfl rfl ?_
  refine sj_iload_n dX11_weekOf_1 (i := 1) rfl rfl ?_
  rcases h with ⟨v1, σ1, hc1, h⟩ | ⟨k1, σ1, hc1, h⟩
  · refine sj_callVi (M' := me_X11_requireDate) (b := 0) (As := [.int x1]) (rest := []) dX11_weekOf_2 gX11_weekOf_X11_requireDate rfl hd_X11_requireDate (by decide +kernel) (by decide +kernel) rfl (Nat.le_of_ble_eq_true rfl) (by omega) rfl hc1 ?_
    refine sj_aload_n dX11_weekOf_5 (i := 0) rfl rfl ?_
    refine sj_get (a := 0) (k9 := 9) (v := .ref (sj_ad G 50)) dX11_weekOf_6 (by decide +kernel) rfl ?_
    refine sj_get (a := 50) (k9 := 1) (v := .int (σ1 50 1)) dX11_weekOf_9 (by decide +kernel) rfl ?_
    refine sj_isub dX11_weekOf_12 ?_
    refine sj_istore_n dX11_weekOf_13 (i := 3) rfl (by decide) ?_
    refine sj_aload_n dX11_weekOf_14 (i := 0) rfl rfl ?_
    refine sj_iload_n dX11_weekOf_15 (i := 2) rfl rfl ?_
    refine sj_iconst (v := (nI 3)) dX11_weekOf_16 (by decide +kernel) ?_
    rcases h with ⟨σ2, hc2, h⟩ | ⟨k2, σ2, hc2, h⟩
    · refine sj_callVv (M' := me_X11_requireRange) (b := 0) (As := [.int x2, .int (nI 3)]) (rest := []) dX11_weekOf_17 gX11_weekOf_X11_requireRange rfl hd_X11_requireRange (by decide +kernel) (by decide +kernel) rfl (Nat.le_of_ble_eq_true rfl) (by omega) rfl hc2 ?_
      refine sj_iload_n dX11_weekOf_20 (i := 3) rfl rfl ?_
      refine sj_if_lt (tgt := 31) dX11_weekOf_21 (by decide) (fun c3 => ?_) (fun c3 => ?_)
      · replace h := h.1 c3
        refine sj_fg [0, 1, 2, 3] ?_
        exact t_X11_weekOf_31 h
      · replace h := h.2 c3
        refine sj_iload_n dX11_weekOf_24 (i := 3) rfl rfl ?_
        refine sj_sipush (v := (nI 280)) dX11_weekOf_25 (by decide +kernel) ?_
        refine sj_icmp_lt (tgt := 33) dX11_weekOf_28 (by decide) (fun c4 => ?_) (fun c4 => ?_)
        · replace h := h.1 c4
          refine sj_iload_n dX11_weekOf_33 (i := 3) rfl rfl ?_
          refine sj_bipush (v := (nI 7)) dX11_weekOf_34 (by decide +kernel) ?_
          refine sj_idiv dX11_weekOf_36 (by decide +kernel) ?_
          refine sj_istore dX11_weekOf_37 (by decide) ?_
          refine sj_iload_n dX11_weekOf_39 (i := 2) rfl rfl ?_
          refine sj_if_ne (tgt := 46) dX11_weekOf_40 (by decide) (fun c5 => ?_) (fun c5 => ?_)
          · replace h := h.1 c5
            refine sj_iload_n dX11_weekOf_46 (i := 2) rfl rfl ?_
            refine sj_iconst (v := (nI 1)) dX11_weekOf_47 (by decide +kernel) ?_
            refine sj_icmp_ne (tgt := 63) dX11_weekOf_48 (by decide) (fun c7 => ?_) (fun c7 => ?_)
            · replace h := h.1 c7
              refine sj_aload_n dX11_weekOf_63 (i := 0) rfl rfl ?_
              refine sj_get (a := 0) (k9 := 9) (v := .ref (sj_ad G 50)) dX11_weekOf_64 (by decide +kernel) rfl ?_
              refine sj_iload dX11_weekOf_67 rfl ?_
              refine sj_bipush (v := (nI 7)) dX11_weekOf_69 (by decide +kernel) ?_
              refine sj_imul dX11_weekOf_71 ?_
              refine sj_iload dX11_weekOf_72 rfl ?_
              refine sj_bipush (v := (nI 7)) dX11_weekOf_74 (by decide +kernel) ?_
              refine sj_imul dX11_weekOf_76 ?_
              refine sj_bipush (v := (nI 7)) dX11_weekOf_77 (by decide +kernel) ?_
              refine sj_iadd dX11_weekOf_79 ?_
              obtain ⟨v8, σ8, hc8, h⟩ := h
              refine sj_callVi (M' := me_X10_daysBetween) (b := 50) (As := [.int (((v1 - (σ1 50 1)) / (nI 7)) * (nI 7)), .int ((((v1 - (σ1 50 1)) / (nI 7)) * (nI 7)) + (nI 7))]) (rest := []) dX11_weekOf_80 gX11_weekOf_X10_daysBetween rfl hd_X10_daysBetween (by decide +kernel) (by decide +kernel) rfl (Nat.le_of_ble_eq_true rfl) (by omega) rfl hc8 ?_
              refine sj_fg [0, 1, 2, 3, 4] ?_
              exact t_X11_weekOf_83 h
            · replace h := h.2 c7
              refine sj_aload_n dX11_weekOf_51 (i := 0) rfl rfl ?_
              refine sj_get (a := 0) (k9 := 9) (v := .ref (sj_ad G 50)) dX11_weekOf_52 (by decide +kernel) rfl ?_
              refine sj_iload dX11_weekOf_55 rfl ?_
              obtain ⟨v9, σ9, hc9, h⟩ := h
              refine sj_callVi (M' := me_X10_letterOf) (b := 50) (As := [.int ((v1 - (σ1 50 1)) / (nI 7))]) (rest := []) dX11_weekOf_57 gX11_weekOf_X10_letterOf rfl hd_X10_letterOf (by decide +kernel) (by decide +kernel) rfl (Nat.le_of_ble_eq_true rfl) (by omega) rfl hc9 ?_
              refine sj_goto (tgt := 83) dX11_weekOf_60 (by decide) ?_
              refine sj_fg [0, 1, 2, 3, 4] ?_
              exact t_X11_weekOf_83 h
          · replace h := h.2 c5
            refine sj_iload dX11_weekOf_43 rfl ?_
            subst h
            exact sj_ret dX11_weekOf_45 rfl rfl
        · replace h := h.2 c4
          refine sj_fg [0, 1, 2, 3] ?_
          exact t_X11_weekOf_31 h
    · subst h
      exact sj_callVx (M' := me_X11_requireRange) (b := 0) (As := [.int x2, .int (nI 3)]) (rest := []) dX11_weekOf_17 gX11_weekOf_X11_requireRange rfl hd_X11_requireRange (by decide +kernel) (by decide +kernel) rfl (Nat.le_of_ble_eq_true rfl) (by omega) hc2
  · subst h
    exact sj_callVx (M' := me_X11_requireDate) (b := 0) (As := [.int x1]) (rest := []) dX11_weekOf_2 gX11_weekOf_X11_requireDate rfl hd_X11_requireDate (by decide +kernel) (by decide +kernel) rfl (Nat.le_of_ble_eq_true rfl) (by omega) hc1
theorem c_X11_weekOf {G : sj_G} (ok : sj_ok G) {R : sj_R} {x1 : Int32} {x2 : Int32} {σ : sj_S} (h : wp_X11_weekOf_0 G R x1 x2 σ) : sj_C G 11 me_X11_weekOf [.ref (sj_ad G 0), .int x1, .int x2] σ R :=
  sj_enter ok (by decide +kernel) rfl rfl (Nat.le_of_ble_eq_true rfl) (by simp [Value.category]) (t_X11_weekOf_0 h)
def wp_X11_dayOfWeek_0 (G : sj_G) (R : sj_R) (x1 : Int32) (σ : sj_S) : Prop := ((∃ v1 σ1, sj_C G 9 me_X11_requireDate [.ref (sj_ad G 0), .int x1] σ (.ok v1, σ1) ∧ ∃ v2 σ2, sj_C G 3 me_X10_weekday [.ref (sj_ad G 50), .int v1] σ1 (.ok v2, σ2) ∧ R = (.ok v2, σ2)) ∨ (∃ k1 σ1, sj_C G 9 me_X11_requireDate [.ref (sj_ad G 0), .int x1] σ (.error k1, σ1) ∧ R = (.error k1, σ1)))
set_option maxRecDepth 20000 in
theorem t_X11_dayOfWeek_0 {G : sj_G} {R : sj_R} {x1 : Int32} {σ : sj_S} (h : wp_X11_dayOfWeek_0 G R x1 σ) : sj_J G 10 me_X11_dayOfWeek R 0 [.ref (sj_ad G 0), .int x1] σ [] := by
  unfold wp_X11_dayOfWeek_0 at h
  refine sj_aload_n dX11_dayOfWeek_0 (i := 0) rfl rfl ?_
  refine sj_get (a := 0) (k9 := 9) (v := .ref (sj_ad G 50)) dX11_dayOfWeek_1 (by decide +kernel) rfl ?_
  refine sj_aload_n dX11_dayOfWeek_4 (i := 0) rfl rfl ?_
  refine sj_iload_n dX11_dayOfWeek_5 (i := 1) rfl rfl ?_
  rcases h with ⟨v1, σ1, hc1, h⟩ | ⟨k1, σ1, hc1, h⟩
  · refine sj_callVi (M' := me_X11_requireDate) (b := 0) (As := [.int x1]) (rest := [.ref (sj_ad G 50)]) dX11_dayOfWeek_6 gX11_dayOfWeek_X11_requireDate rfl hd_X11_requireDate (by decide +kernel) (by decide +kernel) rfl (Nat.le_of_ble_eq_true rfl) (by omega) rfl hc1 ?_
    obtain ⟨v2, σ2, hc2, h⟩ := h
    refine sj_callVi (M' := me_X10_weekday) (b := 50) (As := [.int v1]) (rest := []) dX11_dayOfWeek_9 gX11_dayOfWeek_X10_weekday rfl hd_X10_weekday (by decide +kernel) (by decide +kernel) rfl (Nat.le_of_ble_eq_true rfl) (by omega) rfl hc2 ?_
    subst h
    exact sj_ret dX11_dayOfWeek_12 rfl rfl
  · subst h
    exact sj_callVx (M' := me_X11_requireDate) (b := 0) (As := [.int x1]) (rest := [.ref (sj_ad G 50)]) dX11_dayOfWeek_6 gX11_dayOfWeek_X11_requireDate rfl hd_X11_requireDate (by decide +kernel) (by decide +kernel) rfl (Nat.le_of_ble_eq_true rfl) (by omega) hc1
theorem c_X11_dayOfWeek {G : sj_G} (ok : sj_ok G) {R : sj_R} {x1 : Int32} {σ : sj_S} (h : wp_X11_dayOfWeek_0 G R x1 σ) : sj_C G 10 me_X11_dayOfWeek [.ref (sj_ad G 0), .int x1] σ R :=
  sj_enter ok (by decide +kernel) rfl rfl (Nat.le_of_ble_eq_true rfl) (by simp [Value.category]) (t_X11_dayOfWeek_0 h)
def wp_X11_later_0 (G : sj_G) (R : sj_R) (x1 : Int32) (x2 : Int32) (σ : sj_S) : Prop := ((∃ v1 σ1, sj_C G 9 me_X11_requireDate [.ref (sj_ad G 0), .int x1] σ (.ok v1, σ1) ∧ ((∃ σ2, sj_C G 9 me_X11_requireBetween [.ref (sj_ad G 0), .int x2, .int (-1000), .int (nI 1000)] σ1 (.ok 0, σ2) ∧ ∃ v3 σ3, sj_C G 2 me_X10_dateAt [.ref (sj_ad G 50), .int (v1 + x2)] σ2 (.ok v3, σ3) ∧ R = (.ok v3, σ3)) ∨ (∃ k2 σ2, sj_C G 9 me_X11_requireBetween [.ref (sj_ad G 0), .int x2, .int (-1000), .int (nI 1000)] σ1 (.error k2, σ2) ∧ R = (.error k2, σ2)))) ∨ (∃ k1 σ1, sj_C G 9 me_X11_requireDate [.ref (sj_ad G 0), .int x1] σ (.error k1, σ1) ∧ R = (.error k1, σ1)))
set_option maxRecDepth 20000 in
theorem t_X11_later_0 {G : sj_G} {R : sj_R} {x1 : Int32} {x2 : Int32} {σ : sj_S} (h : wp_X11_later_0 G R x1 x2 σ) : sj_J G 10 me_X11_later R 0 [.ref (sj_ad G 0), .int x1, .int x2, .null] σ [] := by
  unfold wp_X11_later_0 at h
  refine sj_aload_n dX11_later_0 (i := 0) rfl rfl ?_
  refine sj_iload_n dX11_later_1 (i := 1) rfl rfl ?_
  rcases h with ⟨v1, σ1, hc1, h⟩ | ⟨k1, σ1, hc1, h⟩
  · refine sj_callVi (M' := me_X11_requireDate) (b := 0) (As := [.int x1]) (rest := []) dX11_later_2 gX11_later_X11_requireDate rfl hd_X11_requireDate (by decide +kernel) (by decide +kernel) rfl (Nat.le_of_ble_eq_true rfl) (by omega) rfl hc1 ?_
    refine sj_istore_n dX11_later_5 (i := 3) rfl (by decide) ?_
    refine sj_aload_n dX11_later_6 (i := 0) rfl rfl ?_
    refine sj_iload_n dX11_later_7 (i := 2) rfl rfl ?_
    refine sj_sipush (v := (-1000)) dX11_later_8 (by decide +kernel) ?_
    refine sj_sipush (v := (nI 1000)) dX11_later_11 (by decide +kernel) ?_
    rcases h with ⟨σ2, hc2, h⟩ | ⟨k2, σ2, hc2, h⟩
    · refine sj_callVv (M' := me_X11_requireBetween) (b := 0) (As := [.int x2, .int (-1000), .int (nI 1000)]) (rest := []) dX11_later_14 gX11_later_X11_requireBetween rfl hd_X11_requireBetween (by decide +kernel) (by decide +kernel) rfl (Nat.le_of_ble_eq_true rfl) (by omega) rfl hc2 ?_
      refine sj_aload_n dX11_later_17 (i := 0) rfl rfl ?_
      refine sj_get (a := 0) (k9 := 9) (v := .ref (sj_ad G 50)) dX11_later_18 (by decide +kernel) rfl ?_
      refine sj_iload_n dX11_later_21 (i := 3) rfl rfl ?_
      refine sj_iload_n dX11_later_22 (i := 2) rfl rfl ?_
      refine sj_iadd dX11_later_23 ?_
      obtain ⟨v3, σ3, hc3, h⟩ := h
      refine sj_callVi (M' := me_X10_dateAt) (b := 50) (As := [.int (v1 + x2)]) (rest := []) dX11_later_24 gX11_later_X10_dateAt rfl hd_X10_dateAt (by decide +kernel) (by decide +kernel) rfl (Nat.le_of_ble_eq_true rfl) (by omega) rfl hc3 ?_
      subst h
      exact sj_ret dX11_later_27 rfl rfl
    · subst h
      exact sj_callVx (M' := me_X11_requireBetween) (b := 0) (As := [.int x2, .int (-1000), .int (nI 1000)]) (rest := []) dX11_later_14 gX11_later_X11_requireBetween rfl hd_X11_requireBetween (by decide +kernel) (by decide +kernel) rfl (Nat.le_of_ble_eq_true rfl) (by omega) hc2
  · subst h
    exact sj_callVx (M' := me_X11_requireDate) (b := 0) (As := [.int x1]) (rest := []) dX11_later_2 gX11_later_X11_requireDate rfl hd_X11_requireDate (by decide +kernel) (by decide +kernel) rfl (Nat.le_of_ble_eq_true rfl) (by omega) hc1
theorem c_X11_later {G : sj_G} (ok : sj_ok G) {R : sj_R} {x1 : Int32} {x2 : Int32} {σ : sj_S} (h : wp_X11_later_0 G R x1 x2 σ) : sj_C G 10 me_X11_later [.ref (sj_ad G 0), .int x1, .int x2] σ R :=
  sj_enter ok (by decide +kernel) rfl rfl (Nat.le_of_ble_eq_true rfl) (by simp [Value.category]) (t_X11_later_0 h)
def wp_X11_append_0 (G : sj_G) (R : sj_R) (x1 : Int32) (x2 : Int32) (x3 : Int32) (x4 : Int32) (x5 : Int32) (σ : sj_S) : Prop := ∃ v1 σ1, sj_C G 2 me_X9_signsIn [.ref (sj_ad G 52), .int x1] σ (.ok v1, σ1) ∧ ∃ v2 σ2, sj_C G 2 me_X9_signsIn [.ref (sj_ad G 52), .int x2] σ1 (.ok v2, σ2) ∧ ∃ v3 σ3, sj_C G 2 me_X9_signsIn [.ref (sj_ad G 52), .int x3] σ2 (.ok v3, σ3) ∧ ∃ v4 σ4, sj_C G 2 me_X9_signsIn [.ref (sj_ad G 52), .int x4] σ3 (.ok v4, σ4) ∧ ∃ v5 σ5, sj_C G 2 me_X9_signsIn [.ref (sj_ad G 52), .int x5] σ4 (.ok v5, σ5) ∧ (((σ5 52 2) + ((((v1 + v2) + v3) + v4) + v5)) ≤ (nI 100) → ∃ σ7, sj_C G 2 me_X9_add [.ref (sj_ad G 52), .int x1] σ5 (.ok 0, σ7) ∧ ∃ σ8, sj_C G 2 me_X9_add [.ref (sj_ad G 52), .int x2] σ7 (.ok 0, σ8) ∧ ∃ σ9, sj_C G 2 me_X9_add [.ref (sj_ad G 52), .int x3] σ8 (.ok 0, σ9) ∧ ∃ σ10, sj_C G 2 me_X9_add [.ref (sj_ad G 52), .int x4] σ9 (.ok 0, σ10) ∧ ∃ σ11, sj_C G 2 me_X9_add [.ref (sj_ad G 52), .int x5] σ10 (.ok 0, σ11) ∧ R = (.ok (σ11 52 2), σ11)) ∧ (¬ (((σ5 52 2) + ((((v1 + v2) + v3) + v4) + v5)) ≤ (nI 100)) → R = (.error 2, σ5))
set_option maxRecDepth 20000 in
theorem t_X11_append_0 {G : sj_G} {R : sj_R} {x1 : Int32} {x2 : Int32} {x3 : Int32} {x4 : Int32} {x5 : Int32} {σ : sj_S} (h : wp_X11_append_0 G R x1 x2 x3 x4 x5 σ) : sj_J G 9 me_X11_append R 0 [.ref (sj_ad G 0), .int x1, .int x2, .int x3, .int x4, .int x5, .null] σ [] := by
  unfold wp_X11_append_0 at h
  refine sj_aload_n dX11_append_0 (i := 0) rfl rfl ?_
  refine sj_get (a := 0) (k9 := 10) (v := .ref (sj_ad G 52)) dX11_append_1 (by decide +kernel) rfl ?_
  refine sj_iload_n dX11_append_4 (i := 1) rfl rfl ?_
  obtain ⟨v1, σ1, hc1, h⟩ := h
  refine sj_callVi (M' := me_X9_signsIn) (b := 52) (As := [.int x1]) (rest := []) dX11_append_5 gX11_append_X9_signsIn rfl hd_X9_signsIn (by decide +kernel) (by decide +kernel) rfl (Nat.le_of_ble_eq_true rfl) (by omega) rfl hc1 ?_
  refine sj_aload_n dX11_append_8 (i := 0) rfl rfl ?_
  refine sj_get (a := 0) (k9 := 10) (v := .ref (sj_ad G 52)) dX11_append_9 (by decide +kernel) rfl ?_
  refine sj_iload_n dX11_append_12 (i := 2) rfl rfl ?_
  obtain ⟨v2, σ2, hc2, h⟩ := h
  refine sj_callVi (M' := me_X9_signsIn) (b := 52) (As := [.int x2]) (rest := [.int v1]) dX11_append_13 gX11_append_X9_signsIn rfl hd_X9_signsIn (by decide +kernel) (by decide +kernel) rfl (Nat.le_of_ble_eq_true rfl) (by omega) rfl hc2 ?_
  refine sj_iadd dX11_append_16 ?_
  refine sj_aload_n dX11_append_17 (i := 0) rfl rfl ?_
  refine sj_get (a := 0) (k9 := 10) (v := .ref (sj_ad G 52)) dX11_append_18 (by decide +kernel) rfl ?_
  refine sj_iload_n dX11_append_21 (i := 3) rfl rfl ?_
  obtain ⟨v3, σ3, hc3, h⟩ := h
  refine sj_callVi (M' := me_X9_signsIn) (b := 52) (As := [.int x3]) (rest := [.int (v1 + v2)]) dX11_append_22 gX11_append_X9_signsIn rfl hd_X9_signsIn (by decide +kernel) (by decide +kernel) rfl (Nat.le_of_ble_eq_true rfl) (by omega) rfl hc3 ?_
  refine sj_iadd dX11_append_25 ?_
  refine sj_aload_n dX11_append_26 (i := 0) rfl rfl ?_
  refine sj_get (a := 0) (k9 := 10) (v := .ref (sj_ad G 52)) dX11_append_27 (by decide +kernel) rfl ?_
  refine sj_iload dX11_append_30 rfl ?_
  obtain ⟨v4, σ4, hc4, h⟩ := h
  refine sj_callVi (M' := me_X9_signsIn) (b := 52) (As := [.int x4]) (rest := [.int ((v1 + v2) + v3)]) dX11_append_32 gX11_append_X9_signsIn rfl hd_X9_signsIn (by decide +kernel) (by decide +kernel) rfl (Nat.le_of_ble_eq_true rfl) (by omega) rfl hc4 ?_
  refine sj_iadd dX11_append_35 ?_
  refine sj_aload_n dX11_append_36 (i := 0) rfl rfl ?_
  refine sj_get (a := 0) (k9 := 10) (v := .ref (sj_ad G 52)) dX11_append_37 (by decide +kernel) rfl ?_
  refine sj_iload dX11_append_40 rfl ?_
  obtain ⟨v5, σ5, hc5, h⟩ := h
  refine sj_callVi (M' := me_X9_signsIn) (b := 52) (As := [.int x5]) (rest := [.int (((v1 + v2) + v3) + v4)]) dX11_append_42 gX11_append_X9_signsIn rfl hd_X9_signsIn (by decide +kernel) (by decide +kernel) rfl (Nat.le_of_ble_eq_true rfl) (by omega) rfl hc5 ?_
  refine sj_iadd dX11_append_45 ?_
  refine sj_istore dX11_append_46 (by decide) ?_
  refine sj_aload_n dX11_append_48 (i := 0) rfl rfl ?_
  refine sj_get (a := 0) (k9 := 10) (v := .ref (sj_ad G 52)) dX11_append_49 (by decide +kernel) rfl ?_
  refine sj_get (a := 52) (k9 := 2) (v := .int (σ5 52 2)) dX11_append_52 (by decide +kernel) rfl ?_
  refine sj_iload dX11_append_55 rfl ?_
  refine sj_iadd dX11_append_57 ?_
  refine sj_bipush (v := (nI 100)) dX11_append_58 (by decide +kernel) ?_
  refine sj_icmp_le (tgt := 74) dX11_append_60 (by decide) (fun c6 => ?_) (fun c6 => ?_)
  · replace h := h.1 c6
    refine sj_aload_n dX11_append_74 (i := 0) rfl rfl ?_
    refine sj_get (a := 0) (k9 := 10) (v := .ref (sj_ad G 52)) dX11_append_75 (by decide +kernel) rfl ?_
    refine sj_iload_n dX11_append_78 (i := 1) rfl rfl ?_
    obtain ⟨σ7, hc7, h⟩ := h
    refine sj_callVv (M' := me_X9_add) (b := 52) (As := [.int x1]) (rest := []) dX11_append_79 gX11_append_X9_add rfl hd_X9_add (by decide +kernel) (by decide +kernel) rfl (Nat.le_of_ble_eq_true rfl) (by omega) rfl hc7 ?_
    refine sj_aload_n dX11_append_82 (i := 0) rfl rfl ?_
    refine sj_get (a := 0) (k9 := 10) (v := .ref (sj_ad G 52)) dX11_append_83 (by decide +kernel) rfl ?_
    refine sj_iload_n dX11_append_86 (i := 2) rfl rfl ?_
    obtain ⟨σ8, hc8, h⟩ := h
    refine sj_callVv (M' := me_X9_add) (b := 52) (As := [.int x2]) (rest := []) dX11_append_87 gX11_append_X9_add rfl hd_X9_add (by decide +kernel) (by decide +kernel) rfl (Nat.le_of_ble_eq_true rfl) (by omega) rfl hc8 ?_
    refine sj_aload_n dX11_append_90 (i := 0) rfl rfl ?_
    refine sj_get (a := 0) (k9 := 10) (v := .ref (sj_ad G 52)) dX11_append_91 (by decide +kernel) rfl ?_
    refine sj_iload_n dX11_append_94 (i := 3) rfl rfl ?_
    obtain ⟨σ9, hc9, h⟩ := h
    refine sj_callVv (M' := me_X9_add) (b := 52) (As := [.int x3]) (rest := []) dX11_append_95 gX11_append_X9_add rfl hd_X9_add (by decide +kernel) (by decide +kernel) rfl (Nat.le_of_ble_eq_true rfl) (by omega) rfl hc9 ?_
    refine sj_aload_n dX11_append_98 (i := 0) rfl rfl ?_
    refine sj_get (a := 0) (k9 := 10) (v := .ref (sj_ad G 52)) dX11_append_99 (by decide +kernel) rfl ?_
    refine sj_iload dX11_append_102 rfl ?_
    obtain ⟨σ10, hc10, h⟩ := h
    refine sj_callVv (M' := me_X9_add) (b := 52) (As := [.int x4]) (rest := []) dX11_append_104 gX11_append_X9_add rfl hd_X9_add (by decide +kernel) (by decide +kernel) rfl (Nat.le_of_ble_eq_true rfl) (by omega) rfl hc10 ?_
    refine sj_aload_n dX11_append_107 (i := 0) rfl rfl ?_
    refine sj_get (a := 0) (k9 := 10) (v := .ref (sj_ad G 52)) dX11_append_108 (by decide +kernel) rfl ?_
    refine sj_iload dX11_append_111 rfl ?_
    obtain ⟨σ11, hc11, h⟩ := h
    refine sj_callVv (M' := me_X9_add) (b := 52) (As := [.int x5]) (rest := []) dX11_append_113 gX11_append_X9_add rfl hd_X9_add (by decide +kernel) (by decide +kernel) rfl (Nat.le_of_ble_eq_true rfl) (by omega) rfl hc11 ?_
    refine sj_aload_n dX11_append_116 (i := 0) rfl rfl ?_
    refine sj_get (a := 0) (k9 := 10) (v := .ref (sj_ad G 52)) dX11_append_117 (by decide +kernel) rfl ?_
    refine sj_get (a := 52) (k9 := 2) (v := .int (σ11 52 2)) dX11_append_120 (by decide +kernel) rfl ?_
    subst h
    exact sj_ret dX11_append_123 rfl rfl
  · replace h := h.2 c6
    subst h
    exact sj_throwSW (k9 := 2) (text := "the tape would have more than 100 bytes") dX11_append_63 dX11_append_66 dX11_append_67 dX11_append_70 dX11_append_73 rfl (by decide +kernel) (by decide +kernel) (by decide +kernel) (by decide +kernel) (by decide +kernel) (by decide) (Nat.le_of_ble_eq_true rfl)
theorem c_X11_append {G : sj_G} (ok : sj_ok G) {R : sj_R} {x1 : Int32} {x2 : Int32} {x3 : Int32} {x4 : Int32} {x5 : Int32} {σ : sj_S} (h : wp_X11_append_0 G R x1 x2 x3 x4 x5 σ) : sj_C G 9 me_X11_append [.ref (sj_ad G 0), .int x1, .int x2, .int x3, .int x4, .int x5] σ R :=
  sj_enter ok (by decide +kernel) rfl rfl (Nat.le_of_ble_eq_true rfl) (by simp [Value.category]) (t_X11_append_0 h)
def wp_X11_read_0 (G : sj_G) (R : sj_R) (σ : sj_S) : Prop := ∃ v1 σ1, sj_C G 10 me_X9_parse [.ref (sj_ad G 52), .ref (sj_ad G 1)] σ (.ok v1, σ1) ∧ ∃ v2 σ2, sj_C G 2 me_X9_empty [.ref (sj_ad G 52)] σ1 (.ok v2, σ2) ∧ (¬ v1 = 0 → ∃ v4 σ4, sj_C G 3 me_X8_hardWishes [.ref (sj_ad G 1)] σ2 (.ok v4, σ4) ∧ ∃ σ5, sj_C G 5 me_X7_take [.ref (sj_ad G 6), .ref (sj_ad G 1), .int v4] σ4 (.ok 0, σ5) ∧ ∃ v6 σ6, sj_C G 3 me_X7_isRight [.ref (sj_ad G 6), .ref (sj_ad G 53)] σ5 (.ok v6, σ6) ∧ (¬ v6 = 0 → ∃ σ8, sj_C G 3 me_X11_beginChange [.ref (sj_ad G 0)] σ6 (.ok 0, σ8) ∧ ∃ σ9, sj_C G 2 me_X8_putTable [.ref (sj_ad G 1), .ref (sj_ad G 53)] σ8 (.ok 0, σ9) ∧ ∃ v10 σ10, sj_C G 5 me_X6_costOf [.ref (sj_ad G 36), .ref (sj_ad G 1), .ref (sj_ad G 3)] σ9 (.ok v10, σ10) ∧ R = (.ok v10, σ10)) ∧ (v6 = 0 → R = (.error 2, σ6))) ∧ (v1 = 0 → R = (.error 1, σ2))
set_option maxRecDepth 20000 in
theorem t_X11_read_0 {G : sj_G} {R : sj_R} {σ : sj_S} (h : wp_X11_read_0 G R σ) : sj_J G 11 me_X11_read R 0 [.ref (sj_ad G 0), .null] σ [] := by
  unfold wp_X11_read_0 at h
  refine sj_aload_n dX11_read_0 (i := 0) rfl rfl ?_
  refine sj_get (a := 0) (k9 := 10) (v := .ref (sj_ad G 52)) dX11_read_1 (by decide +kernel) rfl ?_
  refine sj_aload_n dX11_read_4 (i := 0) rfl rfl ?_
  refine sj_get (a := 0) (k9 := 0) (v := .ref (sj_ad G 1)) dX11_read_5 (by decide +kernel) rfl ?_
  obtain ⟨v1, σ1, hc1, h⟩ := h
  refine sj_callVi (M' := me_X9_parse) (b := 52) (As := [.ref (sj_ad G 1)]) (rest := []) dX11_read_8 gX11_read_X9_parse rfl hd_X9_parse (by decide +kernel) (by decide +kernel) rfl (Nat.le_of_ble_eq_true rfl) (by omega) rfl hc1 ?_
  refine sj_istore_n dX11_read_11 (i := 1) rfl (by decide) ?_
  refine sj_aload_n dX11_read_12 (i := 0) rfl rfl ?_
  refine sj_get (a := 0) (k9 := 10) (v := .ref (sj_ad G 52)) dX11_read_13 (by decide +kernel) rfl ?_
  obtain ⟨v2, σ2, hc2, h⟩ := h
  refine sj_callVi (M' := me_X9_empty) (b := 52) (As := []) (rest := []) dX11_read_16 gX11_read_X9_empty rfl hd_X9_empty (by decide +kernel) (by decide +kernel) rfl (Nat.le_of_ble_eq_true rfl) (by omega) rfl hc2 ?_
  refine sj_pop dX11_read_19 rfl ?_
  refine sj_iload_n dX11_read_20 (i := 1) rfl rfl ?_
  refine sj_if_ne (tgt := 35) dX11_read_21 (by decide) (fun c3 => ?_) (fun c3 => ?_)
  · replace h := h.1 c3
    refine sj_aload_n dX11_read_35 (i := 0) rfl rfl ?_
    refine sj_get (a := 0) (k9 := 2) (v := .ref (sj_ad G 6)) dX11_read_36 (by decide +kernel) rfl ?_
    refine sj_aload_n dX11_read_39 (i := 0) rfl rfl ?_
    refine sj_get (a := 0) (k9 := 0) (v := .ref (sj_ad G 1)) dX11_read_40 (by decide +kernel) rfl ?_
    refine sj_aload_n dX11_read_43 (i := 0) rfl rfl ?_
    refine sj_get (a := 0) (k9 := 0) (v := .ref (sj_ad G 1)) dX11_read_44 (by decide +kernel) rfl ?_
    obtain ⟨v4, σ4, hc4, h⟩ := h
    refine sj_callVi (M' := me_X8_hardWishes) (b := 1) (As := []) (rest := [.ref (sj_ad G 1), .ref (sj_ad G 6)]) dX11_read_47 gX11_read_X8_hardWishes rfl hd_X8_hardWishes (by decide +kernel) (by decide +kernel) rfl (Nat.le_of_ble_eq_true rfl) (by omega) rfl hc4 ?_
    obtain ⟨σ5, hc5, h⟩ := h
    refine sj_callVv (M' := me_X7_take) (b := 6) (As := [.ref (sj_ad G 1), .int v4]) (rest := []) dX11_read_50 gX11_read_X7_take rfl hd_X7_take (by decide +kernel) (by decide +kernel) rfl (Nat.le_of_ble_eq_true rfl) (by omega) rfl hc5 ?_
    refine sj_aload_n dX11_read_53 (i := 0) rfl rfl ?_
    refine sj_get (a := 0) (k9 := 2) (v := .ref (sj_ad G 6)) dX11_read_54 (by decide +kernel) rfl ?_
    refine sj_aload_n dX11_read_57 (i := 0) rfl rfl ?_
    refine sj_get (a := 0) (k9 := 10) (v := .ref (sj_ad G 52)) dX11_read_58 (by decide +kernel) rfl ?_
    refine sj_get (a := 52) (k9 := 0) (v := .ref (sj_ad G 53)) dX11_read_61 (by decide +kernel) rfl ?_
    obtain ⟨v6, σ6, hc6, h⟩ := h
    refine sj_callVi (M' := me_X7_isRight) (b := 6) (As := [.ref (sj_ad G 53)]) (rest := []) dX11_read_64 gX11_read_X7_isRight rfl hd_X7_isRight (by decide +kernel) (by decide +kernel) rfl (Nat.le_of_ble_eq_true rfl) (by omega) rfl hc6 ?_
    refine sj_if_ne (tgt := 81) dX11_read_67 (by decide) (fun c7 => ?_) (fun c7 => ?_)
    · replace h := h.1 c7
      refine sj_aload_n dX11_read_81 (i := 0) rfl rfl ?_
      obtain ⟨σ8, hc8, h⟩ := h
      refine sj_callVv (M' := me_X11_beginChange) (b := 0) (As := []) (rest := []) dX11_read_82 gX11_read_X11_beginChange rfl hd_X11_beginChange (by decide +kernel) (by decide +kernel) rfl (Nat.le_of_ble_eq_true rfl) (by omega) rfl hc8 ?_
      refine sj_aload_n dX11_read_85 (i := 0) rfl rfl ?_
      refine sj_get (a := 0) (k9 := 0) (v := .ref (sj_ad G 1)) dX11_read_86 (by decide +kernel) rfl ?_
      refine sj_aload_n dX11_read_89 (i := 0) rfl rfl ?_
      refine sj_get (a := 0) (k9 := 10) (v := .ref (sj_ad G 52)) dX11_read_90 (by decide +kernel) rfl ?_
      refine sj_get (a := 52) (k9 := 0) (v := .ref (sj_ad G 53)) dX11_read_93 (by decide +kernel) rfl ?_
      obtain ⟨σ9, hc9, h⟩ := h
      refine sj_callVv (M' := me_X8_putTable) (b := 1) (As := [.ref (sj_ad G 53)]) (rest := []) dX11_read_96 gX11_read_X8_putTable rfl hd_X8_putTable (by decide +kernel) (by decide +kernel) rfl (Nat.le_of_ble_eq_true rfl) (by omega) rfl hc9 ?_
      refine sj_aload_n dX11_read_99 (i := 0) rfl rfl ?_
      refine sj_get (a := 0) (k9 := 4) (v := .ref (sj_ad G 36)) dX11_read_100 (by decide +kernel) rfl ?_
      refine sj_aload_n dX11_read_103 (i := 0) rfl rfl ?_
      refine sj_get (a := 0) (k9 := 0) (v := .ref (sj_ad G 1)) dX11_read_104 (by decide +kernel) rfl ?_
      refine sj_aload_n dX11_read_107 (i := 0) rfl rfl ?_
      refine sj_get (a := 0) (k9 := 0) (v := .ref (sj_ad G 1)) dX11_read_108 (by decide +kernel) rfl ?_
      refine sj_get (a := 1) (k9 := 1) (v := .ref (sj_ad G 3)) dX11_read_111 (by decide +kernel) rfl ?_
      obtain ⟨v10, σ10, hc10, h⟩ := h
      refine sj_callVi (M' := me_X6_costOf) (b := 36) (As := [.ref (sj_ad G 1), .ref (sj_ad G 3)]) (rest := []) dX11_read_114 gX11_read_X6_costOf rfl hd_X6_costOf (by decide +kernel) (by decide +kernel) rfl (Nat.le_of_ble_eq_true rfl) (by omega) rfl hc10 ?_
      subst h
      exact sj_ret dX11_read_117 rfl rfl
    · replace h := h.2 c7
      subst h
      exact sj_throwSW (k9 := 2) (text := "the table is not right") dX11_read_70 dX11_read_73 dX11_read_74 dX11_read_77 dX11_read_80 rfl (by decide +kernel) (by decide +kernel) (by decide +kernel) (by decide +kernel) (by decide +kernel) (by decide) (Nat.le_of_ble_eq_true rfl)
  · replace h := h.2 c3
    subst h
    exact sj_throwSW (k9 := 1) (text := "the text has an error") dX11_read_24 dX11_read_27 dX11_read_28 dX11_read_31 dX11_read_34 rfl (by decide +kernel) (by decide +kernel) (by decide +kernel) (by decide +kernel) (by decide +kernel) (by decide) (Nat.le_of_ble_eq_true rfl)
theorem c_X11_read {G : sj_G} (ok : sj_ok G) {R : sj_R} {σ : sj_S} (h : wp_X11_read_0 G R σ) : sj_C G 11 me_X11_read [.ref (sj_ad G 0)] σ R :=
  sj_enter ok (by decide +kernel) rfl rfl (Nat.le_of_ble_eq_true rfl) (by simp [Value.category]) (t_X11_read_0 h)
def wp_X11_errorPosition_0 (G : sj_G) (R : sj_R) (σ : sj_S) : Prop := R = (.ok (σ 52 3), σ)
set_option maxRecDepth 20000 in
theorem t_X11_errorPosition_0 {G : sj_G} {R : sj_R} {σ : sj_S} (h : wp_X11_errorPosition_0 G R σ) : sj_J G 2 me_X11_errorPosition R 0 [.ref (sj_ad G 0)] σ [] := by
  unfold wp_X11_errorPosition_0 at h
  refine sj_aload_n dX11_errorPosition_0 (i := 0) rfl rfl ?_
  refine sj_get (a := 0) (k9 := 10) (v := .ref (sj_ad G 52)) dX11_errorPosition_1 (by decide +kernel) rfl ?_
  refine sj_get (a := 52) (k9 := 3) (v := .int (σ 52 3)) dX11_errorPosition_4 (by decide +kernel) rfl ?_
  subst h
  exact sj_ret dX11_errorPosition_7 rfl rfl
theorem c_X11_errorPosition {G : sj_G} (ok : sj_ok G) {R : sj_R} {σ : sj_S} (h : wp_X11_errorPosition_0 G R σ) : sj_C G 2 me_X11_errorPosition [.ref (sj_ad G 0)] σ R :=
  sj_enter ok (by decide +kernel) rfl rfl (Nat.le_of_ble_eq_true rfl) (by simp [Value.category]) (t_X11_errorPosition_0 h)
def wp_X11_write_0 (G : sj_G) (R : sj_R) (σ : sj_S) : Prop := ((∃ σ1, sj_C G 9 me_X11_requireTable [.ref (sj_ad G 0)] σ (.ok 0, σ1) ∧ ∃ v2 σ2, sj_C G 8 me_X9_print [.ref (sj_ad G 52), .ref (sj_ad G 1)] σ1 (.ok v2, σ2) ∧ R = (.ok v2, σ2)) ∨ (∃ k1 σ1, sj_C G 9 me_X11_requireTable [.ref (sj_ad G 0)] σ (.error k1, σ1) ∧ R = (.error k1, σ1)))
set_option maxRecDepth 20000 in
theorem t_X11_write_0 {G : sj_G} {R : sj_R} {σ : sj_S} (h : wp_X11_write_0 G R σ) : sj_J G 10 me_X11_write R 0 [.ref (sj_ad G 0)] σ [] := by
  unfold wp_X11_write_0 at h
  refine sj_aload_n dX11_write_0 (i := 0) rfl rfl ?_
  rcases h with ⟨σ1, hc1, h⟩ | ⟨k1, σ1, hc1, h⟩
  · refine sj_callVv (M' := me_X11_requireTable) (b := 0) (As := []) (rest := []) dX11_write_1 gX11_write_X11_requireTable rfl hd_X11_requireTable (by decide +kernel) (by decide +kernel) rfl (Nat.le_of_ble_eq_true rfl) (by omega) rfl hc1 ?_
    refine sj_aload_n dX11_write_4 (i := 0) rfl rfl ?_
    refine sj_get (a := 0) (k9 := 10) (v := .ref (sj_ad G 52)) dX11_write_5 (by decide +kernel) rfl ?_
    refine sj_aload_n dX11_write_8 (i := 0) rfl rfl ?_
    refine sj_get (a := 0) (k9 := 0) (v := .ref (sj_ad G 1)) dX11_write_9 (by decide +kernel) rfl ?_
    obtain ⟨v2, σ2, hc2, h⟩ := h
    refine sj_callVi (M' := me_X9_print) (b := 52) (As := [.ref (sj_ad G 1)]) (rest := []) dX11_write_12 gX11_write_X9_print rfl hd_X9_print (by decide +kernel) (by decide +kernel) rfl (Nat.le_of_ble_eq_true rfl) (by omega) rfl hc2 ?_
    subst h
    exact sj_ret dX11_write_15 rfl rfl
  · subst h
    exact sj_callVx (M' := me_X11_requireTable) (b := 0) (As := []) (rest := []) dX11_write_1 gX11_write_X11_requireTable rfl hd_X11_requireTable (by decide +kernel) (by decide +kernel) rfl (Nat.le_of_ble_eq_true rfl) (by omega) hc1
theorem c_X11_write {G : sj_G} (ok : sj_ok G) {R : sj_R} {σ : sj_S} (h : wp_X11_write_0 G R σ) : sj_C G 10 me_X11_write [.ref (sj_ad G 0)] σ R :=
  sj_enter ok (by decide +kernel) rfl rfl (Nat.le_of_ble_eq_true rfl) (by simp [Value.category]) (t_X11_write_0 h)
def wp_X11_writtenAt_15 (G : sj_G) (R : sj_R) (σ : sj_S) : Prop := R = (.error 3, σ)
set_option maxRecDepth 20000 in
theorem t_X11_writtenAt_15 {G : sj_G} {R : sj_R} {σ : sj_S} (h : wp_X11_writtenAt_15 G R σ) : sj_J G 9 me_X11_writtenAt R 15 [.null, .null] σ [] := by
  unfold wp_X11_writtenAt_15 at h
  subst h
  exact sj_throwSW (k9 := 3) (text := "there is no such sign") dX11_writtenAt_15 dX11_writtenAt_18 dX11_writtenAt_19 dX11_writtenAt_22 dX11_writtenAt_25 rfl (by decide +kernel) (by decide +kernel) (by decide +kernel) (by decide +kernel) (by decide +kernel) (by decide) (Nat.le_of_ble_eq_true rfl)
def wp_X11_writtenAt_0 (G : sj_G) (R : sj_R) (x1 : Int32) (σ : sj_S) : Prop := (x1 < 0 → (wp_X11_writtenAt_15 G R σ)) ∧ (¬ (x1 < 0) → (x1 < (σ 52 4) → vp_in x1 36 ∧ R = (.ok (σ 54 x1.toNatClampNeg), σ) ∧ narrow .char (.int (σ 54 x1.toNatClampNeg)) = .int (σ 54 x1.toNatClampNeg)) ∧ (¬ (x1 < (σ 52 4)) → (wp_X11_writtenAt_15 G R σ)))
set_option maxRecDepth 20000 in
theorem t_X11_writtenAt_0 {G : sj_G} {R : sj_R} {x1 : Int32} {σ : sj_S} (h : wp_X11_writtenAt_0 G R x1 σ) : sj_J G 9 me_X11_writtenAt R 0 [.ref (sj_ad G 0), .int x1] σ [] := by
  unfold wp_X11_writtenAt_0 at h
  refine sj_iload_n dX11_writtenAt_0 (i := 1) rfl rfl ?_
  refine sj_if_lt (tgt := 15) dX11_writtenAt_1 (by decide) (fun c1 => ?_) (fun c1 => ?_)
  · replace h := h.1 c1
    refine sj_fg [0, 1] ?_
    exact t_X11_writtenAt_15 h
  · replace h := h.2 c1
    refine sj_iload_n dX11_writtenAt_4 (i := 1) rfl rfl ?_
    refine sj_aload_n dX11_writtenAt_5 (i := 0) rfl rfl ?_
    refine sj_get (a := 0) (k9 := 10) (v := .ref (sj_ad G 52)) dX11_writtenAt_6 (by decide +kernel) rfl ?_
    refine sj_get (a := 52) (k9 := 4) (v := .int (σ 52 4)) dX11_writtenAt_9 (by decide +kernel) rfl ?_
    refine sj_icmp_lt (tgt := 26) dX11_writtenAt_12 (by decide) (fun c2 => ?_) (fun c2 => ?_)
    · replace h := h.1 c2
      refine sj_aload_n dX11_writtenAt_26 (i := 0) rfl rfl ?_
      refine sj_get (a := 0) (k9 := 10) (v := .ref (sj_ad G 52)) dX11_writtenAt_27 (by decide +kernel) rfl ?_
      refine sj_get (a := 52) (k9 := 1) (v := .ref (sj_ad G 54)) dX11_writtenAt_30 (by decide +kernel) rfl ?_
      refine sj_iload_n dX11_writtenAt_33 (i := 1) rfl rfl ?_
      obtain ⟨b3, h⟩ := h
      refine sj_cald (a := 54) (j := x1.toNatClampNeg) (x := (σ 54 x1.toNatClampNeg)) dX11_writtenAt_34 rfl (by decide +kernel) b3 rfl rfl ?_
      obtain ⟨h, hz⟩ := h
      subst h
      exact sj_ret dX11_writtenAt_35 rfl hz
    · replace h := h.2 c2
      refine sj_fg [0, 1] ?_
      exact t_X11_writtenAt_15 h
theorem c_X11_writtenAt {G : sj_G} (ok : sj_ok G) {R : sj_R} {x1 : Int32} {σ : sj_S} (h : wp_X11_writtenAt_0 G R x1 σ) : sj_C G 9 me_X11_writtenAt [.ref (sj_ad G 0), .int x1] σ R :=
  sj_enter ok (by decide +kernel) rfl rfl (Nat.le_of_ble_eq_true rfl) (by simp [Value.category]) (t_X11_writtenAt_0 h)
def wp_X11_undo_0 (G : sj_G) (R : sj_R) (σ : sj_S) : Prop := (¬ (σ 4 2) = 0 → ∃ σ2, sj_C G 2 me_X4_forget [.ref (sj_ad G 30)] σ (.ok 0, σ2) ∧ ∃ v3 σ3, sj_C G 2 me_X5_back [.ref (sj_ad G 4), .ref (sj_ad G 1)] σ2 (.ok v3, σ3) ∧ R = (.ok v3, σ3)) ∧ ((σ 4 2) = 0 → R = (.ok (-1), σ))
set_option maxRecDepth 20000 in
theorem t_X11_undo_0 {G : sj_G} {R : sj_R} {σ : sj_S} (h : wp_X11_undo_0 G R σ) : sj_J G 3 me_X11_undo R 0 [.ref (sj_ad G 0)] σ [] := by
  unfold wp_X11_undo_0 at h
  refine sj_aload_n dX11_undo_0 (i := 0) rfl rfl ?_
  refine sj_get (a := 0) (k9 := 1) (v := .ref (sj_ad G 4)) dX11_undo_1 (by decide +kernel) rfl ?_
  refine sj_get (a := 4) (k9 := 2) (v := .int (σ 4 2)) dX11_undo_4 (by decide +kernel) rfl ?_
  refine sj_if_ne (tgt := 12) dX11_undo_7 (by decide) (fun c1 => ?_) (fun c1 => ?_)
  · replace h := h.1 c1
    refine sj_aload_n dX11_undo_12 (i := 0) rfl rfl ?_
    refine sj_get (a := 0) (k9 := 3) (v := .ref (sj_ad G 30)) dX11_undo_13 (by decide +kernel) rfl ?_
    obtain ⟨σ2, hc2, h⟩ := h
    refine sj_callVv (M' := me_X4_forget) (b := 30) (As := []) (rest := []) dX11_undo_16 gX11_undo_X4_forget rfl hd_X4_forget (by decide +kernel) (by decide +kernel) rfl (Nat.le_of_ble_eq_true rfl) (by omega) rfl hc2 ?_
    refine sj_aload_n dX11_undo_19 (i := 0) rfl rfl ?_
    refine sj_get (a := 0) (k9 := 1) (v := .ref (sj_ad G 4)) dX11_undo_20 (by decide +kernel) rfl ?_
    refine sj_aload_n dX11_undo_23 (i := 0) rfl rfl ?_
    refine sj_get (a := 0) (k9 := 0) (v := .ref (sj_ad G 1)) dX11_undo_24 (by decide +kernel) rfl ?_
    obtain ⟨v3, σ3, hc3, h⟩ := h
    refine sj_callVi (M' := me_X5_back) (b := 4) (As := [.ref (sj_ad G 1)]) (rest := []) dX11_undo_27 gX11_undo_X5_back rfl hd_X5_back (by decide +kernel) (by decide +kernel) rfl (Nat.le_of_ble_eq_true rfl) (by omega) rfl hc3 ?_
    subst h
    exact sj_ret dX11_undo_30 rfl rfl
  · replace h := h.2 c1
    refine sj_iconst (v := (-1)) dX11_undo_10 (by decide +kernel) ?_
    subst h
    exact sj_ret dX11_undo_11 rfl rfl
theorem c_X11_undo {G : sj_G} (ok : sj_ok G) {R : sj_R} {σ : sj_S} (h : wp_X11_undo_0 G R σ) : sj_C G 3 me_X11_undo [.ref (sj_ad G 0)] σ R :=
  sj_enter ok (by decide +kernel) rfl rfl (Nat.le_of_ble_eq_true rfl) (by simp [Value.category]) (t_X11_undo_0 h)
def wp_X11_checksum_17 (G : sj_G) (R : sj_R) (x1 : Int32) (x2 : Int32) (σ : sj_S) : Prop := ∃ v1 σ1, sj_C G 2 me_X8_lessonTotal [.ref (sj_ad G 1)] σ (.ok v1, σ1) ∧ (v1 ≤ x2 → R = (.ok x1, σ1)) ∧ (¬ (v1 ≤ x2) → vp_in x2 9 ∧ sj_J G 3 me_X11_checksum R 17 [.ref (sj_ad G 0), .int (((nI 31) * x1) + (σ1 3 x2.toNatClampNeg)), .int (x2 + (nI 1))] σ1 [])
set_option maxRecDepth 20000 in
theorem t_X11_checksum_17 {G : sj_G} {R : sj_R} {x1 : Int32} {x2 : Int32} {σ : sj_S} (h : wp_X11_checksum_17 G R x1 x2 σ) : sj_J G 3 me_X11_checksum R 17 [.ref (sj_ad G 0), .int x1, .int x2] σ [] := by
  unfold wp_X11_checksum_17 at h
  refine sj_iload_n dX11_checksum_17 (i := 2) rfl rfl ?_
  refine sj_aload_n dX11_checksum_18 (i := 0) rfl rfl ?_
  refine sj_get (a := 0) (k9 := 0) (v := .ref (sj_ad G 1)) dX11_checksum_19 (by decide +kernel) rfl ?_
  obtain ⟨v1, σ1, hc1, h⟩ := h
  refine sj_callVi (M' := me_X8_lessonTotal) (b := 1) (As := []) (rest := [.int x2]) dX11_checksum_22 gX11_checksum_X8_lessonTotal rfl hd_X8_lessonTotal (by decide +kernel) (by decide +kernel) rfl (Nat.le_of_ble_eq_true rfl) (by omega) rfl hc1 ?_
  refine sj_icmp_ge (tgt := 49) dX11_checksum_25 (by decide) (fun c2 => ?_) (fun c2 => ?_)
  · replace h := h.1 c2
    refine sj_iload_n dX11_checksum_49 (i := 1) rfl rfl ?_
    subst h
    exact sj_ret dX11_checksum_50 rfl rfl
  · replace h := h.2 c2
    refine sj_bipush (v := (nI 31)) dX11_checksum_28 (by decide +kernel) ?_
    refine sj_iload_n dX11_checksum_30 (i := 1) rfl rfl ?_
    refine sj_imul dX11_checksum_31 ?_
    refine sj_aload_n dX11_checksum_32 (i := 0) rfl rfl ?_
    refine sj_get (a := 0) (k9 := 0) (v := .ref (sj_ad G 1)) dX11_checksum_33 (by decide +kernel) rfl ?_
    refine sj_get (a := 1) (k9 := 1) (v := .ref (sj_ad G 3)) dX11_checksum_36 (by decide +kernel) rfl ?_
    refine sj_iload_n dX11_checksum_39 (i := 2) rfl rfl ?_
    obtain ⟨b3, h⟩ := h
    refine sj_iald (a := 3) (j := x2.toNatClampNeg) (x := (σ1 3 x2.toNatClampNeg)) dX11_checksum_40 rfl (by decide +kernel) b3 rfl rfl ?_
    refine sj_iadd dX11_checksum_41 ?_
    refine sj_istore_n dX11_checksum_42 (i := 1) rfl (by decide) ?_
    refine sj_iinc (v := (x2 + (nI 1))) dX11_checksum_43 (by decide) rfl rfl ?_
    refine sj_goto (tgt := 17) dX11_checksum_46 (by decide) ?_
    exact h
def wp_X11_checksum_0 (G : sj_G) (R : sj_R) (σ : sj_S) : Prop := ∃ v1 σ1, sj_C G 2 me_X8_hasTable [.ref (sj_ad G 1)] σ (.ok v1, σ1) ∧ (¬ v1 = 0 → sj_J G 3 me_X11_checksum R 17 [.ref (sj_ad G 0), .int (nI 17), .int (nI 0)] σ1 []) ∧ (v1 = 0 → R = (.ok (nI 0), σ1))
set_option maxRecDepth 20000 in
theorem t_X11_checksum_0 {G : sj_G} {R : sj_R} {σ : sj_S} (h : wp_X11_checksum_0 G R σ) : sj_J G 3 me_X11_checksum R 0 [.ref (sj_ad G 0), .null, .null] σ [] := by
  unfold wp_X11_checksum_0 at h
  refine sj_aload_n dX11_checksum_0 (i := 0) rfl rfl ?_
  refine sj_get (a := 0) (k9 := 0) (v := .ref (sj_ad G 1)) dX11_checksum_1 (by decide +kernel) rfl ?_
  obtain ⟨v1, σ1, hc1, h⟩ := h
  refine sj_callVi (M' := me_X8_hasTable) (b := 1) (As := []) (rest := []) dX11_checksum_4 gX11_checksum_X8_hasTable rfl hd_X8_hasTable (by decide +kernel) (by decide +kernel) rfl (Nat.le_of_ble_eq_true rfl) (by omega) rfl hc1 ?_
  refine sj_if_ne (tgt := 12) dX11_checksum_7 (by decide) (fun c2 => ?_) (fun c2 => ?_)
  · replace h := h.1 c2
    refine sj_bipush (v := (nI 17)) dX11_checksum_12 (by decide +kernel) ?_
    refine sj_istore_n dX11_checksum_14 (i := 1) rfl (by decide) ?_
    refine sj_iconst (v := (nI 0)) dX11_checksum_15 (by decide +kernel) ?_
    refine sj_istore_n dX11_checksum_16 (i := 2) rfl (by decide) ?_
    exact h
  · replace h := h.2 c2
    refine sj_iconst (v := (nI 0)) dX11_checksum_10 (by decide +kernel) ?_
    subst h
    exact sj_ret dX11_checksum_11 rfl rfl
theorem c_X11_checksum {G : sj_G} (ok : sj_ok G) {R : sj_R} {σ : sj_S} (h : wp_X11_checksum_0 G R σ) : sj_C G 3 me_X11_checksum [.ref (sj_ad G 0)] σ R :=
  sj_enter ok (by decide +kernel) rfl rfl (Nat.le_of_ble_eq_true rfl) (by simp [Value.category]) (t_X11_checksum_0 h)
def wp_X11_errors_132 (G : sj_G) (R : sj_R) (x1 : Int32) (σ : sj_S) : Prop := R = (.ok x1, σ)
set_option maxRecDepth 20000 in
theorem t_X11_errors_132 {G : sj_G} {R : sj_R} {x1 : Int32} {σ : sj_S} (h : wp_X11_errors_132 G R x1 σ) : sj_J G 123 me_X11_errors R 132 [.null, .int x1, .null] σ [] := by
  unfold wp_X11_errors_132 at h
  refine sj_iload_n dX11_errors_132 (i := 1) rfl rfl ?_
  subst h
  exact sj_ret dX11_errors_133 rfl rfl
def wp_X11_errors_116 (G : sj_G) (R : sj_R) (s0 : Int32) (s1 : Int32) (σ : sj_S) : Prop := ∃ v1 σ1, sj_C G 43 me_X2_faults [.ref (sj_ad G 41), .ref (sj_ad G 1)] σ (.ok v1, σ1) ∧ (wp_X11_errors_132 G R ((s1 + s0) + v1) σ1)
set_option maxRecDepth 20000 in
theorem t_X11_errors_116 {G : sj_G} {R : sj_R} {s0 : Int32} {s1 : Int32} {σ : sj_S} (h : wp_X11_errors_116 G R s0 s1 σ) : sj_J G 123 me_X11_errors R 116 [.ref (sj_ad G 0), .null, .null] σ [.int s0, .int s1] := by
  unfold wp_X11_errors_116 at h
  refine sj_iadd dX11_errors_116 ?_
  refine sj_istore_n dX11_errors_117 (i := 1) rfl (by decide) ?_
  refine sj_iload_n dX11_errors_118 (i := 1) rfl rfl ?_
  refine sj_aload_n dX11_errors_119 (i := 0) rfl rfl ?_
  refine sj_get (a := 0) (k9 := 6) (v := .ref (sj_ad G 41)) dX11_errors_120 (by decide +kernel) rfl ?_
  refine sj_aload_n dX11_errors_123 (i := 0) rfl rfl ?_
  refine sj_get (a := 0) (k9 := 0) (v := .ref (sj_ad G 1)) dX11_errors_124 (by decide +kernel) rfl ?_
  obtain ⟨v1, σ1, hc1, h⟩ := h
  refine sj_callVi (M' := me_X2_faults) (b := 41) (As := [.ref (sj_ad G 1)]) (rest := [.int (s1 + s0)]) dX11_errors_127 gX11_errors_X2_faults rfl hd_X2_faults (by decide +kernel) (by decide +kernel) rfl (Nat.le_of_ble_eq_true rfl) (by omega) rfl hc1 ?_
  refine sj_iadd dX11_errors_130 ?_
  refine sj_istore_n dX11_errors_131 (i := 1) rfl (by decide) ?_
  refine sj_fg [0] ?_
  exact t_X11_errors_132 h
def wp_X11_errors_88 (G : sj_G) (R : sj_R) (x1 : Int32) (s0 : Int32) (σ : sj_S) : Prop := ∃ v1 σ1, sj_C G 3 me_X7_isRight [.ref (sj_ad G 6), .ref (sj_ad G 3)] σ (.ok v1, σ1) ∧ (wp_X11_errors_116 G R (if v1 = 0 then (nI 1) else (if s0 = 0 then (nI 1) else (nI 0))) x1 σ1)
set_option maxRecDepth 20000 in
theorem t_X11_errors_88 {G : sj_G} {R : sj_R} {x1 : Int32} {s0 : Int32} {σ : sj_S} (h : wp_X11_errors_88 G R x1 s0 σ) : sj_J G 123 me_X11_errors R 88 [.ref (sj_ad G 0), .int x1, .null] σ [.int s0] := by
  unfold wp_X11_errors_88 at h
  refine sj_istore_n dX11_errors_88 (i := 2) rfl (by decide) ?_
  refine sj_iload_n dX11_errors_89 (i := 1) rfl rfl ?_
  refine sj_aload_n dX11_errors_90 (i := 0) rfl rfl ?_
  refine sj_get (a := 0) (k9 := 2) (v := .ref (sj_ad G 6)) dX11_errors_91 (by decide +kernel) rfl ?_
  refine sj_aload_n dX11_errors_94 (i := 0) rfl rfl ?_
  refine sj_get (a := 0) (k9 := 0) (v := .ref (sj_ad G 1)) dX11_errors_95 (by decide +kernel) rfl ?_
  refine sj_get (a := 1) (k9 := 1) (v := .ref (sj_ad G 3)) dX11_errors_98 (by decide +kernel) rfl ?_
  obtain ⟨v1, σ1, hc1, h⟩ := h
  refine sj_callVi (M' := me_X7_isRight) (b := 6) (As := [.ref (sj_ad G 3)]) (rest := [.int x1]) dX11_errors_101 gX11_errors_X7_isRight rfl hd_X7_isRight (by decide +kernel) (by decide +kernel) rfl (Nat.le_of_ble_eq_true rfl) (by omega) rfl hc1 ?_
  refine sj_if_eq (tgt := 115) dX11_errors_104 (by decide) (fun c2 => ?_) (fun c2 => ?_)
  · refine sj_iconst (v := (nI 1)) dX11_errors_115 (by decide +kernel) ?_
    try simp only [if_pos c2] at h
    refine sj_fg [1, 2] ?_
    exact t_X11_errors_116 h
  · refine sj_iload_n dX11_errors_107 (i := 2) rfl rfl ?_
    refine sj_if_eq (tgt := 115) dX11_errors_108 (by decide) (fun c3 => ?_) (fun c3 => ?_)
    · refine sj_iconst (v := (nI 1)) dX11_errors_115 (by decide +kernel) ?_
      try simp only [if_neg c2, if_pos c3] at h
      refine sj_fg [1, 2] ?_
      exact t_X11_errors_116 h
    · refine sj_iconst (v := (nI 0)) dX11_errors_111 (by decide +kernel) ?_
      refine sj_goto (tgt := 116) dX11_errors_112 (by decide) ?_
      try simp only [if_neg c2, if_neg c3] at h
      refine sj_fg [1, 2] ?_
      exact t_X11_errors_116 h
def wp_X11_errors_87 (G : sj_G) (R : sj_R) (x1 : Int32) (σ : sj_S) : Prop := (wp_X11_errors_88 G R x1 (nI 0) σ)
set_option maxRecDepth 20000 in
theorem t_X11_errors_87 {G : sj_G} {R : sj_R} {x1 : Int32} {σ : sj_S} (h : wp_X11_errors_87 G R x1 σ) : sj_J G 123 me_X11_errors R 87 [.ref (sj_ad G 0), .int x1, .null] σ [] := by
  unfold wp_X11_errors_87 at h
  refine sj_iconst (v := (nI 0)) dX11_errors_87 (by decide +kernel) ?_
  exact t_X11_errors_88 h
def wp_X11_errors_0 (G : sj_G) (R : sj_R) (σ : sj_S) : Prop := ∃ v1 σ1, sj_C G 6 me_X1_sharedPairs [.ref (sj_ad G 39), .ref (sj_ad G 1)] σ (.ok v1, σ1) ∧ ∃ v2 σ2, sj_C G 42 me_X3_faults [.ref (sj_ad G 44), .ref (sj_ad G 1)] σ1 (.ok v2, σ2) ∧ ∃ v3 σ3, sj_C G 2 me_X8_hasTable [.ref (sj_ad G 1)] σ2 (.ok v3, σ3) ∧ (v3 = 0 → (wp_X11_errors_132 G R (v1 + v2) σ3)) ∧ (¬ (v3 = 0) → ∃ v6 σ6, sj_C G 3 me_X8_hardWishes [.ref (sj_ad G 1)] σ3 (.ok v6, σ6) ∧ ∃ σ7, sj_C G 5 me_X7_take [.ref (sj_ad G 6), .ref (sj_ad G 1), .int v6] σ6 (.ok 0, σ7) ∧ ∃ v8 σ8, sj_C G 122 me_X4_seekFirst [.ref (sj_ad G 30), .ref (sj_ad G 1)] σ7 (.ok v8, σ8) ∧ (v8 = 0 → (wp_X11_errors_87 G R (v1 + v2) σ8)) ∧ (¬ (v8 = 0) → ∃ v11 σ11, sj_C G 3 me_X8_tableIsAheadOf [.ref (sj_ad G 1), .ref (sj_ad G 31)] σ8 (.ok v11, σ11) ∧ (wp_X11_errors_88 G R (v1 + v2) (if v11 = 0 then (nI 1) else (nI 0)) σ11)))
set_option maxRecDepth 20000 in
theorem t_X11_errors_0 {G : sj_G} {R : sj_R} {σ : sj_S} (h : wp_X11_errors_0 G R σ) : sj_J G 123 me_X11_errors R 0 [.ref (sj_ad G 0), .null, .null] σ [] := by
  unfold wp_X11_errors_0 at h
  refine sj_aload_n dX11_errors_0 (i := 0) rfl rfl ?_
  refine sj_get (a := 0) (k9 := 5) (v := .ref (sj_ad G 39)) dX11_errors_1 (by decide +kernel) rfl ?_
  refine sj_aload_n dX11_errors_4 (i := 0) rfl rfl ?_
  refine sj_get (a := 0) (k9 := 0) (v := .ref (sj_ad G 1)) dX11_errors_5 (by decide +kernel) rfl ?_
  obtain ⟨v1, σ1, hc1, h⟩ := h
  refine sj_callVi (M' := me_X1_sharedPairs) (b := 39) (As := [.ref (sj_ad G 1)]) (rest := []) dX11_errors_8 gX11_errors_X1_sharedPairs rfl hd_X1_sharedPairs (by decide +kernel) (by decide +kernel) rfl (Nat.le_of_ble_eq_true rfl) (by omega) rfl hc1 ?_
  refine sj_aload_n dX11_errors_11 (i := 0) rfl rfl ?_
  refine sj_get (a := 0) (k9 := 7) (v := .ref (sj_ad G 44)) dX11_errors_12 (by decide +kernel) rfl ?_
  refine sj_aload_n dX11_errors_15 (i := 0) rfl rfl ?_
  refine sj_get (a := 0) (k9 := 0) (v := .ref (sj_ad G 1)) dX11_errors_16 (by decide +kernel) rfl ?_
  obtain ⟨v2, σ2, hc2, h⟩ := h
  refine sj_callVi (M' := me_X3_faults) (b := 44) (As := [.ref (sj_ad G 1)]) (rest := [.int v1]) dX11_errors_19 gX11_errors_X3_faults rfl hd_X3_faults (by decide +kernel) (by decide +kernel) rfl (Nat.le_of_ble_eq_true rfl) (by omega) rfl hc2 ?_
  refine sj_iadd dX11_errors_22 ?_
  refine sj_istore_n dX11_errors_23 (i := 1) rfl (by decide) ?_
  refine sj_aload_n dX11_errors_24 (i := 0) rfl rfl ?_
  refine sj_get (a := 0) (k9 := 0) (v := .ref (sj_ad G 1)) dX11_errors_25 (by decide +kernel) rfl ?_
  obtain ⟨v3, σ3, hc3, h⟩ := h
  refine sj_callVi (M' := me_X8_hasTable) (b := 1) (As := []) (rest := []) dX11_errors_28 gX11_errors_X8_hasTable rfl hd_X8_hasTable (by decide +kernel) (by decide +kernel) rfl (Nat.le_of_ble_eq_true rfl) (by omega) rfl hc3 ?_
  refine sj_if_eq (tgt := 132) dX11_errors_31 (by decide) (fun c5 => ?_) (fun c5 => ?_)
  · replace h := h.1 c5
    refine sj_fg [0] ?_
    exact t_X11_errors_132 h
  · replace h := h.2 c5
    refine sj_aload_n dX11_errors_34 (i := 0) rfl rfl ?_
    refine sj_get (a := 0) (k9 := 2) (v := .ref (sj_ad G 6)) dX11_errors_35 (by decide +kernel) rfl ?_
    refine sj_aload_n dX11_errors_38 (i := 0) rfl rfl ?_
    refine sj_get (a := 0) (k9 := 0) (v := .ref (sj_ad G 1)) dX11_errors_39 (by decide +kernel) rfl ?_
    refine sj_aload_n dX11_errors_42 (i := 0) rfl rfl ?_
    refine sj_get (a := 0) (k9 := 0) (v := .ref (sj_ad G 1)) dX11_errors_43 (by decide +kernel) rfl ?_
    obtain ⟨v6, σ6, hc6, h⟩ := h
    refine sj_callVi (M' := me_X8_hardWishes) (b := 1) (As := []) (rest := [.ref (sj_ad G 1), .ref (sj_ad G 6)]) dX11_errors_46 gX11_errors_X8_hardWishes rfl hd_X8_hardWishes (by decide +kernel) (by decide +kernel) rfl (Nat.le_of_ble_eq_true rfl) (by omega) rfl hc6 ?_
    obtain ⟨σ7, hc7, h⟩ := h
    refine sj_callVv (M' := me_X7_take) (b := 6) (As := [.ref (sj_ad G 1), .int v6]) (rest := []) dX11_errors_49 gX11_errors_X7_take rfl hd_X7_take (by decide +kernel) (by decide +kernel) rfl (Nat.le_of_ble_eq_true rfl) (by omega) rfl hc7 ?_
    refine sj_aload_n dX11_errors_52 (i := 0) rfl rfl ?_
    refine sj_get (a := 0) (k9 := 3) (v := .ref (sj_ad G 30)) dX11_errors_53 (by decide +kernel) rfl ?_
    refine sj_aload_n dX11_errors_56 (i := 0) rfl rfl ?_
    refine sj_get (a := 0) (k9 := 0) (v := .ref (sj_ad G 1)) dX11_errors_57 (by decide +kernel) rfl ?_
    obtain ⟨v8, σ8, hc8, h⟩ := h
    refine sj_callVi (M' := me_X4_seekFirst) (b := 30) (As := [.ref (sj_ad G 1)]) (rest := []) dX11_errors_60 gX11_errors_X4_seekFirst rfl hd_X4_seekFirst (by decide +kernel) (by decide +kernel) rfl (Nat.le_of_ble_eq_true rfl) (by omega) rfl hc8 ?_
    refine sj_if_eq (tgt := 87) dX11_errors_63 (by decide) (fun c10 => ?_) (fun c10 => ?_)
    · replace h := h.1 c10
      exact t_X11_errors_87 h
    · replace h := h.2 c10
      refine sj_aload_n dX11_errors_66 (i := 0) rfl rfl ?_
      refine sj_get (a := 0) (k9 := 0) (v := .ref (sj_ad G 1)) dX11_errors_67 (by decide +kernel) rfl ?_
      refine sj_aload_n dX11_errors_70 (i := 0) rfl rfl ?_
      refine sj_get (a := 0) (k9 := 3) (v := .ref (sj_ad G 30)) dX11_errors_71 (by decide +kernel) rfl ?_
      refine sj_get (a := 30) (k9 := 1) (v := .ref (sj_ad G 31)) dX11_errors_74 (by decide +kernel) rfl ?_
      obtain ⟨v11, σ11, hc11, h⟩ := h
      refine sj_callVi (M' := me_X8_tableIsAheadOf) (b := 1) (As := [.ref (sj_ad G 31)]) (rest := []) dX11_errors_77 gX11_errors_X8_tableIsAheadOf rfl hd_X8_tableIsAheadOf (by decide +kernel) (by decide +kernel) rfl (Nat.le_of_ble_eq_true rfl) (by omega) rfl hc11 ?_
      refine sj_if_ne (tgt := 87) dX11_errors_80 (by decide) (fun c12 => ?_) (fun c12 => ?_)
      · refine sj_iconst (v := (nI 0)) dX11_errors_87 (by decide +kernel) ?_
        try simp only [if_neg c12] at h
        exact t_X11_errors_88 h
      · refine sj_iconst (v := (nI 1)) dX11_errors_83 (by decide +kernel) ?_
        refine sj_goto (tgt := 88) dX11_errors_84 (by decide) ?_
        try simp only [if_pos c12] at h
        exact t_X11_errors_88 h
theorem c_X11_errors {G : sj_G} (ok : sj_ok G) {R : sj_R} {σ : sj_S} (h : wp_X11_errors_0 G R σ) : sj_C G 123 me_X11_errors [.ref (sj_ad G 0)] σ R :=
  sj_enter ok (by decide +kernel) rfl rfl (Nat.le_of_ble_eq_true rfl) (by simp [Value.category]) (t_X11_errors_0 h)
def wp_X11_beginChange_0 (G : sj_G) (R : sj_R) (σ : sj_S) : Prop := ∃ σ1, sj_C G 2 me_X5_keep [.ref (sj_ad G 4), .ref (sj_ad G 1)] σ (.ok 0, σ1) ∧ ∃ σ2, sj_C G 2 me_X4_forget [.ref (sj_ad G 30)] σ1 (.ok 0, σ2) ∧ R = (.ok 0, σ2)
set_option maxRecDepth 20000 in
theorem t_X11_beginChange_0 {G : sj_G} {R : sj_R} {σ : sj_S} (h : wp_X11_beginChange_0 G R σ) : sj_J G 3 me_X11_beginChange R 0 [.ref (sj_ad G 0)] σ [] := by
  unfold wp_X11_beginChange_0 at h
  refine sj_aload_n dX11_beginChange_0 (i := 0) rfl rfl ?_
  refine sj_get (a := 0) (k9 := 1) (v := .ref (sj_ad G 4)) dX11_beginChange_1 (by decide +kernel) rfl ?_
  refine sj_aload_n dX11_beginChange_4 (i := 0) rfl rfl ?_
  refine sj_get (a := 0) (k9 := 0) (v := .ref (sj_ad G 1)) dX11_beginChange_5 (by decide +kernel) rfl ?_
  obtain ⟨σ1, hc1, h⟩ := h
  refine sj_callVv (M' := me_X5_keep) (b := 4) (As := [.ref (sj_ad G 1)]) (rest := []) dX11_beginChange_8 gX11_beginChange_X5_keep rfl hd_X5_keep (by decide +kernel) (by decide +kernel) rfl (Nat.le_of_ble_eq_true rfl) (by omega) rfl hc1 ?_
  refine sj_aload_n dX11_beginChange_11 (i := 0) rfl rfl ?_
  refine sj_get (a := 0) (k9 := 3) (v := .ref (sj_ad G 30)) dX11_beginChange_12 (by decide +kernel) rfl ?_
  obtain ⟨σ2, hc2, h⟩ := h
  refine sj_callVv (M' := me_X4_forget) (b := 30) (As := []) (rest := []) dX11_beginChange_15 gX11_beginChange_X4_forget rfl hd_X4_forget (by decide +kernel) (by decide +kernel) rfl (Nat.le_of_ble_eq_true rfl) (by omega) rfl hc2 ?_
  subst h
  exact sj_vret dX11_beginChange_18 rfl
theorem c_X11_beginChange {G : sj_G} (ok : sj_ok G) {R : sj_R} {σ : sj_S} (h : wp_X11_beginChange_0 G R σ) : sj_C G 3 me_X11_beginChange [.ref (sj_ad G 0)] σ R :=
  sj_enter ok (by decide +kernel) rfl rfl (Nat.le_of_ble_eq_true rfl) (by simp [Value.category]) (t_X11_beginChange_0 h)
def wp_X11_requireRange_0 (G : sj_G) (R : sj_R) (x1 : Int32) (x2 : Int32) (σ : sj_S) : Prop := ((∃ σ1, sj_C G 9 me_X11_requireBetween [.ref (sj_ad G 0), .int x1, .int (nI 0), .int (x2 - (nI 1))] σ (.ok 0, σ1) ∧ R = (.ok 0, σ1)) ∨ (∃ k1 σ1, sj_C G 9 me_X11_requireBetween [.ref (sj_ad G 0), .int x1, .int (nI 0), .int (x2 - (nI 1))] σ (.error k1, σ1) ∧ R = (.error k1, σ1)))
set_option maxRecDepth 20000 in
theorem t_X11_requireRange_0 {G : sj_G} {R : sj_R} {x1 : Int32} {x2 : Int32} {σ : sj_S} (h : wp_X11_requireRange_0 G R x1 x2 σ) : sj_J G 10 me_X11_requireRange R 0 [.ref (sj_ad G 0), .int x1, .int x2] σ [] := by
  unfold wp_X11_requireRange_0 at h
  refine sj_aload_n dX11_requireRange_0 (i := 0) rfl rfl ?_
  refine sj_iload_n dX11_requireRange_1 (i := 1) rfl rfl ?_
  refine sj_iconst (v := (nI 0)) dX11_requireRange_2 (by decide +kernel) ?_
  refine sj_iload_n dX11_requireRange_3 (i := 2) rfl rfl ?_
  refine sj_iconst (v := (nI 1)) dX11_requireRange_4 (by decide +kernel) ?_
  refine sj_isub dX11_requireRange_5 ?_
  rcases h with ⟨σ1, hc1, h⟩ | ⟨k1, σ1, hc1, h⟩
  · refine sj_callVv (M' := me_X11_requireBetween) (b := 0) (As := [.int x1, .int (nI 0), .int (x2 - (nI 1))]) (rest := []) dX11_requireRange_6 gX11_requireRange_X11_requireBetween rfl hd_X11_requireBetween (by decide +kernel) (by decide +kernel) rfl (Nat.le_of_ble_eq_true rfl) (by omega) rfl hc1 ?_
    subst h
    exact sj_vret dX11_requireRange_9 rfl
  · subst h
    exact sj_callVx (M' := me_X11_requireBetween) (b := 0) (As := [.int x1, .int (nI 0), .int (x2 - (nI 1))]) (rest := []) dX11_requireRange_6 gX11_requireRange_X11_requireBetween rfl hd_X11_requireBetween (by decide +kernel) (by decide +kernel) rfl (Nat.le_of_ble_eq_true rfl) (by omega) hc1
theorem c_X11_requireRange {G : sj_G} (ok : sj_ok G) {R : sj_R} {x1 : Int32} {x2 : Int32} {σ : sj_S} (h : wp_X11_requireRange_0 G R x1 x2 σ) : sj_C G 10 me_X11_requireRange [.ref (sj_ad G 0), .int x1, .int x2] σ R :=
  sj_enter ok (by decide +kernel) rfl rfl (Nat.le_of_ble_eq_true rfl) (by simp [Value.category]) (t_X11_requireRange_0 h)
def wp_X11_requireBetween_10 (G : sj_G) (R : sj_R) (σ : sj_S) : Prop := R = (.error 1, σ)
set_option maxRecDepth 20000 in
theorem t_X11_requireBetween_10 {G : sj_G} {R : sj_R} {σ : sj_S} (h : wp_X11_requireBetween_10 G R σ) : sj_J G 9 me_X11_requireBetween R 10 [.null, .null, .null, .null] σ [] := by
  unfold wp_X11_requireBetween_10 at h
  subst h
  exact sj_throwSW (k9 := 1) (text := "a number is out of range") dX11_requireBetween_10 dX11_requireBetween_13 dX11_requireBetween_14 dX11_requireBetween_17 dX11_requireBetween_20 rfl (by decide +kernel) (by decide +kernel) (by decide +kernel) (by decide +kernel) (by decide +kernel) (by decide) (Nat.le_of_ble_eq_true rfl)
def wp_X11_requireBetween_0 (G : sj_G) (R : sj_R) (x1 : Int32) (x2 : Int32) (x3 : Int32) (σ : sj_S) : Prop := (x1 < x2 → (wp_X11_requireBetween_10 G R σ)) ∧ (¬ (x1 < x2) → (x1 ≤ x3 → R = (.ok 0, σ)) ∧ (¬ (x1 ≤ x3) → (wp_X11_requireBetween_10 G R σ)))
set_option maxRecDepth 20000 in
theorem t_X11_requireBetween_0 {G : sj_G} {R : sj_R} {x1 : Int32} {x2 : Int32} {x3 : Int32} {σ : sj_S} (h : wp_X11_requireBetween_0 G R x1 x2 x3 σ) : sj_J G 9 me_X11_requireBetween R 0 [.ref (sj_ad G 0), .int x1, .int x2, .int x3] σ [] := by
  unfold wp_X11_requireBetween_0 at h
  refine sj_iload_n dX11_requireBetween_0 (i := 1) rfl rfl ?_
  refine sj_iload_n dX11_requireBetween_1 (i := 2) rfl rfl ?_
  refine sj_icmp_lt (tgt := 10) dX11_requireBetween_2 (by decide) (fun c1 => ?_) (fun c1 => ?_)
  · replace h := h.1 c1
    refine sj_fg [0, 1, 2, 3] ?_
    exact t_X11_requireBetween_10 h
  · replace h := h.2 c1
    refine sj_iload_n dX11_requireBetween_5 (i := 1) rfl rfl ?_
    refine sj_iload_n dX11_requireBetween_6 (i := 3) rfl rfl ?_
    refine sj_icmp_le (tgt := 21) dX11_requireBetween_7 (by decide) (fun c2 => ?_) (fun c2 => ?_)
    · replace h := h.1 c2
      subst h
      exact sj_vret dX11_requireBetween_21 rfl
    · replace h := h.2 c2
      refine sj_fg [0, 1, 2, 3] ?_
      exact t_X11_requireBetween_10 h
theorem c_X11_requireBetween {G : sj_G} (ok : sj_ok G) {R : sj_R} {x1 : Int32} {x2 : Int32} {x3 : Int32} {σ : sj_S} (h : wp_X11_requireBetween_0 G R x1 x2 x3 σ) : sj_C G 9 me_X11_requireBetween [.ref (sj_ad G 0), .int x1, .int x2, .int x3] σ R :=
  sj_enter ok (by decide +kernel) rfl rfl (Nat.le_of_ble_eq_true rfl) (by simp [Value.category]) (t_X11_requireBetween_0 h)
def wp_X11_requirePerson_12 (G : sj_G) (R : sj_R) (s0 : Int32) (s1 : Int32) (σ : sj_S) : Prop := ((∃ σ1, sj_C G 10 me_X11_requireRange [.ref (sj_ad G 0), .int s1, .int s0] σ (.ok 0, σ1) ∧ R = (.ok 0, σ1)) ∨ (∃ k1 σ1, sj_C G 10 me_X11_requireRange [.ref (sj_ad G 0), .int s1, .int s0] σ (.error k1, σ1) ∧ R = (.error k1, σ1)))
set_option maxRecDepth 20000 in
theorem t_X11_requirePerson_12 {G : sj_G} {R : sj_R} {s0 : Int32} {s1 : Int32} {σ : sj_S} (h : wp_X11_requirePerson_12 G R s0 s1 σ) : sj_J G 11 me_X11_requirePerson R 12 [.null, .null, .null] σ [.int s0, .int s1, .ref (sj_ad G 0)] := by
  unfold wp_X11_requirePerson_12 at h
  rcases h with ⟨σ1, hc1, h⟩ | ⟨k1, σ1, hc1, h⟩
  · refine sj_callVv (M' := me_X11_requireRange) (b := 0) (As := [.int s1, .int s0]) (rest := []) dX11_requirePerson_12 gX11_requirePerson_X11_requireRange rfl hd_X11_requireRange (by decide +kernel) (by decide +kernel) rfl (Nat.le_of_ble_eq_true rfl) (by omega) rfl hc1 ?_
    subst h
    exact sj_vret dX11_requirePerson_15 rfl
  · subst h
    exact sj_callVx (M' := me_X11_requireRange) (b := 0) (As := [.int s1, .int s0]) (rest := []) dX11_requirePerson_12 gX11_requirePerson_X11_requireRange rfl hd_X11_requireRange (by decide +kernel) (by decide +kernel) rfl (Nat.le_of_ble_eq_true rfl) (by omega) hc1
def wp_X11_requirePerson_0 (G : sj_G) (R : sj_R) (x1 : Int32) (x2 : Int32) (σ : sj_S) : Prop := (wp_X11_requirePerson_12 G R (if x1 = 0 then (nI 4) else (nI 6)) x2 σ)
set_option maxRecDepth 20000 in
theorem t_X11_requirePerson_0 {G : sj_G} {R : sj_R} {x1 : Int32} {x2 : Int32} {σ : sj_S} (h : wp_X11_requirePerson_0 G R x1 x2 σ) : sj_J G 11 me_X11_requirePerson R 0 [.ref (sj_ad G 0), .int x1, .int x2] σ [] := by
  unfold wp_X11_requirePerson_0 at h
  refine sj_aload_n dX11_requirePerson_0 (i := 0) rfl rfl ?_
  refine sj_iload_n dX11_requirePerson_1 (i := 2) rfl rfl ?_
  refine sj_iload_n dX11_requirePerson_2 (i := 1) rfl rfl ?_
  refine sj_if_eq (tgt := 11) dX11_requirePerson_3 (by decide) (fun c1 => ?_) (fun c1 => ?_)
  · refine sj_iconst (v := (nI 4)) dX11_requirePerson_11 (by decide +kernel) ?_
    try simp only [if_pos c1] at h
    refine sj_fg [0, 1, 2] ?_
    exact t_X11_requirePerson_12 h
  · refine sj_bipush (v := (nI 6)) dX11_requirePerson_6 (by decide +kernel) ?_
    refine sj_goto (tgt := 12) dX11_requirePerson_8 (by decide) ?_
    try simp only [if_neg c1] at h
    refine sj_fg [0, 1, 2] ?_
    exact t_X11_requirePerson_12 h
theorem c_X11_requirePerson {G : sj_G} (ok : sj_ok G) {R : sj_R} {x1 : Int32} {x2 : Int32} {σ : sj_S} (h : wp_X11_requirePerson_0 G R x1 x2 σ) : sj_C G 11 me_X11_requirePerson [.ref (sj_ad G 0), .int x1, .int x2] σ R :=
  sj_enter ok (by decide +kernel) rfl rfl (Nat.le_of_ble_eq_true rfl) (by simp [Value.category]) (t_X11_requirePerson_0 h)
def wp_X11_requireLesson_15 (G : sj_G) (R : sj_R) (σ : sj_S) : Prop := R = (.error 3, σ)
set_option maxRecDepth 20000 in
theorem t_X11_requireLesson_15 {G : sj_G} {R : sj_R} {σ : sj_S} (h : wp_X11_requireLesson_15 G R σ) : sj_J G 9 me_X11_requireLesson R 15 [.null, .null] σ [] := by
  unfold wp_X11_requireLesson_15 at h
  subst h
  exact sj_throwSW (k9 := 3) (text := "there is no such lesson") dX11_requireLesson_15 dX11_requireLesson_18 dX11_requireLesson_19 dX11_requireLesson_22 dX11_requireLesson_25 rfl (by decide +kernel) (by decide +kernel) (by decide +kernel) (by decide +kernel) (by decide +kernel) (by decide) (Nat.le_of_ble_eq_true rfl)
def wp_X11_requireLesson_0 (G : sj_G) (R : sj_R) (x1 : Int32) (σ : sj_S) : Prop := (x1 < 0 → (wp_X11_requireLesson_15 G R σ)) ∧ (¬ (x1 < 0) → ∃ v2 σ2, sj_C G 2 me_X8_lessonTotal [.ref (sj_ad G 1)] σ (.ok v2, σ2) ∧ (x1 < v2 → R = (.ok 0, σ2)) ∧ (¬ (x1 < v2) → (wp_X11_requireLesson_15 G R σ2)))
set_option maxRecDepth 20000 in
theorem t_X11_requireLesson_0 {G : sj_G} {R : sj_R} {x1 : Int32} {σ : sj_S} (h : wp_X11_requireLesson_0 G R x1 σ) : sj_J G 9 me_X11_requireLesson R 0 [.ref (sj_ad G 0), .int x1] σ [] := by
  unfold wp_X11_requireLesson_0 at h
  refine sj_iload_n dX11_requireLesson_0 (i := 1) rfl rfl ?_
  refine sj_if_lt (tgt := 15) dX11_requireLesson_1 (by decide) (fun c1 => ?_) (fun c1 => ?_)
  · replace h := h.1 c1
    refine sj_fg [0, 1] ?_
    exact t_X11_requireLesson_15 h
  · replace h := h.2 c1
    refine sj_iload_n dX11_requireLesson_4 (i := 1) rfl rfl ?_
    refine sj_aload_n dX11_requireLesson_5 (i := 0) rfl rfl ?_
    refine sj_get (a := 0) (k9 := 0) (v := .ref (sj_ad G 1)) dX11_requireLesson_6 (by decide +kernel) rfl ?_
    obtain ⟨v2, σ2, hc2, h⟩ := h
    refine sj_callVi (M' := me_X8_lessonTotal) (b := 1) (As := []) (rest := [.int x1]) dX11_requireLesson_9 gX11_requireLesson_X8_lessonTotal rfl hd_X8_lessonTotal (by decide +kernel) (by decide +kernel) rfl (Nat.le_of_ble_eq_true rfl) (by omega) rfl hc2 ?_
    refine sj_icmp_lt (tgt := 26) dX11_requireLesson_12 (by decide) (fun c3 => ?_) (fun c3 => ?_)
    · replace h := h.1 c3
      subst h
      exact sj_vret dX11_requireLesson_26 rfl
    · replace h := h.2 c3
      refine sj_fg [0, 1] ?_
      exact t_X11_requireLesson_15 h
theorem c_X11_requireLesson {G : sj_G} (ok : sj_ok G) {R : sj_R} {x1 : Int32} {σ : sj_S} (h : wp_X11_requireLesson_0 G R x1 σ) : sj_C G 9 me_X11_requireLesson [.ref (sj_ad G 0), .int x1] σ R :=
  sj_enter ok (by decide +kernel) rfl rfl (Nat.le_of_ble_eq_true rfl) (by simp [Value.category]) (t_X11_requireLesson_0 h)
def wp_X11_requireWish_15 (G : sj_G) (R : sj_R) (σ : sj_S) : Prop := R = (.error 3, σ)
set_option maxRecDepth 20000 in
theorem t_X11_requireWish_15 {G : sj_G} {R : sj_R} {σ : sj_S} (h : wp_X11_requireWish_15 G R σ) : sj_J G 9 me_X11_requireWish R 15 [.null, .null] σ [] := by
  unfold wp_X11_requireWish_15 at h
  subst h
  exact sj_throwSW (k9 := 3) (text := "there is no such wish") dX11_requireWish_15 dX11_requireWish_18 dX11_requireWish_19 dX11_requireWish_22 dX11_requireWish_25 rfl (by decide +kernel) (by decide +kernel) (by decide +kernel) (by decide +kernel) (by decide +kernel) (by decide) (Nat.le_of_ble_eq_true rfl)
def wp_X11_requireWish_0 (G : sj_G) (R : sj_R) (x1 : Int32) (σ : sj_S) : Prop := (x1 < 0 → (wp_X11_requireWish_15 G R σ)) ∧ (¬ (x1 < 0) → ∃ v2 σ2, sj_C G 2 me_X8_wishTotal [.ref (sj_ad G 1)] σ (.ok v2, σ2) ∧ (x1 < v2 → R = (.ok 0, σ2)) ∧ (¬ (x1 < v2) → (wp_X11_requireWish_15 G R σ2)))
set_option maxRecDepth 20000 in
theorem t_X11_requireWish_0 {G : sj_G} {R : sj_R} {x1 : Int32} {σ : sj_S} (h : wp_X11_requireWish_0 G R x1 σ) : sj_J G 9 me_X11_requireWish R 0 [.ref (sj_ad G 0), .int x1] σ [] := by
  unfold wp_X11_requireWish_0 at h
  refine sj_iload_n dX11_requireWish_0 (i := 1) rfl rfl ?_
  refine sj_if_lt (tgt := 15) dX11_requireWish_1 (by decide) (fun c1 => ?_) (fun c1 => ?_)
  · replace h := h.1 c1
    refine sj_fg [0, 1] ?_
    exact t_X11_requireWish_15 h
  · replace h := h.2 c1
    refine sj_iload_n dX11_requireWish_4 (i := 1) rfl rfl ?_
    refine sj_aload_n dX11_requireWish_5 (i := 0) rfl rfl ?_
    refine sj_get (a := 0) (k9 := 0) (v := .ref (sj_ad G 1)) dX11_requireWish_6 (by decide +kernel) rfl ?_
    obtain ⟨v2, σ2, hc2, h⟩ := h
    refine sj_callVi (M' := me_X8_wishTotal) (b := 1) (As := []) (rest := [.int x1]) dX11_requireWish_9 gX11_requireWish_X8_wishTotal rfl hd_X8_wishTotal (by decide +kernel) (by decide +kernel) rfl (Nat.le_of_ble_eq_true rfl) (by omega) rfl hc2 ?_
    refine sj_icmp_lt (tgt := 26) dX11_requireWish_12 (by decide) (fun c3 => ?_) (fun c3 => ?_)
    · replace h := h.1 c3
      subst h
      exact sj_vret dX11_requireWish_26 rfl
    · replace h := h.2 c3
      refine sj_fg [0, 1] ?_
      exact t_X11_requireWish_15 h
theorem c_X11_requireWish {G : sj_G} (ok : sj_ok G) {R : sj_R} {x1 : Int32} {σ : sj_S} (h : wp_X11_requireWish_0 G R x1 σ) : sj_C G 9 me_X11_requireWish [.ref (sj_ad G 0), .int x1] σ R :=
  sj_enter ok (by decide +kernel) rfl rfl (Nat.le_of_ble_eq_true rfl) (by simp [Value.category]) (t_X11_requireWish_0 h)
def wp_X11_requireTable_0 (G : sj_G) (R : sj_R) (σ : sj_S) : Prop := ∃ v1 σ1, sj_C G 2 me_X8_hasTable [.ref (sj_ad G 1)] σ (.ok v1, σ1) ∧ (¬ v1 = 0 → R = (.ok 0, σ1)) ∧ (v1 = 0 → R = (.error 2, σ1))
set_option maxRecDepth 20000 in
theorem t_X11_requireTable_0 {G : sj_G} {R : sj_R} {σ : sj_S} (h : wp_X11_requireTable_0 G R σ) : sj_J G 9 me_X11_requireTable R 0 [.ref (sj_ad G 0)] σ [] := by
  unfold wp_X11_requireTable_0 at h
  refine sj_aload_n dX11_requireTable_0 (i := 0) rfl rfl ?_
  refine sj_get (a := 0) (k9 := 0) (v := .ref (sj_ad G 1)) dX11_requireTable_1 (by decide +kernel) rfl ?_
  obtain ⟨v1, σ1, hc1, h⟩ := h
  refine sj_callVi (M' := me_X8_hasTable) (b := 1) (As := []) (rest := []) dX11_requireTable_4 gX11_requireTable_X8_hasTable rfl hd_X8_hasTable (by decide +kernel) (by decide +kernel) rfl (Nat.le_of_ble_eq_true rfl) (by omega) rfl hc1 ?_
  refine sj_if_ne (tgt := 21) dX11_requireTable_7 (by decide) (fun c2 => ?_) (fun c2 => ?_)
  · replace h := h.1 c2
    subst h
    exact sj_vret dX11_requireTable_21 rfl
  · replace h := h.2 c2
    subst h
    exact sj_throwSW (k9 := 2) (text := "there is no present table") dX11_requireTable_10 dX11_requireTable_13 dX11_requireTable_14 dX11_requireTable_17 dX11_requireTable_20 rfl (by decide +kernel) (by decide +kernel) (by decide +kernel) (by decide +kernel) (by decide +kernel) (by decide) (Nat.le_of_ble_eq_true rfl)
theorem c_X11_requireTable {G : sj_G} (ok : sj_ok G) {R : sj_R} {σ : sj_S} (h : wp_X11_requireTable_0 G R σ) : sj_C G 9 me_X11_requireTable [.ref (sj_ad G 0)] σ R :=
  sj_enter ok (by decide +kernel) rfl rfl (Nat.le_of_ble_eq_true rfl) (by simp [Value.category]) (t_X11_requireTable_0 h)
def wp_X11_requireDate_0 (G : sj_G) (R : sj_R) (x1 : Int32) (σ : sj_S) : Prop := ∃ v1 σ1, sj_C G 3 me_X10_isDate [.ref (sj_ad G 50), .int x1] σ (.ok v1, σ1) ∧ (¬ v1 = 0 → ∃ v3 σ3, sj_C G 2 me_X10_serialOf [.ref (sj_ad G 50), .int x1] σ1 (.ok v3, σ3) ∧ R = (.ok v3, σ3)) ∧ (v1 = 0 → R = (.error 1, σ1))
set_option maxRecDepth 20000 in
theorem t_X11_requireDate_0 {G : sj_G} {R : sj_R} {x1 : Int32} {σ : sj_S} (h : wp_X11_requireDate_0 G R x1 σ) : sj_J G 9 me_X11_requireDate R 0 [.ref (sj_ad G 0), .int x1] σ [] := by
  unfold wp_X11_requireDate_0 at h
  refine sj_aload_n dX11_requireDate_0 (i := 0) rfl rfl ?_
  refine sj_get (a := 0) (k9 := 9) (v := .ref (sj_ad G 50)) dX11_requireDate_1 (by decide +kernel) rfl ?_
  refine sj_iload_n dX11_requireDate_4 (i := 1) rfl rfl ?_
  obtain ⟨v1, σ1, hc1, h⟩ := h
  refine sj_callVi (M' := me_X10_isDate) (b := 50) (As := [.int x1]) (rest := []) dX11_requireDate_5 gX11_requireDate_X10_isDate rfl hd_X10_isDate (by decide +kernel) (by decide +kernel) rfl (Nat.le_of_ble_eq_true rfl) (by omega) rfl hc1 ?_
  refine sj_if_ne (tgt := 22) dX11_requireDate_8 (by decide) (fun c2 => ?_) (fun c2 => ?_)
  · replace h := h.1 c2
    refine sj_aload_n dX11_requireDate_22 (i := 0) rfl rfl ?_
    refine sj_get (a := 0) (k9 := 9) (v := .ref (sj_ad G 50)) dX11_requireDate_23 (by decide +kernel) rfl ?_
    refine sj_iload_n dX11_requireDate_26 (i := 1) rfl rfl ?_
    obtain ⟨v3, σ3, hc3, h⟩ := h
    refine sj_callVi (M' := me_X10_serialOf) (b := 50) (As := [.int x1]) (rest := []) dX11_requireDate_27 gX11_requireDate_X10_serialOf rfl hd_X10_serialOf (by decide +kernel) (by decide +kernel) rfl (Nat.le_of_ble_eq_true rfl) (by omega) rfl hc3 ?_
    subst h
    exact sj_ret dX11_requireDate_30 rfl rfl
  · replace h := h.2 c2
    subst h
    exact sj_throwSW (k9 := 1) (text := "the number is no date of these years") dX11_requireDate_11 dX11_requireDate_14 dX11_requireDate_15 dX11_requireDate_18 dX11_requireDate_21 rfl (by decide +kernel) (by decide +kernel) (by decide +kernel) (by decide +kernel) (by decide +kernel) (by decide) (Nat.le_of_ble_eq_true rfl)
theorem c_X11_requireDate {G : sj_G} (ok : sj_ok G) {R : sj_R} {x1 : Int32} {σ : sj_S} (h : wp_X11_requireDate_0 G R x1 σ) : sj_C G 9 me_X11_requireDate [.ref (sj_ad G 0), .int x1] σ R :=
  sj_enter ok (by decide +kernel) rfl rfl (Nat.le_of_ble_eq_true rfl) (by simp [Value.category]) (t_X11_requireDate_0 h)
