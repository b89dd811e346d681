abbrev me_L_lesson : sj_M := (yL_lesson, RL, cL_lesson, 8, wsL_lesson, some .int)
theorem hd_L_lesson : sj_hd me_L_lesson 7 = true := by decide +kernel
abbrev me_L_dropLesson : sj_M := (yL_dropLesson, RL, cL_dropLesson, 4, wsL_dropLesson, some .int)
theorem hd_L_dropLesson : sj_hd me_L_dropLesson 3 = true := by decide +kernel
abbrev me_L_lessonOf : sj_M := (yL_lessonOf, RL, cL_lessonOf, 5, wsL_lessonOf, some .int)
theorem hd_L_lessonOf : sj_hd me_L_lessonOf 4 = true := by decide +kernel
abbrev me_L_setSubjects : sj_M := (yL_setSubjects, RL, cL_setSubjects, 5, wsL_setSubjects, some .int)
theorem hd_L_setSubjects : sj_hd me_L_setSubjects 4 = true := by decide +kernel
abbrev me_L_setRooms : sj_M := (yL_setRooms, RL, cL_setRooms, 5, wsL_setRooms, some .int)
theorem hd_L_setRooms : sj_hd me_L_setRooms 4 = true := by decide +kernel
abbrev me_L_wish : sj_M := (yL_wish, RL, cL_wish, 7, wsL_wish, some .int)
theorem hd_L_wish : sj_hd me_L_wish 6 = true := by decide +kernel
abbrev me_L_dropWish : sj_M := (yL_dropWish, RL, cL_dropWish, 4, wsL_dropWish, some .int)
theorem hd_L_dropWish : sj_hd me_L_dropWish 3 = true := by decide +kernel
abbrev me_L_wishOf : sj_M := (yL_wishOf, RL, cL_wishOf, 5, wsL_wishOf, some .int)
theorem hd_L_wishOf : sj_hd me_L_wishOf 4 = true := by decide +kernel
abbrev me_L_proofAt : sj_M := (yL_proofAt, RL, cL_proofAt, 4, wsL_proofAt, some .int)
theorem hd_L_proofAt : sj_hd me_L_proofAt 3 = true := by decide +kernel
abbrev me_L_slotOf : sj_M := (yL_slotOf, RL, cL_slotOf, 4, wsL_slotOf, some .int)
theorem hd_L_slotOf : sj_hd me_L_slotOf 3 = true := by decide +kernel
abbrev me_L_lessonAt : sj_M := (yL_lessonAt, RL, cL_lessonAt, 6, wsL_lessonAt, some .int)
theorem hd_L_lessonAt : sj_hd me_L_lessonAt 5 = true := by decide +kernel
abbrev me_L_roomOf : sj_M := (yL_roomOf, RL, cL_roomOf, 4, wsL_roomOf, some .int)
theorem hd_L_roomOf : sj_hd me_L_roomOf 3 = true := by decide +kernel
abbrev me_L_choices : sj_M := (yL_choices, RL, cL_choices, 4, wsL_choices, some .int)
theorem hd_L_choices : sj_hd me_L_choices 3 = true := by decide +kernel
abbrev me_L_move : sj_M := (yL_move, RL, cL_move, 5, wsL_move, some .int)
theorem hd_L_move : sj_hd me_L_move 4 = true := by decide +kernel
abbrev me_L_holds : sj_M := (yL_holds, RL, cL_holds, 4, wsL_holds, some .int)
theorem hd_L_holds : sj_hd me_L_holds 3 = true := by decide +kernel
abbrev me_L_cost : sj_M := (yL_cost, RL, cL_cost, 3, wsL_cost, some .int)
theorem hd_L_cost : sj_hd me_L_cost 2 = true := by decide +kernel
abbrev me_L_gaps : sj_M := (yL_gaps, RL, cL_gaps, 5, wsL_gaps, some .int)
theorem hd_L_gaps : sj_hd me_L_gaps 4 = true := by decide +kernel
abbrev me_L_improve : sj_M := (yL_improve, RL, cL_improve, 3, wsL_improve, some .int)
theorem hd_L_improve : sj_hd me_L_improve 2 = true := by decide +kernel
abbrev me_L_colour : sj_M := (yL_colour, RL, cL_colour, 4, wsL_colour, some .int)
theorem hd_L_colour : sj_hd me_L_colour 3 = true := by decide +kernel
abbrev me_L_setIll : sj_M := (yL_setIll, RL, cL_setIll, 6, wsL_setIll, some .int)
theorem hd_L_setIll : sj_hd me_L_setIll 5 = true := by decide +kernel
abbrev me_L_ill : sj_M := (yL_ill, RL, cL_ill, 5, wsL_ill, some .int)
theorem hd_L_ill : sj_hd me_L_ill 4 = true := by decide +kernel
abbrev me_L_substitute : sj_M := (yL_substitute, RL, cL_substitute, 5, wsL_substitute, some .int)
theorem hd_L_substitute : sj_hd me_L_substitute 4 = true := by decide +kernel
abbrev me_L_takes : sj_M := (yL_takes, RL, cL_takes, 4, wsL_takes, some .int)
theorem hd_L_takes : sj_hd me_L_takes 3 = true := by decide +kernel
abbrev me_L_setApart : sj_M := (yL_setApart, RL, cL_setApart, 6, wsL_setApart, some .int)
theorem hd_L_setApart : sj_hd me_L_setApart 5 = true := by decide +kernel
abbrev me_L_examDay : sj_M := (yL_examDay, RL, cL_examDay, 4, wsL_examDay, some .int)
theorem hd_L_examDay : sj_hd me_L_examDay 3 = true := by decide +kernel
abbrev me_L_setBells : sj_M := (yL_setBells, RL, cL_setBells, 7, wsL_setBells, some .int)
theorem hd_L_setBells : sj_hd me_L_setBells 6 = true := by decide +kernel
abbrev me_L_bell : sj_M := (yL_bell, RL, cL_bell, 5, wsL_bell, some .int)
theorem hd_L_bell : sj_hd me_L_bell 4 = true := by decide +kernel
abbrev me_L_slotAt : sj_M := (yL_slotAt, RL, cL_slotAt, 5, wsL_slotAt, some .int)
theorem hd_L_slotAt : sj_hd me_L_slotAt 4 = true := by decide +kernel
abbrev me_L_setYear : sj_M := (yL_setYear, RL, cL_setYear, 4, wsL_setYear, some .int)
theorem hd_L_setYear : sj_hd me_L_setYear 3 = true := by decide +kernel
abbrev me_L_holiday : sj_M := (yL_holiday, RL, cL_holiday, 5, wsL_holiday, some .int)
theorem hd_L_holiday : sj_hd me_L_holiday 4 = true := by decide +kernel
abbrev me_L_dateOf : sj_M := (yL_dateOf, RL, cL_dateOf, 4, wsL_dateOf, some .int)
theorem hd_L_dateOf : sj_hd me_L_dateOf 3 = true := by decide +kernel
abbrev me_L_numberOf : sj_M := (yL_numberOf, RL, cL_numberOf, 4, wsL_numberOf, some .int)
theorem hd_L_numberOf : sj_hd me_L_numberOf 3 = true := by decide +kernel
abbrev me_L_nextDay : sj_M := (yL_nextDay, RL, cL_nextDay, 4, wsL_nextDay, some .int)
theorem hd_L_nextDay : sj_hd me_L_nextDay 3 = true := by decide +kernel
abbrev me_L_weekOf : sj_M := (yL_weekOf, RL, cL_weekOf, 5, wsL_weekOf, some .int)
theorem hd_L_weekOf : sj_hd me_L_weekOf 4 = true := by decide +kernel
abbrev me_L_dayOfWeek : sj_M := (yL_dayOfWeek, RL, cL_dayOfWeek, 4, wsL_dayOfWeek, some .int)
theorem hd_L_dayOfWeek : sj_hd me_L_dayOfWeek 3 = true := by decide +kernel
abbrev me_L_later : sj_M := (yL_later, RL, cL_later, 5, wsL_later, some .int)
theorem hd_L_later : sj_hd me_L_later 4 = true := by decide +kernel
abbrev me_L_lostLessons : sj_M := (yL_lostLessons, RL, cL_lostLessons, 4, wsL_lostLessons, some .int)
theorem hd_L_lostLessons : sj_hd me_L_lostLessons 3 = true := by decide +kernel
abbrev me_L_append : sj_M := (yL_append, RL, cL_append, 8, wsL_append, some .int)
theorem hd_L_append : sj_hd me_L_append 7 = true := by decide +kernel
abbrev me_L_read : sj_M := (yL_read, RL, cL_read, 3, wsL_read, some .int)
theorem hd_L_read : sj_hd me_L_read 2 = true := by decide +kernel
abbrev me_L_write : sj_M := (yL_write, RL, cL_write, 3, wsL_write, some .int)
theorem hd_L_write : sj_hd me_L_write 2 = true := by decide +kernel
abbrev me_L_writtenAt : sj_M := (yL_writtenAt, RL, cL_writtenAt, 4, wsL_writtenAt, some .int)
theorem hd_L_writtenAt : sj_hd me_L_writtenAt 3 = true := by decide +kernel
section LW
variable {G : sj_G} {q : lG} {σ σ1 : sj_S} {f : Nat → Int64} {g : Nat → UInt64} {Rc : Except Nat Int32}
theorem dL_lesson_0 : decode cL_lesson 0 = .ok (.aload 6, 2) := by decide +kernel
theorem dL_lesson_2 : decode cL_lesson 2 = .ok (.iconst 0, 1) := by decide +kernel
theorem dL_lesson_3 : decode cL_lesson 3 = .ok (.aload_n 0, 1) := by decide +kernel
theorem dL_lesson_4 : decode cL_lesson 4 = .ok (.iload_n 1, 1) := by decide +kernel
theorem dL_lesson_5 : decode cL_lesson 5 = .ok (.iload_n 2, 1) := by decide +kernel
theorem dL_lesson_6 : decode cL_lesson 6 = .ok (.iload_n 3, 1) := by decide +kernel
theorem dL_lesson_7 : decode cL_lesson 7 = .ok (.iload 4, 2) := by decide +kernel
theorem dL_lesson_9 : decode cL_lesson 9 = .ok (.iload 5, 2) := by decide +kernel
theorem dL_lesson_11 : decode cL_lesson 11 = .ok (.invokevirtual 7, 3) := by decide +kernel
theorem dL_lesson_14 : decode cL_lesson 14 = .ok (.i2l, 1) := by decide +kernel
theorem dL_lesson_15 : decode cL_lesson 15 = .ok (.lastore, 1) := by decide +kernel
theorem dL_lesson_16 : decode cL_lesson 16 = .ok (.goto 11, 3) := by decide +kernel
theorem dL_lesson_19 : decode cL_lesson 19 = .ok (.astore 7, 2) := by decide +kernel
theorem dL_lesson_21 : decode cL_lesson 21 = .ok (.iconst 1, 1) := by decide +kernel
theorem dL_lesson_22 : decode cL_lesson 22 = .ok (.ireturn, 1) := by decide +kernel
theorem dL_lesson_23 : decode cL_lesson 23 = .ok (.astore 7, 2) := by decide +kernel
theorem dL_lesson_25 : decode cL_lesson 25 = .ok (.iconst 2, 1) := by decide +kernel
theorem dL_lesson_26 : decode cL_lesson 26 = .ok (.ireturn, 1) := by decide +kernel
theorem dL_lesson_27 : decode cL_lesson 27 = .ok (.iconst 0, 1) := by decide +kernel
theorem dL_lesson_28 : decode cL_lesson 28 = .ok (.ireturn, 1) := by decide +kernel
set_option maxRecDepth 20000 in
theorem lm_lesson (ok : sj_ok G) (hq : lok G q) {x1 x2 x3 x4 x5 : Int32} (hc : sj_C G 11 me_X11_lesson [.ref (sj_ad G 0), .int x1, .int x2, .int x3, .int x4, .int x5] σ (Rc, σ1)) (hr : ∀ k, Rc = .error k → 0 < k ∧ (k = 1 ∨ k = 2 ∨ k = 0)) : lj_C G q me_L_lesson [.ref (sj_ad G 0), .int x1, .int x2, .int x3, .int x4, .int x5, .ref q.1] σ f g (lr (zcd 1 2 0) Rc) σ1 (lf Rc f) g := by
  refine lj_enter (hh := [(0, 16, 19, 13), (0, 16, 23, 15)]) ok (by decide +kernel) rfl rfl (Nat.le_of_ble_eq_true rfl) (by simp [Value.category]) (fun p e s m args below meth c htab hT hN => ?_)
  refine tj_aload dL_lesson_0 rfl ?_
  refine tj_iconst (v := nI 0) dL_lesson_2 (by decide +kernel) ?_
  refine tj_aload_n dL_lesson_3 (i := 0) rfl rfl ?_
  refine tj_iload_n dL_lesson_4 (i := 1) rfl rfl ?_
  refine tj_iload_n dL_lesson_5 (i := 2) rfl rfl ?_
  refine tj_iload_n dL_lesson_6 (i := 3) rfl rfl ?_
  refine tj_iload dL_lesson_7 rfl ?_
  refine tj_iload dL_lesson_9 rfl ?_
  refine lj_call (M' := me_X11_lesson) (b := 0) (As := [.int x1, .int x2, .int x3, .int x4, .int x5]) (rest := [.int (nI 0), .ref q.1]) (fun _ _ h => h) (fun _ h => h) (lok_E hq) dL_lesson_11 gL_lesson_X11_lesson rfl hd_X11_lesson (by decide +kernel) (by decide +kernel) rfl (Nat.le_of_ble_eq_true rfl) ⟨(Nat.le_of_ble_eq_true rfl), (Nat.le_of_ble_eq_true rfl)⟩ rfl ⟨(Nat.le_of_ble_eq_true rfl), (Nat.le_of_ble_eq_true rfl)⟩ hc (fun k9 hk9 H locs ls ce q9 ok C hH hl hce hcv hcl => ?_) (fun v hv => ?_)
  · obtain ⟨h0, hk⟩ := hr k9 hk9
    rcases hk with rfl | rfl | rfl
    · subst hk9
      refine lj_catch ok C hT htab (pre := []) (suf := [(0, 16, 23, 15)]) rfl (by decide) (by decide) ⟨by decide, by decide⟩ (fun z hz => nomatch hz) (by decide +kernel) hH hl hce hcv hcl ?_
      refine tj_astore dL_lesson_19 (by decide) ?_
      refine tj_iconst (v := nI 1) dL_lesson_21 (by decide +kernel) ?_
      refine lj_open (q := q) (fun _ h => Or.inl h) ?_
      exact lj_ret dL_lesson_22 rfl (Nat.le_refl _) (Nat.le_refl _)
    · subst hk9
      refine lj_catch ok C hT htab (pre := [(0, 16, 19, 13)]) (suf := []) rfl (by decide) (by decide) ⟨by decide, by decide⟩ (fun z hz => by
        simp only [List.mem_cons, List.not_mem_nil, or_false] at hz
        subst hz
        exact ⟨1, ⟨by decide, by decide, by decide, by decide⟩, by decide +kernel⟩) (by decide +kernel) hH hl hce hcv hcl ?_
      refine tj_astore dL_lesson_23 (by decide) ?_
      refine tj_iconst (v := nI 2) dL_lesson_25 (by decide +kernel) ?_
      refine lj_open (q := q) (fun _ h => Or.inl h) ?_
      exact lj_ret dL_lesson_26 rfl (Nat.le_refl _) (Nat.le_refl _)
    · exact absurd h0 (by decide)
  · subst hv
    refine tj_i2l dL_lesson_14 ?_
    refine lj_open (q := q) (fun _ h => Or.inl h) ?_
    refine lj_last hq hT hN dL_lesson_15 ?_
    refine tj_goto (tgt := 27) dL_lesson_16 (by decide) ?_
    refine tj_iconst (v := nI 0) dL_lesson_27 (by decide +kernel) ?_
    exact lj_ret dL_lesson_28 rfl (Nat.zero_le _) (Nat.zero_le _)
set_option maxRecDepth 20000 in
theorem ggL_dropLesson_X11_dropLesson : GoodIn wsL_dropLesson wsX11_dropLesson := goodIn_ca (goodIn_r _ [6, 7, 8, 9, 10, 5, 11, 12, 13, 14, 15, 16, 17, 18, 19, 20, 21, 22, 23, 24, 25, 26, 27, 28, 29, 30, 31, 32, 33, 34, 35, 36, 37, 38, 39, 40, 41, 42, 43, 44, 45, 46, 47, 48, 49, 50, 51, 52, 53, 54, 55, 56, 57, 58, 59, 60, 61, 62, 63, 64, 65, 66, 67, 68, 69, 70, 71, 72, 73, 74, 75, 76, 77, 78, 79, 80, 81, 82, 83, 84, 85, 86, 87, 88, 89, 90, 91, 92, 93, 94, 95, 96, 97, 98, 99, 100, 101, 102, 103] (by decide +kernel) (by decide +kernel)) (goodIn_sub (fun _ h => List.mem_cons_of_mem _ (List.mem_append_right _ h)) (by decide +kernel))
set_option maxRecDepth 20000 in
theorem gL_dropLesson_X11_dropLesson : GoodIn wsL_dropLesson (wsV RL 17 RX11 yX11_dropLesson wsX11_dropLesson) := goodIn_app (goodIn_of _ (by decide +kernel)) ggL_dropLesson_X11_dropLesson
theorem dL_dropLesson_0 : decode cL_dropLesson 0 = .ok (.aload_n 2, 1) := by decide +kernel
theorem dL_dropLesson_1 : decode cL_dropLesson 1 = .ok (.iconst 0, 1) := by decide +kernel
theorem dL_dropLesson_2 : decode cL_dropLesson 2 = .ok (.aload_n 0, 1) := by decide +kernel
theorem dL_dropLesson_3 : decode cL_dropLesson 3 = .ok (.iload_n 1, 1) := by decide +kernel
theorem dL_dropLesson_4 : decode cL_dropLesson 4 = .ok (.invokevirtual 17, 3) := by decide +kernel
theorem dL_dropLesson_7 : decode cL_dropLesson 7 = .ok (.i2l, 1) := by decide +kernel
theorem dL_dropLesson_8 : decode cL_dropLesson 8 = .ok (.lastore, 1) := by decide +kernel
theorem dL_dropLesson_9 : decode cL_dropLesson 9 = .ok (.goto 6, 3) := by decide +kernel
theorem dL_dropLesson_12 : decode cL_dropLesson 12 = .ok (.astore_n 3, 1) := by decide +kernel
theorem dL_dropLesson_13 : decode cL_dropLesson 13 = .ok (.iconst 1, 1) := by decide +kernel
theorem dL_dropLesson_14 : decode cL_dropLesson 14 = .ok (.ireturn, 1) := by decide +kernel
theorem dL_dropLesson_15 : decode cL_dropLesson 15 = .ok (.iconst 0, 1) := by decide +kernel
theorem dL_dropLesson_16 : decode cL_dropLesson 16 = .ok (.ireturn, 1) := by decide +kernel
set_option maxRecDepth 20000 in
theorem lm_dropLesson (ok : sj_ok G) (hq : lok G q) {x1 : Int32} (hc : sj_C G 10 me_X11_dropLesson [.ref (sj_ad G 0), .int x1] σ (Rc, σ1)) (hr : ∀ k, Rc = .error k → 0 < k ∧ (k = 3 ∨ k = 0 ∨ k = 0)) : lj_C G q me_L_dropLesson [.ref (sj_ad G 0), .int x1, .ref q.1] σ f g (lr (zcd 3 0 0) Rc) σ1 (lf Rc f) g := by
  refine lj_enter (hh := [(0, 9, 12, 21)]) ok (by decide +kernel) rfl rfl (Nat.le_of_ble_eq_true rfl) (by simp [Value.category]) (fun p e s m args below meth c htab hT hN => ?_)
  refine tj_aload_n dL_dropLesson_0 (i := 2) rfl rfl ?_
  refine tj_iconst (v := nI 0) dL_dropLesson_1 (by decide +kernel) ?_
  refine tj_aload_n dL_dropLesson_2 (i := 0) rfl rfl ?_
  refine tj_iload_n dL_dropLesson_3 (i := 1) rfl rfl ?_
  refine lj_call (M' := me_X11_dropLesson) (b := 0) (As := [.int x1]) (rest := [.int (nI 0), .ref q.1]) (fun _ _ h => h) (fun _ h => h) (lok_E hq) dL_dropLesson_4 gL_dropLesson_X11_dropLesson rfl hd_X11_dropLesson (by decide +kernel) (by decide +kernel) rfl (Nat.le_of_ble_eq_true rfl) ⟨(Nat.le_of_ble_eq_true rfl), (Nat.le_of_ble_eq_true rfl)⟩ rfl ⟨(Nat.le_of_ble_eq_true rfl), (Nat.le_of_ble_eq_true rfl)⟩ hc (fun k9 hk9 H locs ls ce q9 ok C hH hl hce hcv hcl => ?_) (fun v hv => ?_)
  · obtain ⟨h0, hk⟩ := hr k9 hk9
    rcases hk with rfl | rfl | rfl
    · subst hk9
      refine lj_catch ok C hT htab (pre := []) (suf := []) rfl (by decide) (by decide) ⟨by decide, by decide⟩ (fun z hz => nomatch hz) (by decide +kernel) hH hl hce hcv hcl ?_
      refine tj_astore_n dL_dropLesson_12 (i := 3) rfl (by decide) ?_
      refine tj_iconst (v := nI 1) dL_dropLesson_13 (by decide +kernel) ?_
      refine lj_open (q := q) (fun _ h => Or.inl h) ?_
      exact lj_ret dL_dropLesson_14 rfl (Nat.le_refl _) (Nat.le_refl _)
    · exact absurd h0 (by decide)
    · exact absurd h0 (by decide)
  · subst hv
    refine tj_i2l dL_dropLesson_7 ?_
    refine lj_open (q := q) (fun _ h => Or.inl h) ?_
    refine lj_last hq hT hN dL_dropLesson_8 ?_
    refine tj_goto (tgt := 15) dL_dropLesson_9 (by decide) ?_
    refine tj_iconst (v := nI 0) dL_dropLesson_15 (by decide +kernel) ?_
    exact lj_ret dL_dropLesson_16 rfl (Nat.zero_le _) (Nat.zero_le _)
set_option maxRecDepth 20000 in
theorem ggL_lessonOf_X11_lessonOf : GoodIn wsL_lessonOf wsX11_lessonOf := goodIn_ca (goodIn_ca (goodIn_r _ [7, 8, 9, 10, 11, 6, 12, 13, 14, 15, 16, 17, 18, 19, 20, 21, 22, 23, 24, 25, 26, 27, 28, 29, 30, 31, 32, 33, 34, 35, 36, 37, 38, 39, 40, 41, 42, 43, 44, 45, 46, 47] (by decide +kernel) (by decide +kernel)) (goodIn_sub (fun _ h => List.mem_cons_of_mem _ (List.mem_append_left _ (List.mem_append_right _ h))) (by decide +kernel))) (goodIn_sub (fun _ h => List.mem_cons_of_mem _ (List.mem_append_right _ h)) (by decide +kernel))
set_option maxRecDepth 20000 in
theorem gL_lessonOf_X11_lessonOf : GoodIn wsL_lessonOf (wsV RL 23 RX11 yX11_lessonOf wsX11_lessonOf) := goodIn_app (goodIn_of _ (by decide +kernel)) ggL_lessonOf_X11_lessonOf
theorem dL_lessonOf_0 : decode cL_lessonOf 0 = .ok (.aload_n 3, 1) := by decide +kernel
theorem dL_lessonOf_1 : decode cL_lessonOf 1 = .ok (.iconst 0, 1) := by decide +kernel
theorem dL_lessonOf_2 : decode cL_lessonOf 2 = .ok (.aload_n 0, 1) := by decide +kernel
theorem dL_lessonOf_3 : decode cL_lessonOf 3 = .ok (.iload_n 1, 1) := by decide +kernel
theorem dL_lessonOf_4 : decode cL_lessonOf 4 = .ok (.iload_n 2, 1) := by decide +kernel
theorem dL_lessonOf_5 : decode cL_lessonOf 5 = .ok (.invokevirtual 23, 3) := by decide +kernel
theorem dL_lessonOf_8 : decode cL_lessonOf 8 = .ok (.i2l, 1) := by decide +kernel
theorem dL_lessonOf_9 : decode cL_lessonOf 9 = .ok (.lastore, 1) := by decide +kernel
theorem dL_lessonOf_10 : decode cL_lessonOf 10 = .ok (.goto 11, 3) := by decide +kernel
theorem dL_lessonOf_13 : decode cL_lessonOf 13 = .ok (.astore 4, 2) := by decide +kernel
theorem dL_lessonOf_15 : decode cL_lessonOf 15 = .ok (.iconst 1, 1) := by decide +kernel
theorem dL_lessonOf_16 : decode cL_lessonOf 16 = .ok (.ireturn, 1) := by decide +kernel
theorem dL_lessonOf_17 : decode cL_lessonOf 17 = .ok (.astore 4, 2) := by decide +kernel
theorem dL_lessonOf_19 : decode cL_lessonOf 19 = .ok (.iconst 2, 1) := by decide +kernel
theorem dL_lessonOf_20 : decode cL_lessonOf 20 = .ok (.ireturn, 1) := by decide +kernel
theorem dL_lessonOf_21 : decode cL_lessonOf 21 = .ok (.iconst 0, 1) := by decide +kernel
theorem dL_lessonOf_22 : decode cL_lessonOf 22 = .ok (.ireturn, 1) := by decide +kernel
set_option maxRecDepth 20000 in
theorem lm_lessonOf (ok : sj_ok G) (hq : lok G q) {x1 x2 : Int32} (hc : sj_C G 11 me_X11_lessonOf [.ref (sj_ad G 0), .int x1, .int x2] σ (Rc, σ1)) (hr : ∀ k, Rc = .error k → 0 < k ∧ (k = 3 ∨ k = 1 ∨ k = 0)) : lj_C G q me_L_lessonOf [.ref (sj_ad G 0), .int x1, .int x2, .ref q.1] σ f g (lr (zcd 3 1 0) Rc) σ1 (lf Rc f) g := by
  refine lj_enter (hh := [(0, 10, 13, 21), (0, 10, 17, 13)]) ok (by decide +kernel) rfl rfl (Nat.le_of_ble_eq_true rfl) (by simp [Value.category]) (fun p e s m args below meth c htab hT hN => ?_)
  refine tj_aload_n dL_lessonOf_0 (i := 3) rfl rfl ?_
  refine tj_iconst (v := nI 0) dL_lessonOf_1 (by decide +kernel) ?_
  refine tj_aload_n dL_lessonOf_2 (i := 0) rfl rfl ?_
  refine tj_iload_n dL_lessonOf_3 (i := 1) rfl rfl ?_
  refine tj_iload_n dL_lessonOf_4 (i := 2) rfl rfl ?_
  refine lj_call (M' := me_X11_lessonOf) (b := 0) (As := [.int x1, .int x2]) (rest := [.int (nI 0), .ref q.1]) (fun _ _ h => h) (fun _ h => h) (lok_E hq) dL_lessonOf_5 gL_lessonOf_X11_lessonOf rfl hd_X11_lessonOf (by decide +kernel) (by decide +kernel) rfl (Nat.le_of_ble_eq_true rfl) ⟨(Nat.le_of_ble_eq_true rfl), (Nat.le_of_ble_eq_true rfl)⟩ rfl ⟨(Nat.le_of_ble_eq_true rfl), (Nat.le_of_ble_eq_true rfl)⟩ hc (fun k9 hk9 H locs ls ce q9 ok C hH hl hce hcv hcl => ?_) (fun v hv => ?_)
  · obtain ⟨h0, hk⟩ := hr k9 hk9
    rcases hk with rfl | rfl | rfl
    · subst hk9
      refine lj_catch ok C hT htab (pre := []) (suf := [(0, 10, 17, 13)]) rfl (by decide) (by decide) ⟨by decide, by decide⟩ (fun z hz => nomatch hz) (by decide +kernel) hH hl hce hcv hcl ?_
      refine tj_astore dL_lessonOf_13 (by decide) ?_
      refine tj_iconst (v := nI 1) dL_lessonOf_15 (by decide +kernel) ?_
      refine lj_open (q := q) (fun _ h => Or.inl h) ?_
      exact lj_ret dL_lessonOf_16 rfl (Nat.le_refl _) (Nat.le_refl _)
    · subst hk9
      refine lj_catch ok C hT htab (pre := [(0, 10, 13, 21)]) (suf := []) rfl (by decide) (by decide) ⟨by decide, by decide⟩ (fun z hz => by
        simp only [List.mem_cons, List.not_mem_nil, or_false] at hz
        subst hz
        exact ⟨3, ⟨by decide, by decide, by decide, by decide⟩, by decide +kernel⟩) (by decide +kernel) hH hl hce hcv hcl ?_
      refine tj_astore dL_lessonOf_17 (by decide) ?_
      refine tj_iconst (v := nI 2) dL_lessonOf_19 (by decide +kernel) ?_
      refine lj_open (q := q) (fun _ h => Or.inl h) ?_
      exact lj_ret dL_lessonOf_20 rfl (Nat.le_refl _) (Nat.le_refl _)
    · exact absurd h0 (by decide)
  · subst hv
    refine tj_i2l dL_lessonOf_8 ?_
    refine lj_open (q := q) (fun _ h => Or.inl h) ?_
    refine lj_last hq hT hN dL_lessonOf_9 ?_
    refine tj_goto (tgt := 21) dL_lessonOf_10 (by decide) ?_
    refine tj_iconst (v := nI 0) dL_lessonOf_21 (by decide +kernel) ?_
    exact lj_ret dL_lessonOf_22 rfl (Nat.zero_le _) (Nat.zero_le _)
set_option maxRecDepth 20000 in
theorem ggL_setSubjects_X11_setSubjects : GoodIn wsL_setSubjects wsX11_setSubjects := goodIn_ca (goodIn_ca (goodIn_r _ [7, 8, 9, 10, 11, 12, 13, 6, 14, 15, 16, 17, 18, 19, 20, 21, 22, 23, 24, 25, 26, 27, 28, 29, 30, 31, 32, 33, 34, 35, 36, 37, 38, 39, 40, 41, 42, 43, 44, 45, 46, 47, 48, 49, 50, 51, 52, 53, 54, 55, 56, 57, 58, 59, 60, 61, 62, 63, 64, 65, 66, 67, 68, 69, 70, 71, 72, 73, 74, 75, 76, 77, 78, 79, 80, 81, 82, 83, 84, 85, 86, 87, 88, 89, 90, 91, 92, 93, 94, 95, 96, 97, 98, 99, 100] (by decide +kernel) (by decide +kernel)) (goodIn_sub (fun _ h => List.mem_cons_of_mem _ (List.mem_append_left _ (List.mem_append_right _ h))) (by decide +kernel))) (goodIn_sub (fun _ h => List.mem_cons_of_mem _ (List.mem_append_right _ h)) (by decide +kernel))
set_option maxRecDepth 20000 in
theorem gL_setSubjects_X11_setSubjects : GoodIn wsL_setSubjects (wsV RL 27 RX11 yX11_setSubjects wsX11_setSubjects) := goodIn_app (goodIn_of _ (by decide +kernel)) ggL_setSubjects_X11_setSubjects
theorem dL_setSubjects_0 : decode cL_setSubjects 0 = .ok (.aload_n 3, 1) := by decide +kernel
theorem dL_setSubjects_1 : decode cL_setSubjects 1 = .ok (.iconst 0, 1) := by decide +kernel
theorem dL_setSubjects_2 : decode cL_setSubjects 2 = .ok (.aload_n 0, 1) := by decide +kernel
theorem dL_setSubjects_3 : decode cL_setSubjects 3 = .ok (.iload_n 1, 1) := by decide +kernel
theorem dL_setSubjects_4 : decode cL_setSubjects 4 = .ok (.iload_n 2, 1) := by decide +kernel
theorem dL_setSubjects_5 : decode cL_setSubjects 5 = .ok (.invokevirtual 27, 3) := by decide +kernel
theorem dL_setSubjects_8 : decode cL_setSubjects 8 = .ok (.i2l, 1) := by decide +kernel
theorem dL_setSubjects_9 : decode cL_setSubjects 9 = .ok (.lastore, 1) := by decide +kernel
theorem dL_setSubjects_10 : decode cL_setSubjects 10 = .ok (.goto 11, 3) := by decide +kernel
theorem dL_setSubjects_13 : decode cL_setSubjects 13 = .ok (.astore 4, 2) := by decide +kernel
theorem dL_setSubjects_15 : decode cL_setSubjects 15 = .ok (.iconst 1, 1) := by decide +kernel
theorem dL_setSubjects_16 : decode cL_setSubjects 16 = .ok (.ireturn, 1) := by decide +kernel
theorem dL_setSubjects_17 : decode cL_setSubjects 17 = .ok (.astore 4, 2) := by decide +kernel
theorem dL_setSubjects_19 : decode cL_setSubjects 19 = .ok (.iconst 2, 1) := by decide +kernel
theorem dL_setSubjects_20 : decode cL_setSubjects 20 = .ok (.ireturn, 1) := by decide +kernel
theorem dL_setSubjects_21 : decode cL_setSubjects 21 = .ok (.iconst 0, 1) := by decide +kernel
theorem dL_setSubjects_22 : decode cL_setSubjects 22 = .ok (.ireturn, 1) := by decide +kernel
set_option maxRecDepth 20000 in
theorem lm_setSubjects (ok : sj_ok G) (hq : lok G q) {x1 x2 : Int32} (hc : sj_C G 11 me_X11_setSubjects [.ref (sj_ad G 0), .int x1, .int x2] σ (Rc, σ1)) (hr : ∀ k, Rc = .error k → 0 < k ∧ (k = 1 ∨ k = 2 ∨ k = 0)) : lj_C G q me_L_setSubjects [.ref (sj_ad G 0), .int x1, .int x2, .ref q.1] σ f g (lr (zcd 1 2 0) Rc) σ1 (lf Rc f) g := by
  refine lj_enter (hh := [(0, 10, 13, 13), (0, 10, 17, 15)]) ok (by decide +kernel) rfl rfl (Nat.le_of_ble_eq_true rfl) (by simp [Value.category]) (fun p e s m args below meth c htab hT hN => ?_)
  refine tj_aload_n dL_setSubjects_0 (i := 3) rfl rfl ?_
  refine tj_iconst (v := nI 0) dL_setSubjects_1 (by decide +kernel) ?_
  refine tj_aload_n dL_setSubjects_2 (i := 0) rfl rfl ?_
  refine tj_iload_n dL_setSubjects_3 (i := 1) rfl rfl ?_
  refine tj_iload_n dL_setSubjects_4 (i := 2) rfl rfl ?_
  refine lj_call (M' := me_X11_setSubjects) (b := 0) (As := [.int x1, .int x2]) (rest := [.int (nI 0), .ref q.1]) (fun _ _ h => h) (fun _ h => h) (lok_E hq) dL_setSubjects_5 gL_setSubjects_X11_setSubjects rfl hd_X11_setSubjects (by decide +kernel) (by decide +kernel) rfl (Nat.le_of_ble_eq_true rfl) ⟨(Nat.le_of_ble_eq_true rfl), (Nat.le_of_ble_eq_true rfl)⟩ rfl ⟨(Nat.le_of_ble_eq_true rfl), (Nat.le_of_ble_eq_true rfl)⟩ hc (fun k9 hk9 H locs ls ce q9 ok C hH hl hce hcv hcl => ?_) (fun v hv => ?_)
  · obtain ⟨h0, hk⟩ := hr k9 hk9
    rcases hk with rfl | rfl | rfl
    · subst hk9
      refine lj_catch ok C hT htab (pre := []) (suf := [(0, 10, 17, 15)]) rfl (by decide) (by decide) ⟨by decide, by decide⟩ (fun z hz => nomatch hz) (by decide +kernel) hH hl hce hcv hcl ?_
      refine tj_astore dL_setSubjects_13 (by decide) ?_
      refine tj_iconst (v := nI 1) dL_setSubjects_15 (by decide +kernel) ?_
      refine lj_open (q := q) (fun _ h => Or.inl h) ?_
      exact lj_ret dL_setSubjects_16 rfl (Nat.le_refl _) (Nat.le_refl _)
    · subst hk9
      refine lj_catch ok C hT htab (pre := [(0, 10, 13, 13)]) (suf := []) rfl (by decide) (by decide) ⟨by decide, by decide⟩ (fun z hz => by
        simp only [List.mem_cons, List.not_mem_nil, or_false] at hz
        subst hz
        exact ⟨1, ⟨by decide, by decide, by decide, by decide⟩, by decide +kernel⟩) (by decide +kernel) hH hl hce hcv hcl ?_
      refine tj_astore dL_setSubjects_17 (by decide) ?_
      refine tj_iconst (v := nI 2) dL_setSubjects_19 (by decide +kernel) ?_
      refine lj_open (q := q) (fun _ h => Or.inl h) ?_
      exact lj_ret dL_setSubjects_20 rfl (Nat.le_refl _) (Nat.le_refl _)
    · exact absurd h0 (by decide)
  · subst hv
    refine tj_i2l dL_setSubjects_8 ?_
    refine lj_open (q := q) (fun _ h => Or.inl h) ?_
    refine lj_last hq hT hN dL_setSubjects_9 ?_
    refine tj_goto (tgt := 21) dL_setSubjects_10 (by decide) ?_
    refine tj_iconst (v := nI 0) dL_setSubjects_21 (by decide +kernel) ?_
    exact lj_ret dL_setSubjects_22 rfl (Nat.zero_le _) (Nat.zero_le _)
set_option maxRecDepth 20000 in
theorem ggL_setRooms_X11_setRooms : GoodIn wsL_setRooms wsX11_setRooms := goodIn_ca (goodIn_r _ [6, 7, 8, 9, 10, 5, 11, 12, 13, 14, 15, 16, 17, 18, 19, 20, 21, 22, 23, 24, 25, 26, 27, 28, 29, 30, 31, 32, 33, 34, 35, 36, 37, 38, 39, 40, 41, 42, 43, 44, 45, 46, 47, 48, 49, 50, 51, 52, 53, 54, 55, 56, 57, 58, 59, 60, 61, 62, 63, 64, 65, 66, 67, 68, 69, 70, 71, 72, 73, 74, 75, 76, 77, 78, 79, 80, 81] (by decide +kernel) (by decide +kernel)) (goodIn_sub (fun _ h => List.mem_cons_of_mem _ (List.mem_append_right _ h)) (by decide +kernel))
set_option maxRecDepth 20000 in
theorem gL_setRooms_X11_setRooms : GoodIn wsL_setRooms (wsV RL 30 RX11 yX11_setRooms wsX11_setRooms) := goodIn_app (goodIn_of _ (by decide +kernel)) ggL_setRooms_X11_setRooms
theorem dL_setRooms_0 : decode cL_setRooms 0 = .ok (.aload_n 3, 1) := by decide +kernel
theorem dL_setRooms_1 : decode cL_setRooms 1 = .ok (.iconst 0, 1) := by decide +kernel
theorem dL_setRooms_2 : decode cL_setRooms 2 = .ok (.aload_n 0, 1) := by decide +kernel
theorem dL_setRooms_3 : decode cL_setRooms 3 = .ok (.iload_n 1, 1) := by decide +kernel
theorem dL_setRooms_4 : decode cL_setRooms 4 = .ok (.iload_n 2, 1) := by decide +kernel
theorem dL_setRooms_5 : decode cL_setRooms 5 = .ok (.invokevirtual 30, 3) := by decide +kernel
theorem dL_setRooms_8 : decode cL_setRooms 8 = .ok (.i2l, 1) := by decide +kernel
theorem dL_setRooms_9 : decode cL_setRooms 9 = .ok (.lastore, 1) := by decide +kernel
theorem dL_setRooms_10 : decode cL_setRooms 10 = .ok (.goto 7, 3) := by decide +kernel
theorem dL_setRooms_13 : decode cL_setRooms 13 = .ok (.astore 4, 2) := by decide +kernel
theorem dL_setRooms_15 : decode cL_setRooms 15 = .ok (.iconst 1, 1) := by decide +kernel
theorem dL_setRooms_16 : decode cL_setRooms 16 = .ok (.ireturn, 1) := by decide +kernel
theorem dL_setRooms_17 : decode cL_setRooms 17 = .ok (.iconst 0, 1) := by decide +kernel
theorem dL_setRooms_18 : decode cL_setRooms 18 = .ok (.ireturn, 1) := by decide +kernel
set_option maxRecDepth 20000 in
theorem lm_setRooms (ok : sj_ok G) (hq : lok G q) {x1 x2 : Int32} (hc : sj_C G 11 me_X11_setRooms [.ref (sj_ad G 0), .int x1, .int x2] σ (Rc, σ1)) (hr : ∀ k, Rc = .error k → 0 < k ∧ (k = 1 ∨ k = 0 ∨ k = 0)) : lj_C G q me_L_setRooms [.ref (sj_ad G 0), .int x1, .int x2, .ref q.1] σ f g (lr (zcd 1 0 0) Rc) σ1 (lf Rc f) g := by
  refine lj_enter (hh := [(0, 10, 13, 13)]) ok (by decide +kernel) rfl rfl (Nat.le_of_ble_eq_true rfl) (by simp [Value.category]) (fun p e s m args below meth c htab hT hN => ?_)
  refine tj_aload_n dL_setRooms_0 (i := 3) rfl rfl ?_
  refine tj_iconst (v := nI 0) dL_setRooms_1 (by decide +kernel) ?_
  refine tj_aload_n dL_setRooms_2 (i := 0) rfl rfl ?_
  refine tj_iload_n dL_setRooms_3 (i := 1) rfl rfl ?_
  refine tj_iload_n dL_setRooms_4 (i := 2) rfl rfl ?_
  refine lj_call (M' := me_X11_setRooms) (b := 0) (As := [.int x1, .int x2]) (rest := [.int (nI 0), .ref q.1]) (fun _ _ h => h) (fun _ h => h) (lok_E hq) dL_setRooms_5 gL_setRooms_X11_setRooms rfl hd_X11_setRooms (by decide +kernel) (by decide +kernel) rfl (Nat.le_of_ble_eq_true rfl) ⟨(Nat.le_of_ble_eq_true rfl), (Nat.le_of_ble_eq_true rfl)⟩ rfl ⟨(Nat.le_of_ble_eq_true rfl), (Nat.le_of_ble_eq_true rfl)⟩ hc (fun k9 hk9 H locs ls ce q9 ok C hH hl hce hcv hcl => ?_) (fun v hv => ?_)
  · obtain ⟨h0, hk⟩ := hr k9 hk9
    rcases hk with rfl | rfl | rfl
    · subst hk9
      refine lj_catch ok C hT htab (pre := []) (suf := []) rfl (by decide) (by decide) ⟨by decide, by decide⟩ (fun z hz => nomatch hz) (by decide +kernel) hH hl hce hcv hcl ?_
      refine tj_astore dL_setRooms_13 (by decide) ?_
      refine tj_iconst (v := nI 1) dL_setRooms_15 (by decide +kernel) ?_
      refine lj_open (q := q) (fun _ h => Or.inl h) ?_
      exact lj_ret dL_setRooms_16 rfl (Nat.le_refl _) (Nat.le_refl _)
    · exact absurd h0 (by decide)
    · exact absurd h0 (by decide)
  · subst hv
    refine tj_i2l dL_setRooms_8 ?_
    refine lj_open (q := q) (fun _ h => Or.inl h) ?_
    refine lj_last hq hT hN dL_setRooms_9 ?_
    refine tj_goto (tgt := 17) dL_setRooms_10 (by decide) ?_
    refine tj_iconst (v := nI 0) dL_setRooms_17 (by decide +kernel) ?_
    exact lj_ret dL_setRooms_18 rfl (Nat.zero_le _) (Nat.zero_le _)
set_option maxRecDepth 20000 in
theorem ggL_wish_X11_wish : GoodIn wsL_wish wsX11_wish := goodIn_ca (goodIn_ca (goodIn_ca (goodIn_r _ [8, 9, 10, 11, 12, 13, 14, 15, 16, 7, 17, 18, 19, 20, 21, 22, 23, 24, 25, 26, 27, 28, 29, 30, 31, 32, 33, 34, 35, 36, 37, 38, 39, 40, 41, 42, 43, 44, 45, 46, 47, 48, 49, 50, 51, 52, 53, 54, 55, 56, 57, 58, 59, 60, 61, 62, 63, 64, 65, 66, 67, 68, 69, 70, 71, 72, 73, 74, 75, 76, 77, 78, 79, 80, 81, 82, 83, 84, 85, 86, 87, 88, 89, 90, 91, 92, 93, 94, 95, 96, 97, 98, 99] (by decide +kernel) (by decide +kernel)) (goodIn_sub (fun _ h => List.mem_cons_of_mem _ (List.mem_append_left _ (List.mem_append_left _ (List.mem_append_right _ h)))) (by decide +kernel))) (goodIn_sub (fun _ h => List.mem_cons_of_mem _ (List.mem_append_left _ (List.mem_append_right _ h))) (by decide +kernel))) (goodIn_sub (fun _ h => List.mem_cons_of_mem _ (List.mem_append_right _ h)) (by decide +kernel))
set_option maxRecDepth 20000 in
theorem gL_wish_X11_wish : GoodIn wsL_wish (wsV RL 33 RX11 yX11_wish wsX11_wish) := goodIn_app (goodIn_of _ (by decide +kernel)) ggL_wish_X11_wish
theorem dL_wish_0 : decode cL_wish 0 = .ok (.aload 5, 2) := by decide +kernel
theorem dL_wish_2 : decode cL_wish 2 = .ok (.iconst 0, 1) := by decide +kernel
theorem dL_wish_3 : decode cL_wish 3 = .ok (.aload_n 0, 1) := by decide +kernel
theorem dL_wish_4 : decode cL_wish 4 = .ok (.iload_n 1, 1) := by decide +kernel
theorem dL_wish_5 : decode cL_wish 5 = .ok (.iload_n 2, 1) := by decide +kernel
theorem dL_wish_6 : decode cL_wish 6 = .ok (.iload_n 3, 1) := by decide +kernel
theorem dL_wish_7 : decode cL_wish 7 = .ok (.iload 4, 2) := by decide +kernel
theorem dL_wish_9 : decode cL_wish 9 = .ok (.invokevirtual 33, 3) := by decide +kernel
theorem dL_wish_12 : decode cL_wish 12 = .ok (.i2l, 1) := by decide +kernel
theorem dL_wish_13 : decode cL_wish 13 = .ok (.lastore, 1) := by decide +kernel
theorem dL_wish_14 : decode cL_wish 14 = .ok (.goto 15, 3) := by decide +kernel
theorem dL_wish_17 : decode cL_wish 17 = .ok (.astore 6, 2) := by decide +kernel
theorem dL_wish_19 : decode cL_wish 19 = .ok (.iconst 1, 1) := by decide +kernel
theorem dL_wish_20 : decode cL_wish 20 = .ok (.ireturn, 1) := by decide +kernel
theorem dL_wish_21 : decode cL_wish 21 = .ok (.astore 6, 2) := by decide +kernel
theorem dL_wish_23 : decode cL_wish 23 = .ok (.iconst 2, 1) := by decide +kernel
theorem dL_wish_24 : decode cL_wish 24 = .ok (.ireturn, 1) := by decide +kernel
theorem dL_wish_25 : decode cL_wish 25 = .ok (.astore 6, 2) := by decide +kernel
theorem dL_wish_27 : decode cL_wish 27 = .ok (.iconst 3, 1) := by decide +kernel
theorem dL_wish_28 : decode cL_wish 28 = .ok (.ireturn, 1) := by decide +kernel
theorem dL_wish_29 : decode cL_wish 29 = .ok (.iconst 0, 1) := by decide +kernel
theorem dL_wish_30 : decode cL_wish 30 = .ok (.ireturn, 1) := by decide +kernel
set_option maxRecDepth 20000 in
theorem lm_wish (ok : sj_ok G) (hq : lok G q) {x1 x2 x3 x4 : Int32} (hc : sj_C G 11 me_X11_wish [.ref (sj_ad G 0), .int x1, .int x2, .int x3, .int x4] σ (Rc, σ1)) (hr : ∀ k, Rc = .error k → 0 < k ∧ (k = 1 ∨ k = 3 ∨ k = 2)) : lj_C G q me_L_wish [.ref (sj_ad G 0), .int x1, .int x2, .int x3, .int x4, .ref q.1] σ f g (lr (zcd 1 3 2) Rc) σ1 (lf Rc f) g := by
  refine lj_enter (hh := [(0, 14, 17, 13), (0, 14, 21, 21), (0, 14, 25, 15)]) ok (by decide +kernel) rfl rfl (Nat.le_of_ble_eq_true rfl) (by simp [Value.category]) (fun p e s m args below meth c htab hT hN => ?_)
  refine tj_aload dL_wish_0 rfl ?_
  refine tj_iconst (v := nI 0) dL_wish_2 (by decide +kernel) ?_
  refine tj_aload_n dL_wish_3 (i := 0) rfl rfl ?_
  refine tj_iload_n dL_wish_4 (i := 1) rfl rfl ?_
  refine tj_iload_n dL_wish_5 (i := 2) rfl rfl ?_
  refine tj_iload_n dL_wish_6 (i := 3) rfl rfl ?_
  refine tj_iload dL_wish_7 rfl ?_
  refine lj_call (M' := me_X11_wish) (b := 0) (As := [.int x1, .int x2, .int x3, .int x4]) (rest := [.int (nI 0), .ref q.1]) (fun _ _ h => h) (fun _ h => h) (lok_E hq) dL_wish_9 gL_wish_X11_wish rfl hd_X11_wish (by decide +kernel) (by decide +kernel) rfl (Nat.le_of_ble_eq_true rfl) ⟨(Nat.le_of_ble_eq_true rfl), (Nat.le_of_ble_eq_true rfl)⟩ rfl ⟨(Nat.le_of_ble_eq_true rfl), (Nat.le_of_ble_eq_true rfl)⟩ hc (fun k9 hk9 H locs ls ce q9 ok C hH hl hce hcv hcl => ?_) (fun v hv => ?_)
  · obtain ⟨h0, hk⟩ := hr k9 hk9
    rcases hk with rfl | rfl | rfl
    · subst hk9
      refine lj_catch ok C hT htab (pre := []) (suf := [(0, 14, 21, 21), (0, 14, 25, 15)]) rfl (by decide) (by decide) ⟨by decide, by decide⟩ (fun z hz => nomatch hz) (by decide +kernel) hH hl hce hcv hcl ?_
      refine tj_astore dL_wish_17 (by decide) ?_
      refine tj_iconst (v := nI 1) dL_wish_19 (by decide +kernel) ?_
      refine lj_open (q := q) (fun _ h => Or.inl h) ?_
      exact lj_ret dL_wish_20 rfl (Nat.le_refl _) (Nat.le_refl _)
    · subst hk9
      refine lj_catch ok C hT htab (pre := [(0, 14, 17, 13)]) (suf := [(0, 14, 25, 15)]) rfl (by decide) (by decide) ⟨by decide, by decide⟩ (fun z hz => by
        simp only [List.mem_cons, List.not_mem_nil, or_false] at hz
        subst hz
        exact ⟨1, ⟨by decide, by decide, by decide, by decide⟩, by decide +kernel⟩) (by decide +kernel) hH hl hce hcv hcl ?_
      refine tj_astore dL_wish_21 (by decide) ?_
      refine tj_iconst (v := nI 2) dL_wish_23 (by decide +kernel) ?_
      refine lj_open (q := q) (fun _ h => Or.inl h) ?_
      exact lj_ret dL_wish_24 rfl (Nat.le_refl _) (Nat.le_refl _)
    · subst hk9
      refine lj_catch ok C hT htab (pre := [(0, 14, 17, 13), (0, 14, 21, 21)]) (suf := []) rfl (by decide) (by decide) ⟨by decide, by decide⟩ (fun z hz => by
        simp only [List.mem_cons, List.not_mem_nil, or_false] at hz
        rcases hz with hz | hz
        · subst hz
          exact ⟨1, ⟨by decide, by decide, by decide, by decide⟩, by decide +kernel⟩
        · subst hz
          exact ⟨3, ⟨by decide, by decide, by decide, by decide⟩, by decide +kernel⟩) (by decide +kernel) hH hl hce hcv hcl ?_
      refine tj_astore dL_wish_25 (by decide) ?_
      refine tj_iconst (v := nI 3) dL_wish_27 (by decide +kernel) ?_
      refine lj_open (q := q) (fun _ h => Or.inl h) ?_
      exact lj_ret dL_wish_28 rfl (Nat.le_refl _) (Nat.le_refl _)
  · subst hv
    refine tj_i2l dL_wish_12 ?_
    refine lj_open (q := q) (fun _ h => Or.inl h) ?_
    refine lj_last hq hT hN dL_wish_13 ?_
    refine tj_goto (tgt := 29) dL_wish_14 (by decide) ?_
    refine tj_iconst (v := nI 0) dL_wish_29 (by decide +kernel) ?_
    exact lj_ret dL_wish_30 rfl (Nat.zero_le _) (Nat.zero_le _)
set_option maxRecDepth 20000 in
theorem ggL_dropWish_X11_dropWish : GoodIn wsL_dropWish wsX11_dropWish := goodIn_ca (goodIn_r _ [6, 7, 8, 9, 10, 5, 11, 12, 13, 14, 15, 16, 17, 18, 19, 20, 21, 22, 23, 24, 25, 26, 27, 28, 29, 30, 31, 32, 33, 34, 35, 36, 37, 38, 39, 40, 41, 42, 43, 44, 45, 46, 47, 48, 49, 50, 51, 52, 53, 54, 55, 56, 57, 58, 59, 60, 61, 62, 63, 64, 65, 66, 67, 68, 69, 70, 71, 72, 73, 74, 75, 76, 77, 78, 79, 80, 81, 82, 83] (by decide +kernel) (by decide +kernel)) (goodIn_sub (fun _ h => List.mem_cons_of_mem _ (List.mem_append_right _ h)) (by decide +kernel))
set_option maxRecDepth 20000 in
theorem gL_dropWish_X11_dropWish : GoodIn wsL_dropWish (wsV RL 37 RX11 yX11_dropWish wsX11_dropWish) := goodIn_app (goodIn_of _ (by decide +kernel)) ggL_dropWish_X11_dropWish
theorem dL_dropWish_0 : decode cL_dropWish 0 = .ok (.aload_n 2, 1) := by decide +kernel
theorem dL_dropWish_1 : decode cL_dropWish 1 = .ok (.iconst 0, 1) := by decide +kernel
theorem dL_dropWish_2 : decode cL_dropWish 2 = .ok (.aload_n 0, 1) := by decide +kernel
theorem dL_dropWish_3 : decode cL_dropWish 3 = .ok (.iload_n 1, 1) := by decide +kernel
theorem dL_dropWish_4 : decode cL_dropWish 4 = .ok (.invokevirtual 37, 3) := by decide +kernel
theorem dL_dropWish_7 : decode cL_dropWish 7 = .ok (.i2l, 1) := by decide +kernel
theorem dL_dropWish_8 : decode cL_dropWish 8 = .ok (.lastore, 1) := by decide +kernel
theorem dL_dropWish_9 : decode cL_dropWish 9 = .ok (.goto 6, 3) := by decide +kernel
theorem dL_dropWish_12 : decode cL_dropWish 12 = .ok (.astore_n 3, 1) := by decide +kernel
theorem dL_dropWish_13 : decode cL_dropWish 13 = .ok (.iconst 1, 1) := by decide +kernel
theorem dL_dropWish_14 : decode cL_dropWish 14 = .ok (.ireturn, 1) := by decide +kernel
theorem dL_dropWish_15 : decode cL_dropWish 15 = .ok (.iconst 0, 1) := by decide +kernel
theorem dL_dropWish_16 : decode cL_dropWish 16 = .ok (.ireturn, 1) := by decide +kernel
set_option maxRecDepth 20000 in
theorem lm_dropWish (ok : sj_ok G) (hq : lok G q) {x1 : Int32} (hc : sj_C G 10 me_X11_dropWish [.ref (sj_ad G 0), .int x1] σ (Rc, σ1)) (hr : ∀ k, Rc = .error k → 0 < k ∧ (k = 3 ∨ k = 0 ∨ k = 0)) : lj_C G q me_L_dropWish [.ref (sj_ad G 0), .int x1, .ref q.1] σ f g (lr (zcd 3 0 0) Rc) σ1 (lf Rc f) g := by
  refine lj_enter (hh := [(0, 9, 12, 21)]) ok (by decide +kernel) rfl rfl (Nat.le_of_ble_eq_true rfl) (by simp [Value.category]) (fun p e s m args below meth c htab hT hN => ?_)
  refine tj_aload_n dL_dropWish_0 (i := 2) rfl rfl ?_
  refine tj_iconst (v := nI 0) dL_dropWish_1 (by decide +kernel) ?_
  refine tj_aload_n dL_dropWish_2 (i := 0) rfl rfl ?_
  refine tj_iload_n dL_dropWish_3 (i := 1) rfl rfl ?_
  refine lj_call (M' := me_X11_dropWish) (b := 0) (As := [.int x1]) (rest := [.int (nI 0), .ref q.1]) (fun _ _ h => h) (fun _ h => h) (lok_E hq) dL_dropWish_4 gL_dropWish_X11_dropWish rfl hd_X11_dropWish (by decide +kernel) (by decide +kernel) rfl (Nat.le_of_ble_eq_true rfl) ⟨(Nat.le_of_ble_eq_true rfl), (Nat.le_of_ble_eq_true rfl)⟩ rfl ⟨(Nat.le_of_ble_eq_true rfl), (Nat.le_of_ble_eq_true rfl)⟩ hc (fun k9 hk9 H locs ls ce q9 ok C hH hl hce hcv hcl => ?_) (fun v hv => ?_)
  · obtain ⟨h0, hk⟩ := hr k9 hk9
    rcases hk with rfl | rfl | rfl
    · subst hk9
      refine lj_catch ok C hT htab (pre := []) (suf := []) rfl (by decide) (by decide) ⟨by decide, by decide⟩ (fun z hz => nomatch hz) (by decide +kernel) hH hl hce hcv hcl ?_
      refine tj_astore_n dL_dropWish_12 (i := 3) rfl (by decide) ?_
      refine tj_iconst (v := nI 1) dL_dropWish_13 (by decide +kernel) ?_
      refine lj_open (q := q) (fun _ h => Or.inl h) ?_
      exact lj_ret dL_dropWish_14 rfl (Nat.le_refl _) (Nat.le_refl _)
    · exact absurd h0 (by decide)
    · exact absurd h0 (by decide)
  · subst hv
    refine tj_i2l dL_dropWish_7 ?_
    refine lj_open (q := q) (fun _ h => Or.inl h) ?_
    refine lj_last hq hT hN dL_dropWish_8 ?_
    refine tj_goto (tgt := 15) dL_dropWish_9 (by decide) ?_
    refine tj_iconst (v := nI 0) dL_dropWish_15 (by decide +kernel) ?_
    exact lj_ret dL_dropWish_16 rfl (Nat.zero_le _) (Nat.zero_le _)
set_option maxRecDepth 20000 in
theorem ggL_wishOf_X11_wishOf : GoodIn wsL_wishOf wsX11_wishOf := goodIn_ca (goodIn_ca (goodIn_r _ [7, 8, 9, 10, 11, 6, 12, 13, 14, 15, 16, 17, 18, 19, 20, 21, 22, 23, 24, 25, 26, 27, 28, 29, 30, 31, 32, 33, 34, 35, 36, 37, 38, 39, 40, 41, 42, 43, 44, 45, 46, 47] (by decide +kernel) (by decide +kernel)) (goodIn_sub (fun _ h => List.mem_cons_of_mem _ (List.mem_append_left _ (List.mem_append_right _ h))) (by decide +kernel))) (goodIn_sub (fun _ h => List.mem_cons_of_mem _ (List.mem_append_right _ h)) (by decide +kernel))
set_option maxRecDepth 20000 in
theorem gL_wishOf_X11_wishOf : GoodIn wsL_wishOf (wsV RL 40 RX11 yX11_wishOf wsX11_wishOf) := goodIn_app (goodIn_of _ (by decide +kernel)) ggL_wishOf_X11_wishOf
theorem dL_wishOf_0 : decode cL_wishOf 0 = .ok (.aload_n 3, 1) := by decide +kernel
theorem dL_wishOf_1 : decode cL_wishOf 1 = .ok (.iconst 0, 1) := by decide +kernel
theorem dL_wishOf_2 : decode cL_wishOf 2 = .ok (.aload_n 0, 1) := by decide +kernel
theorem dL_wishOf_3 : decode cL_wishOf 3 = .ok (.iload_n 1, 1) := by decide +kernel
theorem dL_wishOf_4 : decode cL_wishOf 4 = .ok (.iload_n 2, 1) := by decide +kernel
theorem dL_wishOf_5 : decode cL_wishOf 5 = .ok (.invokevirtual 40, 3) := by decide +kernel
theorem dL_wishOf_8 : decode cL_wishOf 8 = .ok (.i2l, 1) := by decide +kernel
theorem dL_wishOf_9 : decode cL_wishOf 9 = .ok (.lastore, 1) := by decide +kernel
theorem dL_wishOf_10 : decode cL_wishOf 10 = .ok (.goto 11, 3) := by decide +kernel
theorem dL_wishOf_13 : decode cL_wishOf 13 = .ok (.astore 4, 2) := by decide +kernel
theorem dL_wishOf_15 : decode cL_wishOf 15 = .ok (.iconst 1, 1) := by decide +kernel
theorem dL_wishOf_16 : decode cL_wishOf 16 = .ok (.ireturn, 1) := by decide +kernel
theorem dL_wishOf_17 : decode cL_wishOf 17 = .ok (.astore 4, 2) := by decide +kernel
theorem dL_wishOf_19 : decode cL_wishOf 19 = .ok (.iconst 2, 1) := by decide +kernel
theorem dL_wishOf_20 : decode cL_wishOf 20 = .ok (.ireturn, 1) := by decide +kernel
theorem dL_wishOf_21 : decode cL_wishOf 21 = .ok (.iconst 0, 1) := by decide +kernel
theorem dL_wishOf_22 : decode cL_wishOf 22 = .ok (.ireturn, 1) := by decide +kernel
set_option maxRecDepth 20000 in
theorem lm_wishOf (ok : sj_ok G) (hq : lok G q) {x1 x2 : Int32} (hc : sj_C G 11 me_X11_wishOf [.ref (sj_ad G 0), .int x1, .int x2] σ (Rc, σ1)) (hr : ∀ k, Rc = .error k → 0 < k ∧ (k = 3 ∨ k = 1 ∨ k = 0)) : lj_C G q me_L_wishOf [.ref (sj_ad G 0), .int x1, .int x2, .ref q.1] σ f g (lr (zcd 3 1 0) Rc) σ1 (lf Rc f) g := by
  refine lj_enter (hh := [(0, 10, 13, 21), (0, 10, 17, 13)]) ok (by decide +kernel) rfl rfl (Nat.le_of_ble_eq_true rfl) (by simp [Value.category]) (fun p e s m args below meth c htab hT hN => ?_)
  refine tj_aload_n dL_wishOf_0 (i := 3) rfl rfl ?_
  refine tj_iconst (v := nI 0) dL_wishOf_1 (by decide +kernel) ?_
  refine tj_aload_n dL_wishOf_2 (i := 0) rfl rfl ?_
  refine tj_iload_n dL_wishOf_3 (i := 1) rfl rfl ?_
  refine tj_iload_n dL_wishOf_4 (i := 2) rfl rfl ?_
  refine lj_call (M' := me_X11_wishOf) (b := 0) (As := [.int x1, .int x2]) (rest := [.int (nI 0), .ref q.1]) (fun _ _ h => h) (fun _ h => h) (lok_E hq) dL_wishOf_5 gL_wishOf_X11_wishOf rfl hd_X11_wishOf (by decide +kernel) (by decide +kernel) rfl (Nat.le_of_ble_eq_true rfl) ⟨(Nat.le_of_ble_eq_true rfl), (Nat.le_of_ble_eq_true rfl)⟩ rfl ⟨(Nat.le_of_ble_eq_true rfl), (Nat.le_of_ble_eq_true rfl)⟩ hc (fun k9 hk9 H locs ls ce q9 ok C hH hl hce hcv hcl => ?_) (fun v hv => ?_)
  · obtain ⟨h0, hk⟩ := hr k9 hk9
    rcases hk with rfl | rfl | rfl
    · subst hk9
      refine lj_catch ok C hT htab (pre := []) (suf := [(0, 10, 17, 13)]) rfl (by decide) (by decide) ⟨by decide, by decide⟩ (fun z hz => nomatch hz) (by decide +kernel) hH hl hce hcv hcl ?_
      refine tj_astore dL_wishOf_13 (by decide) ?_
      refine tj_iconst (v := nI 1) dL_wishOf_15 (by decide +kernel) ?_
      refine lj_open (q := q) (fun _ h => Or.inl h) ?_
      exact lj_ret dL_wishOf_16 rfl (Nat.le_refl _) (Nat.le_refl _)
    · subst hk9
      refine lj_catch ok C hT htab (pre := [(0, 10, 13, 21)]) (suf := []) rfl (by decide) (by decide) ⟨by decide, by decide⟩ (fun z hz => by
        simp only [List.mem_cons, List.not_mem_nil, or_false] at hz
        subst hz
        exact ⟨3, ⟨by decide, by decide, by decide, by decide⟩, by decide +kernel⟩) (by decide +kernel) hH hl hce hcv hcl ?_
      refine tj_astore dL_wishOf_17 (by decide) ?_
      refine tj_iconst (v := nI 2) dL_wishOf_19 (by decide +kernel) ?_
      refine lj_open (q := q) (fun _ h => Or.inl h) ?_
      exact lj_ret dL_wishOf_20 rfl (Nat.le_refl _) (Nat.le_refl _)
    · exact absurd h0 (by decide)
  · subst hv
    refine tj_i2l dL_wishOf_8 ?_
    refine lj_open (q := q) (fun _ h => Or.inl h) ?_
    refine lj_last hq hT hN dL_wishOf_9 ?_
    refine tj_goto (tgt := 21) dL_wishOf_10 (by decide) ?_
    refine tj_iconst (v := nI 0) dL_wishOf_21 (by decide +kernel) ?_
    exact lj_ret dL_wishOf_22 rfl (Nat.zero_le _) (Nat.zero_le _)
set_option maxRecDepth 20000 in
theorem ggL_proofAt_X11_proofAt : GoodIn wsL_proofAt wsX11_proofAt := goodIn_ca (goodIn_r _ [6, 7, 8, 9, 10, 11, 12, 13, 14, 15, 16, 17, 18, 19, 20, 21, 22, 23, 24, 25, 26, 27, 28, 29, 30] (by decide +kernel) (by decide +kernel)) (goodIn_sub (fun _ h => List.mem_cons_of_mem _ (List.mem_append_right _ h)) (by decide +kernel))
set_option maxRecDepth 20000 in
theorem gL_proofAt_X11_proofAt : GoodIn wsL_proofAt (wsV RL 43 RX11 yX11_proofAt wsX11_proofAt) := goodIn_app (goodIn_of _ (by decide +kernel)) ggL_proofAt_X11_proofAt
theorem dL_proofAt_0 : decode cL_proofAt 0 = .ok (.aload_n 2, 1) := by decide +kernel
theorem dL_proofAt_1 : decode cL_proofAt 1 = .ok (.iconst 0, 1) := by decide +kernel
theorem dL_proofAt_2 : decode cL_proofAt 2 = .ok (.aload_n 0, 1) := by decide +kernel
theorem dL_proofAt_3 : decode cL_proofAt 3 = .ok (.iload_n 1, 1) := by decide +kernel
theorem dL_proofAt_4 : decode cL_proofAt 4 = .ok (.invokevirtual 43, 3) := by decide +kernel
theorem dL_proofAt_7 : decode cL_proofAt 7 = .ok (.i2l, 1) := by decide +kernel
theorem dL_proofAt_8 : decode cL_proofAt 8 = .ok (.lastore, 1) := by decide +kernel
theorem dL_proofAt_9 : decode cL_proofAt 9 = .ok (.goto 6, 3) := by decide +kernel
theorem dL_proofAt_12 : decode cL_proofAt 12 = .ok (.astore_n 3, 1) := by decide +kernel
theorem dL_proofAt_13 : decode cL_proofAt 13 = .ok (.iconst 1, 1) := by decide +kernel
theorem dL_proofAt_14 : decode cL_proofAt 14 = .ok (.ireturn, 1) := by decide +kernel
theorem dL_proofAt_15 : decode cL_proofAt 15 = .ok (.iconst 0, 1) := by decide +kernel
theorem dL_proofAt_16 : decode cL_proofAt 16 = .ok (.ireturn, 1) := by decide +kernel
set_option maxRecDepth 20000 in
theorem lm_proofAt (ok : sj_ok G) (hq : lok G q) {x1 : Int32} (hc : sj_C G 9 me_X11_proofAt [.ref (sj_ad G 0), .int x1] σ (Rc, σ1)) (hr : ∀ k, Rc = .error k → 0 < k ∧ (k = 3 ∨ k = 0 ∨ k = 0)) : lj_C G q me_L_proofAt [.ref (sj_ad G 0), .int x1, .ref q.1] σ f g (lr (zcd 3 0 0) Rc) σ1 (lf Rc f) g := by
  refine lj_enter (hh := [(0, 9, 12, 21)]) ok (by decide +kernel) rfl rfl (Nat.le_of_ble_eq_true rfl) (by simp [Value.category]) (fun p e s m args below meth c htab hT hN => ?_)
  refine tj_aload_n dL_proofAt_0 (i := 2) rfl rfl ?_
  refine tj_iconst (v := nI 0) dL_proofAt_1 (by decide +kernel) ?_
  refine tj_aload_n dL_proofAt_2 (i := 0) rfl rfl ?_
  refine tj_iload_n dL_proofAt_3 (i := 1) rfl rfl ?_
  refine lj_call (M' := me_X11_proofAt) (b := 0) (As := [.int x1]) (rest := [.int (nI 0), .ref q.1]) (fun _ _ h => h) (fun _ h => h) (lok_E hq) dL_proofAt_4 gL_proofAt_X11_proofAt rfl hd_X11_proofAt (by decide +kernel) (by decide +kernel) rfl (Nat.le_of_ble_eq_true rfl) ⟨(Nat.le_of_ble_eq_true rfl), (Nat.le_of_ble_eq_true rfl)⟩ rfl ⟨(Nat.le_of_ble_eq_true rfl), (Nat.le_of_ble_eq_true rfl)⟩ hc (fun k9 hk9 H locs ls ce q9 ok C hH hl hce hcv hcl => ?_) (fun v hv => ?_)
  · obtain ⟨h0, hk⟩ := hr k9 hk9
    rcases hk with rfl | rfl | rfl
    · subst hk9
      refine lj_catch ok C hT htab (pre := []) (suf := []) rfl (by decide) (by decide) ⟨by decide, by decide⟩ (fun z hz => nomatch hz) (by decide +kernel) hH hl hce hcv hcl ?_
      refine tj_astore_n dL_proofAt_12 (i := 3) rfl (by decide) ?_
      refine tj_iconst (v := nI 1) dL_proofAt_13 (by decide +kernel) ?_
      refine lj_open (q := q) (fun _ h => Or.inl h) ?_
      exact lj_ret dL_proofAt_14 rfl (Nat.le_refl _) (Nat.le_refl _)
    · exact absurd h0 (by decide)
    · exact absurd h0 (by decide)
  · subst hv
    refine tj_i2l dL_proofAt_7 ?_
    refine lj_open (q := q) (fun _ h => Or.inl h) ?_
    refine lj_last hq hT hN dL_proofAt_8 ?_
    refine tj_goto (tgt := 15) dL_proofAt_9 (by decide) ?_
    refine tj_iconst (v := nI 0) dL_proofAt_15 (by decide +kernel) ?_
    exact lj_ret dL_proofAt_16 rfl (Nat.zero_le _) (Nat.zero_le _)
set_option maxRecDepth 20000 in
theorem ggL_slotOf_X11_slotOf : GoodIn wsL_slotOf wsX11_slotOf := goodIn_ca (goodIn_ca (goodIn_r _ [7, 8, 9, 10, 11, 12, 6, 13, 14, 15, 16, 17, 18, 19, 20, 21, 22, 23, 24, 25, 26, 27, 28, 29, 30, 31, 32, 33, 34, 35, 36, 37, 38, 39, 40, 41, 42, 43, 44] (by decide +kernel) (by decide +kernel)) (goodIn_sub (fun _ h => List.mem_cons_of_mem _ (List.mem_append_left _ (List.mem_append_right _ h))) (by decide +kernel))) (goodIn_sub (fun _ h => List.mem_cons_of_mem _ (List.mem_append_right _ h)) (by decide +kernel))
set_option maxRecDepth 20000 in
theorem gL_slotOf_X11_slotOf : GoodIn wsL_slotOf (wsV RL 46 RX11 yX11_slotOf wsX11_slotOf) := goodIn_app (goodIn_of _ (by decide +kernel)) ggL_slotOf_X11_slotOf
theorem dL_slotOf_0 : decode cL_slotOf 0 = .ok (.aload_n 2, 1) := by decide +kernel
theorem dL_slotOf_1 : decode cL_slotOf 1 = .ok (.iconst 0, 1) := by decide +kernel
theorem dL_slotOf_2 : decode cL_slotOf 2 = .ok (.aload_n 0, 1) := by decide +kernel
theorem dL_slotOf_3 : decode cL_slotOf 3 = .ok (.iload_n 1, 1) := by decide +kernel
theorem dL_slotOf_4 : decode cL_slotOf 4 = .ok (.invokevirtual 46, 3) := by decide +kernel
theorem dL_slotOf_7 : decode cL_slotOf 7 = .ok (.i2l, 1) := by decide +kernel
theorem dL_slotOf_8 : decode cL_slotOf 8 = .ok (.lastore, 1) := by decide +kernel
theorem dL_slotOf_9 : decode cL_slotOf 9 = .ok (.goto 9, 3) := by decide +kernel
theorem dL_slotOf_12 : decode cL_slotOf 12 = .ok (.astore_n 3, 1) := by decide +kernel
theorem dL_slotOf_13 : decode cL_slotOf 13 = .ok (.iconst 1, 1) := by decide +kernel
theorem dL_slotOf_14 : decode cL_slotOf 14 = .ok (.ireturn, 1) := by decide +kernel
theorem dL_slotOf_15 : decode cL_slotOf 15 = .ok (.astore_n 3, 1) := by decide +kernel
theorem dL_slotOf_16 : decode cL_slotOf 16 = .ok (.iconst 2, 1) := by decide +kernel
theorem dL_slotOf_17 : decode cL_slotOf 17 = .ok (.ireturn, 1) := by decide +kernel
theorem dL_slotOf_18 : decode cL_slotOf 18 = .ok (.iconst 0, 1) := by decide +kernel
theorem dL_slotOf_19 : decode cL_slotOf 19 = .ok (.ireturn, 1) := by decide +kernel
set_option maxRecDepth 20000 in
theorem lm_slotOf (ok : sj_ok G) (hq : lok G q) {x1 : Int32} (hc : sj_C G 10 me_X11_slotOf [.ref (sj_ad G 0), .int x1] σ (Rc, σ1)) (hr : ∀ k, Rc = .error k → 0 < k ∧ (k = 3 ∨ k = 2 ∨ k = 0)) : lj_C G q me_L_slotOf [.ref (sj_ad G 0), .int x1, .ref q.1] σ f g (lr (zcd 3 2 0) Rc) σ1 (lf Rc f) g := by
  refine lj_enter (hh := [(0, 9, 12, 21), (0, 9, 15, 15)]) ok (by decide +kernel) rfl rfl (Nat.le_of_ble_eq_true rfl) (by simp [Value.category]) (fun p e s m args below meth c htab hT hN => ?_)
  refine tj_aload_n dL_slotOf_0 (i := 2) rfl rfl ?_
  refine tj_iconst (v := nI 0) dL_slotOf_1 (by decide +kernel) ?_
  refine tj_aload_n dL_slotOf_2 (i := 0) rfl rfl ?_
  refine tj_iload_n dL_slotOf_3 (i := 1) rfl rfl ?_
  refine lj_call (M' := me_X11_slotOf) (b := 0) (As := [.int x1]) (rest := [.int (nI 0), .ref q.1]) (fun _ _ h => h) (fun _ h => h) (lok_E hq) dL_slotOf_4 gL_slotOf_X11_slotOf rfl hd_X11_slotOf (by decide +kernel) (by decide +kernel) rfl (Nat.le_of_ble_eq_true rfl) ⟨(Nat.le_of_ble_eq_true rfl), (Nat.le_of_ble_eq_true rfl)⟩ rfl ⟨(Nat.le_of_ble_eq_true rfl), (Nat.le_of_ble_eq_true rfl)⟩ hc (fun k9 hk9 H locs ls ce q9 ok C hH hl hce hcv hcl => ?_) (fun v hv => ?_)
  · obtain ⟨h0, hk⟩ := hr k9 hk9
    rcases hk with rfl | rfl | rfl
    · subst hk9
      refine lj_catch ok C hT htab (pre := []) (suf := [(0, 9, 15, 15)]) rfl (by decide) (by decide) ⟨by decide, by decide⟩ (fun z hz => nomatch hz) (by decide +kernel) hH hl hce hcv hcl ?_
      refine tj_astore_n dL_slotOf_12 (i := 3) rfl (by decide) ?_
      refine tj_iconst (v := nI 1) dL_slotOf_13 (by decide +kernel) ?_
      refine lj_open (q := q) (fun _ h => Or.inl h) ?_
      exact lj_ret dL_slotOf_14 rfl (Nat.le_refl _) (Nat.le_refl _)
    · subst hk9
      refine lj_catch ok C hT htab (pre := [(0, 9, 12, 21)]) (suf := []) rfl (by decide) (by decide) ⟨by decide, by decide⟩ (fun z hz => by
        simp only [List.mem_cons, List.not_mem_nil, or_false] at hz
        subst hz
        exact ⟨3, ⟨by decide, by decide, by decide, by decide⟩, by decide +kernel⟩) (by decide +kernel) hH hl hce hcv hcl ?_
      refine tj_astore_n dL_slotOf_15 (i := 3) rfl (by decide) ?_
      refine tj_iconst (v := nI 2) dL_slotOf_16 (by decide +kernel) ?_
      refine lj_open (q := q) (fun _ h => Or.inl h) ?_
      exact lj_ret dL_slotOf_17 rfl (Nat.le_refl _) (Nat.le_refl _)
    · exact absurd h0 (by decide)
  · subst hv
    refine tj_i2l dL_slotOf_7 ?_
    refine lj_open (q := q) (fun _ h => Or.inl h) ?_
    refine lj_last hq hT hN dL_slotOf_8 ?_
    refine tj_goto (tgt := 18) dL_slotOf_9 (by decide) ?_
    refine tj_iconst (v := nI 0) dL_slotOf_18 (by decide +kernel) ?_
    exact lj_ret dL_slotOf_19 rfl (Nat.zero_le _) (Nat.zero_le _)
set_option maxRecDepth 20000 in
theorem ggL_lessonAt_X11_lessonAt : GoodIn wsL_lessonAt wsX11_lessonAt := goodIn_ca (goodIn_ca (goodIn_r _ [7, 8, 9, 10, 11, 12, 6, 13, 14, 15, 16, 17, 18, 19, 20, 21, 22, 23, 24, 25, 26, 27, 28, 29, 30, 31, 32, 33, 34, 35, 36, 37, 38, 39, 40, 41, 42, 43, 44, 45, 46, 47, 48, 49, 50, 51, 52, 53, 54, 55, 56, 57, 58, 59, 60] (by decide +kernel) (by decide +kernel)) (goodIn_sub (fun _ h => List.mem_cons_of_mem _ (List.mem_append_left _ (List.mem_append_right _ h))) (by decide +kernel))) (goodIn_sub (fun _ h => List.mem_cons_of_mem _ (List.mem_append_right _ h)) (by decide +kernel))
set_option maxRecDepth 20000 in
theorem gL_lessonAt_X11_lessonAt : GoodIn wsL_lessonAt (wsV RL 49 RX11 yX11_lessonAt wsX11_lessonAt) := goodIn_app (goodIn_of _ (by decide +kernel)) ggL_lessonAt_X11_lessonAt
theorem dL_lessonAt_0 : decode cL_lessonAt 0 = .ok (.aload 4, 2) := by decide +kernel
theorem dL_lessonAt_2 : decode cL_lessonAt 2 = .ok (.iconst 0, 1) := by decide +kernel
theorem dL_lessonAt_3 : decode cL_lessonAt 3 = .ok (.aload_n 0, 1) := by decide +kernel
theorem dL_lessonAt_4 : decode cL_lessonAt 4 = .ok (.iload_n 1, 1) := by decide +kernel
theorem dL_lessonAt_5 : decode cL_lessonAt 5 = .ok (.iload_n 2, 1) := by decide +kernel
theorem dL_lessonAt_6 : decode cL_lessonAt 6 = .ok (.iload_n 3, 1) := by decide +kernel
theorem dL_lessonAt_7 : decode cL_lessonAt 7 = .ok (.invokevirtual 49, 3) := by decide +kernel
theorem dL_lessonAt_10 : decode cL_lessonAt 10 = .ok (.i2l, 1) := by decide +kernel
theorem dL_lessonAt_11 : decode cL_lessonAt 11 = .ok (.lastore, 1) := by decide +kernel
theorem dL_lessonAt_12 : decode cL_lessonAt 12 = .ok (.goto 11, 3) := by decide +kernel
theorem dL_lessonAt_15 : decode cL_lessonAt 15 = .ok (.astore 5, 2) := by decide +kernel
theorem dL_lessonAt_17 : decode cL_lessonAt 17 = .ok (.iconst 1, 1) := by decide +kernel
theorem dL_lessonAt_18 : decode cL_lessonAt 18 = .ok (.ireturn, 1) := by decide +kernel
theorem dL_lessonAt_19 : decode cL_lessonAt 19 = .ok (.astore 5, 2) := by decide +kernel
theorem dL_lessonAt_21 : decode cL_lessonAt 21 = .ok (.iconst 2, 1) := by decide +kernel
theorem dL_lessonAt_22 : decode cL_lessonAt 22 = .ok (.ireturn, 1) := by decide +kernel
theorem dL_lessonAt_23 : decode cL_lessonAt 23 = .ok (.iconst 0, 1) := by decide +kernel
theorem dL_lessonAt_24 : decode cL_lessonAt 24 = .ok (.ireturn, 1) := by decide +kernel
set_option maxRecDepth 20000 in
theorem lm_lessonAt (ok : sj_ok G) (hq : lok G q) {x1 x2 x3 : Int32} (hc : sj_C G 12 me_X11_lessonAt [.ref (sj_ad G 0), .int x1, .int x2, .int x3] σ (Rc, σ1)) (hr : ∀ k, Rc = .error k → 0 < k ∧ (k = 1 ∨ k = 2 ∨ k = 0)) : lj_C G q me_L_lessonAt [.ref (sj_ad G 0), .int x1, .int x2, .int x3, .ref q.1] σ f g (lr (zcd 1 2 0) Rc) σ1 (lf Rc f) g := by
  refine lj_enter (hh := [(0, 12, 15, 13), (0, 12, 19, 15)]) ok (by decide +kernel) rfl rfl (Nat.le_of_ble_eq_true rfl) (by simp [Value.category]) (fun p e s m args below meth c htab hT hN => ?_)
  refine tj_aload dL_lessonAt_0 rfl ?_
  refine tj_iconst (v := nI 0) dL_lessonAt_2 (by decide +kernel) ?_
  refine tj_aload_n dL_lessonAt_3 (i := 0) rfl rfl ?_
  refine tj_iload_n dL_lessonAt_4 (i := 1) rfl rfl ?_
  refine tj_iload_n dL_lessonAt_5 (i := 2) rfl rfl ?_
  refine tj_iload_n dL_lessonAt_6 (i := 3) rfl rfl ?_
  refine lj_call (M' := me_X11_lessonAt) (b := 0) (As := [.int x1, .int x2, .int x3]) (rest := [.int (nI 0), .ref q.1]) (fun _ _ h => h) (fun _ h => h) (lok_E hq) dL_lessonAt_7 gL_lessonAt_X11_lessonAt rfl hd_X11_lessonAt (by decide +kernel) (by decide +kernel) rfl (Nat.le_of_ble_eq_true rfl) ⟨(Nat.le_of_ble_eq_true rfl), (Nat.le_of_ble_eq_true rfl)⟩ rfl ⟨(Nat.le_of_ble_eq_true rfl), (Nat.le_of_ble_eq_true rfl)⟩ hc (fun k9 hk9 H locs ls ce q9 ok C hH hl hce hcv hcl => ?_) (fun v hv => ?_)
  · obtain ⟨h0, hk⟩ := hr k9 hk9
    rcases hk with rfl | rfl | rfl
    · subst hk9
      refine lj_catch ok C hT htab (pre := []) (suf := [(0, 12, 19, 15)]) rfl (by decide) (by decide) ⟨by decide, by decide⟩ (fun z hz => nomatch hz) (by decide +kernel) hH hl hce hcv hcl ?_
      refine tj_astore dL_lessonAt_15 (by decide) ?_
      refine tj_iconst (v := nI 1) dL_lessonAt_17 (by decide +kernel) ?_
      refine lj_open (q := q) (fun _ h => Or.inl h) ?_
      exact lj_ret dL_lessonAt_18 rfl (Nat.le_refl _) (Nat.le_refl _)
    · subst hk9
      refine lj_catch ok C hT htab (pre := [(0, 12, 15, 13)]) (suf := []) rfl (by decide) (by decide) ⟨by decide, by decide⟩ (fun z hz => by
        simp only [List.mem_cons, List.not_mem_nil, or_false] at hz
        subst hz
        exact ⟨1, ⟨by decide, by decide, by decide, by decide⟩, by decide +kernel⟩) (by decide +kernel) hH hl hce hcv hcl ?_
      refine tj_astore dL_lessonAt_19 (by decide) ?_
      refine tj_iconst (v := nI 2) dL_lessonAt_21 (by decide +kernel) ?_
      refine lj_open (q := q) (fun _ h => Or.inl h) ?_
      exact lj_ret dL_lessonAt_22 rfl (Nat.le_refl _) (Nat.le_refl _)
    · exact absurd h0 (by decide)
  · subst hv
    refine tj_i2l dL_lessonAt_10 ?_
    refine lj_open (q := q) (fun _ h => Or.inl h) ?_
    refine lj_last hq hT hN dL_lessonAt_11 ?_
    refine tj_goto (tgt := 23) dL_lessonAt_12 (by decide) ?_
    refine tj_iconst (v := nI 0) dL_lessonAt_23 (by decide +kernel) ?_
    exact lj_ret dL_lessonAt_24 rfl (Nat.zero_le _) (Nat.zero_le _)
set_option maxRecDepth 20000 in
theorem ggL_roomOf_X11_roomOf : GoodIn wsL_roomOf wsX11_roomOf := goodIn_ca (goodIn_ca (goodIn_r _ [7, 8, 9, 10, 11, 12, 13, 6, 14, 15, 16, 17, 18, 19, 20, 21, 22, 23, 24, 25, 26, 27, 28, 29, 30, 31, 32, 33, 34, 35, 36, 37, 38, 39, 40, 41, 42, 43, 44, 45, 46, 47, 48, 49, 50, 51, 52, 53, 54, 55, 56, 57, 58, 59, 60, 61, 62, 63, 64, 65, 66, 67, 68, 69, 70, 71, 72, 73, 74, 75, 76, 77, 78, 79, 80, 81, 82, 83, 84, 85, 86, 87, 88, 89, 90, 91, 92, 93, 94, 95, 96, 97, 98, 99, 100, 101, 102, 103, 104, 105, 106, 107, 108, 109, 110, 111, 112, 113, 114, 115, 116, 117] (by decide +kernel) (by decide +kernel)) (goodIn_sub (fun _ h => List.mem_cons_of_mem _ (List.mem_append_left _ (List.mem_append_right _ h))) (by decide +kernel))) (goodIn_sub (fun _ h => List.mem_cons_of_mem _ (List.mem_append_right _ h)) (by decide +kernel))
set_option maxRecDepth 20000 in
theorem gL_roomOf_X11_roomOf : GoodIn wsL_roomOf (wsV RL 53 RX11 yX11_roomOf wsX11_roomOf) := goodIn_app (goodIn_of _ (by decide +kernel)) ggL_roomOf_X11_roomOf
theorem dL_roomOf_0 : decode cL_roomOf 0 = .ok (.aload_n 2, 1) := by decide +kernel
theorem dL_roomOf_1 : decode cL_roomOf 1 = .ok (.iconst 0, 1) := by decide +kernel
theorem dL_roomOf_2 : decode cL_roomOf 2 = .ok (.aload_n 0, 1) := by decide +kernel
theorem dL_roomOf_3 : decode cL_roomOf 3 = .ok (.iload_n 1, 1) := by decide +kernel
theorem dL_roomOf_4 : decode cL_roomOf 4 = .ok (.invokevirtual 53, 3) := by decide +kernel
theorem dL_roomOf_7 : decode cL_roomOf 7 = .ok (.i2l, 1) := by decide +kernel
theorem dL_roomOf_8 : decode cL_roomOf 8 = .ok (.lastore, 1) := by decide +kernel
theorem dL_roomOf_9 : decode cL_roomOf 9 = .ok (.goto 9, 3) := by decide +kernel
theorem dL_roomOf_12 : decode cL_roomOf 12 = .ok (.astore_n 3, 1) := by decide +kernel
theorem dL_roomOf_13 : decode cL_roomOf 13 = .ok (.iconst 1, 1) := by decide +kernel
theorem dL_roomOf_14 : decode cL_roomOf 14 = .ok (.ireturn, 1) := by decide +kernel
theorem dL_roomOf_15 : decode cL_roomOf 15 = .ok (.astore_n 3, 1) := by decide +kernel
theorem dL_roomOf_16 : decode cL_roomOf 16 = .ok (.iconst 2, 1) := by decide +kernel
theorem dL_roomOf_17 : decode cL_roomOf 17 = .ok (.ireturn, 1) := by decide +kernel
theorem dL_roomOf_18 : decode cL_roomOf 18 = .ok (.iconst 0, 1) := by decide +kernel
theorem dL_roomOf_19 : decode cL_roomOf 19 = .ok (.ireturn, 1) := by decide +kernel
set_option maxRecDepth 20000 in
theorem lm_roomOf (ok : sj_ok G) (hq : lok G q) {x1 : Int32} (hc : sj_C G 10 me_X11_roomOf [.ref (sj_ad G 0), .int x1] σ (Rc, σ1)) (hr : ∀ k, Rc = .error k → 0 < k ∧ (k = 3 ∨ k = 2 ∨ k = 0)) : lj_C G q me_L_roomOf [.ref (sj_ad G 0), .int x1, .ref q.1] σ f g (lr (zcd 3 2 0) Rc) σ1 (lf Rc f) g := by
  refine lj_enter (hh := [(0, 9, 12, 21), (0, 9, 15, 15)]) ok (by decide +kernel) rfl rfl (Nat.le_of_ble_eq_true rfl) (by simp [Value.category]) (fun p e s m args below meth c htab hT hN => ?_)
  refine tj_aload_n dL_roomOf_0 (i := 2) rfl rfl ?_
  refine tj_iconst (v := nI 0) dL_roomOf_1 (by decide +kernel) ?_
  refine tj_aload_n dL_roomOf_2 (i := 0) rfl rfl ?_
  refine tj_iload_n dL_roomOf_3 (i := 1) rfl rfl ?_
  refine lj_call (M' := me_X11_roomOf) (b := 0) (As := [.int x1]) (rest := [.int (nI 0), .ref q.1]) (fun _ _ h => h) (fun _ h => h) (lok_E hq) dL_roomOf_4 gL_roomOf_X11_roomOf rfl hd_X11_roomOf (by decide +kernel) (by decide +kernel) rfl (Nat.le_of_ble_eq_true rfl) ⟨(Nat.le_of_ble_eq_true rfl), (Nat.le_of_ble_eq_true rfl)⟩ rfl ⟨(Nat.le_of_ble_eq_true rfl), (Nat.le_of_ble_eq_true rfl)⟩ hc (fun k9 hk9 H locs ls ce q9 ok C hH hl hce hcv hcl => ?_) (fun v hv => ?_)
  · obtain ⟨h0, hk⟩ := hr k9 hk9
    rcases hk with rfl | rfl | rfl
    · subst hk9
      refine lj_catch ok C hT htab (pre := []) (suf := [(0, 9, 15, 15)]) rfl (by decide) (by decide) ⟨by decide, by decide⟩ (fun z hz => nomatch hz) (by decide +kernel) hH hl hce hcv hcl ?_
      refine tj_astore_n dL_roomOf_12 (i := 3) rfl (by decide) ?_
      refine tj_iconst (v := nI 1) dL_roomOf_13 (by decide +kernel) ?_
      refine lj_open (q := q) (fun _ h => Or.inl h) ?_
      exact lj_ret dL_roomOf_14 rfl (Nat.le_refl _) (Nat.le_refl _)
    · subst hk9
      refine lj_catch ok C hT htab (pre := [(0, 9, 12, 21)]) (suf := []) rfl (by decide) (by decide) ⟨by decide, by decide⟩ (fun z hz => by
        simp only [List.mem_cons, List.not_mem_nil, or_false] at hz
        subst hz
        exact ⟨3, ⟨by decide, by decide, by decide, by decide⟩, by decide +kernel⟩) (by decide +kernel) hH hl hce hcv hcl ?_
      refine tj_astore_n dL_roomOf_15 (i := 3) rfl (by decide) ?_
      refine tj_iconst (v := nI 2) dL_roomOf_16 (by decide +kernel) ?_
      refine lj_open (q := q) (fun _ h => Or.inl h) ?_
      exact lj_ret dL_roomOf_17 rfl (Nat.le_refl _) (Nat.le_refl _)
    · exact absurd h0 (by decide)
  · subst hv
    refine tj_i2l dL_roomOf_7 ?_
    refine lj_open (q := q) (fun _ h => Or.inl h) ?_
    refine lj_last hq hT hN dL_roomOf_8 ?_
    refine tj_goto (tgt := 18) dL_roomOf_9 (by decide) ?_
    refine tj_iconst (v := nI 0) dL_roomOf_18 (by decide +kernel) ?_
    exact lj_ret dL_roomOf_19 rfl (Nat.zero_le _) (Nat.zero_le _)
set_option maxRecDepth 20000 in
theorem ggL_choices_X11_choices : GoodIn wsL_choices wsX11_choices := goodIn_ca (goodIn_ca (goodIn_r _ [7, 8, 9, 10, 11, 12, 13, 6, 14, 15, 16, 17, 18, 19, 20, 21, 22, 23, 24, 25, 26, 27, 28, 29, 30, 31, 32, 33, 34, 35, 36, 37, 38, 39, 40, 41, 42, 43, 44, 45, 46, 47, 48, 49, 50, 51, 52, 53, 54, 55, 56, 57, 58, 59, 60, 61, 62, 63, 64, 65, 66, 67, 68, 69, 70, 71, 72, 73, 74, 75, 76, 77, 78, 79, 80, 81, 82, 83, 84, 85, 86, 87, 88, 89, 90, 91, 92, 93, 94, 95, 96, 97, 98, 99, 100, 101, 102, 103, 104, 105, 106, 107, 108, 109, 110, 111, 112, 113, 114, 115, 116, 117, 118, 119, 120, 121, 122, 123, 124, 125] (by decide +kernel) (by decide +kernel)) (goodIn_sub (fun _ h => List.mem_cons_of_mem _ (List.mem_append_left _ (List.mem_append_right _ h))) (by decide +kernel))) (goodIn_sub (fun _ h => List.mem_cons_of_mem _ (List.mem_append_right _ h)) (by decide +kernel))
set_option maxRecDepth 20000 in
theorem gL_choices_X11_choices : GoodIn wsL_choices (wsV RL 56 RX11 yX11_choices wsX11_choices) := goodIn_app (goodIn_of _ (by decide +kernel)) ggL_choices_X11_choices
theorem dL_choices_0 : decode cL_choices 0 = .ok (.aload_n 2, 1) := by decide +kernel
theorem dL_choices_1 : decode cL_choices 1 = .ok (.iconst 0, 1) := by decide +kernel
theorem dL_choices_2 : decode cL_choices 2 = .ok (.aload_n 0, 1) := by decide +kernel
theorem dL_choices_3 : decode cL_choices 3 = .ok (.iload_n 1, 1) := by decide +kernel
theorem dL_choices_4 : decode cL_choices 4 = .ok (.invokevirtual 56, 3) := by decide +kernel
theorem dL_choices_7 : decode cL_choices 7 = .ok (.i2l, 1) := by decide +kernel
theorem dL_choices_8 : decode cL_choices 8 = .ok (.lastore, 1) := by decide +kernel
theorem dL_choices_9 : decode cL_choices 9 = .ok (.goto 9, 3) := by decide +kernel
theorem dL_choices_12 : decode cL_choices 12 = .ok (.astore_n 3, 1) := by decide +kernel
theorem dL_choices_13 : decode cL_choices 13 = .ok (.iconst 1, 1) := by decide +kernel
theorem dL_choices_14 : decode cL_choices 14 = .ok (.ireturn, 1) := by decide +kernel
theorem dL_choices_15 : decode cL_choices 15 = .ok (.astore_n 3, 1) := by decide +kernel
theorem dL_choices_16 : decode cL_choices 16 = .ok (.iconst 2, 1) := by decide +kernel
theorem dL_choices_17 : decode cL_choices 17 = .ok (.ireturn, 1) := by decide +kernel
theorem dL_choices_18 : decode cL_choices 18 = .ok (.iconst 0, 1) := by decide +kernel
theorem dL_choices_19 : decode cL_choices 19 = .ok (.ireturn, 1) := by decide +kernel
set_option maxRecDepth 20000 in
theorem lm_choices (ok : sj_ok G) (hq : lok G q) {x1 : Int32} (hc : sj_C G 10 me_X11_choices [.ref (sj_ad G 0), .int x1] σ (Rc, σ1)) (hr : ∀ k, Rc = .error k → 0 < k ∧ (k = 3 ∨ k = 2 ∨ k = 0)) : lj_C G q me_L_choices [.ref (sj_ad G 0), .int x1, .ref q.1] σ f g (lr (zcd 3 2 0) Rc) σ1 (lf Rc f) g := by
  refine lj_enter (hh := [(0, 9, 12, 21), (0, 9, 15, 15)]) ok (by decide +kernel) rfl rfl (Nat.le_of_ble_eq_true rfl) (by simp [Value.category]) (fun p e s m args below meth c htab hT hN => ?_)
  refine tj_aload_n dL_choices_0 (i := 2) rfl rfl ?_
  refine tj_iconst (v := nI 0) dL_choices_1 (by decide +kernel) ?_
  refine tj_aload_n dL_choices_2 (i := 0) rfl rfl ?_
  refine tj_iload_n dL_choices_3 (i := 1) rfl rfl ?_
  refine lj_call (M' := me_X11_choices) (b := 0) (As := [.int x1]) (rest := [.int (nI 0), .ref q.1]) (fun _ _ h => h) (fun _ h => h) (lok_E hq) dL_choices_4 gL_choices_X11_choices rfl hd_X11_choices (by decide +kernel) (by decide +kernel) rfl (Nat.le_of_ble_eq_true rfl) ⟨(Nat.le_of_ble_eq_true rfl), (Nat.le_of_ble_eq_true rfl)⟩ rfl ⟨(Nat.le_of_ble_eq_true rfl), (Nat.le_of_ble_eq_true rfl)⟩ hc (fun k9 hk9 H locs ls ce q9 ok C hH hl hce hcv hcl => ?_) (fun v hv => ?_)
  · obtain ⟨h0, hk⟩ := hr k9 hk9
    rcases hk with rfl | rfl | rfl
    · subst hk9
      refine lj_catch ok C hT htab (pre := []) (suf := [(0, 9, 15, 15)]) rfl (by decide) (by decide) ⟨by decide, by decide⟩ (fun z hz => nomatch hz) (by decide +kernel) hH hl hce hcv hcl ?_
      refine tj_astore_n dL_choices_12 (i := 3) rfl (by decide) ?_
      refine tj_iconst (v := nI 1) dL_choices_13 (by decide +kernel) ?_
      refine lj_open (q := q) (fun _ h => Or.inl h) ?_
      exact lj_ret dL_choices_14 rfl (Nat.le_refl _) (Nat.le_refl _)
    · subst hk9
      refine lj_catch ok C hT htab (pre := [(0, 9, 12, 21)]) (suf := []) rfl (by decide) (by decide) ⟨by decide, by decide⟩ (fun z hz => by
        simp only [List.mem_cons, List.not_mem_nil, or_false] at hz
        subst hz
        exact ⟨3, ⟨by decide, by decide, by decide, by decide⟩, by decide +kernel⟩) (by decide +kernel) hH hl hce hcv hcl ?_
      refine tj_astore_n dL_choices_15 (i := 3) rfl (by decide) ?_
      refine tj_iconst (v := nI 2) dL_choices_16 (by decide +kernel) ?_
      refine lj_open (q := q) (fun _ h => Or.inl h) ?_
      exact lj_ret dL_choices_17 rfl (Nat.le_refl _) (Nat.le_refl _)
    · exact absurd h0 (by decide)
  · subst hv
    refine tj_i2l dL_choices_7 ?_
    refine lj_open (q := q) (fun _ h => Or.inl h) ?_
    refine lj_last hq hT hN dL_choices_8 ?_
    refine tj_goto (tgt := 18) dL_choices_9 (by decide) ?_
    refine tj_iconst (v := nI 0) dL_choices_18 (by decide +kernel) ?_
    exact lj_ret dL_choices_19 rfl (Nat.zero_le _) (Nat.zero_le _)
set_option maxRecDepth 20000 in
theorem ggL_move_X11_move : GoodIn wsL_move wsX11_move := goodIn_ca (goodIn_ca (goodIn_ca (goodIn_r _ [8, 9, 10, 11, 12, 13, 14, 15, 16, 17, 7, 18, 19, 20, 21, 22, 23, 24, 25, 26, 27, 28, 29, 30, 31, 32, 33, 34, 35, 36, 37, 38, 39, 40, 41, 42, 43, 44, 45, 46, 47, 48, 49, 50, 51, 52, 53, 54, 55, 56, 57, 58, 59, 60, 61, 62, 63, 64, 65, 66, 67, 68, 69, 70, 71, 72, 73, 74, 75, 76, 77, 78, 79, 80, 81, 82, 83, 84, 85, 86, 87, 88, 89, 90, 91, 92, 93, 94, 95, 96, 97, 98, 99, 100, 101, 102, 103, 104, 105, 106, 107, 108, 109, 110, 111, 112, 113, 114, 115, 116, 117, 118, 119, 120, 121, 122, 123, 124, 125, 126, 127, 128, 129, 130, 131, 132, 133, 134, 135, 136, 137, 138, 139, 140, 141, 142, 143, 144, 145, 146, 147, 148, 149, 150, 151, 152, 153, 154, 155, 156, 157, 158, 159, 160, 161, 162, 163, 164, 165, 166, 167, 168, 169, 170, 171, 172, 173, 174, 175, 176, 177, 178, 179, 180, 181, 182, 183, 184, 185, 186, 187, 188, 189, 190, 191, 192, 193, 194, 195, 196, 197, 198, 199, 200, 201, 202, 203, 204, 205, 206, 207, 208, 209, 210] (by decide +kernel) (by decide +kernel)) (goodIn_sub (fun _ h => List.mem_cons_of_mem _ (List.mem_append_left _ (List.mem_append_left _ (List.mem_append_right _ h)))) (by decide +kernel))) (goodIn_sub (fun _ h => List.mem_cons_of_mem _ (List.mem_append_left _ (List.mem_append_right _ h))) (by decide +kernel))) (goodIn_sub (fun _ h => List.mem_cons_of_mem _ (List.mem_append_right _ h)) (by decide +kernel))
set_option maxRecDepth 20000 in
theorem gL_move_X11_move : GoodIn wsL_move (wsV RL 59 RX11 yX11_move wsX11_move) := goodIn_app (goodIn_of _ (by decide +kernel)) ggL_move_X11_move
theorem dL_move_0 : decode cL_move 0 = .ok (.aload_n 3, 1) := by decide +kernel
theorem dL_move_1 : decode cL_move 1 = .ok (.iconst 0, 1) := by decide +kernel
theorem dL_move_2 : decode cL_move 2 = .ok (.aload_n 0, 1) := by decide +kernel
theorem dL_move_3 : decode cL_move 3 = .ok (.iload_n 1, 1) := by decide +kernel
theorem dL_move_4 : decode cL_move 4 = .ok (.iload_n 2, 1) := by decide +kernel
theorem dL_move_5 : decode cL_move 5 = .ok (.invokevirtual 59, 3) := by decide +kernel
theorem dL_move_8 : decode cL_move 8 = .ok (.i2l, 1) := by decide +kernel
theorem dL_move_9 : decode cL_move 9 = .ok (.lastore, 1) := by decide +kernel
theorem dL_move_10 : decode cL_move 10 = .ok (.goto 15, 3) := by decide +kernel
theorem dL_move_13 : decode cL_move 13 = .ok (.astore 4, 2) := by decide +kernel
theorem dL_move_15 : decode cL_move 15 = .ok (.iconst 1, 1) := by decide +kernel
theorem dL_move_16 : decode cL_move 16 = .ok (.ireturn, 1) := by decide +kernel
theorem dL_move_17 : decode cL_move 17 = .ok (.astore 4, 2) := by decide +kernel
theorem dL_move_19 : decode cL_move 19 = .ok (.iconst 2, 1) := by decide +kernel
theorem dL_move_20 : decode cL_move 20 = .ok (.ireturn, 1) := by decide +kernel
theorem dL_move_21 : decode cL_move 21 = .ok (.astore 4, 2) := by decide +kernel
theorem dL_move_23 : decode cL_move 23 = .ok (.iconst 3, 1) := by decide +kernel
theorem dL_move_24 : decode cL_move 24 = .ok (.ireturn, 1) := by decide +kernel
theorem dL_move_25 : decode cL_move 25 = .ok (.iconst 0, 1) := by decide +kernel
theorem dL_move_26 : decode cL_move 26 = .ok (.ireturn, 1) := by decide +kernel
set_option maxRecDepth 20000 in
theorem lm_move (ok : sj_ok G) (hq : lok G q) {x1 x2 : Int32} (hc : sj_C G 11 me_X11_move [.ref (sj_ad G 0), .int x1, .int x2] σ (Rc, σ1)) (hr : ∀ k, Rc = .error k → 0 < k ∧ (k = 3 ∨ k = 1 ∨ k = 2)) : lj_C G q me_L_move [.ref (sj_ad G 0), .int x1, .int x2, .ref q.1] σ f g (lr (zcd 3 1 2) Rc) σ1 (lf Rc f) g := by
  refine lj_enter (hh := [(0, 10, 13, 21), (0, 10, 17, 13), (0, 10, 21, 15)]) ok (by decide +kernel) rfl rfl (Nat.le_of_ble_eq_true rfl) (by simp [Value.category]) (fun p e s m args below meth c htab hT hN => ?_)
  refine tj_aload_n dL_move_0 (i := 3) rfl rfl ?_
  refine tj_iconst (v := nI 0) dL_move_1 (by decide +kernel) ?_
  refine tj_aload_n dL_move_2 (i := 0) rfl rfl ?_
  refine tj_iload_n dL_move_3 (i := 1) rfl rfl ?_
  refine tj_iload_n dL_move_4 (i := 2) rfl rfl ?_
  refine lj_call (M' := me_X11_move) (b := 0) (As := [.int x1, .int x2]) (rest := [.int (nI 0), .ref q.1]) (fun _ _ h => h) (fun _ h => h) (lok_E hq) dL_move_5 gL_move_X11_move rfl hd_X11_move (by decide +kernel) (by decide +kernel) rfl (Nat.le_of_ble_eq_true rfl) ⟨(Nat.le_of_ble_eq_true rfl), (Nat.le_of_ble_eq_true rfl)⟩ rfl ⟨(Nat.le_of_ble_eq_true rfl), (Nat.le_of_ble_eq_true rfl)⟩ hc (fun k9 hk9 H locs ls ce q9 ok C hH hl hce hcv hcl => ?_) (fun v hv => ?_)
  · obtain ⟨h0, hk⟩ := hr k9 hk9
    rcases hk with rfl | rfl | rfl
    · subst hk9
      refine lj_catch ok C hT htab (pre := []) (suf := [(0, 10, 17, 13), (0, 10, 21, 15)]) rfl (by decide) (by decide) ⟨by decide, by decide⟩ (fun z hz => nomatch hz) (by decide +kernel) hH hl hce hcv hcl ?_
      refine tj_astore dL_move_13 (by decide) ?_
      refine tj_iconst (v := nI 1) dL_move_15 (by decide +kernel) ?_
      refine lj_open (q := q) (fun _ h => Or.inl h) ?_
      exact lj_ret dL_move_16 rfl (Nat.le_refl _) (Nat.le_refl _)
    · subst hk9
      refine lj_catch ok C hT htab (pre := [(0, 10, 13, 21)]) (suf := [(0, 10, 21, 15)]) rfl (by decide) (by decide) ⟨by decide, by decide⟩ (fun z hz => by
        simp only [List.mem_cons, List.not_mem_nil, or_false] at hz
        subst hz
        exact ⟨3, ⟨by decide, by decide, by decide, by decide⟩, by decide +kernel⟩) (by decide +kernel) hH hl hce hcv hcl ?_
      refine tj_astore dL_move_17 (by decide) ?_
      refine tj_iconst (v := nI 2) dL_move_19 (by decide +kernel) ?_
      refine lj_open (q := q) (fun _ h => Or.inl h) ?_
      exact lj_ret dL_move_20 rfl (Nat.le_refl _) (Nat.le_refl _)
    · subst hk9
      refine lj_catch ok C hT htab (pre := [(0, 10, 13, 21), (0, 10, 17, 13)]) (suf := []) rfl (by decide) (by decide) ⟨by decide, by decide⟩ (fun z hz => by
        simp only [List.mem_cons, List.not_mem_nil, or_false] at hz
        rcases hz with hz | hz
        · subst hz
          exact ⟨3, ⟨by decide, by decide, by decide, by decide⟩, by decide +kernel⟩
        · subst hz
          exact ⟨1, ⟨by decide, by decide, by decide, by decide⟩, by decide +kernel⟩) (by decide +kernel) hH hl hce hcv hcl ?_
      refine tj_astore dL_move_21 (by decide) ?_
      refine tj_iconst (v := nI 3) dL_move_23 (by decide +kernel) ?_
      refine lj_open (q := q) (fun _ h => Or.inl h) ?_
      exact lj_ret dL_move_24 rfl (Nat.le_refl _) (Nat.le_refl _)
  · subst hv
    refine tj_i2l dL_move_8 ?_
    refine lj_open (q := q) (fun _ h => Or.inl h) ?_
    refine lj_last hq hT hN dL_move_9 ?_
    refine tj_goto (tgt := 25) dL_move_10 (by decide) ?_
    refine tj_iconst (v := nI 0) dL_move_25 (by decide +kernel) ?_
    exact lj_ret dL_move_26 rfl (Nat.zero_le _) (Nat.zero_le _)
set_option maxRecDepth 20000 in
theorem ggL_holds_X11_holds : GoodIn wsL_holds wsX11_holds := goodIn_ca (goodIn_ca (goodIn_r _ [7, 8, 9, 10, 11, 12, 6, 13, 14, 15, 16, 17, 18, 19, 20, 21, 22, 23, 24, 25, 26, 27, 28, 29, 30, 31, 32, 33, 34, 35, 36, 37, 38, 39, 40, 41, 42, 43, 44, 45, 46, 47, 48, 49, 50, 51, 52, 53, 54, 55, 56, 57, 58, 59, 60, 61, 62, 63, 64, 65, 66, 67, 68] (by decide +kernel) (by decide +kernel)) (goodIn_sub (fun _ h => List.mem_cons_of_mem _ (List.mem_append_left _ (List.mem_append_right _ h))) (by decide +kernel))) (goodIn_sub (fun _ h => List.mem_cons_of_mem _ (List.mem_append_right _ h)) (by decide +kernel))
set_option maxRecDepth 20000 in
theorem gL_holds_X11_holds : GoodIn wsL_holds (wsV RL 62 RX11 yX11_holds wsX11_holds) := goodIn_app (goodIn_of _ (by decide +kernel)) ggL_holds_X11_holds
theorem dL_holds_0 : decode cL_holds 0 = .ok (.aload_n 2, 1) := by decide +kernel
theorem dL_holds_1 : decode cL_holds 1 = .ok (.iconst 0, 1) := by decide +kernel
theorem dL_holds_2 : decode cL_holds 2 = .ok (.aload_n 0, 1) := by decide +kernel
theorem dL_holds_3 : decode cL_holds 3 = .ok (.iload_n 1, 1) := by decide +kernel
theorem dL_holds_4 : decode cL_holds 4 = .ok (.invokevirtual 62, 3) := by decide +kernel
theorem dL_holds_7 : decode cL_holds 7 = .ok (.ifCond .eq 7, 3) := by decide +kernel
theorem dL_holds_10 : decode cL_holds 10 = .ok (.lconst 1, 1) := by decide +kernel
theorem dL_holds_11 : decode cL_holds 11 = .ok (.goto 4, 3) := by decide +kernel
theorem dL_holds_14 : decode cL_holds 14 = .ok (.lconst 0, 1) := by decide +kernel
theorem dL_holds_15 : decode cL_holds 15 = .ok (.lastore, 1) := by decide +kernel
theorem dL_holds_16 : decode cL_holds 16 = .ok (.goto 9, 3) := by decide +kernel
theorem dL_holds_19 : decode cL_holds 19 = .ok (.astore_n 3, 1) := by decide +kernel
theorem dL_holds_20 : decode cL_holds 20 = .ok (.iconst 1, 1) := by decide +kernel
theorem dL_holds_21 : decode cL_holds 21 = .ok (.ireturn, 1) := by decide +kernel
theorem dL_holds_22 : decode cL_holds 22 = .ok (.astore_n 3, 1) := by decide +kernel
theorem dL_holds_23 : decode cL_holds 23 = .ok (.iconst 2, 1) := by decide +kernel
theorem dL_holds_24 : decode cL_holds 24 = .ok (.ireturn, 1) := by decide +kernel
theorem dL_holds_25 : decode cL_holds 25 = .ok (.iconst 0, 1) := by decide +kernel
theorem dL_holds_26 : decode cL_holds 26 = .ok (.ireturn, 1) := by decide +kernel
set_option maxRecDepth 20000 in
theorem lm_holds (ok : sj_ok G) (hq : lok G q) {x1 : Int32} (hc : sj_C G 10 me_X11_holds [.ref (sj_ad G 0), .int x1] σ (Rc, σ1)) (hr : ∀ k, Rc = .error k → 0 < k ∧ (k = 3 ∨ k = 2 ∨ k = 0)) : lj_C G q me_L_holds [.ref (sj_ad G 0), .int x1, .ref q.1] σ f g (lr (zcd 3 2 0) Rc) σ1 (lfb Rc f) g := by
  refine lj_enter (hh := [(0, 16, 19, 21), (0, 16, 22, 15)]) ok (by decide +kernel) rfl rfl (Nat.le_of_ble_eq_true rfl) (by simp [Value.category]) (fun p e s m args below meth c htab hT hN => ?_)
  refine tj_aload_n dL_holds_0 (i := 2) rfl rfl ?_
  refine tj_iconst (v := nI 0) dL_holds_1 (by decide +kernel) ?_
  refine tj_aload_n dL_holds_2 (i := 0) rfl rfl ?_
  refine tj_iload_n dL_holds_3 (i := 1) rfl rfl ?_
  refine lj_call (M' := me_X11_holds) (b := 0) (As := [.int x1]) (rest := [.int (nI 0), .ref q.1]) (fun _ _ h => h) (fun _ h => h) (lok_E hq) dL_holds_4 gL_holds_X11_holds rfl hd_X11_holds (by decide +kernel) (by decide +kernel) rfl (Nat.le_of_ble_eq_true rfl) ⟨(Nat.le_of_ble_eq_true rfl), (Nat.le_of_ble_eq_true rfl)⟩ rfl ⟨(Nat.le_of_ble_eq_true rfl), (Nat.le_of_ble_eq_true rfl)⟩ hc (fun k9 hk9 H locs ls ce q9 ok C hH hl hce hcv hcl => ?_) (fun v hv => ?_)
  · obtain ⟨h0, hk⟩ := hr k9 hk9
    rcases hk with rfl | rfl | rfl
    · subst hk9
      refine lj_catch ok C hT htab (pre := []) (suf := [(0, 16, 22, 15)]) rfl (by decide) (by decide) ⟨by decide, by decide⟩ (fun z hz => nomatch hz) (by decide +kernel) hH hl hce hcv hcl ?_
      refine tj_astore_n dL_holds_19 (i := 3) rfl (by decide) ?_
      refine tj_iconst (v := nI 1) dL_holds_20 (by decide +kernel) ?_
      refine lj_open (q := q) (fun _ h => Or.inl h) ?_
      exact lj_ret dL_holds_21 rfl (Nat.le_refl _) (Nat.le_refl _)
    · subst hk9
      refine lj_catch ok C hT htab (pre := [(0, 16, 19, 21)]) (suf := []) rfl (by decide) (by decide) ⟨by decide, by decide⟩ (fun z hz => by
        simp only [List.mem_cons, List.not_mem_nil, or_false] at hz
        subst hz
        exact ⟨3, ⟨by decide, by decide, by decide, by decide⟩, by decide +kernel⟩) (by decide +kernel) hH hl hce hcv hcl ?_
      refine tj_astore_n dL_holds_22 (i := 3) rfl (by decide) ?_
      refine tj_iconst (v := nI 2) dL_holds_23 (by decide +kernel) ?_
      refine lj_open (q := q) (fun _ h => Or.inl h) ?_
      exact lj_ret dL_holds_24 rfl (Nat.le_refl _) (Nat.le_refl _)
    · exact absurd h0 (by decide)
  · subst hv
    refine tj_if_eq (tgt := 14) dL_holds_7 (by decide) (fun hv => ?_) (fun hv => ?_)
    · refine tj_lconst (v := 0) dL_holds_14 (by decide +kernel) ?_
      rw [show lfb (.ok v) f = vp_updL f 0 0 from by unfold lfb; simp [hv]]
      refine lj_open (q := q) (fun _ h => Or.inl h) ?_
      refine lj_last hq hT hN dL_holds_15 ?_
      refine tj_goto (tgt := 25) dL_holds_16 (by decide) ?_
      refine tj_iconst (v := nI 0) dL_holds_25 (by decide +kernel) ?_
      exact lj_ret dL_holds_26 rfl (Nat.zero_le _) (Nat.zero_le _)
    · refine tj_lconst (v := 1) dL_holds_10 (by decide +kernel) ?_
      refine tj_goto (tgt := 15) dL_holds_11 (by decide) ?_
      rw [show lfb (.ok v) f = vp_updL f 0 1 from by unfold lfb; simp [hv]]
      refine lj_open (q := q) (fun _ h => Or.inl h) ?_
      refine lj_last hq hT hN dL_holds_15 ?_
      refine tj_goto (tgt := 25) dL_holds_16 (by decide) ?_
      refine tj_iconst (v := nI 0) dL_holds_25 (by decide +kernel) ?_
      exact lj_ret dL_holds_26 rfl (Nat.zero_le _) (Nat.zero_le _)
set_option maxRecDepth 20000 in
theorem ggL_cost_X11_cost : GoodIn wsL_cost wsX11_cost := goodIn_ca (goodIn_r _ [6, 7, 8, 9, 10, 11, 12, 5, 13, 14, 15, 16, 17, 18, 19, 20, 21, 22, 23, 24, 25, 26, 27, 28, 29, 30, 31, 32, 33, 34, 35, 36, 37, 38, 39, 40, 41, 42, 43, 44, 45, 46, 47, 48, 49, 50, 51, 52, 53, 54, 55, 56, 57, 58, 59, 60, 61, 62, 63, 64, 65, 66, 67, 68, 69, 70, 71, 72, 73, 74, 75, 76, 77, 78, 79, 80, 81, 82, 83, 84, 85, 86] (by decide +kernel) (by decide +kernel)) (goodIn_sub (fun _ h => List.mem_cons_of_mem _ (List.mem_append_right _ h)) (by decide +kernel))
set_option maxRecDepth 20000 in
theorem gL_cost_X11_cost : GoodIn wsL_cost (wsV RL 66 RX11 yX11_cost wsX11_cost) := goodIn_app (goodIn_of _ (by decide +kernel)) ggL_cost_X11_cost
theorem dL_cost_0 : decode cL_cost 0 = .ok (.aload_n 1, 1) := by decide +kernel
theorem dL_cost_1 : decode cL_cost 1 = .ok (.iconst 0, 1) := by decide +kernel
theorem dL_cost_2 : decode cL_cost 2 = .ok (.aload_n 0, 1) := by decide +kernel
theorem dL_cost_3 : decode cL_cost 3 = .ok (.invokevirtual 66, 3) := by decide +kernel
theorem dL_cost_6 : decode cL_cost 6 = .ok (.i2l, 1) := by decide +kernel
theorem dL_cost_7 : decode cL_cost 7 = .ok (.lastore, 1) := by decide +kernel
theorem dL_cost_8 : decode cL_cost 8 = .ok (.goto 6, 3) := by decide +kernel
theorem dL_cost_11 : decode cL_cost 11 = .ok (.astore_n 2, 1) := by decide +kernel
theorem dL_cost_12 : decode cL_cost 12 = .ok (.iconst 1, 1) := by decide +kernel
theorem dL_cost_13 : decode cL_cost 13 = .ok (.ireturn, 1) := by decide +kernel
theorem dL_cost_14 : decode cL_cost 14 = .ok (.iconst 0, 1) := by decide +kernel
theorem dL_cost_15 : decode cL_cost 15 = .ok (.ireturn, 1) := by decide +kernel
set_option maxRecDepth 20000 in
theorem lm_cost (ok : sj_ok G) (hq : lok G q) (hc : sj_C G 10 me_X11_cost [.ref (sj_ad G 0)] σ (Rc, σ1)) (hr : ∀ k, Rc = .error k → 0 < k ∧ (k = 2 ∨ k = 0 ∨ k = 0)) : lj_C G q me_L_cost [.ref (sj_ad G 0), .ref q.1] σ f g (lr (zcd 2 0 0) Rc) σ1 (lf Rc f) g := by
  refine lj_enter (hh := [(0, 8, 11, 15)]) ok (by decide +kernel) rfl rfl (Nat.le_of_ble_eq_true rfl) (by simp [Value.category]) (fun p e s m args below meth c htab hT hN => ?_)
  refine tj_aload_n dL_cost_0 (i := 1) rfl rfl ?_
  refine tj_iconst (v := nI 0) dL_cost_1 (by decide +kernel) ?_
  refine tj_aload_n dL_cost_2 (i := 0) rfl rfl ?_
  refine lj_call (M' := me_X11_cost) (b := 0) (As := []) (rest := [.int (nI 0), .ref q.1]) (fun _ _ h => h) (fun _ h => h) (lok_E hq) dL_cost_3 gL_cost_X11_cost rfl hd_X11_cost (by decide +kernel) (by decide +kernel) rfl (Nat.le_of_ble_eq_true rfl) ⟨(Nat.le_of_ble_eq_true rfl), (Nat.le_of_ble_eq_true rfl)⟩ rfl ⟨(Nat.le_of_ble_eq_true rfl), (Nat.le_of_ble_eq_true rfl)⟩ hc (fun k9 hk9 H locs ls ce q9 ok C hH hl hce hcv hcl => ?_) (fun v hv => ?_)
  · obtain ⟨h0, hk⟩ := hr k9 hk9
    rcases hk with rfl | rfl | rfl
    · subst hk9
      refine lj_catch ok C hT htab (pre := []) (suf := []) rfl (by decide) (by decide) ⟨by decide, by decide⟩ (fun z hz => nomatch hz) (by decide +kernel) hH hl hce hcv hcl ?_
      refine tj_astore_n dL_cost_11 (i := 2) rfl (by decide) ?_
      refine tj_iconst (v := nI 1) dL_cost_12 (by decide +kernel) ?_
      refine lj_open (q := q) (fun _ h => Or.inl h) ?_
      exact lj_ret dL_cost_13 rfl (Nat.le_refl _) (Nat.le_refl _)
    · exact absurd h0 (by decide)
    · exact absurd h0 (by decide)
  · subst hv
    refine tj_i2l dL_cost_6 ?_
    refine lj_open (q := q) (fun _ h => Or.inl h) ?_
    refine lj_last hq hT hN dL_cost_7 ?_
    refine tj_goto (tgt := 14) dL_cost_8 (by decide) ?_
    refine tj_iconst (v := nI 0) dL_cost_14 (by decide +kernel) ?_
    exact lj_ret dL_cost_15 rfl (Nat.zero_le _) (Nat.zero_le _)
set_option maxRecDepth 20000 in
theorem ggL_gaps_X11_gaps : GoodIn wsL_gaps wsX11_gaps := goodIn_ca (goodIn_ca (goodIn_r _ [7, 8, 9, 10, 11, 12, 13, 6, 14, 15, 16, 17, 18, 19, 20, 21, 22, 23, 24, 25, 26, 27, 28, 29, 30, 31, 32, 33, 34, 35, 36, 37, 38, 39, 40, 41, 42, 43, 44, 45, 46, 47, 48, 49, 50, 51, 52, 53, 54, 55, 56, 57, 58, 59, 60, 61, 62, 63, 64, 65, 66, 67, 68, 69, 70, 71, 72, 73, 74, 75, 76, 77, 78, 79, 80, 81, 82, 83] (by decide +kernel) (by decide +kernel)) (goodIn_sub (fun _ h => List.mem_cons_of_mem _ (List.mem_append_left _ (List.mem_append_right _ h))) (by decide +kernel))) (goodIn_sub (fun _ h => List.mem_cons_of_mem _ (List.mem_append_right _ h)) (by decide +kernel))
set_option maxRecDepth 20000 in
theorem gL_gaps_X11_gaps : GoodIn wsL_gaps (wsV RL 70 RX11 yX11_gaps wsX11_gaps) := goodIn_app (goodIn_of _ (by decide +kernel)) ggL_gaps_X11_gaps
theorem dL_gaps_0 : decode cL_gaps 0 = .ok (.aload_n 3, 1) := by decide +kernel
theorem dL_gaps_1 : decode cL_gaps 1 = .ok (.iconst 0, 1) := by decide +kernel
theorem dL_gaps_2 : decode cL_gaps 2 = .ok (.aload_n 0, 1) := by decide +kernel
theorem dL_gaps_3 : decode cL_gaps 3 = .ok (.iload_n 1, 1) := by decide +kernel
theorem dL_gaps_4 : decode cL_gaps 4 = .ok (.iload_n 2, 1) := by decide +kernel
theorem dL_gaps_5 : decode cL_gaps 5 = .ok (.invokevirtual 70, 3) := by decide +kernel
theorem dL_gaps_8 : decode cL_gaps 8 = .ok (.i2l, 1) := by decide +kernel
theorem dL_gaps_9 : decode cL_gaps 9 = .ok (.lastore, 1) := by decide +kernel
theorem dL_gaps_10 : decode cL_gaps 10 = .ok (.goto 11, 3) := by decide +kernel
theorem dL_gaps_13 : decode cL_gaps 13 = .ok (.astore 4, 2) := by decide +kernel
theorem dL_gaps_15 : decode cL_gaps 15 = .ok (.iconst 1, 1) := by decide +kernel
theorem dL_gaps_16 : decode cL_gaps 16 = .ok (.ireturn, 1) := by decide +kernel
theorem dL_gaps_17 : decode cL_gaps 17 = .ok (.astore 4, 2) := by decide +kernel
theorem dL_gaps_19 : decode cL_gaps 19 = .ok (.iconst 2, 1) := by decide +kernel
theorem dL_gaps_20 : decode cL_gaps 20 = .ok (.ireturn, 1) := by decide +kernel
theorem dL_gaps_21 : decode cL_gaps 21 = .ok (.iconst 0, 1) := by decide +kernel
theorem dL_gaps_22 : decode cL_gaps 22 = .ok (.ireturn, 1) := by decide +kernel
set_option maxRecDepth 20000 in
theorem lm_gaps (ok : sj_ok G) (hq : lok G q) {x1 x2 : Int32} (hc : sj_C G 12 me_X11_gaps [.ref (sj_ad G 0), .int x1, .int x2] σ (Rc, σ1)) (hr : ∀ k, Rc = .error k → 0 < k ∧ (k = 1 ∨ k = 2 ∨ k = 0)) : lj_C G q me_L_gaps [.ref (sj_ad G 0), .int x1, .int x2, .ref q.1] σ f g (lr (zcd 1 2 0) Rc) σ1 (lf Rc f) g := by
  refine lj_enter (hh := [(0, 10, 13, 13), (0, 10, 17, 15)]) ok (by decide +kernel) rfl rfl (Nat.le_of_ble_eq_true rfl) (by simp [Value.category]) (fun p e s m args below meth c htab hT hN => ?_)
  refine tj_aload_n dL_gaps_0 (i := 3) rfl rfl ?_
  refine tj_iconst (v := nI 0) dL_gaps_1 (by decide +kernel) ?_
  refine tj_aload_n dL_gaps_2 (i := 0) rfl rfl ?_
  refine tj_iload_n dL_gaps_3 (i := 1) rfl rfl ?_
  refine tj_iload_n dL_gaps_4 (i := 2) rfl rfl ?_
  refine lj_call (M' := me_X11_gaps) (b := 0) (As := [.int x1, .int x2]) (rest := [.int (nI 0), .ref q.1]) (fun _ _ h => h) (fun _ h => h) (lok_E hq) dL_gaps_5 gL_gaps_X11_gaps rfl hd_X11_gaps (by decide +kernel) (by decide +kernel) rfl (Nat.le_of_ble_eq_true rfl) ⟨(Nat.le_of_ble_eq_true rfl), (Nat.le_of_ble_eq_true rfl)⟩ rfl ⟨(Nat.le_of_ble_eq_true rfl), (Nat.le_of_ble_eq_true rfl)⟩ hc (fun k9 hk9 H locs ls ce q9 ok C hH hl hce hcv hcl => ?_) (fun v hv => ?_)
  · obtain ⟨h0, hk⟩ := hr k9 hk9
    rcases hk with rfl | rfl | rfl
    · subst hk9
      refine lj_catch ok C hT htab (pre := []) (suf := [(0, 10, 17, 15)]) rfl (by decide) (by decide) ⟨by decide, by decide⟩ (fun z hz => nomatch hz) (by decide +kernel) hH hl hce hcv hcl ?_
      refine tj_astore dL_gaps_13 (by decide) ?_
      refine tj_iconst (v := nI 1) dL_gaps_15 (by decide +kernel) ?_
      refine lj_open (q := q) (fun _ h => Or.inl h) ?_
      exact lj_ret dL_gaps_16 rfl (Nat.le_refl _) (Nat.le_refl _)
    · subst hk9
      refine lj_catch ok C hT htab (pre := [(0, 10, 13, 13)]) (suf := []) rfl (by decide) (by decide) ⟨by decide, by decide⟩ (fun z hz => by
        simp only [List.mem_cons, List.not_mem_nil, or_false] at hz
        subst hz
        exact ⟨1, ⟨by decide, by decide, by decide, by decide⟩, by decide +kernel⟩) (by decide +kernel) hH hl hce hcv hcl ?_
      refine tj_astore dL_gaps_17 (by decide) ?_
      refine tj_iconst (v := nI 2) dL_gaps_19 (by decide +kernel) ?_
      refine lj_open (q := q) (fun _ h => Or.inl h) ?_
      exact lj_ret dL_gaps_20 rfl (Nat.le_refl _) (Nat.le_refl _)
    · exact absurd h0 (by decide)
  · subst hv
    refine tj_i2l dL_gaps_8 ?_
    refine lj_open (q := q) (fun _ h => Or.inl h) ?_
    refine lj_last hq hT hN dL_gaps_9 ?_
    refine tj_goto (tgt := 21) dL_gaps_10 (by decide) ?_
    refine tj_iconst (v := nI 0) dL_gaps_21 (by decide +kernel) ?_
    exact lj_ret dL_gaps_22 rfl (Nat.zero_le _) (Nat.zero_le _)
set_option maxRecDepth 20000 in
theorem ggL_improve_X11_improve : GoodIn wsL_improve wsX11_improve := goodIn_ca (goodIn_r _ [6, 7, 8, 9, 10, 11, 12, 13, 5, 14, 15, 16, 17, 18, 19, 20, 21, 22, 23, 24, 25, 26, 27, 28, 29, 30, 31, 32, 33, 34, 35, 36, 37, 38, 39, 40, 41, 42, 43, 44, 45, 46, 47, 48, 49, 50, 51, 52, 53, 54, 55, 56, 57, 58, 59, 60, 61, 62, 63, 64, 65, 66, 67, 68, 69, 70, 71, 72, 73, 74, 75, 76, 77, 78, 79, 80, 81, 82, 83, 84, 85, 86, 87, 88, 89, 90, 91, 92, 93, 94, 95, 96, 97, 98, 99, 100, 101, 102, 103, 104, 105, 106, 107, 108, 109, 110, 111, 112, 113, 114, 115, 116, 117, 118, 119, 120, 121, 122, 123, 124, 125, 126, 127, 128, 129, 130, 131, 132, 133, 134, 135, 136, 137, 138, 139, 140, 141, 142, 143, 144, 145, 146, 147, 148, 149, 150, 151, 152, 153, 154, 155, 156, 157, 158, 159, 160, 161, 162, 163, 164, 165, 166, 167, 168, 169, 170, 171, 172, 173, 174, 175, 176, 177, 178, 179, 180, 181, 182, 183, 184, 185, 186, 187, 188, 189, 190, 191, 192, 193, 194, 195, 196, 197, 198, 199, 200, 201, 202, 203, 204, 205, 206, 207, 208, 209, 210, 211, 212, 213, 214, 215, 216, 217, 218, 219, 220, 221, 222, 223, 224, 225, 226, 227] (by decide +kernel) (by decide +kernel)) (goodIn_sub (fun _ h => List.mem_cons_of_mem _ (List.mem_append_right _ h)) (by decide +kernel))
set_option maxRecDepth 20000 in
theorem gL_improve_X11_improve : GoodIn wsL_improve (wsV RL 74 RX11 yX11_improve wsX11_improve) := goodIn_app (goodIn_of _ (by decide +kernel)) ggL_improve_X11_improve
theorem dL_improve_0 : decode cL_improve 0 = .ok (.aload_n 1, 1) := by decide +kernel
theorem dL_improve_1 : decode cL_improve 1 = .ok (.iconst 0, 1) := by decide +kernel
theorem dL_improve_2 : decode cL_improve 2 = .ok (.aload_n 0, 1) := by decide +kernel
theorem dL_improve_3 : decode cL_improve 3 = .ok (.invokevirtual 74, 3) := by decide +kernel
theorem dL_improve_6 : decode cL_improve 6 = .ok (.i2l, 1) := by decide +kernel
theorem dL_improve_7 : decode cL_improve 7 = .ok (.lastore, 1) := by decide +kernel
theorem dL_improve_8 : decode cL_improve 8 = .ok (.goto 6, 3) := by decide +kernel
theorem dL_improve_11 : decode cL_improve 11 = .ok (.astore_n 2, 1) := by decide +kernel
theorem dL_improve_12 : decode cL_improve 12 = .ok (.iconst 1, 1) := by decide +kernel
theorem dL_improve_13 : decode cL_improve 13 = .ok (.ireturn, 1) := by decide +kernel
theorem dL_improve_14 : decode cL_improve 14 = .ok (.iconst 0, 1) := by decide +kernel
theorem dL_improve_15 : decode cL_improve 15 = .ok (.ireturn, 1) := by decide +kernel
set_option maxRecDepth 20000 in
theorem lm_improve (ok : sj_ok G) (hq : lok G q) (hc : sj_C G 10 me_X11_improve [.ref (sj_ad G 0)] σ (Rc, σ1)) (hr : ∀ k, Rc = .error k → 0 < k ∧ (k = 2 ∨ k = 0 ∨ k = 0)) : lj_C G q me_L_improve [.ref (sj_ad G 0), .ref q.1] σ f g (lr (zcd 2 0 0) Rc) σ1 (lf Rc f) g := by
  refine lj_enter (hh := [(0, 8, 11, 15)]) ok (by decide +kernel) rfl rfl (Nat.le_of_ble_eq_true rfl) (by simp [Value.category]) (fun p e s m args below meth c htab hT hN => ?_)
  refine tj_aload_n dL_improve_0 (i := 1) rfl rfl ?_
  refine tj_iconst (v := nI 0) dL_improve_1 (by decide +kernel) ?_
  refine tj_aload_n dL_improve_2 (i := 0) rfl rfl ?_
  refine lj_call (M' := me_X11_improve) (b := 0) (As := []) (rest := [.int (nI 0), .ref q.1]) (fun _ _ h => h) (fun _ h => h) (lok_E hq) dL_improve_3 gL_improve_X11_improve rfl hd_X11_improve (by decide +kernel) (by decide +kernel) rfl (Nat.le_of_ble_eq_true rfl) ⟨(Nat.le_of_ble_eq_true rfl), (Nat.le_of_ble_eq_true rfl)⟩ rfl ⟨(Nat.le_of_ble_eq_true rfl), (Nat.le_of_ble_eq_true rfl)⟩ hc (fun k9 hk9 H locs ls ce q9 ok C hH hl hce hcv hcl => ?_) (fun v hv => ?_)
  · obtain ⟨h0, hk⟩ := hr k9 hk9
    rcases hk with rfl | rfl | rfl
    · subst hk9
      refine lj_catch ok C hT htab (pre := []) (suf := []) rfl (by decide) (by decide) ⟨by decide, by decide⟩ (fun z hz => nomatch hz) (by decide +kernel) hH hl hce hcv hcl ?_
      refine tj_astore_n dL_improve_11 (i := 2) rfl (by decide) ?_
      refine tj_iconst (v := nI 1) dL_improve_12 (by decide +kernel) ?_
      refine lj_open (q := q) (fun _ h => Or.inl h) ?_
      exact lj_ret dL_improve_13 rfl (Nat.le_refl _) (Nat.le_refl _)
    · exact absurd h0 (by decide)
    · exact absurd h0 (by decide)
  · subst hv
    refine tj_i2l dL_improve_6 ?_
    refine lj_open (q := q) (fun _ h => Or.inl h) ?_
    refine lj_last hq hT hN dL_improve_7 ?_
    refine tj_goto (tgt := 14) dL_improve_8 (by decide) ?_
    refine tj_iconst (v := nI 0) dL_improve_14 (by decide +kernel) ?_
    exact lj_ret dL_improve_15 rfl (Nat.zero_le _) (Nat.zero_le _)
set_option maxRecDepth 20000 in
theorem ggL_colour_X11_colour : GoodIn wsL_colour wsX11_colour := goodIn_ca (goodIn_r _ [6, 7, 8, 9, 10, 11, 12, 5, 13, 14, 15, 16, 17, 18, 19, 20, 21, 22, 23, 24, 25, 26, 27, 28, 29, 30, 31, 32, 33, 34, 35, 36, 37, 38, 39, 40, 41, 42, 43, 44, 45, 46, 47, 48, 49, 50, 51, 52, 53, 54, 55, 56, 57, 58, 59, 60, 61, 62, 63, 64, 65, 66, 67, 68, 69, 70, 71, 72, 73, 74, 75, 76, 77, 78] (by decide +kernel) (by decide +kernel)) (goodIn_sub (fun _ h => List.mem_cons_of_mem _ (List.mem_append_right _ h)) (by decide +kernel))
set_option maxRecDepth 20000 in
theorem gL_colour_X11_colour : GoodIn wsL_colour (wsV RL 77 RX11 yX11_colour wsX11_colour) := goodIn_app (goodIn_of _ (by decide +kernel)) ggL_colour_X11_colour
theorem dL_colour_0 : decode cL_colour 0 = .ok (.aload_n 2, 1) := by decide +kernel
theorem dL_colour_1 : decode cL_colour 1 = .ok (.iconst 0, 1) := by decide +kernel
theorem dL_colour_2 : decode cL_colour 2 = .ok (.aload_n 0, 1) := by decide +kernel
theorem dL_colour_3 : decode cL_colour 3 = .ok (.iload_n 1, 1) := by decide +kernel
theorem dL_colour_4 : decode cL_colour 4 = .ok (.invokevirtual 77, 3) := by decide +kernel
theorem dL_colour_7 : decode cL_colour 7 = .ok (.i2l, 1) := by decide +kernel
theorem dL_colour_8 : decode cL_colour 8 = .ok (.lastore, 1) := by decide +kernel
theorem dL_colour_9 : decode cL_colour 9 = .ok (.goto 6, 3) := by decide +kernel
theorem dL_colour_12 : decode cL_colour 12 = .ok (.astore_n 3, 1) := by decide +kernel
theorem dL_colour_13 : decode cL_colour 13 = .ok (.iconst 1, 1) := by decide +kernel
theorem dL_colour_14 : decode cL_colour 14 = .ok (.ireturn, 1) := by decide +kernel
theorem dL_colour_15 : decode cL_colour 15 = .ok (.iconst 0, 1) := by decide +kernel
theorem dL_colour_16 : decode cL_colour 16 = .ok (.ireturn, 1) := by decide +kernel
set_option maxRecDepth 20000 in
theorem lm_colour (ok : sj_ok G) (hq : lok G q) {x1 : Int32} (hc : sj_C G 10 me_X11_colour [.ref (sj_ad G 0), .int x1] σ (Rc, σ1)) (hr : ∀ k, Rc = .error k → 0 < k ∧ (k = 3 ∨ k = 0 ∨ k = 0)) : lj_C G q me_L_colour [.ref (sj_ad G 0), .int x1, .ref q.1] σ f g (lr (zcd 3 0 0) Rc) σ1 (lf Rc f) g := by
  refine lj_enter (hh := [(0, 9, 12, 21)]) ok (by decide +kernel) rfl rfl (Nat.le_of_ble_eq_true rfl) (by simp [Value.category]) (fun p e s m args below meth c htab hT hN => ?_)
  refine tj_aload_n dL_colour_0 (i := 2) rfl rfl ?_
  refine tj_iconst (v := nI 0) dL_colour_1 (by decide +kernel) ?_
  refine tj_aload_n dL_colour_2 (i := 0) rfl rfl ?_
  refine tj_iload_n dL_colour_3 (i := 1) rfl rfl ?_
  refine lj_call (M' := me_X11_colour) (b := 0) (As := [.int x1]) (rest := [.int (nI 0), .ref q.1]) (fun _ _ h => h) (fun _ h => h) (lok_E hq) dL_colour_4 gL_colour_X11_colour rfl hd_X11_colour (by decide +kernel) (by decide +kernel) rfl (Nat.le_of_ble_eq_true rfl) ⟨(Nat.le_of_ble_eq_true rfl), (Nat.le_of_ble_eq_true rfl)⟩ rfl ⟨(Nat.le_of_ble_eq_true rfl), (Nat.le_of_ble_eq_true rfl)⟩ hc (fun k9 hk9 H locs ls ce q9 ok C hH hl hce hcv hcl => ?_) (fun v hv => ?_)
  · obtain ⟨h0, hk⟩ := hr k9 hk9
    rcases hk with rfl | rfl | rfl
    · subst hk9
      refine lj_catch ok C hT htab (pre := []) (suf := []) rfl (by decide) (by decide) ⟨by decide, by decide⟩ (fun z hz => nomatch hz) (by decide +kernel) hH hl hce hcv hcl ?_
      refine tj_astore_n dL_colour_12 (i := 3) rfl (by decide) ?_
      refine tj_iconst (v := nI 1) dL_colour_13 (by decide +kernel) ?_
      refine lj_open (q := q) (fun _ h => Or.inl h) ?_
      exact lj_ret dL_colour_14 rfl (Nat.le_refl _) (Nat.le_refl _)
    · exact absurd h0 (by decide)
    · exact absurd h0 (by decide)
  · subst hv
    refine tj_i2l dL_colour_7 ?_
    refine lj_open (q := q) (fun _ h => Or.inl h) ?_
    refine lj_last hq hT hN dL_colour_8 ?_
    refine tj_goto (tgt := 15) dL_colour_9 (by decide) ?_
    refine tj_iconst (v := nI 0) dL_colour_15 (by decide +kernel) ?_
    exact lj_ret dL_colour_16 rfl (Nat.zero_le _) (Nat.zero_le _)
set_option maxRecDepth 20000 in
theorem ggL_setIll_X11_setIll : GoodIn wsL_setIll wsX11_setIll := goodIn_ca (goodIn_r _ [6, 7, 8, 9, 10, 5, 11, 12, 13, 14, 15, 16, 17, 18, 19, 20, 21, 22, 23, 24, 25, 26, 27, 28, 29, 30, 31, 32, 33, 34, 35, 36, 37, 38, 39, 40, 41, 42, 43, 44, 45, 46, 47, 48, 49, 50, 51, 52, 53, 54, 55, 56, 57, 58, 59, 60, 61, 62, 63, 64, 65, 66, 67, 68, 69, 70, 71, 72, 73, 74, 75, 76, 77, 78, 79, 80, 81] (by decide +kernel) (by decide +kernel)) (goodIn_sub (fun _ h => List.mem_cons_of_mem _ (List.mem_append_right _ h)) (by decide +kernel))
set_option maxRecDepth 20000 in
theorem gL_setIll_X11_setIll : GoodIn wsL_setIll (wsV RL 80 RX11 yX11_setIll wsX11_setIll) := goodIn_app (goodIn_of _ (by decide +kernel)) ggL_setIll_X11_setIll
theorem dL_setIll_0 : decode cL_setIll 0 = .ok (.aload 4, 2) := by decide +kernel
theorem dL_setIll_2 : decode cL_setIll 2 = .ok (.iconst 0, 1) := by decide +kernel
theorem dL_setIll_3 : decode cL_setIll 3 = .ok (.aload_n 0, 1) := by decide +kernel
theorem dL_setIll_4 : decode cL_setIll 4 = .ok (.iload_n 1, 1) := by decide +kernel
theorem dL_setIll_5 : decode cL_setIll 5 = .ok (.iload_n 2, 1) := by decide +kernel
theorem dL_setIll_6 : decode cL_setIll 6 = .ok (.iload_n 3, 1) := by decide +kernel
theorem dL_setIll_7 : decode cL_setIll 7 = .ok (.invokevirtual 80, 3) := by decide +kernel
theorem dL_setIll_10 : decode cL_setIll 10 = .ok (.ifCond .eq 7, 3) := by decide +kernel
theorem dL_setIll_13 : decode cL_setIll 13 = .ok (.lconst 1, 1) := by decide +kernel
theorem dL_setIll_14 : decode cL_setIll 14 = .ok (.goto 4, 3) := by decide +kernel
theorem dL_setIll_17 : decode cL_setIll 17 = .ok (.lconst 0, 1) := by decide +kernel
theorem dL_setIll_18 : decode cL_setIll 18 = .ok (.lastore, 1) := by decide +kernel
theorem dL_setIll_19 : decode cL_setIll 19 = .ok (.goto 7, 3) := by decide +kernel
theorem dL_setIll_22 : decode cL_setIll 22 = .ok (.astore 5, 2) := by decide +kernel
theorem dL_setIll_24 : decode cL_setIll 24 = .ok (.iconst 1, 1) := by decide +kernel
theorem dL_setIll_25 : decode cL_setIll 25 = .ok (.ireturn, 1) := by decide +kernel
theorem dL_setIll_26 : decode cL_setIll 26 = .ok (.iconst 0, 1) := by decide +kernel
theorem dL_setIll_27 : decode cL_setIll 27 = .ok (.ireturn, 1) := by decide +kernel
set_option maxRecDepth 20000 in
theorem lm_setIll (ok : sj_ok G) (hq : lok G q) {x1 x2 x3 : Int32} (hc : sj_C G 11 me_X11_setIll [.ref (sj_ad G 0), .int x1, .int x2, .int x3] σ (Rc, σ1)) (hr : ∀ k, Rc = .error k → 0 < k ∧ (k = 1 ∨ k = 0 ∨ k = 0)) : lj_C G q me_L_setIll [.ref (sj_ad G 0), .int x1, .int x2, .int x3, .ref q.1] σ f g (lr (zcd 1 0 0) Rc) σ1 (lfb Rc f) g := by
  refine lj_enter (hh := [(0, 19, 22, 13)]) ok (by decide +kernel) rfl rfl (Nat.le_of_ble_eq_true rfl) (by simp [Value.category]) (fun p e s m args below meth c htab hT hN => ?_)
  refine tj_aload dL_setIll_0 rfl ?_
  refine tj_iconst (v := nI 0) dL_setIll_2 (by decide +kernel) ?_
  refine tj_aload_n dL_setIll_3 (i := 0) rfl rfl ?_
  refine tj_iload_n dL_setIll_4 (i := 1) rfl rfl ?_
  refine tj_iload_n dL_setIll_5 (i := 2) rfl rfl ?_
  refine tj_iload_n dL_setIll_6 (i := 3) rfl rfl ?_
  refine lj_call (M' := me_X11_setIll) (b := 0) (As := [.int x1, .int x2, .int x3]) (rest := [.int (nI 0), .ref q.1]) (fun _ _ h => h) (fun _ h => h) (lok_E hq) dL_setIll_7 gL_setIll_X11_setIll rfl hd_X11_setIll (by decide +kernel) (by decide +kernel) rfl (Nat.le_of_ble_eq_true rfl) ⟨(Nat.le_of_ble_eq_true rfl), (Nat.le_of_ble_eq_true rfl)⟩ rfl ⟨(Nat.le_of_ble_eq_true rfl), (Nat.le_of_ble_eq_true rfl)⟩ hc (fun k9 hk9 H locs ls ce q9 ok C hH hl hce hcv hcl => ?_) (fun v hv => ?_)
  · obtain ⟨h0, hk⟩ := hr k9 hk9
    rcases hk with rfl | rfl | rfl
    · subst hk9
      refine lj_catch ok C hT htab (pre := []) (suf := []) rfl (by decide) (by decide) ⟨by decide, by decide⟩ (fun z hz => nomatch hz) (by decide +kernel) hH hl hce hcv hcl ?_
      refine tj_astore dL_setIll_22 (by decide) ?_
      refine tj_iconst (v := nI 1) dL_setIll_24 (by decide +kernel) ?_
      refine lj_open (q := q) (fun _ h => Or.inl h) ?_
      exact lj_ret dL_setIll_25 rfl (Nat.le_refl _) (Nat.le_refl _)
    · exact absurd h0 (by decide)
    · exact absurd h0 (by decide)
  · subst hv
    refine tj_if_eq (tgt := 17) dL_setIll_10 (by decide) (fun hv => ?_) (fun hv => ?_)
    · refine tj_lconst (v := 0) dL_setIll_17 (by decide +kernel) ?_
      rw [show lfb (.ok v) f = vp_updL f 0 0 from by unfold lfb; simp [hv]]
      refine lj_open (q := q) (fun _ h => Or.inl h) ?_
      refine lj_last hq hT hN dL_setIll_18 ?_
      refine tj_goto (tgt := 26) dL_setIll_19 (by decide) ?_
      refine tj_iconst (v := nI 0) dL_setIll_26 (by decide +kernel) ?_
      exact lj_ret dL_setIll_27 rfl (Nat.zero_le _) (Nat.zero_le _)
    · refine tj_lconst (v := 1) dL_setIll_13 (by decide +kernel) ?_
      refine tj_goto (tgt := 18) dL_setIll_14 (by decide) ?_
      rw [show lfb (.ok v) f = vp_updL f 0 1 from by unfold lfb; simp [hv]]
      refine lj_open (q := q) (fun _ h => Or.inl h) ?_
      refine lj_last hq hT hN dL_setIll_18 ?_
      refine tj_goto (tgt := 26) dL_setIll_19 (by decide) ?_
      refine tj_iconst (v := nI 0) dL_setIll_26 (by decide +kernel) ?_
      exact lj_ret dL_setIll_27 rfl (Nat.zero_le _) (Nat.zero_le _)
end LW
