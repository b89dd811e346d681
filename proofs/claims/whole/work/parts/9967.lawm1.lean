section LW
variable {G : sj_G} {q : lG} {σ σ1 : sj_S} {f : Nat → Int64} {g : Nat → UInt64} {Rc : Except Nat Int32}
set_option maxRecDepth 20000 in
theorem ggL_ill_X11_ill : GoodIn wsL_ill wsX11_ill := goodIn_ca (goodIn_ca (goodIn_r _ [7, 8, 9, 10, 11, 12, 13, 14, 6, 15, 16, 17, 18, 19, 20, 21, 22, 23, 24, 25, 26, 27, 28, 29, 30, 31, 32, 33, 34, 35, 36, 37, 38, 39, 40, 41, 42, 43, 44, 45, 46, 47, 48, 49, 50, 51, 52, 53, 54, 55, 56, 57, 58, 59, 60, 61, 62, 63, 64, 65, 66, 67, 68, 69, 70, 71, 72, 73, 74, 75, 76, 77, 78, 79, 80, 81, 82, 83, 84, 85, 86, 87, 88, 89, 90, 91, 92, 93, 94, 95, 96, 97, 98, 99, 100, 101, 102, 103, 104, 105, 106, 107, 108, 109, 110, 111, 112, 113, 114, 115, 116, 117, 118] (by decide +kernel) (by decide +kernel)) (goodIn_sub (fun _ h => List.mem_cons_of_mem _ (List.mem_append_left _ (List.mem_append_right _ h))) (by decide +kernel))) (goodIn_sub (fun _ h => List.mem_cons_of_mem _ (List.mem_append_right _ h)) (by decide +kernel))
set_option maxRecDepth 20000 in
theorem gL_ill_X11_ill : GoodIn wsL_ill (wsV RL 84 RX11 yX11_ill wsX11_ill) := goodIn_app (goodIn_of _ (by decide +kernel)) ggL_ill_X11_ill
theorem dL_ill_0 : decode cL_ill 0 = .ok (.aload_n 3, 1) := by decide +kernel
theorem dL_ill_1 : decode cL_ill 1 = .ok (.iconst 0, 1) := by decide +kernel
theorem dL_ill_2 : decode cL_ill 2 = .ok (.aload_n 0, 1) := by decide +kernel
theorem dL_ill_3 : decode cL_ill 3 = .ok (.iload_n 1, 1) := by decide +kernel
theorem dL_ill_4 : decode cL_ill 4 = .ok (.iload_n 2, 1) := by decide +kernel
theorem dL_ill_5 : decode cL_ill 5 = .ok (.invokevirtual 84, 3) := by decide +kernel
theorem dL_ill_8 : decode cL_ill 8 = .ok (.i2l, 1) := by decide +kernel
theorem dL_ill_9 : decode cL_ill 9 = .ok (.lastore, 1) := by decide +kernel
theorem dL_ill_10 : decode cL_ill 10 = .ok (.goto 11, 3) := by decide +kernel
theorem dL_ill_13 : decode cL_ill 13 = .ok (.astore 4, 2) := by decide +kernel
theorem dL_ill_15 : decode cL_ill 15 = .ok (.iconst 1, 1) := by decide +kernel
theorem dL_ill_16 : decode cL_ill 16 = .ok (.ireturn, 1) := by decide +kernel
theorem dL_ill_17 : decode cL_ill 17 = .ok (.astore 4, 2) := by decide +kernel
theorem dL_ill_19 : decode cL_ill 19 = .ok (.iconst 2, 1) := by decide +kernel
theorem dL_ill_20 : decode cL_ill 20 = .ok (.ireturn, 1) := by decide +kernel
theorem dL_ill_21 : decode cL_ill 21 = .ok (.iconst 0, 1) := by decide +kernel
theorem dL_ill_22 : decode cL_ill 22 = .ok (.ireturn, 1) := by decide +kernel
set_option maxRecDepth 20000 in
theorem lm_ill (ok : sj_ok G) (hq : lok G q) {x1 x2 : Int32} (hc : sj_C G 43 me_X11_ill [.ref (sj_ad G 0), .int x1, .int x2] σ (Rc, σ1)) (hr : ∀ k, Rc = .error k → 0 < k ∧ (k = 1 ∨ k = 2 ∨ k = 0)) : lj_C G q me_L_ill [.ref (sj_ad G 0), .int x1, .int x2, .ref q.1] σ f g (lr (zcd 1 2 0) Rc) σ1 (lf Rc f) g := by
  refine lj_enter (hh := [(0, 10, 13, 13), (0, 10, 17, 15)]) ok (by decide +kernel) rfl rfl (Nat.le_of_ble_eq_true rfl) (by simp [Value.category]) (fun p e s m args below meth c htab hT hN => ?_)
  refine tj_aload_n dL_ill_0 (i := 3) rfl rfl ?_
  refine tj_iconst (v := nI 0) dL_ill_1 (by decide +kernel) ?_
  refine tj_aload_n dL_ill_2 (i := 0) rfl rfl ?_
  refine tj_iload_n dL_ill_3 (i := 1) rfl rfl ?_
  refine tj_iload_n dL_ill_4 (i := 2) rfl rfl ?_
  refine lj_call (M' := me_X11_ill) (b := 0) (As := [.int x1, .int x2]) (rest := [.int (nI 0), .ref q.1]) (fun _ _ h => h) (fun _ h => h) (lok_E hq) dL_ill_5 gL_ill_X11_ill rfl hd_X11_ill (by decide +kernel) (by decide +kernel) rfl (Nat.le_of_ble_eq_true rfl) ⟨(Nat.le_of_ble_eq_true rfl), (Nat.le_of_ble_eq_true rfl)⟩ rfl ⟨(Nat.le_of_ble_eq_true rfl), (Nat.le_of_ble_eq_true rfl)⟩ hc (fun k9 hk9 H locs ls ce q9 ok C hH hl hce hcv hcl => ?_) (fun v hv => ?_)
  · obtain ⟨h0, hk⟩ := hr k9 hk9
    rcases hk with rfl | rfl | rfl
    · subst hk9
      refine lj_catch ok C hT htab (pre := []) (suf := [(0, 10, 17, 15)]) rfl (by decide) (by decide) ⟨by decide, by decide⟩ (fun z hz => nomatch hz) (by decide +kernel) hH hl hce hcv hcl ?_
      refine tj_astore dL_ill_13 (by decide) ?_
      refine tj_iconst (v := nI 1) dL_ill_15 (by decide +kernel) ?_
      refine lj_open (q := q) (fun _ h => Or.inl h) ?_
      exact lj_ret dL_ill_16 rfl (Nat.le_refl _) (Nat.le_refl _)
    · subst hk9
      refine lj_catch ok C hT htab (pre := [(0, 10, 13, 13)]) (suf := []) rfl (by decide) (by decide) ⟨by decide, by decide⟩ (fun z hz => by
        simp only [List.mem_cons, List.not_mem_nil, or_false] at hz
        subst hz
        exact ⟨1, ⟨by decide, by decide, by decide, by decide⟩, by decide +kernel⟩) (by decide +kernel) hH hl hce hcv hcl ?_
      refine tj_astore dL_ill_17 (by decide) ?_
      refine tj_iconst (v := nI 2) dL_ill_19 (by decide +kernel) ?_
      refine lj_open (q := q) (fun _ h => Or.inl h) ?_
      exact lj_ret dL_ill_20 rfl (Nat.le_refl _) (Nat.le_refl _)
    · exact absurd h0 (by decide)
  · subst hv
    refine tj_i2l dL_ill_8 ?_
    refine lj_open (q := q) (fun _ h => Or.inl h) ?_
    refine lj_last hq hT hN dL_ill_9 ?_
    refine tj_goto (tgt := 21) dL_ill_10 (by decide) ?_
    refine tj_iconst (v := nI 0) dL_ill_21 (by decide +kernel) ?_
    exact lj_ret dL_ill_22 rfl (Nat.zero_le _) (Nat.zero_le _)
set_option maxRecDepth 20000 in
theorem ggL_substitute_X11_substitute : GoodIn wsL_substitute wsX11_substitute := goodIn_ca (goodIn_ca (goodIn_ca (goodIn_r _ [8, 9, 10, 11, 12, 13, 14, 7, 15, 16, 17, 18, 19, 20, 21, 22, 23, 24, 25, 26, 27, 28, 29, 30, 31, 32, 33, 34, 35, 36, 37, 38, 39, 40, 41, 42, 43, 44, 45, 46, 47, 48, 49, 50, 51, 52, 53, 54, 55, 56, 57, 58, 59, 60, 61, 62, 63, 64, 65, 66, 67, 68, 69, 70, 71, 72, 73, 74, 75, 76, 77, 78, 79, 80, 81, 82, 83, 84, 85, 86, 87, 88, 89, 90, 91, 92, 93, 94, 95, 96, 97, 98, 99, 100, 101, 102, 103, 104, 105, 106, 107, 108, 109, 110, 111, 112, 113, 114, 115, 116, 117, 118] (by decide +kernel) (by decide +kernel)) (goodIn_sub (fun _ h => List.mem_cons_of_mem _ (List.mem_append_left _ (List.mem_append_left _ (List.mem_append_right _ h)))) (by decide +kernel))) (goodIn_sub (fun _ h => List.mem_cons_of_mem _ (List.mem_append_left _ (List.mem_append_right _ h))) (by decide +kernel))) (goodIn_sub (fun _ h => List.mem_cons_of_mem _ (List.mem_append_right _ h)) (by decide +kernel))
set_option maxRecDepth 20000 in
theorem gL_substitute_X11_substitute : GoodIn wsL_substitute (wsV RL 88 RX11 yX11_substitute wsX11_substitute) := goodIn_app (goodIn_of _ (by decide +kernel)) ggL_substitute_X11_substitute
theorem dL_substitute_0 : decode cL_substitute 0 = .ok (.aload_n 3, 1) := by decide +kernel
theorem dL_substitute_1 : decode cL_substitute 1 = .ok (.iconst 0, 1) := by decide +kernel
theorem dL_substitute_2 : decode cL_substitute 2 = .ok (.aload_n 0, 1) := by decide +kernel
theorem dL_substitute_3 : decode cL_substitute 3 = .ok (.iload_n 1, 1) := by decide +kernel
theorem dL_substitute_4 : decode cL_substitute 4 = .ok (.iload_n 2, 1) := by decide +kernel
theorem dL_substitute_5 : decode cL_substitute 5 = .ok (.invokevirtual 88, 3) := by decide +kernel
theorem dL_substitute_8 : decode cL_substitute 8 = .ok (.i2l, 1) := by decide +kernel
theorem dL_substitute_9 : decode cL_substitute 9 = .ok (.lastore, 1) := by decide +kernel
theorem dL_substitute_10 : decode cL_substitute 10 = .ok (.goto 15, 3) := by decide +kernel
theorem dL_substitute_13 : decode cL_substitute 13 = .ok (.astore 4, 2) := by decide +kernel
theorem dL_substitute_15 : decode cL_substitute 15 = .ok (.iconst 1, 1) := by decide +kernel
theorem dL_substitute_16 : decode cL_substitute 16 = .ok (.ireturn, 1) := by decide +kernel
theorem dL_substitute_17 : decode cL_substitute 17 = .ok (.astore 4, 2) := by decide +kernel
theorem dL_substitute_19 : decode cL_substitute 19 = .ok (.iconst 2, 1) := by decide +kernel
theorem dL_substitute_20 : decode cL_substitute 20 = .ok (.ireturn, 1) := by decide +kernel
theorem dL_substitute_21 : decode cL_substitute 21 = .ok (.astore 4, 2) := by decide +kernel
theorem dL_substitute_23 : decode cL_substitute 23 = .ok (.iconst 3, 1) := by decide +kernel
theorem dL_substitute_24 : decode cL_substitute 24 = .ok (.ireturn, 1) := by decide +kernel
theorem dL_substitute_25 : decode cL_substitute 25 = .ok (.iconst 0, 1) := by decide +kernel
theorem dL_substitute_26 : decode cL_substitute 26 = .ok (.ireturn, 1) := by decide +kernel
set_option maxRecDepth 20000 in
theorem lm_substitute (ok : sj_ok G) (hq : lok G q) {x1 x2 : Int32} (hc : sj_C G 43 me_X11_substitute [.ref (sj_ad G 0), .int x1, .int x2] σ (Rc, σ1)) (hr : ∀ k, Rc = .error k → 0 < k ∧ (k = 3 ∨ k = 1 ∨ k = 2)) : lj_C G q me_L_substitute [.ref (sj_ad G 0), .int x1, .int x2, .ref q.1] σ f g (lr (zcd 3 1 2) Rc) σ1 (lf Rc f) g := by
  refine lj_enter (hh := [(0, 10, 13, 21), (0, 10, 17, 13), (0, 10, 21, 15)]) ok (by decide +kernel) rfl rfl (Nat.le_of_ble_eq_true rfl) (by simp [Value.category]) (fun p e s m args below meth c htab hT hN => ?_)
  refine tj_aload_n dL_substitute_0 (i := 3) rfl rfl ?_
  refine tj_iconst (v := nI 0) dL_substitute_1 (by decide +kernel) ?_
  refine tj_aload_n dL_substitute_2 (i := 0) rfl rfl ?_
  refine tj_iload_n dL_substitute_3 (i := 1) rfl rfl ?_
  refine tj_iload_n dL_substitute_4 (i := 2) rfl rfl ?_
  refine lj_call (M' := me_X11_substitute) (b := 0) (As := [.int x1, .int x2]) (rest := [.int (nI 0), .ref q.1]) (fun _ _ h => h) (fun _ h => h) (lok_E hq) dL_substitute_5 gL_substitute_X11_substitute rfl hd_X11_substitute (by decide +kernel) (by decide +kernel) rfl (Nat.le_of_ble_eq_true rfl) ⟨(Nat.le_of_ble_eq_true rfl), (Nat.le_of_ble_eq_true rfl)⟩ rfl ⟨(Nat.le_of_ble_eq_true rfl), (Nat.le_of_ble_eq_true rfl)⟩ hc (fun k9 hk9 H locs ls ce q9 ok C hH hl hce hcv hcl => ?_) (fun v hv => ?_)
  · obtain ⟨h0, hk⟩ := hr k9 hk9
    rcases hk with rfl | rfl | rfl
    · subst hk9
      refine lj_catch ok C hT htab (pre := []) (suf := [(0, 10, 17, 13), (0, 10, 21, 15)]) rfl (by decide) (by decide) ⟨by decide, by decide⟩ (fun z hz => nomatch hz) (by decide +kernel) hH hl hce hcv hcl ?_
      refine tj_astore dL_substitute_13 (by decide) ?_
      refine tj_iconst (v := nI 1) dL_substitute_15 (by decide +kernel) ?_
      refine lj_open (q := q) (fun _ h => Or.inl h) ?_
      exact lj_ret dL_substitute_16 rfl (Nat.le_refl _) (Nat.le_refl _)
    · subst hk9
      refine lj_catch ok C hT htab (pre := [(0, 10, 13, 21)]) (suf := [(0, 10, 21, 15)]) rfl (by decide) (by decide) ⟨by decide, by decide⟩ (fun z hz => by
        simp only [List.mem_cons, List.not_mem_nil, or_false] at hz
        subst hz
        exact ⟨3, ⟨by decide, by decide, by decide, by decide⟩, by decide +kernel⟩) (by decide +kernel) hH hl hce hcv hcl ?_
      refine tj_astore dL_substitute_17 (by decide) ?_
      refine tj_iconst (v := nI 2) dL_substitute_19 (by decide +kernel) ?_
      refine lj_open (q := q) (fun _ h => Or.inl h) ?_
      exact lj_ret dL_substitute_20 rfl (Nat.le_refl _) (Nat.le_refl _)
    · subst hk9
      refine lj_catch ok C hT htab (pre := [(0, 10, 13, 21), (0, 10, 17, 13)]) (suf := []) rfl (by decide) (by decide) ⟨by decide, by decide⟩ (fun z hz => by
        simp only [List.mem_cons, List.not_mem_nil, or_false] at hz
        rcases hz with hz | hz
        · subst hz
          exact ⟨3, ⟨by decide, by decide, by decide, by decide⟩, by decide +kernel⟩
        · subst hz
          exact ⟨1, ⟨by decide, by decide, by decide, by decide⟩, by decide +kernel⟩) (by decide +kernel) hH hl hce hcv hcl ?_
      refine tj_astore dL_substitute_21 (by decide) ?_
      refine tj_iconst (v := nI 3) dL_substitute_23 (by decide +kernel) ?_
      refine lj_open (q := q) (fun _ h => Or.inl h) ?_
      exact lj_ret dL_substitute_24 rfl (Nat.le_refl _) (Nat.le_refl _)
  · subst hv
    refine tj_i2l dL_substitute_8 ?_
    refine lj_open (q := q) (fun _ h => Or.inl h) ?_
    refine lj_last hq hT hN dL_substitute_9 ?_
    refine tj_goto (tgt := 25) dL_substitute_10 (by decide) ?_
    refine tj_iconst (v := nI 0) dL_substitute_25 (by decide +kernel) ?_
    exact lj_ret dL_substitute_26 rfl (Nat.zero_le _) (Nat.zero_le _)
set_option maxRecDepth 20000 in
theorem ggL_takes_X11_takes : GoodIn wsL_takes wsX11_takes := goodIn_ca (goodIn_ca (goodIn_r _ [7, 8, 9, 10, 11, 12, 13, 6, 14, 15, 16, 17, 18, 19, 20, 21, 22, 23, 24, 25, 26, 27, 28, 29, 30, 31, 32, 33, 34, 35, 36, 37, 38, 39, 40, 41, 42, 43, 44, 45, 46, 47, 48, 49, 50, 51, 52, 53, 54, 55, 56, 57, 58, 59, 60, 61, 62, 63, 64, 65, 66, 67, 68, 69, 70, 71, 72, 73, 74, 75, 76, 77, 78, 79, 80, 81, 82, 83, 84, 85, 86, 87, 88, 89, 90, 91, 92, 93, 94, 95, 96, 97, 98, 99, 100, 101, 102, 103, 104, 105, 106, 107, 108, 109, 110] (by decide +kernel) (by decide +kernel)) (goodIn_sub (fun _ h => List.mem_cons_of_mem _ (List.mem_append_left _ (List.mem_append_right _ h))) (by decide +kernel))) (goodIn_sub (fun _ h => List.mem_cons_of_mem _ (List.mem_append_right _ h)) (by decide +kernel))
set_option maxRecDepth 20000 in
theorem gL_takes_X11_takes : GoodIn wsL_takes (wsV RL 91 RX11 yX11_takes wsX11_takes) := goodIn_app (goodIn_of _ (by decide +kernel)) ggL_takes_X11_takes
theorem dL_takes_0 : decode cL_takes 0 = .ok (.aload_n 2, 1) := by decide +kernel
theorem dL_takes_1 : decode cL_takes 1 = .ok (.iconst 0, 1) := by decide +kernel
theorem dL_takes_2 : decode cL_takes 2 = .ok (.aload_n 0, 1) := by decide +kernel
theorem dL_takes_3 : decode cL_takes 3 = .ok (.iload_n 1, 1) := by decide +kernel
theorem dL_takes_4 : decode cL_takes 4 = .ok (.invokevirtual 91, 3) := by decide +kernel
theorem dL_takes_7 : decode cL_takes 7 = .ok (.i2l, 1) := by decide +kernel
theorem dL_takes_8 : decode cL_takes 8 = .ok (.lastore, 1) := by decide +kernel
theorem dL_takes_9 : decode cL_takes 9 = .ok (.goto 9, 3) := by decide +kernel
theorem dL_takes_12 : decode cL_takes 12 = .ok (.astore_n 3, 1) := by decide +kernel
theorem dL_takes_13 : decode cL_takes 13 = .ok (.iconst 1, 1) := by decide +kernel
theorem dL_takes_14 : decode cL_takes 14 = .ok (.ireturn, 1) := by decide +kernel
theorem dL_takes_15 : decode cL_takes 15 = .ok (.astore_n 3, 1) := by decide +kernel
theorem dL_takes_16 : decode cL_takes 16 = .ok (.iconst 2, 1) := by decide +kernel
theorem dL_takes_17 : decode cL_takes 17 = .ok (.ireturn, 1) := by decide +kernel
theorem dL_takes_18 : decode cL_takes 18 = .ok (.iconst 0, 1) := by decide +kernel
theorem dL_takes_19 : decode cL_takes 19 = .ok (.ireturn, 1) := by decide +kernel
set_option maxRecDepth 20000 in
theorem lm_takes (ok : sj_ok G) (hq : lok G q) {x1 : Int32} (hc : sj_C G 43 me_X11_takes [.ref (sj_ad G 0), .int x1] σ (Rc, σ1)) (hr : ∀ k, Rc = .error k → 0 < k ∧ (k = 1 ∨ k = 2 ∨ k = 0)) : lj_C G q me_L_takes [.ref (sj_ad G 0), .int x1, .ref q.1] σ f g (lr (zcd 1 2 0) Rc) σ1 (lf Rc f) g := by
  refine lj_enter (hh := [(0, 9, 12, 13), (0, 9, 15, 15)]) ok (by decide +kernel) rfl rfl (Nat.le_of_ble_eq_true rfl) (by simp [Value.category]) (fun p e s m args below meth c htab hT hN => ?_)
  refine tj_aload_n dL_takes_0 (i := 2) rfl rfl ?_
  refine tj_iconst (v := nI 0) dL_takes_1 (by decide +kernel) ?_
  refine tj_aload_n dL_takes_2 (i := 0) rfl rfl ?_
  refine tj_iload_n dL_takes_3 (i := 1) rfl rfl ?_
  refine lj_call (M' := me_X11_takes) (b := 0) (As := [.int x1]) (rest := [.int (nI 0), .ref q.1]) (fun _ _ h => h) (fun _ h => h) (lok_E hq) dL_takes_4 gL_takes_X11_takes rfl hd_X11_takes (by decide +kernel) (by decide +kernel) rfl (Nat.le_of_ble_eq_true rfl) ⟨(Nat.le_of_ble_eq_true rfl), (Nat.le_of_ble_eq_true rfl)⟩ rfl ⟨(Nat.le_of_ble_eq_true rfl), (Nat.le_of_ble_eq_true rfl)⟩ hc (fun k9 hk9 H locs ls ce q9 ok C hH hl hce hcv hcl => ?_) (fun v hv => ?_)
  · obtain ⟨h0, hk⟩ := hr k9 hk9
    rcases hk with rfl | rfl | rfl
    · subst hk9
      refine lj_catch ok C hT htab (pre := []) (suf := [(0, 9, 15, 15)]) rfl (by decide) (by decide) ⟨by decide, by decide⟩ (fun z hz => nomatch hz) (by decide +kernel) hH hl hce hcv hcl ?_
      refine tj_astore_n dL_takes_12 (i := 3) rfl (by decide) ?_
      refine tj_iconst (v := nI 1) dL_takes_13 (by decide +kernel) ?_
      refine lj_open (q := q) (fun _ h => Or.inl h) ?_
      exact lj_ret dL_takes_14 rfl (Nat.le_refl _) (Nat.le_refl _)
    · subst hk9
      refine lj_catch ok C hT htab (pre := [(0, 9, 12, 13)]) (suf := []) rfl (by decide) (by decide) ⟨by decide, by decide⟩ (fun z hz => by
        simp only [List.mem_cons, List.not_mem_nil, or_false] at hz
        subst hz
        exact ⟨1, ⟨by decide, by decide, by decide, by decide⟩, by decide +kernel⟩) (by decide +kernel) hH hl hce hcv hcl ?_
      refine tj_astore_n dL_takes_15 (i := 3) rfl (by decide) ?_
      refine tj_iconst (v := nI 2) dL_takes_16 (by decide +kernel) ?_
      refine lj_open (q := q) (fun _ h => Or.inl h) ?_
      exact lj_ret dL_takes_17 rfl (Nat.le_refl _) (Nat.le_refl _)
    · exact absurd h0 (by decide)
  · subst hv
    refine tj_i2l dL_takes_7 ?_
    refine lj_open (q := q) (fun _ h => Or.inl h) ?_
    refine lj_last hq hT hN dL_takes_8 ?_
    refine tj_goto (tgt := 18) dL_takes_9 (by decide) ?_
    refine tj_iconst (v := nI 0) dL_takes_18 (by decide +kernel) ?_
    exact lj_ret dL_takes_19 rfl (Nat.zero_le _) (Nat.zero_le _)
set_option maxRecDepth 20000 in
theorem ggL_setApart_X11_setApart : GoodIn wsL_setApart wsX11_setApart := goodIn_ca (goodIn_r _ [6, 7, 8, 9, 10, 11, 12, 5, 13, 14, 15, 16, 17, 18, 19, 20, 21, 22, 23, 24, 25, 26, 27, 28, 29, 30, 31, 32, 33, 34, 35, 36, 37, 38, 39, 40, 41, 42, 43, 44, 45, 46, 47, 48, 49, 50, 51, 52, 53, 54, 55, 56, 57, 58, 59, 60, 61, 62, 63, 64, 65, 66, 67, 68, 69, 70, 71, 72, 73, 74, 75, 76, 77, 78, 79, 80, 81] (by decide +kernel) (by decide +kernel)) (goodIn_sub (fun _ h => List.mem_cons_of_mem _ (List.mem_append_right _ h)) (by decide +kernel))
set_option maxRecDepth 20000 in
theorem gL_setApart_X11_setApart : GoodIn wsL_setApart (wsV RL 94 RX11 yX11_setApart wsX11_setApart) := goodIn_app (goodIn_of _ (by decide +kernel)) ggL_setApart_X11_setApart
theorem dL_setApart_0 : decode cL_setApart 0 = .ok (.aload 4, 2) := by decide +kernel
theorem dL_setApart_2 : decode cL_setApart 2 = .ok (.iconst 0, 1) := by decide +kernel
theorem dL_setApart_3 : decode cL_setApart 3 = .ok (.aload_n 0, 1) := by decide +kernel
theorem dL_setApart_4 : decode cL_setApart 4 = .ok (.iload_n 1, 1) := by decide +kernel
theorem dL_setApart_5 : decode cL_setApart 5 = .ok (.iload_n 2, 1) := by decide +kernel
theorem dL_setApart_6 : decode cL_setApart 6 = .ok (.iload_n 3, 1) := by decide +kernel
theorem dL_setApart_7 : decode cL_setApart 7 = .ok (.invokevirtual 94, 3) := by decide +kernel
theorem dL_setApart_10 : decode cL_setApart 10 = .ok (.ifCond .eq 7, 3) := by decide +kernel
theorem dL_setApart_13 : decode cL_setApart 13 = .ok (.lconst 1, 1) := by decide +kernel
theorem dL_setApart_14 : decode cL_setApart 14 = .ok (.goto 4, 3) := by decide +kernel
theorem dL_setApart_17 : decode cL_setApart 17 = .ok (.lconst 0, 1) := by decide +kernel
theorem dL_setApart_18 : decode cL_setApart 18 = .ok (.lastore, 1) := by decide +kernel
theorem dL_setApart_19 : decode cL_setApart 19 = .ok (.goto 7, 3) := by decide +kernel
theorem dL_setApart_22 : decode cL_setApart 22 = .ok (.astore 5, 2) := by decide +kernel
theorem dL_setApart_24 : decode cL_setApart 24 = .ok (.iconst 1, 1) := by decide +kernel
theorem dL_setApart_25 : decode cL_setApart 25 = .ok (.ireturn, 1) := by decide +kernel
theorem dL_setApart_26 : decode cL_setApart 26 = .ok (.iconst 0, 1) := by decide +kernel
theorem dL_setApart_27 : decode cL_setApart 27 = .ok (.ireturn, 1) := by decide +kernel
set_option maxRecDepth 20000 in
theorem lm_setApart (ok : sj_ok G) (hq : lok G q) {x1 x2 x3 : Int32} (hc : sj_C G 11 me_X11_setApart [.ref (sj_ad G 0), .int x1, .int x2, .int x3] σ (Rc, σ1)) (hr : ∀ k, Rc = .error k → 0 < k ∧ (k = 1 ∨ k = 0 ∨ k = 0)) : lj_C G q me_L_setApart [.ref (sj_ad G 0), .int x1, .int x2, .int x3, .ref q.1] σ f g (lr (zcd 1 0 0) Rc) σ1 (lfb Rc f) g := by
  refine lj_enter (hh := [(0, 19, 22, 13)]) ok (by decide +kernel) rfl rfl (Nat.le_of_ble_eq_true rfl) (by simp [Value.category]) (fun p e s m args below meth c htab hT hN => ?_)
  refine tj_aload dL_setApart_0 rfl ?_
  refine tj_iconst (v := nI 0) dL_setApart_2 (by decide +kernel) ?_
  refine tj_aload_n dL_setApart_3 (i := 0) rfl rfl ?_
  refine tj_iload_n dL_setApart_4 (i := 1) rfl rfl ?_
  refine tj_iload_n dL_setApart_5 (i := 2) rfl rfl ?_
  refine tj_iload_n dL_setApart_6 (i := 3) rfl rfl ?_
  refine lj_call (M' := me_X11_setApart) (b := 0) (As := [.int x1, .int x2, .int x3]) (rest := [.int (nI 0), .ref q.1]) (fun _ _ h => h) (fun _ h => h) (lok_E hq) dL_setApart_7 gL_setApart_X11_setApart rfl hd_X11_setApart (by decide +kernel) (by decide +kernel) rfl (Nat.le_of_ble_eq_true rfl) ⟨(Nat.le_of_ble_eq_true rfl), (Nat.le_of_ble_eq_true rfl)⟩ rfl ⟨(Nat.le_of_ble_eq_true rfl), (Nat.le_of_ble_eq_true rfl)⟩ hc (fun k9 hk9 H locs ls ce q9 ok C hH hl hce hcv hcl => ?_) (fun v hv => ?_)
  · obtain ⟨h0, hk⟩ := hr k9 hk9
    rcases hk with rfl | rfl | rfl
    · subst hk9
      refine lj_catch ok C hT htab (pre := []) (suf := []) rfl (by decide) (by decide) ⟨by decide, by decide⟩ (fun z hz => nomatch hz) (by decide +kernel) hH hl hce hcv hcl ?_
      refine tj_astore dL_setApart_22 (by decide) ?_
      refine tj_iconst (v := nI 1) dL_setApart_24 (by decide +kernel) ?_
      refine lj_open (q := q) (fun _ h => Or.inl h) ?_
      exact lj_ret dL_setApart_25 rfl (Nat.le_refl _) (Nat.le_refl _)
    · exact absurd h0 (by decide)
    · exact absurd h0 (by decide)
  · subst hv
    refine tj_if_eq (tgt := 17) dL_setApart_10 (by decide) (fun hv => ?_) (fun hv => ?_)
    · refine tj_lconst (v := 0) dL_setApart_17 (by decide +kernel) ?_
      rw [show lfb (.ok v) f = vp_updL f 0 0 from by unfold lfb; simp [hv]]
      refine lj_open (q := q) (fun _ h => Or.inl h) ?_
      refine lj_last hq hT hN dL_setApart_18 ?_
      refine tj_goto (tgt := 26) dL_setApart_19 (by decide) ?_
      refine tj_iconst (v := nI 0) dL_setApart_26 (by decide +kernel) ?_
      exact lj_ret dL_setApart_27 rfl (Nat.zero_le _) (Nat.zero_le _)
    · refine tj_lconst (v := 1) dL_setApart_13 (by decide +kernel) ?_
      refine tj_goto (tgt := 18) dL_setApart_14 (by decide) ?_
      rw [show lfb (.ok v) f = vp_updL f 0 1 from by unfold lfb; simp [hv]]
      refine lj_open (q := q) (fun _ h => Or.inl h) ?_
      refine lj_last hq hT hN dL_setApart_18 ?_
      refine tj_goto (tgt := 26) dL_setApart_19 (by decide) ?_
      refine tj_iconst (v := nI 0) dL_setApart_26 (by decide +kernel) ?_
      exact lj_ret dL_setApart_27 rfl (Nat.zero_le _) (Nat.zero_le _)
set_option maxRecDepth 20000 in
theorem ggL_examDay_X11_examDay : GoodIn wsL_examDay wsX11_examDay := goodIn_ca (goodIn_r _ [6, 7, 8, 9, 10, 11, 12, 5, 13, 14, 15, 16, 17, 18, 19, 20, 21, 22, 23, 24, 25, 26, 27, 28, 29, 30, 31, 32, 33, 34, 35, 36, 37, 38, 39, 40, 41, 42, 43, 44, 45, 46, 47, 48, 49, 50, 51, 52, 53, 54, 55] (by decide +kernel) (by decide +kernel)) (goodIn_sub (fun _ h => List.mem_cons_of_mem _ (List.mem_append_right _ h)) (by decide +kernel))
set_option maxRecDepth 20000 in
theorem gL_examDay_X11_examDay : GoodIn wsL_examDay (wsV RL 97 RX11 yX11_examDay wsX11_examDay) := goodIn_app (goodIn_of _ (by decide +kernel)) ggL_examDay_X11_examDay
theorem dL_examDay_0 : decode cL_examDay 0 = .ok (.aload_n 2, 1) := by decide +kernel
theorem dL_examDay_1 : decode cL_examDay 1 = .ok (.iconst 0, 1) := by decide +kernel
theorem dL_examDay_2 : decode cL_examDay 2 = .ok (.aload_n 0, 1) := by decide +kernel
theorem dL_examDay_3 : decode cL_examDay 3 = .ok (.iload_n 1, 1) := by decide +kernel
theorem dL_examDay_4 : decode cL_examDay 4 = .ok (.invokevirtual 97, 3) := by decide +kernel
theorem dL_examDay_7 : decode cL_examDay 7 = .ok (.i2l, 1) := by decide +kernel
theorem dL_examDay_8 : decode cL_examDay 8 = .ok (.lastore, 1) := by decide +kernel
theorem dL_examDay_9 : decode cL_examDay 9 = .ok (.goto 6, 3) := by decide +kernel
theorem dL_examDay_12 : decode cL_examDay 12 = .ok (.astore_n 3, 1) := by decide +kernel
theorem dL_examDay_13 : decode cL_examDay 13 = .ok (.iconst 1, 1) := by decide +kernel
theorem dL_examDay_14 : decode cL_examDay 14 = .ok (.ireturn, 1) := by decide +kernel
theorem dL_examDay_15 : decode cL_examDay 15 = .ok (.iconst 0, 1) := by decide +kernel
theorem dL_examDay_16 : decode cL_examDay 16 = .ok (.ireturn, 1) := by decide +kernel
set_option maxRecDepth 20000 in
theorem lm_examDay (ok : sj_ok G) (hq : lok G q) {x1 : Int32} (hc : sj_C G 42 me_X11_examDay [.ref (sj_ad G 0), .int x1] σ (Rc, σ1)) (hr : ∀ k, Rc = .error k → 0 < k ∧ (k = 1 ∨ k = 0 ∨ k = 0)) : lj_C G q me_L_examDay [.ref (sj_ad G 0), .int x1, .ref q.1] σ f g (lr (zcd 1 0 0) Rc) σ1 (lf Rc f) g := by
  refine lj_enter (hh := [(0, 9, 12, 13)]) ok (by decide +kernel) rfl rfl (Nat.le_of_ble_eq_true rfl) (by simp [Value.category]) (fun p e s m args below meth c htab hT hN => ?_)
  refine tj_aload_n dL_examDay_0 (i := 2) rfl rfl ?_
  refine tj_iconst (v := nI 0) dL_examDay_1 (by decide +kernel) ?_
  refine tj_aload_n dL_examDay_2 (i := 0) rfl rfl ?_
  refine tj_iload_n dL_examDay_3 (i := 1) rfl rfl ?_
  refine lj_call (M' := me_X11_examDay) (b := 0) (As := [.int x1]) (rest := [.int (nI 0), .ref q.1]) (fun _ _ h => h) (fun _ h => h) (lok_E hq) dL_examDay_4 gL_examDay_X11_examDay rfl hd_X11_examDay (by decide +kernel) (by decide +kernel) rfl (Nat.le_of_ble_eq_true rfl) ⟨(Nat.le_of_ble_eq_true rfl), (Nat.le_of_ble_eq_true rfl)⟩ rfl ⟨(Nat.le_of_ble_eq_true rfl), (Nat.le_of_ble_eq_true rfl)⟩ hc (fun k9 hk9 H locs ls ce q9 ok C hH hl hce hcv hcl => ?_) (fun v hv => ?_)
  · obtain ⟨h0, hk⟩ := hr k9 hk9
    rcases hk with rfl | rfl | rfl
    · subst hk9
      refine lj_catch ok C hT htab (pre := []) (suf := []) rfl (by decide) (by decide) ⟨by decide, by decide⟩ (fun z hz => nomatch hz) (by decide +kernel) hH hl hce hcv hcl ?_
      refine tj_astore_n dL_examDay_12 (i := 3) rfl (by decide) ?_
      refine tj_iconst (v := nI 1) dL_examDay_13 (by decide +kernel) ?_
      refine lj_open (q := q) (fun _ h => Or.inl h) ?_
      exact lj_ret dL_examDay_14 rfl (Nat.le_refl _) (Nat.le_refl _)
    · exact absurd h0 (by decide)
    · exact absurd h0 (by decide)
  · subst hv
    refine tj_i2l dL_examDay_7 ?_
    refine lj_open (q := q) (fun _ h => Or.inl h) ?_
    refine lj_last hq hT hN dL_examDay_8 ?_
    refine tj_goto (tgt := 15) dL_examDay_9 (by decide) ?_
    refine tj_iconst (v := nI 0) dL_examDay_15 (by decide +kernel) ?_
    exact lj_ret dL_examDay_16 rfl (Nat.zero_le _) (Nat.zero_le _)
set_option maxRecDepth 20000 in
theorem ggL_setBells_X11_setBells : GoodIn wsL_setBells wsX11_setBells := goodIn_ca (goodIn_r _ [6, 7, 8, 9, 10, 5, 11, 12, 13, 14, 15, 16, 17, 18, 19, 20, 21, 22, 23, 24, 25, 26, 27, 28, 29, 30, 31, 32, 33, 34, 35, 36, 37, 38, 39, 40, 41, 42, 43] (by decide +kernel) (by decide +kernel)) (goodIn_sub (fun _ h => List.mem_cons_of_mem _ (List.mem_append_right _ h)) (by decide +kernel))
set_option maxRecDepth 20000 in
theorem gL_setBells_X11_setBells : GoodIn wsL_setBells (wsV RL 100 RX11 yX11_setBells wsX11_setBells) := goodIn_app (goodIn_of _ (by decide +kernel)) ggL_setBells_X11_setBells
theorem dL_setBells_0 : decode cL_setBells 0 = .ok (.aload 5, 2) := by decide +kernel
theorem dL_setBells_2 : decode cL_setBells 2 = .ok (.iconst 0, 1) := by decide +kernel
theorem dL_setBells_3 : decode cL_setBells 3 = .ok (.aload_n 0, 1) := by decide +kernel
theorem dL_setBells_4 : decode cL_setBells 4 = .ok (.iload_n 1, 1) := by decide +kernel
theorem dL_setBells_5 : decode cL_setBells 5 = .ok (.iload_n 2, 1) := by decide +kernel
theorem dL_setBells_6 : decode cL_setBells 6 = .ok (.iload_n 3, 1) := by decide +kernel
theorem dL_setBells_7 : decode cL_setBells 7 = .ok (.iload 4, 2) := by decide +kernel
theorem dL_setBells_9 : decode cL_setBells 9 = .ok (.invokevirtual 100, 3) := by decide +kernel
theorem dL_setBells_12 : decode cL_setBells 12 = .ok (.i2l, 1) := by decide +kernel
theorem dL_setBells_13 : decode cL_setBells 13 = .ok (.lastore, 1) := by decide +kernel
theorem dL_setBells_14 : decode cL_setBells 14 = .ok (.goto 7, 3) := by decide +kernel
theorem dL_setBells_17 : decode cL_setBells 17 = .ok (.astore 6, 2) := by decide +kernel
theorem dL_setBells_19 : decode cL_setBells 19 = .ok (.iconst 1, 1) := by decide +kernel
theorem dL_setBells_20 : decode cL_setBells 20 = .ok (.ireturn, 1) := by decide +kernel
theorem dL_setBells_21 : decode cL_setBells 21 = .ok (.iconst 0, 1) := by decide +kernel
theorem dL_setBells_22 : decode cL_setBells 22 = .ok (.ireturn, 1) := by decide +kernel
set_option maxRecDepth 20000 in
theorem lm_setBells (ok : sj_ok G) (hq : lok G q) {x1 x2 x3 x4 : Int32} (hc : sj_C G 11 me_X11_setBells [.ref (sj_ad G 0), .int x1, .int x2, .int x3, .int x4] σ (Rc, σ1)) (hr : ∀ k, Rc = .error k → 0 < k ∧ (k = 1 ∨ k = 0 ∨ k = 0)) : lj_C G q me_L_setBells [.ref (sj_ad G 0), .int x1, .int x2, .int x3, .int x4, .ref q.1] σ f g (lr (zcd 1 0 0) Rc) σ1 (lf Rc f) g := by
  refine lj_enter (hh := [(0, 14, 17, 13)]) ok (by decide +kernel) rfl rfl (Nat.le_of_ble_eq_true rfl) (by simp [Value.category]) (fun p e s m args below meth c htab hT hN => ?_)
  refine tj_aload dL_setBells_0 rfl ?_
  refine tj_iconst (v := nI 0) dL_setBells_2 (by decide +kernel) ?_
  refine tj_aload_n dL_setBells_3 (i := 0) rfl rfl ?_
  refine tj_iload_n dL_setBells_4 (i := 1) rfl rfl ?_
  refine tj_iload_n dL_setBells_5 (i := 2) rfl rfl ?_
  refine tj_iload_n dL_setBells_6 (i := 3) rfl rfl ?_
  refine tj_iload dL_setBells_7 rfl ?_
  refine lj_call (M' := me_X11_setBells) (b := 0) (As := [.int x1, .int x2, .int x3, .int x4]) (rest := [.int (nI 0), .ref q.1]) (fun _ _ h => h) (fun _ h => h) (lok_E hq) dL_setBells_9 gL_setBells_X11_setBells rfl hd_X11_setBells (by decide +kernel) (by decide +kernel) rfl (Nat.le_of_ble_eq_true rfl) ⟨(Nat.le_of_ble_eq_true rfl), (Nat.le_of_ble_eq_true rfl)⟩ rfl ⟨(Nat.le_of_ble_eq_true rfl), (Nat.le_of_ble_eq_true rfl)⟩ hc (fun k9 hk9 H locs ls ce q9 ok C hH hl hce hcv hcl => ?_) (fun v hv => ?_)
  · obtain ⟨h0, hk⟩ := hr k9 hk9
    rcases hk with rfl | rfl | rfl
    · subst hk9
      refine lj_catch ok C hT htab (pre := []) (suf := []) rfl (by decide) (by decide) ⟨by decide, by decide⟩ (fun z hz => nomatch hz) (by decide +kernel) hH hl hce hcv hcl ?_
      refine tj_astore dL_setBells_17 (by decide) ?_
      refine tj_iconst (v := nI 1) dL_setBells_19 (by decide +kernel) ?_
      refine lj_open (q := q) (fun _ h => Or.inl h) ?_
      exact lj_ret dL_setBells_20 rfl (Nat.le_refl _) (Nat.le_refl _)
    · exact absurd h0 (by decide)
    · exact absurd h0 (by decide)
  · subst hv
    refine tj_i2l dL_setBells_12 ?_
    refine lj_open (q := q) (fun _ h => Or.inl h) ?_
    refine lj_last hq hT hN dL_setBells_13 ?_
    refine tj_goto (tgt := 21) dL_setBells_14 (by decide) ?_
    refine tj_iconst (v := nI 0) dL_setBells_21 (by decide +kernel) ?_
    exact lj_ret dL_setBells_22 rfl (Nat.zero_le _) (Nat.zero_le _)
set_option maxRecDepth 20000 in
theorem ggL_bell_X11_bell : GoodIn wsL_bell wsX11_bell := goodIn_ca (goodIn_r _ [6, 7, 8, 9, 10, 5, 11, 12, 13, 14, 15, 16, 17, 18, 19, 20, 21, 22, 23, 24, 25, 26, 27, 28, 29, 30, 31, 32, 33, 34, 35, 36, 37, 38, 39] (by decide +kernel) (by decide +kernel)) (goodIn_sub (fun _ h => List.mem_cons_of_mem _ (List.mem_append_right _ h)) (by decide +kernel))
set_option maxRecDepth 20000 in
theorem gL_bell_X11_bell : GoodIn wsL_bell (wsV RL 103 RX11 yX11_bell wsX11_bell) := goodIn_app (goodIn_of _ (by decide +kernel)) ggL_bell_X11_bell
theorem dL_bell_0 : decode cL_bell 0 = .ok (.aload_n 3, 1) := by decide +kernel
theorem dL_bell_1 : decode cL_bell 1 = .ok (.iconst 0, 1) := by decide +kernel
theorem dL_bell_2 : decode cL_bell 2 = .ok (.aload_n 0, 1) := by decide +kernel
theorem dL_bell_3 : decode cL_bell 3 = .ok (.iload_n 1, 1) := by decide +kernel
theorem dL_bell_4 : decode cL_bell 4 = .ok (.iload_n 2, 1) := by decide +kernel
theorem dL_bell_5 : decode cL_bell 5 = .ok (.invokevirtual 103, 3) := by decide +kernel
theorem dL_bell_8 : decode cL_bell 8 = .ok (.i2l, 1) := by decide +kernel
theorem dL_bell_9 : decode cL_bell 9 = .ok (.lastore, 1) := by decide +kernel
theorem dL_bell_10 : decode cL_bell 10 = .ok (.goto 7, 3) := by decide +kernel
theorem dL_bell_13 : decode cL_bell 13 = .ok (.astore 4, 2) := by decide +kernel
theorem dL_bell_15 : decode cL_bell 15 = .ok (.iconst 1, 1) := by decide +kernel
theorem dL_bell_16 : decode cL_bell 16 = .ok (.ireturn, 1) := by decide +kernel
theorem dL_bell_17 : decode cL_bell 17 = .ok (.iconst 0, 1) := by decide +kernel
theorem dL_bell_18 : decode cL_bell 18 = .ok (.ireturn, 1) := by decide +kernel
set_option maxRecDepth 20000 in
theorem lm_bell (ok : sj_ok G) (hq : lok G q) {x1 x2 : Int32} (hc : sj_C G 11 me_X11_bell [.ref (sj_ad G 0), .int x1, .int x2] σ (Rc, σ1)) (hr : ∀ k, Rc = .error k → 0 < k ∧ (k = 1 ∨ k = 0 ∨ k = 0)) : lj_C G q me_L_bell [.ref (sj_ad G 0), .int x1, .int x2, .ref q.1] σ f g (lr (zcd 1 0 0) Rc) σ1 (lf Rc f) g := by
  refine lj_enter (hh := [(0, 10, 13, 13)]) ok (by decide +kernel) rfl rfl (Nat.le_of_ble_eq_true rfl) (by simp [Value.category]) (fun p e s m args below meth c htab hT hN => ?_)
  refine tj_aload_n dL_bell_0 (i := 3) rfl rfl ?_
  refine tj_iconst (v := nI 0) dL_bell_1 (by decide +kernel) ?_
  refine tj_aload_n dL_bell_2 (i := 0) rfl rfl ?_
  refine tj_iload_n dL_bell_3 (i := 1) rfl rfl ?_
  refine tj_iload_n dL_bell_4 (i := 2) rfl rfl ?_
  refine lj_call (M' := me_X11_bell) (b := 0) (As := [.int x1, .int x2]) (rest := [.int (nI 0), .ref q.1]) (fun _ _ h => h) (fun _ h => h) (lok_E hq) dL_bell_5 gL_bell_X11_bell rfl hd_X11_bell (by decide +kernel) (by decide +kernel) rfl (Nat.le_of_ble_eq_true rfl) ⟨(Nat.le_of_ble_eq_true rfl), (Nat.le_of_ble_eq_true rfl)⟩ rfl ⟨(Nat.le_of_ble_eq_true rfl), (Nat.le_of_ble_eq_true rfl)⟩ hc (fun k9 hk9 H locs ls ce q9 ok C hH hl hce hcv hcl => ?_) (fun v hv => ?_)
  · obtain ⟨h0, hk⟩ := hr k9 hk9
    rcases hk with rfl | rfl | rfl
    · subst hk9
      refine lj_catch ok C hT htab (pre := []) (suf := []) rfl (by decide) (by decide) ⟨by decide, by decide⟩ (fun z hz => nomatch hz) (by decide +kernel) hH hl hce hcv hcl ?_
      refine tj_astore dL_bell_13 (by decide) ?_
      refine tj_iconst (v := nI 1) dL_bell_15 (by decide +kernel) ?_
      refine lj_open (q := q) (fun _ h => Or.inl h) ?_
      exact lj_ret dL_bell_16 rfl (Nat.le_refl _) (Nat.le_refl _)
    · exact absurd h0 (by decide)
    · exact absurd h0 (by decide)
  · subst hv
    refine tj_i2l dL_bell_8 ?_
    refine lj_open (q := q) (fun _ h => Or.inl h) ?_
    refine lj_last hq hT hN dL_bell_9 ?_
    refine tj_goto (tgt := 17) dL_bell_10 (by decide) ?_
    refine tj_iconst (v := nI 0) dL_bell_17 (by decide +kernel) ?_
    exact lj_ret dL_bell_18 rfl (Nat.zero_le _) (Nat.zero_le _)
set_option maxRecDepth 20000 in
theorem ggL_slotAt_X11_slotAt : GoodIn wsL_slotAt wsX11_slotAt := goodIn_ca (goodIn_r _ [6, 7, 8, 9, 10, 5, 11, 12, 13, 14, 15, 16, 17, 18, 19, 20, 21, 22, 23, 24, 25, 26, 27, 28, 29, 30, 31, 32, 33, 34, 35, 36, 37, 38, 39] (by decide +kernel) (by decide +kernel)) (goodIn_sub (fun _ h => List.mem_cons_of_mem _ (List.mem_append_right _ h)) (by decide +kernel))
set_option maxRecDepth 20000 in
theorem gL_slotAt_X11_slotAt : GoodIn wsL_slotAt (wsV RL 106 RX11 yX11_slotAt wsX11_slotAt) := goodIn_app (goodIn_of _ (by decide +kernel)) ggL_slotAt_X11_slotAt
theorem dL_slotAt_0 : decode cL_slotAt 0 = .ok (.aload_n 3, 1) := by decide +kernel
theorem dL_slotAt_1 : decode cL_slotAt 1 = .ok (.iconst 0, 1) := by decide +kernel
theorem dL_slotAt_2 : decode cL_slotAt 2 = .ok (.aload_n 0, 1) := by decide +kernel
theorem dL_slotAt_3 : decode cL_slotAt 3 = .ok (.iload_n 1, 1) := by decide +kernel
theorem dL_slotAt_4 : decode cL_slotAt 4 = .ok (.iload_n 2, 1) := by decide +kernel
theorem dL_slotAt_5 : decode cL_slotAt 5 = .ok (.invokevirtual 106, 3) := by decide +kernel
theorem dL_slotAt_8 : decode cL_slotAt 8 = .ok (.i2l, 1) := by decide +kernel
theorem dL_slotAt_9 : decode cL_slotAt 9 = .ok (.lastore, 1) := by decide +kernel
theorem dL_slotAt_10 : decode cL_slotAt 10 = .ok (.goto 7, 3) := by decide +kernel
theorem dL_slotAt_13 : decode cL_slotAt 13 = .ok (.astore 4, 2) := by decide +kernel
theorem dL_slotAt_15 : decode cL_slotAt 15 = .ok (.iconst 1, 1) := by decide +kernel
theorem dL_slotAt_16 : decode cL_slotAt 16 = .ok (.ireturn, 1) := by decide +kernel
theorem dL_slotAt_17 : decode cL_slotAt 17 = .ok (.iconst 0, 1) := by decide +kernel
theorem dL_slotAt_18 : decode cL_slotAt 18 = .ok (.ireturn, 1) := by decide +kernel
set_option maxRecDepth 20000 in
theorem lm_slotAt (ok : sj_ok G) (hq : lok G q) {x1 x2 : Int32} (hc : sj_C G 11 me_X11_slotAt [.ref (sj_ad G 0), .int x1, .int x2] σ (Rc, σ1)) (hr : ∀ k, Rc = .error k → 0 < k ∧ (k = 1 ∨ k = 0 ∨ k = 0)) : lj_C G q me_L_slotAt [.ref (sj_ad G 0), .int x1, .int x2, .ref q.1] σ f g (lr (zcd 1 0 0) Rc) σ1 (lf Rc f) g := by
  refine lj_enter (hh := [(0, 10, 13, 13)]) ok (by decide +kernel) rfl rfl (Nat.le_of_ble_eq_true rfl) (by simp [Value.category]) (fun p e s m args below meth c htab hT hN => ?_)
  refine tj_aload_n dL_slotAt_0 (i := 3) rfl rfl ?_
  refine tj_iconst (v := nI 0) dL_slotAt_1 (by decide +kernel) ?_
  refine tj_aload_n dL_slotAt_2 (i := 0) rfl rfl ?_
  refine tj_iload_n dL_slotAt_3 (i := 1) rfl rfl ?_
  refine tj_iload_n dL_slotAt_4 (i := 2) rfl rfl ?_
  refine lj_call (M' := me_X11_slotAt) (b := 0) (As := [.int x1, .int x2]) (rest := [.int (nI 0), .ref q.1]) (fun _ _ h => h) (fun _ h => h) (lok_E hq) dL_slotAt_5 gL_slotAt_X11_slotAt rfl hd_X11_slotAt (by decide +kernel) (by decide +kernel) rfl (Nat.le_of_ble_eq_true rfl) ⟨(Nat.le_of_ble_eq_true rfl), (Nat.le_of_ble_eq_true rfl)⟩ rfl ⟨(Nat.le_of_ble_eq_true rfl), (Nat.le_of_ble_eq_true rfl)⟩ hc (fun k9 hk9 H locs ls ce q9 ok C hH hl hce hcv hcl => ?_) (fun v hv => ?_)
  · obtain ⟨h0, hk⟩ := hr k9 hk9
    rcases hk with rfl | rfl | rfl
    · subst hk9
      refine lj_catch ok C hT htab (pre := []) (suf := []) rfl (by decide) (by decide) ⟨by decide, by decide⟩ (fun z hz => nomatch hz) (by decide +kernel) hH hl hce hcv hcl ?_
      refine tj_astore dL_slotAt_13 (by decide) ?_
      refine tj_iconst (v := nI 1) dL_slotAt_15 (by decide +kernel) ?_
      refine lj_open (q := q) (fun _ h => Or.inl h) ?_
      exact lj_ret dL_slotAt_16 rfl (Nat.le_refl _) (Nat.le_refl _)
    · exact absurd h0 (by decide)
    · exact absurd h0 (by decide)
  · subst hv
    refine tj_i2l dL_slotAt_8 ?_
    refine lj_open (q := q) (fun _ h => Or.inl h) ?_
    refine lj_last hq hT hN dL_slotAt_9 ?_
    refine tj_goto (tgt := 17) dL_slotAt_10 (by decide) ?_
    refine tj_iconst (v := nI 0) dL_slotAt_17 (by decide +kernel) ?_
    exact lj_ret dL_slotAt_18 rfl (Nat.zero_le _) (Nat.zero_le _)
set_option maxRecDepth 20000 in
theorem ggL_setYear_X11_setYear : GoodIn wsL_setYear wsX11_setYear := goodIn_ca (goodIn_r _ [6, 7, 8, 9, 10, 11, 12, 5, 13, 14, 15, 16, 17, 18, 19, 20, 21, 22, 23, 24, 25, 26, 27, 28, 29, 30, 31, 32, 33, 34, 35, 36, 37, 38, 39, 40, 41, 42, 43, 44, 45, 46, 47, 48, 49, 50, 51, 52, 53, 54, 55, 56, 57, 58, 59, 60, 61, 62, 63] (by decide +kernel) (by decide +kernel)) (goodIn_sub (fun _ h => List.mem_cons_of_mem _ (List.mem_append_right _ h)) (by decide +kernel))
set_option maxRecDepth 20000 in
theorem gL_setYear_X11_setYear : GoodIn wsL_setYear (wsV RL 109 RX11 yX11_setYear wsX11_setYear) := goodIn_app (goodIn_of _ (by decide +kernel)) ggL_setYear_X11_setYear
theorem dL_setYear_0 : decode cL_setYear 0 = .ok (.aload_n 2, 1) := by decide +kernel
theorem dL_setYear_1 : decode cL_setYear 1 = .ok (.iconst 0, 1) := by decide +kernel
theorem dL_setYear_2 : decode cL_setYear 2 = .ok (.aload_n 0, 1) := by decide +kernel
theorem dL_setYear_3 : decode cL_setYear 3 = .ok (.iload_n 1, 1) := by decide +kernel
theorem dL_setYear_4 : decode cL_setYear 4 = .ok (.invokevirtual 109, 3) := by decide +kernel
theorem dL_setYear_7 : decode cL_setYear 7 = .ok (.i2l, 1) := by decide +kernel
theorem dL_setYear_8 : decode cL_setYear 8 = .ok (.lastore, 1) := by decide +kernel
theorem dL_setYear_9 : decode cL_setYear 9 = .ok (.goto 6, 3) := by decide +kernel
theorem dL_setYear_12 : decode cL_setYear 12 = .ok (.astore_n 3, 1) := by decide +kernel
theorem dL_setYear_13 : decode cL_setYear 13 = .ok (.iconst 1, 1) := by decide +kernel
theorem dL_setYear_14 : decode cL_setYear 14 = .ok (.ireturn, 1) := by decide +kernel
theorem dL_setYear_15 : decode cL_setYear 15 = .ok (.iconst 0, 1) := by decide +kernel
theorem dL_setYear_16 : decode cL_setYear 16 = .ok (.ireturn, 1) := by decide +kernel
set_option maxRecDepth 20000 in
theorem lm_setYear (ok : sj_ok G) (hq : lok G q) {x1 : Int32} (hc : sj_C G 10 me_X11_setYear [.ref (sj_ad G 0), .int x1] σ (Rc, σ1)) (hr : ∀ k, Rc = .error k → 0 < k ∧ (k = 1 ∨ k = 0 ∨ k = 0)) : lj_C G q me_L_setYear [.ref (sj_ad G 0), .int x1, .ref q.1] σ f g (lr (zcd 1 0 0) Rc) σ1 (lf Rc f) g := by
  refine lj_enter (hh := [(0, 9, 12, 13)]) ok (by decide +kernel) rfl rfl (Nat.le_of_ble_eq_true rfl) (by simp [Value.category]) (fun p e s m args below meth c htab hT hN => ?_)
  refine tj_aload_n dL_setYear_0 (i := 2) rfl rfl ?_
  refine tj_iconst (v := nI 0) dL_setYear_1 (by decide +kernel) ?_
  refine tj_aload_n dL_setYear_2 (i := 0) rfl rfl ?_
  refine tj_iload_n dL_setYear_3 (i := 1) rfl rfl ?_
  refine lj_call (M' := me_X11_setYear) (b := 0) (As := [.int x1]) (rest := [.int (nI 0), .ref q.1]) (fun _ _ h => h) (fun _ h => h) (lok_E hq) dL_setYear_4 gL_setYear_X11_setYear rfl hd_X11_setYear (by decide +kernel) (by decide +kernel) rfl (Nat.le_of_ble_eq_true rfl) ⟨(Nat.le_of_ble_eq_true rfl), (Nat.le_of_ble_eq_true rfl)⟩ rfl ⟨(Nat.le_of_ble_eq_true rfl), (Nat.le_of_ble_eq_true rfl)⟩ hc (fun k9 hk9 H locs ls ce q9 ok C hH hl hce hcv hcl => ?_) (fun v hv => ?_)
  · obtain ⟨h0, hk⟩ := hr k9 hk9
    rcases hk with rfl | rfl | rfl
    · subst hk9
      refine lj_catch ok C hT htab (pre := []) (suf := []) rfl (by decide) (by decide) ⟨by decide, by decide⟩ (fun z hz => nomatch hz) (by decide +kernel) hH hl hce hcv hcl ?_
      refine tj_astore_n dL_setYear_12 (i := 3) rfl (by decide) ?_
      refine tj_iconst (v := nI 1) dL_setYear_13 (by decide +kernel) ?_
      refine lj_open (q := q) (fun _ h => Or.inl h) ?_
      exact lj_ret dL_setYear_14 rfl (Nat.le_refl _) (Nat.le_refl _)
    · exact absurd h0 (by decide)
    · exact absurd h0 (by decide)
  · subst hv
    refine tj_i2l dL_setYear_7 ?_
    refine lj_open (q := q) (fun _ h => Or.inl h) ?_
    refine lj_last hq hT hN dL_setYear_8 ?_
    refine tj_goto (tgt := 15) dL_setYear_9 (by decide) ?_
    refine tj_iconst (v := nI 0) dL_setYear_15 (by decide +kernel) ?_
    exact lj_ret dL_setYear_16 rfl (Nat.zero_le _) (Nat.zero_le _)
set_option maxRecDepth 20000 in
theorem ggL_holiday_X11_holiday : GoodIn wsL_holiday wsX11_holiday := goodIn_ca (goodIn_ca (goodIn_r _ [7, 8, 9, 10, 11, 12, 13, 14, 15, 16, 6, 17, 18, 19, 20, 21, 22, 23, 24, 25, 26, 27, 28, 29, 30, 31, 32, 33, 34, 35, 36, 37, 38, 39, 40, 41, 42, 43, 44, 45, 46, 47, 48, 49, 50, 51, 52, 53, 54, 55, 56, 57] (by decide +kernel) (by decide +kernel)) (goodIn_sub (fun _ h => List.mem_cons_of_mem _ (List.mem_append_left _ (List.mem_append_right _ h))) (by decide +kernel))) (goodIn_sub (fun _ h => List.mem_cons_of_mem _ (List.mem_append_right _ h)) (by decide +kernel))
set_option maxRecDepth 20000 in
theorem gL_holiday_X11_holiday : GoodIn wsL_holiday (wsV RL 112 RX11 yX11_holiday wsX11_holiday) := goodIn_app (goodIn_of _ (by decide +kernel)) ggL_holiday_X11_holiday
theorem dL_holiday_0 : decode cL_holiday 0 = .ok (.aload_n 3, 1) := by decide +kernel
theorem dL_holiday_1 : decode cL_holiday 1 = .ok (.iconst 0, 1) := by decide +kernel
theorem dL_holiday_2 : decode cL_holiday 2 = .ok (.aload_n 0, 1) := by decide +kernel
theorem dL_holiday_3 : decode cL_holiday 3 = .ok (.iload_n 1, 1) := by decide +kernel
theorem dL_holiday_4 : decode cL_holiday 4 = .ok (.iload_n 2, 1) := by decide +kernel
theorem dL_holiday_5 : decode cL_holiday 5 = .ok (.invokevirtual 112, 3) := by decide +kernel
theorem dL_holiday_8 : decode cL_holiday 8 = .ok (.i2l, 1) := by decide +kernel
theorem dL_holiday_9 : decode cL_holiday 9 = .ok (.lastore, 1) := by decide +kernel
theorem dL_holiday_10 : decode cL_holiday 10 = .ok (.goto 11, 3) := by decide +kernel
theorem dL_holiday_13 : decode cL_holiday 13 = .ok (.astore 4, 2) := by decide +kernel
theorem dL_holiday_15 : decode cL_holiday 15 = .ok (.iconst 1, 1) := by decide +kernel
theorem dL_holiday_16 : decode cL_holiday 16 = .ok (.ireturn, 1) := by decide +kernel
theorem dL_holiday_17 : decode cL_holiday 17 = .ok (.astore 4, 2) := by decide +kernel
theorem dL_holiday_19 : decode cL_holiday 19 = .ok (.iconst 2, 1) := by decide +kernel
theorem dL_holiday_20 : decode cL_holiday 20 = .ok (.ireturn, 1) := by decide +kernel
theorem dL_holiday_21 : decode cL_holiday 21 = .ok (.iconst 0, 1) := by decide +kernel
theorem dL_holiday_22 : decode cL_holiday 22 = .ok (.ireturn, 1) := by decide +kernel
set_option maxRecDepth 20000 in
theorem lm_holiday (ok : sj_ok G) (hq : lok G q) {x1 x2 : Int32} (hc : sj_C G 10 me_X11_holiday [.ref (sj_ad G 0), .int x1, .int x2] σ (Rc, σ1)) (hr : ∀ k, Rc = .error k → 0 < k ∧ (k = 1 ∨ k = 2 ∨ k = 0)) : lj_C G q me_L_holiday [.ref (sj_ad G 0), .int x1, .int x2, .ref q.1] σ f g (lr (zcd 1 2 0) Rc) σ1 (lf Rc f) g := by
  refine lj_enter (hh := [(0, 10, 13, 13), (0, 10, 17, 15)]) ok (by decide +kernel) rfl rfl (Nat.le_of_ble_eq_true rfl) (by simp [Value.category]) (fun p e s m args below meth c htab hT hN => ?_)
  refine tj_aload_n dL_holiday_0 (i := 3) rfl rfl ?_
  refine tj_iconst (v := nI 0) dL_holiday_1 (by decide +kernel) ?_
  refine tj_aload_n dL_holiday_2 (i := 0) rfl rfl ?_
  refine tj_iload_n dL_holiday_3 (i := 1) rfl rfl ?_
  refine tj_iload_n dL_holiday_4 (i := 2) rfl rfl ?_
  refine lj_call (M' := me_X11_holiday) (b := 0) (As := [.int x1, .int x2]) (rest := [.int (nI 0), .ref q.1]) (fun _ _ h => h) (fun _ h => h) (lok_E hq) dL_holiday_5 gL_holiday_X11_holiday rfl hd_X11_holiday (by decide +kernel) (by decide +kernel) rfl (Nat.le_of_ble_eq_true rfl) ⟨(Nat.le_of_ble_eq_true rfl), (Nat.le_of_ble_eq_true rfl)⟩ rfl ⟨(Nat.le_of_ble_eq_true rfl), (Nat.le_of_ble_eq_true rfl)⟩ hc (fun k9 hk9 H locs ls ce q9 ok C hH hl hce hcv hcl => ?_) (fun v hv => ?_)
  · obtain ⟨h0, hk⟩ := hr k9 hk9
    rcases hk with rfl | rfl | rfl
    · subst hk9
      refine lj_catch ok C hT htab (pre := []) (suf := [(0, 10, 17, 15)]) rfl (by decide) (by decide) ⟨by decide, by decide⟩ (fun z hz => nomatch hz) (by decide +kernel) hH hl hce hcv hcl ?_
      refine tj_astore dL_holiday_13 (by decide) ?_
      refine tj_iconst (v := nI 1) dL_holiday_15 (by decide +kernel) ?_
      refine lj_open (q := q) (fun _ h => Or.inl h) ?_
      exact lj_ret dL_holiday_16 rfl (Nat.le_refl _) (Nat.le_refl _)
    · subst hk9
      refine lj_catch ok C hT htab (pre := [(0, 10, 13, 13)]) (suf := []) rfl (by decide) (by decide) ⟨by decide, by decide⟩ (fun z hz => by
        simp only [List.mem_cons, List.not_mem_nil, or_false] at hz
        subst hz
        exact ⟨1, ⟨by decide, by decide, by decide, by decide⟩, by decide +kernel⟩) (by decide +kernel) hH hl hce hcv hcl ?_
      refine tj_astore dL_holiday_17 (by decide) ?_
      refine tj_iconst (v := nI 2) dL_holiday_19 (by decide +kernel) ?_
      refine lj_open (q := q) (fun _ h => Or.inl h) ?_
      exact lj_ret dL_holiday_20 rfl (Nat.le_refl _) (Nat.le_refl _)
    · exact absurd h0 (by decide)
  · subst hv
    refine tj_i2l dL_holiday_8 ?_
    refine lj_open (q := q) (fun _ h => Or.inl h) ?_
    refine lj_last hq hT hN dL_holiday_9 ?_
    refine tj_goto (tgt := 21) dL_holiday_10 (by decide) ?_
    refine tj_iconst (v := nI 0) dL_holiday_21 (by decide +kernel) ?_
    exact lj_ret dL_holiday_22 rfl (Nat.zero_le _) (Nat.zero_le _)
set_option maxRecDepth 20000 in
theorem ggL_dateOf_X11_dateOf : GoodIn wsL_dateOf wsX11_dateOf := goodIn_ca (goodIn_r _ [6, 7, 8, 9, 10, 11, 12, 13, 14, 15, 16, 17, 18, 19, 20, 21, 22, 23, 24, 25, 26, 27, 28, 29, 30, 31, 32, 33, 34, 35, 36, 37, 38] (by decide +kernel) (by decide +kernel)) (goodIn_sub (fun _ h => List.mem_cons_of_mem _ (List.mem_append_right _ h)) (by decide +kernel))
set_option maxRecDepth 20000 in
theorem gL_dateOf_X11_dateOf : GoodIn wsL_dateOf (wsV RL 115 RX11 yX11_dateOf wsX11_dateOf) := goodIn_app (goodIn_of _ (by decide +kernel)) ggL_dateOf_X11_dateOf
theorem dL_dateOf_0 : decode cL_dateOf 0 = .ok (.aload_n 2, 1) := by decide +kernel
theorem dL_dateOf_1 : decode cL_dateOf 1 = .ok (.iconst 0, 1) := by decide +kernel
theorem dL_dateOf_2 : decode cL_dateOf 2 = .ok (.aload_n 0, 1) := by decide +kernel
theorem dL_dateOf_3 : decode cL_dateOf 3 = .ok (.iload_n 1, 1) := by decide +kernel
theorem dL_dateOf_4 : decode cL_dateOf 4 = .ok (.invokevirtual 115, 3) := by decide +kernel
theorem dL_dateOf_7 : decode cL_dateOf 7 = .ok (.i2l, 1) := by decide +kernel
theorem dL_dateOf_8 : decode cL_dateOf 8 = .ok (.lastore, 1) := by decide +kernel
theorem dL_dateOf_9 : decode cL_dateOf 9 = .ok (.goto 6, 3) := by decide +kernel
theorem dL_dateOf_12 : decode cL_dateOf 12 = .ok (.astore_n 3, 1) := by decide +kernel
theorem dL_dateOf_13 : decode cL_dateOf 13 = .ok (.iconst 1, 1) := by decide +kernel
theorem dL_dateOf_14 : decode cL_dateOf 14 = .ok (.ireturn, 1) := by decide +kernel
theorem dL_dateOf_15 : decode cL_dateOf 15 = .ok (.iconst 0, 1) := by decide +kernel
theorem dL_dateOf_16 : decode cL_dateOf 16 = .ok (.ireturn, 1) := by decide +kernel
set_option maxRecDepth 20000 in
theorem lm_dateOf (ok : sj_ok G) (hq : lok G q) {x1 : Int32} (hc : sj_C G 9 me_X11_dateOf [.ref (sj_ad G 0), .int x1] σ (Rc, σ1)) (hr : ∀ k, Rc = .error k → 0 < k ∧ (k = 3 ∨ k = 0 ∨ k = 0)) : lj_C G q me_L_dateOf [.ref (sj_ad G 0), .int x1, .ref q.1] σ f g (lr (zcd 3 0 0) Rc) σ1 (lf Rc f) g := by
  refine lj_enter (hh := [(0, 9, 12, 21)]) ok (by decide +kernel) rfl rfl (Nat.le_of_ble_eq_true rfl) (by simp [Value.category]) (fun p e s m args below meth c htab hT hN => ?_)
  refine tj_aload_n dL_dateOf_0 (i := 2) rfl rfl ?_
  refine tj_iconst (v := nI 0) dL_dateOf_1 (by decide +kernel) ?_
  refine tj_aload_n dL_dateOf_2 (i := 0) rfl rfl ?_
  refine tj_iload_n dL_dateOf_3 (i := 1) rfl rfl ?_
  refine lj_call (M' := me_X11_dateOf) (b := 0) (As := [.int x1]) (rest := [.int (nI 0), .ref q.1]) (fun _ _ h => h) (fun _ h => h) (lok_E hq) dL_dateOf_4 gL_dateOf_X11_dateOf rfl hd_X11_dateOf (by decide +kernel) (by decide +kernel) rfl (Nat.le_of_ble_eq_true rfl) ⟨(Nat.le_of_ble_eq_true rfl), (Nat.le_of_ble_eq_true rfl)⟩ rfl ⟨(Nat.le_of_ble_eq_true rfl), (Nat.le_of_ble_eq_true rfl)⟩ hc (fun k9 hk9 H locs ls ce q9 ok C hH hl hce hcv hcl => ?_) (fun v hv => ?_)
  · obtain ⟨h0, hk⟩ := hr k9 hk9
    rcases hk with rfl | rfl | rfl
    · subst hk9
      refine lj_catch ok C hT htab (pre := []) (suf := []) rfl (by decide) (by decide) ⟨by decide, by decide⟩ (fun z hz => nomatch hz) (by decide +kernel) hH hl hce hcv hcl ?_
      refine tj_astore_n dL_dateOf_12 (i := 3) rfl (by decide) ?_
      refine tj_iconst (v := nI 1) dL_dateOf_13 (by decide +kernel) ?_
      refine lj_open (q := q) (fun _ h => Or.inl h) ?_
      exact lj_ret dL_dateOf_14 rfl (Nat.le_refl _) (Nat.le_refl _)
    · exact absurd h0 (by decide)
    · exact absurd h0 (by decide)
  · subst hv
    refine tj_i2l dL_dateOf_7 ?_
    refine lj_open (q := q) (fun _ h => Or.inl h) ?_
    refine lj_last hq hT hN dL_dateOf_8 ?_
    refine tj_goto (tgt := 15) dL_dateOf_9 (by decide) ?_
    refine tj_iconst (v := nI 0) dL_dateOf_15 (by decide +kernel) ?_
    exact lj_ret dL_dateOf_16 rfl (Nat.zero_le _) (Nat.zero_le _)
set_option maxRecDepth 20000 in
theorem ggL_numberOf_X11_numberOf : GoodIn wsL_numberOf wsX11_numberOf := goodIn_ca (goodIn_r _ [6, 7, 8, 9, 10, 11, 5, 12, 13, 14, 15, 16, 17, 18, 19, 20, 21, 22, 23, 24, 25, 26, 27, 28, 29, 30, 31, 32, 33, 34, 35, 36, 37, 38, 39, 40, 41, 42, 43, 44, 45, 46, 47, 48, 49, 50, 51, 52, 53] (by decide +kernel) (by decide +kernel)) (goodIn_sub (fun _ h => List.mem_cons_of_mem _ (List.mem_append_right _ h)) (by decide +kernel))
set_option maxRecDepth 20000 in
theorem gL_numberOf_X11_numberOf : GoodIn wsL_numberOf (wsV RL 118 RX11 yX11_numberOf wsX11_numberOf) := goodIn_app (goodIn_of _ (by decide +kernel)) ggL_numberOf_X11_numberOf
theorem dL_numberOf_0 : decode cL_numberOf 0 = .ok (.aload_n 2, 1) := by decide +kernel
theorem dL_numberOf_1 : decode cL_numberOf 1 = .ok (.iconst 0, 1) := by decide +kernel
theorem dL_numberOf_2 : decode cL_numberOf 2 = .ok (.aload_n 0, 1) := by decide +kernel
theorem dL_numberOf_3 : decode cL_numberOf 3 = .ok (.iload_n 1, 1) := by decide +kernel
theorem dL_numberOf_4 : decode cL_numberOf 4 = .ok (.invokevirtual 118, 3) := by decide +kernel
theorem dL_numberOf_7 : decode cL_numberOf 7 = .ok (.i2l, 1) := by decide +kernel
theorem dL_numberOf_8 : decode cL_numberOf 8 = .ok (.lastore, 1) := by decide +kernel
theorem dL_numberOf_9 : decode cL_numberOf 9 = .ok (.goto 6, 3) := by decide +kernel
theorem dL_numberOf_12 : decode cL_numberOf 12 = .ok (.astore_n 3, 1) := by decide +kernel
theorem dL_numberOf_13 : decode cL_numberOf 13 = .ok (.iconst 1, 1) := by decide +kernel
theorem dL_numberOf_14 : decode cL_numberOf 14 = .ok (.ireturn, 1) := by decide +kernel
theorem dL_numberOf_15 : decode cL_numberOf 15 = .ok (.iconst 0, 1) := by decide +kernel
theorem dL_numberOf_16 : decode cL_numberOf 16 = .ok (.ireturn, 1) := by decide +kernel
set_option maxRecDepth 20000 in
theorem lm_numberOf (ok : sj_ok G) (hq : lok G q) {x1 : Int32} (hc : sj_C G 10 me_X11_numberOf [.ref (sj_ad G 0), .int x1] σ (Rc, σ1)) (hr : ∀ k, Rc = .error k → 0 < k ∧ (k = 1 ∨ k = 0 ∨ k = 0)) : lj_C G q me_L_numberOf [.ref (sj_ad G 0), .int x1, .ref q.1] σ f g (lr (zcd 1 0 0) Rc) σ1 (lf Rc f) g := by
  refine lj_enter (hh := [(0, 9, 12, 13)]) ok (by decide +kernel) rfl rfl (Nat.le_of_ble_eq_true rfl) (by simp [Value.category]) (fun p e s m args below meth c htab hT hN => ?_)
  refine tj_aload_n dL_numberOf_0 (i := 2) rfl rfl ?_
  refine tj_iconst (v := nI 0) dL_numberOf_1 (by decide +kernel) ?_
  refine tj_aload_n dL_numberOf_2 (i := 0) rfl rfl ?_
  refine tj_iload_n dL_numberOf_3 (i := 1) rfl rfl ?_
  refine lj_call (M' := me_X11_numberOf) (b := 0) (As := [.int x1]) (rest := [.int (nI 0), .ref q.1]) (fun _ _ h => h) (fun _ h => h) (lok_E hq) dL_numberOf_4 gL_numberOf_X11_numberOf rfl hd_X11_numberOf (by decide +kernel) (by decide +kernel) rfl (Nat.le_of_ble_eq_true rfl) ⟨(Nat.le_of_ble_eq_true rfl), (Nat.le_of_ble_eq_true rfl)⟩ rfl ⟨(Nat.le_of_ble_eq_true rfl), (Nat.le_of_ble_eq_true rfl)⟩ hc (fun k9 hk9 H locs ls ce q9 ok C hH hl hce hcv hcl => ?_) (fun v hv => ?_)
  · obtain ⟨h0, hk⟩ := hr k9 hk9
    rcases hk with rfl | rfl | rfl
    · subst hk9
      refine lj_catch ok C hT htab (pre := []) (suf := []) rfl (by decide) (by decide) ⟨by decide, by decide⟩ (fun z hz => nomatch hz) (by decide +kernel) hH hl hce hcv hcl ?_
      refine tj_astore_n dL_numberOf_12 (i := 3) rfl (by decide) ?_
      refine tj_iconst (v := nI 1) dL_numberOf_13 (by decide +kernel) ?_
      refine lj_open (q := q) (fun _ h => Or.inl h) ?_
      exact lj_ret dL_numberOf_14 rfl (Nat.le_refl _) (Nat.le_refl _)
    · exact absurd h0 (by decide)
    · exact absurd h0 (by decide)
  · subst hv
    refine tj_i2l dL_numberOf_7 ?_
    refine lj_open (q := q) (fun _ h => Or.inl h) ?_
    refine lj_last hq hT hN dL_numberOf_8 ?_
    refine tj_goto (tgt := 15) dL_numberOf_9 (by decide) ?_
    refine tj_iconst (v := nI 0) dL_numberOf_15 (by decide +kernel) ?_
    exact lj_ret dL_numberOf_16 rfl (Nat.zero_le _) (Nat.zero_le _)
set_option maxRecDepth 20000 in
theorem ggL_nextDay_X11_nextDay : GoodIn wsL_nextDay wsX11_nextDay := goodIn_ca (goodIn_r _ [6, 7, 8, 9, 10, 11, 12, 13, 14, 15, 5, 16, 17, 18, 19, 20, 21, 22, 23, 24, 25, 26, 27, 28, 29, 30, 31, 32, 33, 34, 35, 36, 37, 38, 39, 40, 41, 42, 43, 44, 45, 46, 47, 48, 49, 50, 51, 52, 53, 54, 55, 56, 57, 58] (by decide +kernel) (by decide +kernel)) (goodIn_sub (fun _ h => List.mem_cons_of_mem _ (List.mem_append_right _ h)) (by decide +kernel))
set_option maxRecDepth 20000 in
theorem gL_nextDay_X11_nextDay : GoodIn wsL_nextDay (wsV RL 121 RX11 yX11_nextDay wsX11_nextDay) := goodIn_app (goodIn_of _ (by decide +kernel)) ggL_nextDay_X11_nextDay
theorem dL_nextDay_0 : decode cL_nextDay 0 = .ok (.aload_n 2, 1) := by decide +kernel
theorem dL_nextDay_1 : decode cL_nextDay 1 = .ok (.iconst 0, 1) := by decide +kernel
theorem dL_nextDay_2 : decode cL_nextDay 2 = .ok (.aload_n 0, 1) := by decide +kernel
theorem dL_nextDay_3 : decode cL_nextDay 3 = .ok (.iload_n 1, 1) := by decide +kernel
theorem dL_nextDay_4 : decode cL_nextDay 4 = .ok (.invokevirtual 121, 3) := by decide +kernel
theorem dL_nextDay_7 : decode cL_nextDay 7 = .ok (.i2l, 1) := by decide +kernel
theorem dL_nextDay_8 : decode cL_nextDay 8 = .ok (.lastore, 1) := by decide +kernel
theorem dL_nextDay_9 : decode cL_nextDay 9 = .ok (.goto 6, 3) := by decide +kernel
theorem dL_nextDay_12 : decode cL_nextDay 12 = .ok (.astore_n 3, 1) := by decide +kernel
theorem dL_nextDay_13 : decode cL_nextDay 13 = .ok (.iconst 1, 1) := by decide +kernel
theorem dL_nextDay_14 : decode cL_nextDay 14 = .ok (.ireturn, 1) := by decide +kernel
theorem dL_nextDay_15 : decode cL_nextDay 15 = .ok (.iconst 0, 1) := by decide +kernel
theorem dL_nextDay_16 : decode cL_nextDay 16 = .ok (.ireturn, 1) := by decide +kernel
set_option maxRecDepth 20000 in
theorem lm_nextDay (ok : sj_ok G) (hq : lok G q) {x1 : Int32} (hc : sj_C G 10 me_X11_nextDay [.ref (sj_ad G 0), .int x1] σ (Rc, σ1)) (hr : ∀ k, Rc = .error k → 0 < k ∧ (k = 1 ∨ k = 0 ∨ k = 0)) : lj_C G q me_L_nextDay [.ref (sj_ad G 0), .int x1, .ref q.1] σ f g (lr (zcd 1 0 0) Rc) σ1 (lf Rc f) g := by
  refine lj_enter (hh := [(0, 9, 12, 13)]) ok (by decide +kernel) rfl rfl (Nat.le_of_ble_eq_true rfl) (by simp [Value.category]) (fun p e s m args below meth c htab hT hN => ?_)
  refine tj_aload_n dL_nextDay_0 (i := 2) rfl rfl ?_
  refine tj_iconst (v := nI 0) dL_nextDay_1 (by decide +kernel) ?_
  refine tj_aload_n dL_nextDay_2 (i := 0) rfl rfl ?_
  refine tj_iload_n dL_nextDay_3 (i := 1) rfl rfl ?_
  refine lj_call (M' := me_X11_nextDay) (b := 0) (As := [.int x1]) (rest := [.int (nI 0), .ref q.1]) (fun _ _ h => h) (fun _ h => h) (lok_E hq) dL_nextDay_4 gL_nextDay_X11_nextDay rfl hd_X11_nextDay (by decide +kernel) (by decide +kernel) rfl (Nat.le_of_ble_eq_true rfl) ⟨(Nat.le_of_ble_eq_true rfl), (Nat.le_of_ble_eq_true rfl)⟩ rfl ⟨(Nat.le_of_ble_eq_true rfl), (Nat.le_of_ble_eq_true rfl)⟩ hc (fun k9 hk9 H locs ls ce q9 ok C hH hl hce hcv hcl => ?_) (fun v hv => ?_)
  · obtain ⟨h0, hk⟩ := hr k9 hk9
    rcases hk with rfl | rfl | rfl
    · subst hk9
      refine lj_catch ok C hT htab (pre := []) (suf := []) rfl (by decide) (by decide) ⟨by decide, by decide⟩ (fun z hz => nomatch hz) (by decide +kernel) hH hl hce hcv hcl ?_
      refine tj_astore_n dL_nextDay_12 (i := 3) rfl (by decide) ?_
      refine tj_iconst (v := nI 1) dL_nextDay_13 (by decide +kernel) ?_
      refine lj_open (q := q) (fun _ h => Or.inl h) ?_
      exact lj_ret dL_nextDay_14 rfl (Nat.le_refl _) (Nat.le_refl _)
    · exact absurd h0 (by decide)
    · exact absurd h0 (by decide)
  · subst hv
    refine tj_i2l dL_nextDay_7 ?_
    refine lj_open (q := q) (fun _ h => Or.inl h) ?_
    refine lj_last hq hT hN dL_nextDay_8 ?_
    refine tj_goto (tgt := 15) dL_nextDay_9 (by decide) ?_
    refine tj_iconst (v := nI 0) dL_nextDay_15 (by decide +kernel) ?_
    exact lj_ret dL_nextDay_16 rfl (Nat.zero_le _) (Nat.zero_le _)
set_option maxRecDepth 20000 in
theorem ggL_weekOf_X11_weekOf : GoodIn wsL_weekOf wsX11_weekOf := goodIn_ca (goodIn_r _ [6, 7, 8, 9, 10, 11, 5, 12, 13, 14, 15, 16, 17, 18, 19, 20, 21, 22, 23, 24, 25, 26, 27, 28, 29, 30, 31, 32, 33, 34, 35, 36, 37, 38, 39, 40, 41, 42, 43, 44, 45, 46, 47, 48, 49, 50, 51, 52, 53, 54, 55, 56, 57, 58, 59, 60, 61, 62, 63, 64, 65, 66, 67, 68, 69] (by decide +kernel) (by decide +kernel)) (goodIn_sub (fun _ h => List.mem_cons_of_mem _ (List.mem_append_right _ h)) (by decide +kernel))
set_option maxRecDepth 20000 in
theorem gL_weekOf_X11_weekOf : GoodIn wsL_weekOf (wsV RL 124 RX11 yX11_weekOf wsX11_weekOf) := goodIn_app (goodIn_of _ (by decide +kernel)) ggL_weekOf_X11_weekOf
theorem dL_weekOf_0 : decode cL_weekOf 0 = .ok (.aload_n 3, 1) := by decide +kernel
theorem dL_weekOf_1 : decode cL_weekOf 1 = .ok (.iconst 0, 1) := by decide +kernel
theorem dL_weekOf_2 : decode cL_weekOf 2 = .ok (.aload_n 0, 1) := by decide +kernel
theorem dL_weekOf_3 : decode cL_weekOf 3 = .ok (.iload_n 1, 1) := by decide +kernel
theorem dL_weekOf_4 : decode cL_weekOf 4 = .ok (.iload_n 2, 1) := by decide +kernel
theorem dL_weekOf_5 : decode cL_weekOf 5 = .ok (.invokevirtual 124, 3) := by decide +kernel
theorem dL_weekOf_8 : decode cL_weekOf 8 = .ok (.i2l, 1) := by decide +kernel
theorem dL_weekOf_9 : decode cL_weekOf 9 = .ok (.lastore, 1) := by decide +kernel
theorem dL_weekOf_10 : decode cL_weekOf 10 = .ok (.goto 7, 3) := by decide +kernel
theorem dL_weekOf_13 : decode cL_weekOf 13 = .ok (.astore 4, 2) := by decide +kernel
theorem dL_weekOf_15 : decode cL_weekOf 15 = .ok (.iconst 1, 1) := by decide +kernel
theorem dL_weekOf_16 : decode cL_weekOf 16 = .ok (.ireturn, 1) := by decide +kernel
theorem dL_weekOf_17 : decode cL_weekOf 17 = .ok (.iconst 0, 1) := by decide +kernel
theorem dL_weekOf_18 : decode cL_weekOf 18 = .ok (.ireturn, 1) := by decide +kernel
set_option maxRecDepth 20000 in
theorem lm_weekOf (ok : sj_ok G) (hq : lok G q) {x1 x2 : Int32} (hc : sj_C G 11 me_X11_weekOf [.ref (sj_ad G 0), .int x1, .int x2] σ (Rc, σ1)) (hr : ∀ k, Rc = .error k → 0 < k ∧ (k = 1 ∨ k = 0 ∨ k = 0)) : lj_C G q me_L_weekOf [.ref (sj_ad G 0), .int x1, .int x2, .ref q.1] σ f g (lr (zcd 1 0 0) Rc) σ1 (lf Rc f) g := by
  refine lj_enter (hh := [(0, 10, 13, 13)]) ok (by decide +kernel) rfl rfl (Nat.le_of_ble_eq_true rfl) (by simp [Value.category]) (fun p e s m args below meth c htab hT hN => ?_)
  refine tj_aload_n dL_weekOf_0 (i := 3) rfl rfl ?_
  refine tj_iconst (v := nI 0) dL_weekOf_1 (by decide +kernel) ?_
  refine tj_aload_n dL_weekOf_2 (i := 0) rfl rfl ?_
  refine tj_iload_n dL_weekOf_3 (i := 1) rfl rfl ?_
  refine tj_iload_n dL_weekOf_4 (i := 2) rfl rfl ?_
  refine lj_call (M' := me_X11_weekOf) (b := 0) (As := [.int x1, .int x2]) (rest := [.int (nI 0), .ref q.1]) (fun _ _ h => h) (fun _ h => h) (lok_E hq) dL_weekOf_5 gL_weekOf_X11_weekOf rfl hd_X11_weekOf (by decide +kernel) (by decide +kernel) rfl (Nat.le_of_ble_eq_true rfl) ⟨(Nat.le_of_ble_eq_true rfl), (Nat.le_of_ble_eq_true rfl)⟩ rfl ⟨(Nat.le_of_ble_eq_true rfl), (Nat.le_of_ble_eq_true rfl)⟩ hc (fun k9 hk9 H locs ls ce q9 ok C hH hl hce hcv hcl => ?_) (fun v hv => ?_)
  · obtain ⟨h0, hk⟩ := hr k9 hk9
    rcases hk with rfl | rfl | rfl
    · subst hk9
      refine lj_catch ok C hT htab (pre := []) (suf := []) rfl (by decide) (by decide) ⟨by decide, by decide⟩ (fun z hz => nomatch hz) (by decide +kernel) hH hl hce hcv hcl ?_
      refine tj_astore dL_weekOf_13 (by decide) ?_
      refine tj_iconst (v := nI 1) dL_weekOf_15 (by decide +kernel) ?_
      refine lj_open (q := q) (fun _ h => Or.inl h) ?_
      exact lj_ret dL_weekOf_16 rfl (Nat.le_refl _) (Nat.le_refl _)
    · exact absurd h0 (by decide)
    · exact absurd h0 (by decide)
  · subst hv
    refine tj_i2l dL_weekOf_8 ?_
    refine lj_open (q := q) (fun _ h => Or.inl h) ?_
    refine lj_last hq hT hN dL_weekOf_9 ?_
    refine tj_goto (tgt := 17) dL_weekOf_10 (by decide) ?_
    refine tj_iconst (v := nI 0) dL_weekOf_17 (by decide +kernel) ?_
    exact lj_ret dL_weekOf_18 rfl (Nat.zero_le _) (Nat.zero_le _)
set_option maxRecDepth 20000 in
theorem ggL_dayOfWeek_X11_dayOfWeek : GoodIn wsL_dayOfWeek wsX11_dayOfWeek := goodIn_ca (goodIn_r _ [6, 7, 8, 9, 10, 5, 11, 12, 13, 14, 15, 16, 17, 18, 19, 20, 21, 22, 23, 24, 25, 26, 27, 28, 29, 30, 31, 32, 33, 34, 35, 36, 37, 38, 39, 40, 41, 42, 43, 44, 45, 46, 47] (by decide +kernel) (by decide +kernel)) (goodIn_sub (fun _ h => List.mem_cons_of_mem _ (List.mem_append_right _ h)) (by decide +kernel))
set_option maxRecDepth 20000 in
theorem gL_dayOfWeek_X11_dayOfWeek : GoodIn wsL_dayOfWeek (wsV RL 127 RX11 yX11_dayOfWeek wsX11_dayOfWeek) := goodIn_app (goodIn_of _ (by decide +kernel)) ggL_dayOfWeek_X11_dayOfWeek
theorem dL_dayOfWeek_0 : decode cL_dayOfWeek 0 = .ok (.aload_n 2, 1) := by decide +kernel
theorem dL_dayOfWeek_1 : decode cL_dayOfWeek 1 = .ok (.iconst 0, 1) := by decide +kernel
theorem dL_dayOfWeek_2 : decode cL_dayOfWeek 2 = .ok (.aload_n 0, 1) := by decide +kernel
theorem dL_dayOfWeek_3 : decode cL_dayOfWeek 3 = .ok (.iload_n 1, 1) := by decide +kernel
theorem dL_dayOfWeek_4 : decode cL_dayOfWeek 4 = .ok (.invokevirtual 127, 3) := by decide +kernel
theorem dL_dayOfWeek_7 : decode cL_dayOfWeek 7 = .ok (.i2l, 1) := by decide +kernel
theorem dL_dayOfWeek_8 : decode cL_dayOfWeek 8 = .ok (.lastore, 1) := by decide +kernel
theorem dL_dayOfWeek_9 : decode cL_dayOfWeek 9 = .ok (.goto 6, 3) := by decide +kernel
theorem dL_dayOfWeek_12 : decode cL_dayOfWeek 12 = .ok (.astore_n 3, 1) := by decide +kernel
theorem dL_dayOfWeek_13 : decode cL_dayOfWeek 13 = .ok (.iconst 1, 1) := by decide +kernel
theorem dL_dayOfWeek_14 : decode cL_dayOfWeek 14 = .ok (.ireturn, 1) := by decide +kernel
theorem dL_dayOfWeek_15 : decode cL_dayOfWeek 15 = .ok (.iconst 0, 1) := by decide +kernel
theorem dL_dayOfWeek_16 : decode cL_dayOfWeek 16 = .ok (.ireturn, 1) := by decide +kernel
set_option maxRecDepth 20000 in
theorem lm_dayOfWeek (ok : sj_ok G) (hq : lok G q) {x1 : Int32} (hc : sj_C G 10 me_X11_dayOfWeek [.ref (sj_ad G 0), .int x1] σ (Rc, σ1)) (hr : ∀ k, Rc = .error k → 0 < k ∧ (k = 1 ∨ k = 0 ∨ k = 0)) : lj_C G q me_L_dayOfWeek [.ref (sj_ad G 0), .int x1, .ref q.1] σ f g (lr (zcd 1 0 0) Rc) σ1 (lf Rc f) g := by
  refine lj_enter (hh := [(0, 9, 12, 13)]) ok (by decide +kernel) rfl rfl (Nat.le_of_ble_eq_true rfl) (by simp [Value.category]) (fun p e s m args below meth c htab hT hN => ?_)
  refine tj_aload_n dL_dayOfWeek_0 (i := 2) rfl rfl ?_
  refine tj_iconst (v := nI 0) dL_dayOfWeek_1 (by decide +kernel) ?_
  refine tj_aload_n dL_dayOfWeek_2 (i := 0) rfl rfl ?_
  refine tj_iload_n dL_dayOfWeek_3 (i := 1) rfl rfl ?_
  refine lj_call (M' := me_X11_dayOfWeek) (b := 0) (As := [.int x1]) (rest := [.int (nI 0), .ref q.1]) (fun _ _ h => h) (fun _ h => h) (lok_E hq) dL_dayOfWeek_4 gL_dayOfWeek_X11_dayOfWeek rfl hd_X11_dayOfWeek (by decide +kernel) (by decide +kernel) rfl (Nat.le_of_ble_eq_true rfl) ⟨(Nat.le_of_ble_eq_true rfl), (Nat.le_of_ble_eq_true rfl)⟩ rfl ⟨(Nat.le_of_ble_eq_true rfl), (Nat.le_of_ble_eq_true rfl)⟩ hc (fun k9 hk9 H locs ls ce q9 ok C hH hl hce hcv hcl => ?_) (fun v hv => ?_)
  · obtain ⟨h0, hk⟩ := hr k9 hk9
    rcases hk with rfl | rfl | rfl
    · subst hk9
      refine lj_catch ok C hT htab (pre := []) (suf := []) rfl (by decide) (by decide) ⟨by decide, by decide⟩ (fun z hz => nomatch hz) (by decide +kernel) hH hl hce hcv hcl ?_
      refine tj_astore_n dL_dayOfWeek_12 (i := 3) rfl (by decide) ?_
      refine tj_iconst (v := nI 1) dL_dayOfWeek_13 (by decide +kernel) ?_
      refine lj_open (q := q) (fun _ h => Or.inl h) ?_
      exact lj_ret dL_dayOfWeek_14 rfl (Nat.le_refl _) (Nat.le_refl _)
    · exact absurd h0 (by decide)
    · exact absurd h0 (by decide)
  · subst hv
    refine tj_i2l dL_dayOfWeek_7 ?_
    refine lj_open (q := q) (fun _ h => Or.inl h) ?_
    refine lj_last hq hT hN dL_dayOfWeek_8 ?_
    refine tj_goto (tgt := 15) dL_dayOfWeek_9 (by decide) ?_
    refine tj_iconst (v := nI 0) dL_dayOfWeek_15 (by decide +kernel) ?_
    exact lj_ret dL_dayOfWeek_16 rfl (Nat.zero_le _) (Nat.zero_le _)
set_option maxRecDepth 20000 in
theorem ggL_later_X11_later : GoodIn wsL_later wsX11_later := goodIn_ca (goodIn_r _ [6, 7, 8, 9, 10, 5, 11, 12, 13, 14, 15, 16, 17, 18, 19, 20, 21, 22, 23, 24, 25, 26, 27, 28, 29, 30, 31, 32, 33, 34, 35, 36, 37, 38, 39, 40, 41, 42, 43, 44, 45, 46, 47, 48, 49] (by decide +kernel) (by decide +kernel)) (goodIn_sub (fun _ h => List.mem_cons_of_mem _ (List.mem_append_right _ h)) (by decide +kernel))
set_option maxRecDepth 20000 in
theorem gL_later_X11_later : GoodIn wsL_later (wsV RL 130 RX11 yX11_later wsX11_later) := goodIn_app (goodIn_of _ (by decide +kernel)) ggL_later_X11_later
theorem dL_later_0 : decode cL_later 0 = .ok (.aload_n 3, 1) := by decide +kernel
theorem dL_later_1 : decode cL_later 1 = .ok (.iconst 0, 1) := by decide +kernel
theorem dL_later_2 : decode cL_later 2 = .ok (.aload_n 0, 1) := by decide +kernel
theorem dL_later_3 : decode cL_later 3 = .ok (.iload_n 1, 1) := by decide +kernel
theorem dL_later_4 : decode cL_later 4 = .ok (.iload_n 2, 1) := by decide +kernel
theorem dL_later_5 : decode cL_later 5 = .ok (.invokevirtual 130, 3) := by decide +kernel
theorem dL_later_8 : decode cL_later 8 = .ok (.i2l, 1) := by decide +kernel
theorem dL_later_9 : decode cL_later 9 = .ok (.lastore, 1) := by decide +kernel
theorem dL_later_10 : decode cL_later 10 = .ok (.goto 7, 3) := by decide +kernel
theorem dL_later_13 : decode cL_later 13 = .ok (.astore 4, 2) := by decide +kernel
theorem dL_later_15 : decode cL_later 15 = .ok (.iconst 1, 1) := by decide +kernel
theorem dL_later_16 : decode cL_later 16 = .ok (.ireturn, 1) := by decide +kernel
theorem dL_later_17 : decode cL_later 17 = .ok (.iconst 0, 1) := by decide +kernel
theorem dL_later_18 : decode cL_later 18 = .ok (.ireturn, 1) := by decide +kernel
set_option maxRecDepth 20000 in
theorem lm_later (ok : sj_ok G) (hq : lok G q) {x1 x2 : Int32} (hc : sj_C G 10 me_X11_later [.ref (sj_ad G 0), .int x1, .int x2] σ (Rc, σ1)) (hr : ∀ k, Rc = .error k → 0 < k ∧ (k = 1 ∨ k = 0 ∨ k = 0)) : lj_C G q me_L_later [.ref (sj_ad G 0), .int x1, .int x2, .ref q.1] σ f g (lr (zcd 1 0 0) Rc) σ1 (lf Rc f) g := by
  refine lj_enter (hh := [(0, 10, 13, 13)]) ok (by decide +kernel) rfl rfl (Nat.le_of_ble_eq_true rfl) (by simp [Value.category]) (fun p e s m args below meth c htab hT hN => ?_)
  refine tj_aload_n dL_later_0 (i := 3) rfl rfl ?_
  refine tj_iconst (v := nI 0) dL_later_1 (by decide +kernel) ?_
  refine tj_aload_n dL_later_2 (i := 0) rfl rfl ?_
  refine tj_iload_n dL_later_3 (i := 1) rfl rfl ?_
  refine tj_iload_n dL_later_4 (i := 2) rfl rfl ?_
  refine lj_call (M' := me_X11_later) (b := 0) (As := [.int x1, .int x2]) (rest := [.int (nI 0), .ref q.1]) (fun _ _ h => h) (fun _ h => h) (lok_E hq) dL_later_5 gL_later_X11_later rfl hd_X11_later (by decide +kernel) (by decide +kernel) rfl (Nat.le_of_ble_eq_true rfl) ⟨(Nat.le_of_ble_eq_true rfl), (Nat.le_of_ble_eq_true rfl)⟩ rfl ⟨(Nat.le_of_ble_eq_true rfl), (Nat.le_of_ble_eq_true rfl)⟩ hc (fun k9 hk9 H locs ls ce q9 ok C hH hl hce hcv hcl => ?_) (fun v hv => ?_)
  · obtain ⟨h0, hk⟩ := hr k9 hk9
    rcases hk with rfl | rfl | rfl
    · subst hk9
      refine lj_catch ok C hT htab (pre := []) (suf := []) rfl (by decide) (by decide) ⟨by decide, by decide⟩ (fun z hz => nomatch hz) (by decide +kernel) hH hl hce hcv hcl ?_
      refine tj_astore dL_later_13 (by decide) ?_
      refine tj_iconst (v := nI 1) dL_later_15 (by decide +kernel) ?_
      refine lj_open (q := q) (fun _ h => Or.inl h) ?_
      exact lj_ret dL_later_16 rfl (Nat.le_refl _) (Nat.le_refl _)
    · exact absurd h0 (by decide)
    · exact absurd h0 (by decide)
  · subst hv
    refine tj_i2l dL_later_8 ?_
    refine lj_open (q := q) (fun _ h => Or.inl h) ?_
    refine lj_last hq hT hN dL_later_9 ?_
    refine tj_goto (tgt := 17) dL_later_10 (by decide) ?_
    refine tj_iconst (v := nI 0) dL_later_17 (by decide +kernel) ?_
    exact lj_ret dL_later_18 rfl (Nat.zero_le _) (Nat.zero_le _)
set_option maxRecDepth 20000 in
theorem ggL_lostLessons_X11_lostLessons : GoodIn wsL_lostLessons wsX11_lostLessons := goodIn_ca (goodIn_ca (goodIn_r _ [7, 8, 9, 10, 11, 12, 13, 6, 14, 15, 16, 17, 18, 19, 20, 21, 22, 23, 24, 25, 26, 27, 28, 29, 30, 31, 32, 33, 34, 35, 36, 37, 38, 39, 40, 41, 42, 43, 44, 45, 46, 47, 48, 49, 50, 51, 52, 53, 54, 55, 56, 57, 58, 59, 60, 61, 62] (by decide +kernel) (by decide +kernel)) (goodIn_sub (fun _ h => List.mem_cons_of_mem _ (List.mem_append_left _ (List.mem_append_right _ h))) (by decide +kernel))) (goodIn_sub (fun _ h => List.mem_cons_of_mem _ (List.mem_append_right _ h)) (by decide +kernel))
set_option maxRecDepth 20000 in
theorem gL_lostLessons_X11_lostLessons : GoodIn wsL_lostLessons (wsV RL 133 RX11 yX11_lostLessons wsX11_lostLessons) := goodIn_app (goodIn_of _ (by decide +kernel)) ggL_lostLessons_X11_lostLessons
theorem dL_lostLessons_0 : decode cL_lostLessons 0 = .ok (.aload_n 2, 1) := by decide +kernel
theorem dL_lostLessons_1 : decode cL_lostLessons 1 = .ok (.iconst 0, 1) := by decide +kernel
theorem dL_lostLessons_2 : decode cL_lostLessons 2 = .ok (.aload_n 0, 1) := by decide +kernel
theorem dL_lostLessons_3 : decode cL_lostLessons 3 = .ok (.iload_n 1, 1) := by decide +kernel
theorem dL_lostLessons_4 : decode cL_lostLessons 4 = .ok (.invokevirtual 133, 3) := by decide +kernel
theorem dL_lostLessons_7 : decode cL_lostLessons 7 = .ok (.i2l, 1) := by decide +kernel
theorem dL_lostLessons_8 : decode cL_lostLessons 8 = .ok (.lastore, 1) := by decide +kernel
theorem dL_lostLessons_9 : decode cL_lostLessons 9 = .ok (.goto 9, 3) := by decide +kernel
theorem dL_lostLessons_12 : decode cL_lostLessons 12 = .ok (.astore_n 3, 1) := by decide +kernel
theorem dL_lostLessons_13 : decode cL_lostLessons 13 = .ok (.iconst 1, 1) := by decide +kernel
theorem dL_lostLessons_14 : decode cL_lostLessons 14 = .ok (.ireturn, 1) := by decide +kernel
theorem dL_lostLessons_15 : decode cL_lostLessons 15 = .ok (.astore_n 3, 1) := by decide +kernel
theorem dL_lostLessons_16 : decode cL_lostLessons 16 = .ok (.iconst 2, 1) := by decide +kernel
theorem dL_lostLessons_17 : decode cL_lostLessons 17 = .ok (.ireturn, 1) := by decide +kernel
theorem dL_lostLessons_18 : decode cL_lostLessons 18 = .ok (.iconst 0, 1) := by decide +kernel
theorem dL_lostLessons_19 : decode cL_lostLessons 19 = .ok (.ireturn, 1) := by decide +kernel
set_option maxRecDepth 20000 in
theorem lm_lostLessons (ok : sj_ok G) (hq : lok G q) {x1 : Int32} (hc : sj_C G 11 me_X11_lostLessons [.ref (sj_ad G 0), .int x1] σ (Rc, σ1)) (hr : ∀ k, Rc = .error k → 0 < k ∧ (k = 1 ∨ k = 2 ∨ k = 0)) : lj_C G q me_L_lostLessons [.ref (sj_ad G 0), .int x1, .ref q.1] σ f g (lr (zcd 1 2 0) Rc) σ1 (lf Rc f) g := by
  refine lj_enter (hh := [(0, 9, 12, 13), (0, 9, 15, 15)]) ok (by decide +kernel) rfl rfl (Nat.le_of_ble_eq_true rfl) (by simp [Value.category]) (fun p e s m args below meth c htab hT hN => ?_)
  refine tj_aload_n dL_lostLessons_0 (i := 2) rfl rfl ?_
  refine tj_iconst (v := nI 0) dL_lostLessons_1 (by decide +kernel) ?_
  refine tj_aload_n dL_lostLessons_2 (i := 0) rfl rfl ?_
  refine tj_iload_n dL_lostLessons_3 (i := 1) rfl rfl ?_
  refine lj_call (M' := me_X11_lostLessons) (b := 0) (As := [.int x1]) (rest := [.int (nI 0), .ref q.1]) (fun _ _ h => h) (fun _ h => h) (lok_E hq) dL_lostLessons_4 gL_lostLessons_X11_lostLessons rfl hd_X11_lostLessons (by decide +kernel) (by decide +kernel) rfl (Nat.le_of_ble_eq_true rfl) ⟨(Nat.le_of_ble_eq_true rfl), (Nat.le_of_ble_eq_true rfl)⟩ rfl ⟨(Nat.le_of_ble_eq_true rfl), (Nat.le_of_ble_eq_true rfl)⟩ hc (fun k9 hk9 H locs ls ce q9 ok C hH hl hce hcv hcl => ?_) (fun v hv => ?_)
  · obtain ⟨h0, hk⟩ := hr k9 hk9
    rcases hk with rfl | rfl | rfl
    · subst hk9
      refine lj_catch ok C hT htab (pre := []) (suf := [(0, 9, 15, 15)]) rfl (by decide) (by decide) ⟨by decide, by decide⟩ (fun z hz => nomatch hz) (by decide +kernel) hH hl hce hcv hcl ?_
      refine tj_astore_n dL_lostLessons_12 (i := 3) rfl (by decide) ?_
      refine tj_iconst (v := nI 1) dL_lostLessons_13 (by decide +kernel) ?_
      refine lj_open (q := q) (fun _ h => Or.inl h) ?_
      exact lj_ret dL_lostLessons_14 rfl (Nat.le_refl _) (Nat.le_refl _)
    · subst hk9
      refine lj_catch ok C hT htab (pre := [(0, 9, 12, 13)]) (suf := []) rfl (by decide) (by decide) ⟨by decide, by decide⟩ (fun z hz => by
        simp only [List.mem_cons, List.not_mem_nil, or_false] at hz
        subst hz
        exact ⟨1, ⟨by decide, by decide, by decide, by decide⟩, by decide +kernel⟩) (by decide +kernel) hH hl hce hcv hcl ?_
      refine tj_astore_n dL_lostLessons_15 (i := 3) rfl (by decide) ?_
      refine tj_iconst (v := nI 2) dL_lostLessons_16 (by decide +kernel) ?_
      refine lj_open (q := q) (fun _ h => Or.inl h) ?_
      exact lj_ret dL_lostLessons_17 rfl (Nat.le_refl _) (Nat.le_refl _)
    · exact absurd h0 (by decide)
  · subst hv
    refine tj_i2l dL_lostLessons_7 ?_
    refine lj_open (q := q) (fun _ h => Or.inl h) ?_
    refine lj_last hq hT hN dL_lostLessons_8 ?_
    refine tj_goto (tgt := 18) dL_lostLessons_9 (by decide) ?_
    refine tj_iconst (v := nI 0) dL_lostLessons_18 (by decide +kernel) ?_
    exact lj_ret dL_lostLessons_19 rfl (Nat.zero_le _) (Nat.zero_le _)
set_option maxRecDepth 20000 in
theorem ggL_append_X11_append : GoodIn wsL_append wsX11_append := goodIn_ca (goodIn_r _ [6, 7, 8, 9, 10, 11, 12, 13, 14, 15, 16, 17, 18, 19, 20, 21, 22, 23, 24, 25, 26, 27, 28, 29, 30, 31, 32, 33, 34, 35, 36, 37, 38, 39, 40] (by decide +kernel) (by decide +kernel)) (goodIn_sub (fun _ h => List.mem_cons_of_mem _ (List.mem_append_right _ h)) (by decide +kernel))
set_option maxRecDepth 20000 in
theorem gL_append_X11_append : GoodIn wsL_append (wsV RL 136 RX11 yX11_append wsX11_append) := goodIn_app (goodIn_of _ (by decide +kernel)) ggL_append_X11_append
theorem dL_append_0 : decode cL_append 0 = .ok (.aload 6, 2) := by decide +kernel
theorem dL_append_2 : decode cL_append 2 = .ok (.iconst 0, 1) := by decide +kernel
theorem dL_append_3 : decode cL_append 3 = .ok (.aload_n 0, 1) := by decide +kernel
theorem dL_append_4 : decode cL_append 4 = .ok (.iload_n 1, 1) := by decide +kernel
theorem dL_append_5 : decode cL_append 5 = .ok (.iload_n 2, 1) := by decide +kernel
theorem dL_append_6 : decode cL_append 6 = .ok (.iload_n 3, 1) := by decide +kernel
theorem dL_append_7 : decode cL_append 7 = .ok (.iload 4, 2) := by decide +kernel
theorem dL_append_9 : decode cL_append 9 = .ok (.iload 5, 2) := by decide +kernel
theorem dL_append_11 : decode cL_append 11 = .ok (.invokevirtual 136, 3) := by decide +kernel
theorem dL_append_14 : decode cL_append 14 = .ok (.i2l, 1) := by decide +kernel
theorem dL_append_15 : decode cL_append 15 = .ok (.lastore, 1) := by decide +kernel
theorem dL_append_16 : decode cL_append 16 = .ok (.goto 7, 3) := by decide +kernel
theorem dL_append_19 : decode cL_append 19 = .ok (.astore 7, 2) := by decide +kernel
theorem dL_append_21 : decode cL_append 21 = .ok (.iconst 1, 1) := by decide +kernel
theorem dL_append_22 : decode cL_append 22 = .ok (.ireturn, 1) := by decide +kernel
theorem dL_append_23 : decode cL_append 23 = .ok (.iconst 0, 1) := by decide +kernel
theorem dL_append_24 : decode cL_append 24 = .ok (.ireturn, 1) := by decide +kernel
set_option maxRecDepth 20000 in
theorem lm_append (ok : sj_ok G) (hq : lok G q) {x1 x2 x3 x4 x5 : Int32} (hc : sj_C G 9 me_X11_append [.ref (sj_ad G 0), .int x1, .int x2, .int x3, .int x4, .int x5] σ (Rc, σ1)) (hr : ∀ k, Rc = .error k → 0 < k ∧ (k = 2 ∨ k = 0 ∨ k = 0)) : lj_C G q me_L_append [.ref (sj_ad G 0), .int x1, .int x2, .int x3, .int x4, .int x5, .ref q.1] σ f g (lr (zcd 2 0 0) Rc) σ1 (lf Rc f) g := by
  refine lj_enter (hh := [(0, 16, 19, 15)]) ok (by decide +kernel) rfl rfl (Nat.le_of_ble_eq_true rfl) (by simp [Value.category]) (fun p e s m args below meth c htab hT hN => ?_)
  refine tj_aload dL_append_0 rfl ?_
  refine tj_iconst (v := nI 0) dL_append_2 (by decide +kernel) ?_
  refine tj_aload_n dL_append_3 (i := 0) rfl rfl ?_
  refine tj_iload_n dL_append_4 (i := 1) rfl rfl ?_
  refine tj_iload_n dL_append_5 (i := 2) rfl rfl ?_
  refine tj_iload_n dL_append_6 (i := 3) rfl rfl ?_
  refine tj_iload dL_append_7 rfl ?_
  refine tj_iload dL_append_9 rfl ?_
  refine lj_call (M' := me_X11_append) (b := 0) (As := [.int x1, .int x2, .int x3, .int x4, .int x5]) (rest := [.int (nI 0), .ref q.1]) (fun _ _ h => h) (fun _ h => h) (lok_E hq) dL_append_11 gL_append_X11_append rfl hd_X11_append (by decide +kernel) (by decide +kernel) rfl (Nat.le_of_ble_eq_true rfl) ⟨(Nat.le_of_ble_eq_true rfl), (Nat.le_of_ble_eq_true rfl)⟩ rfl ⟨(Nat.le_of_ble_eq_true rfl), (Nat.le_of_ble_eq_true rfl)⟩ hc (fun k9 hk9 H locs ls ce q9 ok C hH hl hce hcv hcl => ?_) (fun v hv => ?_)
  · obtain ⟨h0, hk⟩ := hr k9 hk9
    rcases hk with rfl | rfl | rfl
    · subst hk9
      refine lj_catch ok C hT htab (pre := []) (suf := []) rfl (by decide) (by decide) ⟨by decide, by decide⟩ (fun z hz => nomatch hz) (by decide +kernel) hH hl hce hcv hcl ?_
      refine tj_astore dL_append_19 (by decide) ?_
      refine tj_iconst (v := nI 1) dL_append_21 (by decide +kernel) ?_
      refine lj_open (q := q) (fun _ h => Or.inl h) ?_
      exact lj_ret dL_append_22 rfl (Nat.le_refl _) (Nat.le_refl _)
    · exact absurd h0 (by decide)
    · exact absurd h0 (by decide)
  · subst hv
    refine tj_i2l dL_append_14 ?_
    refine lj_open (q := q) (fun _ h => Or.inl h) ?_
    refine lj_last hq hT hN dL_append_15 ?_
    refine tj_goto (tgt := 23) dL_append_16 (by decide) ?_
    refine tj_iconst (v := nI 0) dL_append_23 (by decide +kernel) ?_
    exact lj_ret dL_append_24 rfl (Nat.zero_le _) (Nat.zero_le _)
set_option maxRecDepth 20000 in
theorem ggL_read_X11_read : GoodIn wsL_read wsX11_read := goodIn_ca (goodIn_ca (goodIn_r _ [7, 8, 9, 10, 11, 12, 13, 14, 15, 16, 17, 18, 19, 20, 21, 22, 23, 24, 25, 26, 27, 28, 29, 30, 31, 32, 33, 34, 35, 36, 37, 38, 39, 40, 41, 42, 43, 44, 45, 46, 47, 48, 49, 50, 51, 52, 53, 54, 55, 56, 57, 58, 59, 60, 61, 62, 63, 64, 65, 66, 67, 68, 69, 70, 71, 72, 73, 74, 75, 76, 77, 78, 79, 80, 81, 82, 83, 84, 85, 86, 87, 88, 89, 90, 91, 92, 93, 94, 95, 96, 97, 98, 99, 100, 101, 102, 103, 104, 105, 106, 107, 108, 109, 110, 111, 112, 113, 114, 115, 116, 117, 118, 119, 120, 121, 122, 123, 124, 125, 126, 127, 128, 129, 130, 131, 132, 133, 134, 135, 136, 137, 138, 139, 140, 141, 142, 143, 144, 145, 146, 147, 148, 149, 150, 151, 152, 153, 154, 155, 156, 157, 158, 159, 160, 161, 162, 163, 164, 165, 166, 167, 168, 6, 169, 170, 171, 172, 173, 174, 175, 176, 177, 178, 179, 180, 181, 182, 183, 184, 185, 186, 187, 188, 189, 190, 191, 192, 193, 194, 195, 196, 197, 198, 199, 200, 201, 202, 203, 204, 205, 206, 207, 208, 209, 210, 211, 212, 213, 214, 215, 216, 217, 218, 219, 220, 221, 222, 223, 224, 225, 226, 227, 228, 229, 230, 231, 232, 233, 234, 235, 236, 237, 238, 239, 240, 241, 242, 243, 244, 245, 246, 247, 248, 249, 250, 251, 252, 253, 254, 255, 256, 257, 258, 259, 260, 261, 262, 263, 264, 265, 266, 267, 268, 269, 270, 271, 272, 273, 274, 275, 276, 277, 278, 279, 280, 281, 282, 283, 284] (by decide +kernel) (by decide +kernel)) (goodIn_sub (fun _ h => List.mem_cons_of_mem _ (List.mem_append_left _ (List.mem_append_right _ h))) (by decide +kernel))) (goodIn_sub (fun _ h => List.mem_cons_of_mem _ (List.mem_append_right _ h)) (by decide +kernel))
set_option maxRecDepth 20000 in
theorem gL_read_X11_read : GoodIn wsL_read (wsV RL 140 RX11 yX11_read wsX11_read) := goodIn_app (goodIn_of _ (by decide +kernel)) ggL_read_X11_read
theorem dL_read_0 : decode cL_read 0 = .ok (.aload_n 1, 1) := by decide +kernel
theorem dL_read_1 : decode cL_read 1 = .ok (.iconst 0, 1) := by decide +kernel
theorem dL_read_2 : decode cL_read 2 = .ok (.aload_n 0, 1) := by decide +kernel
theorem dL_read_3 : decode cL_read 3 = .ok (.invokevirtual 140, 3) := by decide +kernel
theorem dL_read_6 : decode cL_read 6 = .ok (.i2l, 1) := by decide +kernel
theorem dL_read_7 : decode cL_read 7 = .ok (.lastore, 1) := by decide +kernel
theorem dL_read_8 : decode cL_read 8 = .ok (.goto 9, 3) := by decide +kernel
theorem dL_read_11 : decode cL_read 11 = .ok (.astore_n 2, 1) := by decide +kernel
theorem dL_read_12 : decode cL_read 12 = .ok (.iconst 1, 1) := by decide +kernel
theorem dL_read_13 : decode cL_read 13 = .ok (.ireturn, 1) := by decide +kernel
theorem dL_read_14 : decode cL_read 14 = .ok (.astore_n 2, 1) := by decide +kernel
theorem dL_read_15 : decode cL_read 15 = .ok (.iconst 2, 1) := by decide +kernel
theorem dL_read_16 : decode cL_read 16 = .ok (.ireturn, 1) := by decide +kernel
theorem dL_read_17 : decode cL_read 17 = .ok (.iconst 0, 1) := by decide +kernel
theorem dL_read_18 : decode cL_read 18 = .ok (.ireturn, 1) := by decide +kernel
set_option maxRecDepth 20000 in
theorem lm_read (ok : sj_ok G) (hq : lok G q) (hc : sj_C G 11 me_X11_read [.ref (sj_ad G 0)] σ (Rc, σ1)) (hr : ∀ k, Rc = .error k → 0 < k ∧ (k = 1 ∨ k = 2 ∨ k = 0)) : lj_C G q me_L_read [.ref (sj_ad G 0), .ref q.1] σ f g (lr (zcd 1 2 0) Rc) σ1 (lf Rc f) g := by
  refine lj_enter (hh := [(0, 8, 11, 13), (0, 8, 14, 15)]) ok (by decide +kernel) rfl rfl (Nat.le_of_ble_eq_true rfl) (by simp [Value.category]) (fun p e s m args below meth c htab hT hN => ?_)
  refine tj_aload_n dL_read_0 (i := 1) rfl rfl ?_
  refine tj_iconst (v := nI 0) dL_read_1 (by decide +kernel) ?_
  refine tj_aload_n dL_read_2 (i := 0) rfl rfl ?_
  refine lj_call (M' := me_X11_read) (b := 0) (As := []) (rest := [.int (nI 0), .ref q.1]) (fun _ _ h => h) (fun _ h => h) (lok_E hq) dL_read_3 gL_read_X11_read rfl hd_X11_read (by decide +kernel) (by decide +kernel) rfl (Nat.le_of_ble_eq_true rfl) ⟨(Nat.le_of_ble_eq_true rfl), (Nat.le_of_ble_eq_true rfl)⟩ rfl ⟨(Nat.le_of_ble_eq_true rfl), (Nat.le_of_ble_eq_true rfl)⟩ hc (fun k9 hk9 H locs ls ce q9 ok C hH hl hce hcv hcl => ?_) (fun v hv => ?_)
  · obtain ⟨h0, hk⟩ := hr k9 hk9
    rcases hk with rfl | rfl | rfl
    · subst hk9
      refine lj_catch ok C hT htab (pre := []) (suf := [(0, 8, 14, 15)]) rfl (by decide) (by decide) ⟨by decide, by decide⟩ (fun z hz => nomatch hz) (by decide +kernel) hH hl hce hcv hcl ?_
      refine tj_astore_n dL_read_11 (i := 2) rfl (by decide) ?_
      refine tj_iconst (v := nI 1) dL_read_12 (by decide +kernel) ?_
      refine lj_open (q := q) (fun _ h => Or.inl h) ?_
      exact lj_ret dL_read_13 rfl (Nat.le_refl _) (Nat.le_refl _)
    · subst hk9
      refine lj_catch ok C hT htab (pre := [(0, 8, 11, 13)]) (suf := []) rfl (by decide) (by decide) ⟨by decide, by decide⟩ (fun z hz => by
        simp only [List.mem_cons, List.not_mem_nil, or_false] at hz
        subst hz
        exact ⟨1, ⟨by decide, by decide, by decide, by decide⟩, by decide +kernel⟩) (by decide +kernel) hH hl hce hcv hcl ?_
      refine tj_astore_n dL_read_14 (i := 2) rfl (by decide) ?_
      refine tj_iconst (v := nI 2) dL_read_15 (by decide +kernel) ?_
      refine lj_open (q := q) (fun _ h => Or.inl h) ?_
      exact lj_ret dL_read_16 rfl (Nat.le_refl _) (Nat.le_refl _)
    · exact absurd h0 (by decide)
  · subst hv
    refine tj_i2l dL_read_6 ?_
    refine lj_open (q := q) (fun _ h => Or.inl h) ?_
    refine lj_last hq hT hN dL_read_7 ?_
    refine tj_goto (tgt := 17) dL_read_8 (by decide) ?_
    refine tj_iconst (v := nI 0) dL_read_17 (by decide +kernel) ?_
    exact lj_ret dL_read_18 rfl (Nat.zero_le _) (Nat.zero_le _)
set_option maxRecDepth 20000 in
theorem ggL_write_X11_write : GoodIn wsL_write wsX11_write := goodIn_ca (goodIn_r _ [6, 7, 8, 9, 10, 11, 5, 12, 13, 14, 15, 16, 17, 18, 19, 20, 21, 22, 23, 24, 25, 26, 27, 28, 29, 30, 31, 32, 33, 34, 35, 36, 37, 38, 39, 40, 41, 42, 43, 44, 45, 46, 47, 48, 49, 50, 51, 52, 53, 54, 55, 56, 57, 58, 59, 60, 61, 62, 63, 64, 65, 66, 67, 68, 69, 70, 71, 72, 73, 74, 75, 76, 77, 78, 79, 80, 81, 82, 83, 84, 85, 86, 87, 88, 89, 90, 91, 92, 93, 94, 95, 96, 97, 98] (by decide +kernel) (by decide +kernel)) (goodIn_sub (fun _ h => List.mem_cons_of_mem _ (List.mem_append_right _ h)) (by decide +kernel))
set_option maxRecDepth 20000 in
theorem gL_write_X11_write : GoodIn wsL_write (wsV RL 143 RX11 yX11_write wsX11_write) := goodIn_app (goodIn_of _ (by decide +kernel)) ggL_write_X11_write
theorem dL_write_0 : decode cL_write 0 = .ok (.aload_n 1, 1) := by decide +kernel
theorem dL_write_1 : decode cL_write 1 = .ok (.iconst 0, 1) := by decide +kernel
theorem dL_write_2 : decode cL_write 2 = .ok (.aload_n 0, 1) := by decide +kernel
theorem dL_write_3 : decode cL_write 3 = .ok (.invokevirtual 143, 3) := by decide +kernel
theorem dL_write_6 : decode cL_write 6 = .ok (.i2l, 1) := by decide +kernel
theorem dL_write_7 : decode cL_write 7 = .ok (.lastore, 1) := by decide +kernel
theorem dL_write_8 : decode cL_write 8 = .ok (.goto 6, 3) := by decide +kernel
theorem dL_write_11 : decode cL_write 11 = .ok (.astore_n 2, 1) := by decide +kernel
theorem dL_write_12 : decode cL_write 12 = .ok (.iconst 1, 1) := by decide +kernel
theorem dL_write_13 : decode cL_write 13 = .ok (.ireturn, 1) := by decide +kernel
theorem dL_write_14 : decode cL_write 14 = .ok (.iconst 0, 1) := by decide +kernel
theorem dL_write_15 : decode cL_write 15 = .ok (.ireturn, 1) := by decide +kernel
set_option maxRecDepth 20000 in
theorem lm_write (ok : sj_ok G) (hq : lok G q) (hc : sj_C G 10 me_X11_write [.ref (sj_ad G 0)] σ (Rc, σ1)) (hr : ∀ k, Rc = .error k → 0 < k ∧ (k = 2 ∨ k = 0 ∨ k = 0)) : lj_C G q me_L_write [.ref (sj_ad G 0), .ref q.1] σ f g (lr (zcd 2 0 0) Rc) σ1 (lf Rc f) g := by
  refine lj_enter (hh := [(0, 8, 11, 15)]) ok (by decide +kernel) rfl rfl (Nat.le_of_ble_eq_true rfl) (by simp [Value.category]) (fun p e s m args below meth c htab hT hN => ?_)
  refine tj_aload_n dL_write_0 (i := 1) rfl rfl ?_
  refine tj_iconst (v := nI 0) dL_write_1 (by decide +kernel) ?_
  refine tj_aload_n dL_write_2 (i := 0) rfl rfl ?_
  refine lj_call (M' := me_X11_write) (b := 0) (As := []) (rest := [.int (nI 0), .ref q.1]) (fun _ _ h => h) (fun _ h => h) (lok_E hq) dL_write_3 gL_write_X11_write rfl hd_X11_write (by decide +kernel) (by decide +kernel) rfl (Nat.le_of_ble_eq_true rfl) ⟨(Nat.le_of_ble_eq_true rfl), (Nat.le_of_ble_eq_true rfl)⟩ rfl ⟨(Nat.le_of_ble_eq_true rfl), (Nat.le_of_ble_eq_true rfl)⟩ hc (fun k9 hk9 H locs ls ce q9 ok C hH hl hce hcv hcl => ?_) (fun v hv => ?_)
  · obtain ⟨h0, hk⟩ := hr k9 hk9
    rcases hk with rfl | rfl | rfl
    · subst hk9
      refine lj_catch ok C hT htab (pre := []) (suf := []) rfl (by decide) (by decide) ⟨by decide, by decide⟩ (fun z hz => nomatch hz) (by decide +kernel) hH hl hce hcv hcl ?_
      refine tj_astore_n dL_write_11 (i := 2) rfl (by decide) ?_
      refine tj_iconst (v := nI 1) dL_write_12 (by decide +kernel) ?_
      refine lj_open (q := q) (fun _ h => Or.inl h) ?_
      exact lj_ret dL_write_13 rfl (Nat.le_refl _) (Nat.le_refl _)
    · exact absurd h0 (by decide)
    · exact absurd h0 (by decide)
  · subst hv
    refine tj_i2l dL_write_6 ?_
    refine lj_open (q := q) (fun _ h => Or.inl h) ?_
    refine lj_last hq hT hN dL_write_7 ?_
    refine tj_goto (tgt := 14) dL_write_8 (by decide) ?_
    refine tj_iconst (v := nI 0) dL_write_14 (by decide +kernel) ?_
    exact lj_ret dL_write_15 rfl (Nat.zero_le _) (Nat.zero_le _)
set_option maxRecDepth 20000 in
theorem ggL_writtenAt_X11_writtenAt : GoodIn wsL_writtenAt wsX11_writtenAt := goodIn_ca (goodIn_r _ [6, 7, 8, 9, 10, 11, 12, 13, 14, 15, 16, 17, 18, 19, 20, 21, 22, 23, 24, 25, 26, 27, 28, 29, 30] (by decide +kernel) (by decide +kernel)) (goodIn_sub (fun _ h => List.mem_cons_of_mem _ (List.mem_append_right _ h)) (by decide +kernel))
set_option maxRecDepth 20000 in
theorem gL_writtenAt_X11_writtenAt : GoodIn wsL_writtenAt (wsV RL 146 RX11 yX11_writtenAt wsX11_writtenAt) := goodIn_app (goodIn_of _ (by decide +kernel)) ggL_writtenAt_X11_writtenAt
theorem dL_writtenAt_0 : decode cL_writtenAt 0 = .ok (.aload_n 2, 1) := by decide +kernel
theorem dL_writtenAt_1 : decode cL_writtenAt 1 = .ok (.iconst 0, 1) := by decide +kernel
theorem dL_writtenAt_2 : decode cL_writtenAt 2 = .ok (.aload_n 0, 1) := by decide +kernel
theorem dL_writtenAt_3 : decode cL_writtenAt 3 = .ok (.iload_n 1, 1) := by decide +kernel
theorem dL_writtenAt_4 : decode cL_writtenAt 4 = .ok (.invokevirtual 146, 3) := by decide +kernel
theorem dL_writtenAt_7 : decode cL_writtenAt 7 = .ok (.i2l, 1) := by decide +kernel
theorem dL_writtenAt_8 : decode cL_writtenAt 8 = .ok (.lastore, 1) := by decide +kernel
theorem dL_writtenAt_9 : decode cL_writtenAt 9 = .ok (.goto 6, 3) := by decide +kernel
theorem dL_writtenAt_12 : decode cL_writtenAt 12 = .ok (.astore_n 3, 1) := by decide +kernel
theorem dL_writtenAt_13 : decode cL_writtenAt 13 = .ok (.iconst 1, 1) := by decide +kernel
theorem dL_writtenAt_14 : decode cL_writtenAt 14 = .ok (.ireturn, 1) := by decide +kernel
theorem dL_writtenAt_15 : decode cL_writtenAt 15 = .ok (.iconst 0, 1) := by decide +kernel
theorem dL_writtenAt_16 : decode cL_writtenAt 16 = .ok (.ireturn, 1) := by decide +kernel
set_option maxRecDepth 20000 in
theorem lm_writtenAt (ok : sj_ok G) (hq : lok G q) {x1 : Int32} (hc : sj_C G 9 me_X11_writtenAt [.ref (sj_ad G 0), .int x1] σ (Rc, σ1)) (hr : ∀ k, Rc = .error k → 0 < k ∧ (k = 3 ∨ k = 0 ∨ k = 0)) : lj_C G q me_L_writtenAt [.ref (sj_ad G 0), .int x1, .ref q.1] σ f g (lr (zcd 3 0 0) Rc) σ1 (lf Rc f) g := by
  refine lj_enter (hh := [(0, 9, 12, 21)]) ok (by decide +kernel) rfl rfl (Nat.le_of_ble_eq_true rfl) (by simp [Value.category]) (fun p e s m args below meth c htab hT hN => ?_)
  refine tj_aload_n dL_writtenAt_0 (i := 2) rfl rfl ?_
  refine tj_iconst (v := nI 0) dL_writtenAt_1 (by decide +kernel) ?_
  refine tj_aload_n dL_writtenAt_2 (i := 0) rfl rfl ?_
  refine tj_iload_n dL_writtenAt_3 (i := 1) rfl rfl ?_
  refine lj_call (M' := me_X11_writtenAt) (b := 0) (As := [.int x1]) (rest := [.int (nI 0), .ref q.1]) (fun _ _ h => h) (fun _ h => h) (lok_E hq) dL_writtenAt_4 gL_writtenAt_X11_writtenAt rfl hd_X11_writtenAt (by decide +kernel) (by decide +kernel) rfl (Nat.le_of_ble_eq_true rfl) ⟨(Nat.le_of_ble_eq_true rfl), (Nat.le_of_ble_eq_true rfl)⟩ rfl ⟨(Nat.le_of_ble_eq_true rfl), (Nat.le_of_ble_eq_true rfl)⟩ hc (fun k9 hk9 H locs ls ce q9 ok C hH hl hce hcv hcl => ?_) (fun v hv => ?_)
  · obtain ⟨h0, hk⟩ := hr k9 hk9
    rcases hk with rfl | rfl | rfl
    · subst hk9
      refine lj_catch ok C hT htab (pre := []) (suf := []) rfl (by decide) (by decide) ⟨by decide, by decide⟩ (fun z hz => nomatch hz) (by decide +kernel) hH hl hce hcv hcl ?_
      refine tj_astore_n dL_writtenAt_12 (i := 3) rfl (by decide) ?_
      refine tj_iconst (v := nI 1) dL_writtenAt_13 (by decide +kernel) ?_
      refine lj_open (q := q) (fun _ h => Or.inl h) ?_
      exact lj_ret dL_writtenAt_14 rfl (Nat.le_refl _) (Nat.le_refl _)
    · exact absurd h0 (by decide)
    · exact absurd h0 (by decide)
  · subst hv
    refine tj_i2l dL_writtenAt_7 ?_
    refine lj_open (q := q) (fun _ h => Or.inl h) ?_
    refine lj_last hq hT hN dL_writtenAt_8 ?_
    refine tj_goto (tgt := 15) dL_writtenAt_9 (by decide) ?_
    refine tj_iconst (v := nI 0) dL_writtenAt_15 (by decide +kernel) ?_
    exact lj_ret dL_writtenAt_16 rfl (Nat.zero_le _) (Nat.zero_le _)
end LW
