theorem goodIn_c1 {big a : List Cond} {c : Cond} (hc : GoodIn big [c]) (ha : GoodIn big a) : GoodIn big (c :: a) := fun w h => (List.mem_cons.mp h).elim (fun e => hc w (List.mem_singleton.mpr e)) (ha w)
theorem dL_tries_72 : decode cL_tries 72 = .ok (.goto (-24), 3) := by decide +kernel
theorem dL_tries_75 : decode cL_tries 75 = .ok (.aload_n 0, 1) := by decide +kernel
theorem dL_tries_76 : decode cL_tries 76 = .ok (.invokevirtual 117, 3) := by decide +kernel
theorem dL_tries_79 : decode cL_tries 79 = .ok (.ifCond .eq 5, 3) := by decide +kernel
theorem dL_tries_82 : decode cL_tries 82 = .ok (.iconst 1, 1) := by decide +kernel
theorem dL_tries_83 : decode cL_tries 83 = .ok (.ireturn, 1) := by decide +kernel
theorem dL_tries_84 : decode cL_tries 84 = .ok (.iinc 2 1, 3) := by decide +kernel
theorem dL_tries_87 : decode cL_tries 87 = .ok (.goto (-54), 3) := by decide +kernel
theorem dL_tries_90 : decode cL_tries 90 = .ok (.iconst 0, 1) := by decide +kernel
theorem dL_tries_91 : decode cL_tries 91 = .ok (.ireturn, 1) := by decide +kernel
set_option maxRecDepth 20000 in
theorem lwq_L_isFound_X11_find_r1 : GoodIn wsL_isFound wsX11_find_r1 := goodIn_2 lwk_L_isFound_in _ [(1, 8), (1, 9), (1, 10), (1, 11), (1, 12), (1, 13), (1, 14), (1, 15), (1, 16), (1, 17), (1, 18), (1, 19), (1, 20), (1, 21), (1, 22), (1, 23), (2, 0), (2, 1), (2, 2), (2, 3), (2, 4), (2, 5), (2, 6), (2, 7)] (by decide +kernel) (by decide +kernel)
set_option maxRecDepth 20000 in
theorem lwq_L_isFound_X11_find_r2 : GoodIn wsL_isFound wsX11_find_r2 := goodIn_2 lwk_L_isFound_in _ [(2, 8), (2, 9), (2, 10), (2, 11), (2, 12), (2, 13), (2, 14), (2, 15), (2, 16), (2, 17), (2, 18), (2, 19), (2, 20), (2, 21), (2, 22), (2, 23), (3, 0), (3, 1), (3, 2), (3, 3), (3, 4), (3, 5), (3, 6), (3, 7)] (by decide +kernel) (by decide +kernel)
set_option maxRecDepth 20000 in
theorem lwq_L_isFound_X11_find_r3 : GoodIn wsL_isFound wsX11_find_r3 := goodIn_2 lwk_L_isFound_in _ [(3, 8), (3, 9), (3, 10), (3, 11), (3, 12), (3, 13), (3, 14), (3, 15), (3, 16), (3, 17), (3, 18), (3, 19), (3, 20), (3, 21), (3, 22), (3, 23), (4, 0), (4, 1), (4, 2), (4, 3), (4, 4), (4, 5), (4, 6), (4, 7)] (by decide +kernel) (by decide +kernel)
set_option maxRecDepth 20000 in
theorem lwq_L_isFound_X11_find_r4 : GoodIn wsL_isFound wsX11_find_r4 := goodIn_2 lwk_L_isFound_in _ [(4, 8), (4, 9), (4, 10), (4, 11), (4, 12), (4, 13), (4, 14), (4, 15), (4, 16), (4, 17), (4, 18), (4, 19), (4, 20), (4, 21), (4, 22), (4, 23), (5, 0), (5, 1), (5, 2), (5, 3), (5, 4), (5, 5), (5, 6), (5, 7)] (by decide +kernel) (by decide +kernel)
set_option maxRecDepth 20000 in
theorem lwq_L_isFound_X11_find_r5 : GoodIn wsL_isFound wsX11_find_r5 := goodIn_2 lwk_L_isFound_in _ [(5, 8), (5, 9), (5, 10), (5, 11), (5, 12), (5, 13), (5, 14), (5, 15), (5, 16), (5, 17), (5, 18), (5, 19), (5, 20), (5, 21), (5, 22), (5, 23), (6, 0), (6, 1), (6, 2), (6, 3), (6, 4), (6, 5), (6, 6), (6, 7)] (by decide +kernel) (by decide +kernel)
set_option maxRecDepth 20000 in
theorem lwq_L_isFound_X11_find_r6 : GoodIn wsL_isFound wsX11_find_r6 := goodIn_2 lwk_L_isFound_in _ [(6, 8), (6, 9), (6, 10), (6, 11), (6, 12), (6, 13), (6, 14), (6, 15), (6, 16), (6, 17), (6, 18), (6, 19), (6, 20), (6, 21), (6, 22), (6, 23), (7, 0), (7, 1), (7, 2), (7, 3), (7, 4), (7, 5), (7, 6), (7, 7)] (by decide +kernel) (by decide +kernel)
set_option maxRecDepth 20000 in
theorem lwq_L_isFound_X11_find_r7 : GoodIn wsL_isFound wsX11_find_r7 := goodIn_2 lwk_L_isFound_in _ [(7, 8), (7, 9), (7, 10), (7, 11), (7, 12), (1, 6), (7, 13), (7, 14), (7, 15), (7, 16), (7, 17), (7, 18), (7, 19), (7, 20), (7, 21), (7, 22), (7, 23), (8, 0), (8, 1), (8, 2), (8, 3), (8, 4), (8, 5), (8, 6)] (by decide +kernel) (by decide +kernel)
set_option maxRecDepth 20000 in
theorem lwq_L_isFound_X11_find_r8 : GoodIn wsL_isFound wsX11_find_r8 := goodIn_2 lwk_L_isFound_in _ [(8, 7), (8, 8), (8, 9), (8, 10), (8, 11), (8, 12), (8, 13), (8, 14), (8, 15)] (by decide +kernel) (by decide +kernel)
set_option maxRecDepth 20000 in
theorem ggL_isFound_X11_find : GoodIn wsL_isFound wsX11_find := goodIn_c1 (goodIn_2 lwk_L_isFound_in _ [(1, 7)] (by decide +kernel) (by decide +kernel)) (goodIn_app (goodIn_app (goodIn_app (goodIn_app (goodIn_app (goodIn_app lwq_L_isFound_X11_find_r1 (goodIn_app lwq_L_isFound_X11_find_r2 (goodIn_app lwq_L_isFound_X11_find_r3 (goodIn_app lwq_L_isFound_X11_find_r4 (goodIn_app lwq_L_isFound_X11_find_r5 (goodIn_app lwq_L_isFound_X11_find_r6 (goodIn_app lwq_L_isFound_X11_find_r7 lwq_L_isFound_X11_find_r8))))))) (goodIn_sub (lwk_L_isFound_in _ (List.mem_of_getElem? (i := 34) rfl)) (by decide +kernel))) (goodIn_sub (lwk_L_isFound_in _ (List.mem_of_getElem? (i := 35) rfl)) (by decide +kernel))) (goodIn_sub (lwk_L_isFound_in _ (List.mem_of_getElem? (i := 36) rfl)) (by decide +kernel))) (goodIn_sub (lwk_L_isFound_in _ (List.mem_of_getElem? (i := 37) rfl)) (by decide +kernel))) (goodIn_sub (lwk_L_isFound_in _ (List.mem_of_getElem? (i := 38) rfl)) (by decide +kernel)))
set_option maxRecDepth 20000 in
theorem gL_isFound_X11_find : GoodIn wsL_isFound (wsV RL 120 RX11 yX11_find wsX11_find) := goodIn_app (goodIn_of _ (by decide +kernel)) ggL_isFound_X11_find
set_option maxRecDepth 20000 in
theorem ggL_isFound_L_tries : GoodIn wsL_isFound wsL_tries := goodIn_2 lwk_L_isFound_in _ [(8, 20), (1, 1), (1, 2), (8, 21), (8, 22), (8, 23), (8, 19), (9, 0), (9, 1), (9, 2), (9, 3), (9, 4), (9, 5), (9, 6), (9, 7), (9, 8), (9, 9), (9, 10), (9, 11), (9, 12), (9, 13), (9, 14), (9, 15), (9, 16), (9, 17), (9, 18), (9, 19), (9, 20), (9, 21), (9, 22), (9, 23), (33, 0), (33, 1), (33, 2), (33, 3), (33, 4), (33, 5), (33, 6), (33, 7), (33, 8), (33, 9), (33, 10), (33, 11), (33, 12), (33, 13), (33, 14), (33, 15), (33, 16)] (by decide +kernel) (by decide +kernel)
set_option maxRecDepth 20000 in
theorem gL_isFound_L_tries : GoodIn wsL_isFound (wsV RL 123 RL yL_tries wsL_tries) := goodIn_app (goodIn_of _ (by decide +kernel)) ggL_isFound_L_tries
set_option maxRecDepth 20000 in
theorem ggL_isFound_X11_checksum : GoodIn wsL_isFound wsX11_checksum := goodIn_2 lwk_L_isFound_in _ [(10, 3), (1, 9), (10, 4), (10, 5), (10, 6), (10, 7), (1, 23), (10, 8), (2, 5), (10, 9), (2, 17), (2, 18), (2, 19), (34, 0), (34, 1), (34, 2), (34, 3), (34, 4), (34, 5), (34, 6), (34, 7), (34, 8), (34, 9), (34, 10), (37, 0), (37, 1)] (by decide +kernel) (by decide +kernel)
set_option maxRecDepth 20000 in
theorem gL_isFound_X11_checksum : GoodIn wsL_isFound (wsV RL 126 RX11 yX11_checksum wsX11_checksum) := goodIn_app (goodIn_of _ (by decide +kernel)) ggL_isFound_X11_checksum
set_option maxRecDepth 20000 in
theorem lwq_L_isFound_L_isProved_r1 : GoodIn wsL_isFound wsL_isProved_r1 := goodIn_2 lwk_L_isFound_in _ [(1, 0), (10, 14), (10, 15), (1, 6), (9, 2), (9, 23), (9, 21), (9, 22), (10, 16), (10, 17), (10, 18), (10, 19), (1, 8), (10, 20), (10, 21), (10, 22), (10, 23), (11, 0), (11, 1), (11, 2), (11, 3), (11, 4), (1, 23), (1, 9)] (by decide +kernel) (by decide +kernel)
set_option maxRecDepth 20000 in
theorem lwq_L_isFound_L_isProved_r2 : GoodIn wsL_isFound wsL_isProved_r2 := goodIn_2 lwk_L_isFound_in _ [(11, 5), (11, 6), (7, 18), (7, 14), (11, 7), (11, 8), (2, 13), (11, 9), (11, 10), (11, 11), (1, 14), (11, 12), (11, 13), (11, 14), (11, 15), (11, 16), (11, 17), (11, 18), (11, 19), (11, 20), (11, 21), (11, 22), (11, 23), (12, 0)] (by decide +kernel) (by decide +kernel)
set_option maxRecDepth 20000 in
theorem lwq_L_isFound_L_isProved_r3 : GoodIn wsL_isFound wsL_isProved_r3 := goodIn_2 lwk_L_isFound_in _ [(12, 1), (12, 2), (12, 3), (12, 4), (12, 5), (12, 6), (12, 7), (12, 8), (12, 9), (12, 10), (12, 11), (12, 12), (12, 13), (12, 14), (12, 15), (12, 16), (12, 17), (12, 18), (12, 19), (12, 20), (2, 5), (8, 14), (12, 21), (12, 22)] (by decide +kernel) (by decide +kernel)
set_option maxRecDepth 20000 in
theorem lwq_L_isFound_L_isProved_r4 : GoodIn wsL_isFound wsL_isProved_r4 := goodIn_2 lwk_L_isFound_in _ [(12, 23), (7, 21), (13, 0), (13, 1), (13, 2), (3, 3), (3, 1), (3, 2), (3, 6), (3, 7), (3, 8), (3, 9), (3, 10), (3, 11), (3, 0), (13, 3), (13, 4), (13, 5), (13, 6), (13, 7), (1, 16), (1, 19), (7, 8), (7, 7)] (by decide +kernel) (by decide +kernel)
set_option maxRecDepth 20000 in
theorem lwq_L_isFound_L_isProved_r5 : GoodIn wsL_isFound wsL_isProved_r5 := goodIn_2 lwk_L_isFound_in _ [(6, 3), (4, 16), (4, 15), (13, 8), (13, 9), (13, 10), (13, 11), (13, 12), (13, 13), (13, 14), (13, 15), (13, 16), (13, 17), (13, 18), (13, 19), (13, 20), (13, 21), (13, 22), (13, 23), (14, 0), (14, 1), (14, 2), (14, 3), (14, 4)] (by decide +kernel) (by decide +kernel)
set_option maxRecDepth 20000 in
theorem lwq_L_isFound_L_isProved_r6 : GoodIn wsL_isFound wsL_isProved_r6 := goodIn_2 lwk_L_isFound_in _ [(14, 5), (14, 6), (14, 7), (14, 8), (14, 9), (14, 10), (14, 11), (14, 12), (14, 13), (14, 14), (14, 15), (14, 16), (14, 17), (14, 18), (14, 19), (14, 20), (14, 21), (14, 22), (14, 23), (15, 0), (15, 1), (8, 19), (15, 2), (9, 12)] (by decide +kernel) (by decide +kernel)
set_option maxRecDepth 20000 in
theorem lwq_L_isFound_L_isProved_r7 : GoodIn wsL_isFound wsL_isProved_r7 := goodIn_2 lwk_L_isFound_in _ [(1, 1), (9, 8), (9, 9), (9, 10), (9, 11), (9, 7), (15, 3), (15, 4), (15, 5), (15, 6), (15, 7), (15, 8), (15, 9), (15, 10), (15, 11), (15, 12), (15, 13), (15, 14), (15, 15), (15, 16), (7, 10), (7, 11), (7, 12), (7, 13)] (by decide +kernel) (by decide +kernel)
set_option maxRecDepth 20000 in
theorem lwq_L_isFound_L_isProved_r8 : GoodIn wsL_isFound wsL_isProved_r8 := goodIn_2 lwk_L_isFound_in _ [(7, 15), (7, 16), (7, 17), (7, 19), (7, 20), (7, 22), (7, 23), (4, 18), (4, 19), (4, 20), (8, 0), (8, 1), (8, 2), (8, 3), (8, 4), (8, 5), (8, 6), (8, 7), (8, 8), (8, 9), (15, 17), (15, 18), (15, 19), (15, 20)] (by decide +kernel) (by decide +kernel)
set_option maxRecDepth 20000 in
theorem lwq_L_isFound_L_isProved_r9 : GoodIn wsL_isFound wsL_isProved_r9 := goodIn_2 lwk_L_isFound_in _ [(15, 21), (15, 22), (15, 23), (16, 0), (16, 1), (16, 2), (16, 3), (16, 4), (16, 5), (16, 6), (16, 7), (16, 8), (16, 9), (16, 10), (10, 9), (2, 17), (2, 18), (2, 19), (16, 11), (16, 12), (16, 13), (16, 14), (16, 15), (16, 16)] (by decide +kernel) (by decide +kernel)
set_option maxRecDepth 20000 in
theorem lwq_L_isFound_L_isProved_r10 : GoodIn wsL_isFound wsL_isProved_r10 := goodIn_2 lwk_L_isFound_in _ [(16, 17), (16, 18), (16, 19), (16, 20), (16, 21), (16, 22), (16, 23), (17, 0), (17, 1), (17, 2), (17, 3), (17, 4), (17, 5), (17, 6), (17, 7), (17, 8), (17, 9), (17, 10), (2, 2), (2, 3), (2, 4), (17, 11), (17, 12), (17, 13)] (by decide +kernel) (by decide +kernel)
set_option maxRecDepth 20000 in
theorem lwq_L_isFound_L_isProved_r11 : GoodIn wsL_isFound wsL_isProved_r11 := goodIn_2 lwk_L_isFound_in _ [(17, 14), (1, 3), (1, 4), (1, 5), (1, 7), (1, 10), (1, 11), (1, 12), (1, 13), (1, 15), (1, 17), (1, 18), (1, 20), (1, 21), (1, 22), (2, 0), (2, 1), (2, 6), (2, 7), (2, 8), (2, 9), (2, 10), (2, 11), (2, 12)] (by decide +kernel) (by decide +kernel)
set_option maxRecDepth 20000 in
theorem lwq_L_isFound_L_isProved_r12 : GoodIn wsL_isFound wsL_isProved_r12 := goodIn_2 lwk_L_isFound_in _ [(2, 14), (2, 15), (2, 16), (2, 20), (2, 21), (2, 22), (2, 23), (3, 4), (3, 5), (3, 12), (3, 13), (3, 14), (3, 15), (3, 16), (3, 17), (3, 18), (3, 19), (3, 20), (3, 21), (3, 22), (3, 23), (4, 0), (4, 1), (4, 2)] (by decide +kernel) (by decide +kernel)
set_option maxRecDepth 20000 in
theorem lwq_L_isFound_L_isProved_r13 : GoodIn wsL_isFound wsL_isProved_r13 := goodIn_2 lwk_L_isFound_in _ [(4, 3), (4, 4), (4, 5), (4, 6), (4, 7), (4, 8), (4, 9), (4, 10), (4, 11), (4, 12), (4, 13), (4, 14), (4, 17), (4, 21), (4, 22), (4, 23), (5, 0), (5, 1), (5, 2), (5, 3), (5, 4), (5, 5), (5, 6), (5, 7)] (by decide +kernel) (by decide +kernel)
set_option maxRecDepth 20000 in
theorem lwq_L_isFound_L_isProved_r14 : GoodIn wsL_isFound wsL_isProved_r14 := goodIn_2 lwk_L_isFound_in _ [(5, 8), (5, 9), (5, 10), (5, 11), (5, 12), (5, 13), (5, 14), (5, 15), (5, 16), (5, 17), (5, 18), (5, 19), (5, 20), (5, 21), (5, 22), (5, 23), (6, 0), (6, 1), (6, 2), (6, 4), (6, 5), (6, 6), (6, 7), (6, 8)] (by decide +kernel) (by decide +kernel)
set_option maxRecDepth 20000 in
theorem lwq_L_isFound_L_isProved_r15 : GoodIn wsL_isFound wsL_isProved_r15 := goodIn_2 lwk_L_isFound_in _ [(6, 9), (6, 10), (6, 11), (6, 12), (6, 13), (6, 14), (6, 15), (6, 16), (6, 17), (6, 18), (6, 19), (6, 20), (6, 21), (6, 22), (6, 23), (7, 0), (7, 1), (7, 2), (7, 3), (7, 4), (7, 5), (7, 6), (7, 9), (8, 10)] (by decide +kernel) (by decide +kernel)
set_option maxRecDepth 20000 in
theorem lwq_L_isFound_L_isProved_r16 : GoodIn wsL_isFound wsL_isProved_r16 := goodIn_2 lwk_L_isFound_in _ [(8, 11), (8, 12), (8, 13), (8, 15)] (by decide +kernel) (by decide +kernel)
set_option maxRecDepth 20000 in
theorem ggL_isFound_L_isProved : GoodIn wsL_isFound wsL_isProved := goodIn_ca (goodIn_ca (goodIn_ca (goodIn_c1 (goodIn_2 lwk_L_isFound_in _ [(10, 13)] (by decide +kernel) (by decide +kernel)) (goodIn_app (goodIn_app (goodIn_app (goodIn_app (goodIn_app (goodIn_app (goodIn_app (goodIn_app (goodIn_app (goodIn_app (goodIn_app (goodIn_app (goodIn_app (goodIn_app lwq_L_isFound_L_isProved_r1 (goodIn_app lwq_L_isFound_L_isProved_r2 (goodIn_app lwq_L_isFound_L_isProved_r3 (goodIn_app lwq_L_isFound_L_isProved_r4 (goodIn_app lwq_L_isFound_L_isProved_r5 (goodIn_app lwq_L_isFound_L_isProved_r6 (goodIn_app lwq_L_isFound_L_isProved_r7 (goodIn_app lwq_L_isFound_L_isProved_r8 (goodIn_app lwq_L_isFound_L_isProved_r9 (goodIn_app lwq_L_isFound_L_isProved_r10 (goodIn_app lwq_L_isFound_L_isProved_r11 (goodIn_app lwq_L_isFound_L_isProved_r12 (goodIn_app lwq_L_isFound_L_isProved_r13 (goodIn_app lwq_L_isFound_L_isProved_r14 (goodIn_app lwq_L_isFound_L_isProved_r15 lwq_L_isFound_L_isProved_r16))))))))))))))) (goodIn_sub (lwk_L_isFound_in _ (List.mem_of_getElem? (i := 33) rfl)) (by decide +kernel))) (goodIn_sub (lwk_L_isFound_in _ (List.mem_of_getElem? (i := 34) rfl)) (by decide +kernel))) (goodIn_sub (lwk_L_isFound_in _ (List.mem_of_getElem? (i := 35) rfl)) (by decide +kernel))) (goodIn_sub (lwk_L_isFound_in _ (List.mem_of_getElem? (i := 37) rfl)) (by decide +kernel))) (goodIn_sub (lwk_L_isFound_in _ (List.mem_of_getElem? (i := 38) rfl)) (by decide +kernel))) (goodIn_sub (lwk_L_isFound_in _ (List.mem_of_getElem? (i := 36) rfl)) (by decide +kernel))) (goodIn_sub (lwk_L_isFound_in _ (List.mem_of_getElem? (i := 39) rfl)) (by decide +kernel))) (goodIn_sub (lwk_L_isFound_in _ (List.mem_of_getElem? (i := 40) rfl)) (by decide +kernel))) (goodIn_sub (lwk_L_isFound_in _ (List.mem_of_getElem? (i := 41) rfl)) (by decide +kernel))) (goodIn_sub (lwk_L_isFound_in _ (List.mem_of_getElem? (i := 42) rfl)) (by decide +kernel))) (goodIn_sub (lwk_L_isFound_in _ (List.mem_of_getElem? (i := 43) rfl)) (by decide +kernel))) (goodIn_sub (lwk_L_isFound_in _ (List.mem_of_getElem? (i := 44) rfl)) (by decide +kernel))) (goodIn_sub (lwk_L_isFound_in _ (List.mem_of_getElem? (i := 45) rfl)) (by decide +kernel)))) (goodIn_sub (fun _ h => List.mem_cons_of_mem _ (List.mem_append_left _ (List.mem_append_left _ (List.mem_append_right _ h)))) (by decide +kernel))) (goodIn_sub (fun _ h => List.mem_cons_of_mem _ (List.mem_append_left _ (List.mem_append_right _ h))) (by decide +kernel))) (goodIn_sub (fun _ h => List.mem_cons_of_mem _ (List.mem_append_right _ h)) (by decide +kernel))
set_option maxRecDepth 20000 in
theorem gL_isFound_L_isProved : GoodIn wsL_isFound (wsV RL 129 RL yL_isProved wsL_isProved) := goodIn_app (goodIn_of _ (by decide +kernel)) ggL_isFound_L_isProved
set_option maxRecDepth 20000 in
theorem ggL_isFound_X11_slotOf : GoodIn wsL_isFound wsX11_slotOf := goodIn_ca (goodIn_ca (goodIn_2 lwk_L_isFound_in _ [(17, 18), (1, 9), (10, 4), (17, 6), (17, 7), (17, 8), (1, 6), (17, 9), (16, 23), (17, 0), (10, 9), (2, 17), (2, 18), (1, 23), (2, 19), (2, 5), (17, 19), (17, 20), (17, 21), (17, 22), (16, 5), (16, 6), (10, 5), (10, 6), (10, 7), (10, 8), (34, 0), (34, 1), (34, 2), (34, 3), (34, 4), (34, 5), (34, 6), (34, 7), (34, 8), (34, 9), (34, 10), (37, 0), (37, 1)] (by decide +kernel) (by decide +kernel)) (goodIn_sub (fun _ h => List.mem_cons_of_mem _ (List.mem_append_right _ h)) (by decide +kernel))) (goodIn_sub (fun _ h => List.mem_cons_of_mem _ (List.mem_append_left _ (List.mem_append_right _ h))) (by decide +kernel))
set_option maxRecDepth 20000 in
theorem gL_isFound_X11_slotOf : GoodIn wsL_isFound (wsV RL 114 RX11 yX11_slotOf wsX11_slotOf) := goodIn_app (goodIn_of _ (by decide +kernel)) ggL_isFound_X11_slotOf
set_option maxRecDepth 20000 in
theorem ggL_isFound_L_looks : GoodIn wsL_isFound wsL_looks := goodIn_ca (goodIn_ca (goodIn_2 lwk_L_isFound_in _ [(18, 2), (1, 1), (1, 2), (1, 0), (17, 15), (17, 16), (17, 17), (1, 6), (17, 18), (1, 9), (10, 4), (17, 6), (17, 7), (17, 8), (17, 9), (16, 23), (17, 0), (10, 9), (2, 17), (2, 18), (1, 23), (2, 19), (2, 5), (17, 19), (17, 20), (17, 21), (17, 22), (16, 5), (16, 6), (10, 5), (10, 6), (10, 7), (10, 8), (33, 0), (33, 1), (33, 2), (33, 3), (33, 4), (33, 5), (33, 6), (33, 7), (33, 8), (33, 9), (33, 10), (33, 11), (33, 12), (33, 13), (33, 14), (33, 15), (33, 16), (34, 0), (34, 1), (34, 2), (34, 3), (34, 4), (34, 5), (34, 6), (34, 7), (34, 8), (34, 9), (34, 10), (37, 0), (37, 1)] (by decide +kernel) (by decide +kernel)) (goodIn_sub (fun _ h => List.mem_cons_of_mem _ (List.mem_append_right _ h)) (by decide +kernel))) (goodIn_sub (fun _ h => List.mem_cons_of_mem _ (List.mem_append_left _ (List.mem_append_right _ h))) (by decide +kernel))
set_option maxRecDepth 20000 in
theorem gL_isFound_L_looks : GoodIn wsL_isFound (wsV RL 132 RL yL_looks wsL_looks) := goodIn_app (goodIn_of _ (by decide +kernel)) ggL_isFound_L_looks
set_option maxRecDepth 20000 in
theorem ggL_isFound_L_isGood : GoodIn wsL_isFound wsL_isGood := goodIn_2 lwk_L_isFound_in _ [(9, 0), (9, 1), (9, 2), (9, 3), (9, 4), (9, 5), (8, 19), (9, 6), (1, 1), (1, 2), (9, 7), (9, 8), (9, 9), (9, 10), (9, 11), (9, 12), (9, 13), (9, 14), (9, 15), (9, 16), (9, 17), (9, 18), (9, 19), (9, 20), (9, 21), (9, 22), (9, 23), (33, 0), (33, 1), (33, 2), (33, 3), (33, 4), (33, 5), (33, 6), (33, 7), (33, 8), (33, 9), (33, 10), (33, 11), (33, 12), (33, 13), (33, 14), (33, 15), (33, 16)] (by decide +kernel) (by decide +kernel)
set_option maxRecDepth 20000 in
theorem gL_isFound_L_isGood : GoodIn wsL_isFound (wsV RL 117 RL yL_isGood wsL_isGood) := goodIn_app (goodIn_of _ (by decide +kernel)) ggL_isFound_L_isGood
set_option maxRecDepth 20000 in
theorem ggL_isFound_X11_proof : GoodIn wsL_isFound wsX11_proof := goodIn_2 lwk_L_isFound_in _ [(10, 19), (1, 8), (10, 20), (34, 0), (34, 1), (34, 2), (34, 3), (34, 4), (34, 5), (34, 6), (34, 7), (34, 8), (34, 9), (34, 10), (35, 0), (35, 1), (35, 2), (35, 3), (35, 4), (35, 5), (35, 6), (35, 7)] (by decide +kernel) (by decide +kernel)
set_option maxRecDepth 20000 in
theorem gL_isFound_X11_proof : GoodIn wsL_isFound (wsV RL 135 RX11 yX11_proof wsX11_proof) := goodIn_app (goodIn_of _ (by decide +kernel)) ggL_isFound_X11_proof
set_option maxRecDepth 20000 in
theorem ggL_isFound_X11_cost : GoodIn wsL_isFound wsX11_cost := goodIn_ca (goodIn_2 lwk_L_isFound_in _ [(18, 6), (11, 15), (1, 9), (10, 4), (17, 19), (17, 20), (17, 21), (1, 6), (17, 22), (16, 5), (16, 6), (10, 5), (10, 6), (10, 7), (1, 23), (10, 8), (2, 5), (18, 7), (18, 8), (18, 9), (11, 14), (18, 10), (18, 11), (18, 12), (18, 13), (18, 14), (18, 15), (2, 17), (2, 18), (2, 19), (18, 16), (4, 7), (4, 8), (4, 9), (18, 17), (18, 18), (18, 19), (18, 20), (18, 21), (18, 22), (18, 23), (19, 0), (19, 1), (19, 2), (19, 3), (19, 4), (19, 5), (19, 6), (19, 7), (6, 12), (6, 13), (6, 14), (6, 15), (6, 16), (6, 17), (19, 8), (2, 2), (2, 3), (2, 4), (19, 9), (2, 7), (2, 8), (2, 9), (19, 10), (19, 11), (19, 12), (19, 13), (2, 6), (19, 14), (34, 0), (34, 1), (34, 2), (34, 3), (34, 4), (34, 5), (34, 6), (34, 7), (34, 8), (34, 9), (34, 10), (37, 0), (37, 1)] (by decide +kernel) (by decide +kernel)) (goodIn_sub (fun _ h => List.mem_cons_of_mem _ (List.mem_append_left _ (List.mem_append_right _ h))) (by decide +kernel))
set_option maxRecDepth 20000 in
theorem gL_isFound_X11_cost : GoodIn wsL_isFound (wsV RL 138 RX11 yX11_cost wsX11_cost) := goodIn_app (goodIn_of _ (by decide +kernel)) ggL_isFound_X11_cost
set_option maxRecDepth 20000 in
theorem ggL_isFound_L_cost : GoodIn wsL_isFound wsL_cost := goodIn_2 lwk_L_isFound_in _ [(19, 18), (9, 1), (9, 2), (19, 19), (19, 20), (19, 21), (8, 19), (19, 22), (1, 1), (9, 9), (9, 8), (19, 23), (8, 3), (8, 4), (8, 5), (9, 13), (9, 14), (9, 15), (9, 16), (1, 2), (9, 7), (9, 17), (9, 18), (9, 19), (9, 20), (9, 21), (9, 22), (9, 23), (33, 0), (33, 1), (33, 2), (33, 3), (33, 4), (33, 5), (33, 6), (33, 7), (33, 8), (33, 9), (33, 10), (33, 11), (33, 12), (33, 13), (33, 14), (33, 15), (33, 16)] (by decide +kernel) (by decide +kernel)
set_option maxRecDepth 20000 in
theorem gL_isFound_L_cost : GoodIn wsL_isFound (wsV RL 141 RL yL_cost wsL_cost) := goodIn_app (goodIn_of _ (by decide +kernel)) ggL_isFound_L_cost
set_option maxRecDepth 20000 in
theorem lwq_L_isFound_L_areRooms_r1 : GoodIn wsL_isFound wsL_areRooms_r1 := goodIn_2 lwk_L_isFound_in _ [(1, 1), (1, 0), (9, 11), (9, 12), (1, 2), (9, 7), (20, 4), (20, 5), (20, 6), (1, 6), (20, 7), (11, 9), (1, 9), (10, 4), (17, 6), (17, 7), (17, 8), (17, 9), (16, 23), (17, 0), (10, 9), (2, 17), (2, 18), (1, 23)] (by decide +kernel) (by decide +kernel)
set_option maxRecDepth 20000 in
theorem lwq_L_isFound_L_areRooms_r2 : GoodIn wsL_isFound wsL_areRooms_r2 := goodIn_2 lwk_L_isFound_in _ [(2, 19), (2, 5), (17, 19), (17, 20), (17, 21), (17, 22), (16, 5), (16, 6), (10, 5), (10, 6), (10, 7), (10, 8), (20, 8), (2, 11), (2, 12), (2, 13), (2, 14), (2, 15), (2, 16), (2, 20), (2, 21), (2, 22), (2, 23), (3, 0)] (by decide +kernel) (by decide +kernel)
set_option maxRecDepth 20000 in
theorem lwq_L_isFound_L_areRooms_r3 : GoodIn wsL_isFound wsL_areRooms_r3 := goodIn_2 lwk_L_isFound_in _ [(3, 1), (3, 2), (3, 3), (3, 4), (3, 5), (3, 6), (3, 7), (3, 8), (3, 9), (3, 10), (3, 11), (3, 12), (3, 13), (3, 14), (3, 15), (3, 16), (3, 17), (3, 18), (3, 19), (3, 20), (3, 21), (3, 22), (3, 23), (4, 0)] (by decide +kernel) (by decide +kernel)
set_option maxRecDepth 20000 in
theorem lwq_L_isFound_L_areRooms_r4 : GoodIn wsL_isFound wsL_areRooms_r4 := goodIn_2 lwk_L_isFound_in _ [(2, 2), (2, 3), (2, 4), (4, 1), (2, 7), (2, 8), (2, 9), (4, 2), (4, 3), (4, 4), (4, 5), (4, 6), (4, 7), (4, 8), (4, 9), (20, 9), (20, 10), (20, 11), (20, 12), (13, 3), (20, 13), (20, 14), (20, 15), (20, 16)] (by decide +kernel) (by decide +kernel)
set_option maxRecDepth 20000 in
theorem ggL_isFound_L_areRooms : GoodIn wsL_isFound wsL_areRooms := goodIn_ca (goodIn_ca (goodIn_c1 (goodIn_2 lwk_L_isFound_in _ [(20, 3)] (by decide +kernel) (by decide +kernel)) (goodIn_app (goodIn_app (goodIn_app (goodIn_app (goodIn_app lwq_L_isFound_L_areRooms_r1 (goodIn_app lwq_L_isFound_L_areRooms_r2 (goodIn_app lwq_L_isFound_L_areRooms_r3 lwq_L_isFound_L_areRooms_r4))) (goodIn_sub (lwk_L_isFound_in _ (List.mem_of_getElem? (i := 33) rfl)) (by decide +kernel))) (goodIn_sub (lwk_L_isFound_in _ (List.mem_of_getElem? (i := 34) rfl)) (by decide +kernel))) (goodIn_sub (lwk_L_isFound_in _ (List.mem_of_getElem? (i := 37) rfl)) (by decide +kernel))) (goodIn_sub (lwk_L_isFound_in _ (List.mem_of_getElem? (i := 36) rfl)) (by decide +kernel)))) (goodIn_sub (fun _ h => List.mem_cons_of_mem _ (List.mem_append_right _ h)) (by decide +kernel))) (goodIn_sub (fun _ h => List.mem_cons_of_mem _ (List.mem_append_left _ (List.mem_append_right _ h))) (by decide +kernel))
set_option maxRecDepth 20000 in
theorem gL_isFound_L_areRooms : GoodIn wsL_isFound (wsV RL 142 RL yL_areRooms wsL_areRooms) := goodIn_app (goodIn_of _ (by decide +kernel)) ggL_isFound_L_areRooms
set_option maxRecDepth 20000 in
theorem lwq_L_isFound_L_areChoices_r1 : GoodIn wsL_isFound wsL_areChoices_r1 := goodIn_2 lwk_L_isFound_in _ [(1, 1), (1, 2), (9, 1), (1, 0), (9, 8), (20, 21), (20, 22), (20, 23), (8, 19), (21, 0), (21, 1), (21, 2), (8, 21), (8, 22), (8, 23), (9, 0), (9, 2), (9, 3), (9, 4), (9, 5), (9, 6), (9, 7), (9, 9), (9, 10)] (by decide +kernel) (by decide +kernel)
set_option maxRecDepth 20000 in
theorem lwq_L_isFound_L_areChoices_r2 : GoodIn wsL_isFound wsL_areChoices_r2 := goodIn_2 lwk_L_isFound_in _ [(9, 11), (9, 12), (9, 13), (9, 14), (9, 15), (9, 16), (9, 17), (9, 18), (9, 19), (9, 20), (9, 21), (9, 22), (9, 23), (21, 3), (21, 4), (21, 5), (1, 6), (21, 6), (1, 9), (10, 4), (21, 7), (21, 8), (21, 9), (21, 10)] (by decide +kernel) (by decide +kernel)
set_option maxRecDepth 20000 in
theorem lwq_L_isFound_L_areChoices_r3 : GoodIn wsL_isFound wsL_areChoices_r3 := goodIn_2 lwk_L_isFound_in _ [(16, 23), (17, 0), (17, 10), (2, 2), (2, 3), (1, 23), (2, 4), (2, 5), (17, 19), (17, 20), (17, 21), (17, 22), (16, 5), (16, 6), (10, 5), (10, 6), (10, 7), (10, 8), (21, 11), (19, 11), (19, 12), (19, 13), (2, 6), (2, 7)] (by decide +kernel) (by decide +kernel)
set_option maxRecDepth 20000 in
theorem lwq_L_isFound_L_areChoices_r4 : GoodIn wsL_isFound wsL_areChoices_r4 := goodIn_2 lwk_L_isFound_in _ [(2, 8), (2, 9), (19, 14), (18, 12), (18, 13), (18, 14), (18, 15), (2, 17), (2, 18), (2, 19), (18, 16), (4, 7), (4, 8), (4, 9), (18, 17), (18, 18), (18, 19), (18, 20), (21, 12), (21, 13), (21, 14), (21, 15), (11, 15), (21, 16)] (by decide +kernel) (by decide +kernel)
set_option maxRecDepth 20000 in
theorem lwq_L_isFound_L_areChoices_r5 : GoodIn wsL_isFound wsL_areChoices_r5 := goodIn_2 lwk_L_isFound_in _ [(21, 17), (21, 18), (21, 19), (15, 7), (15, 8), (15, 9), (15, 10), (15, 11), (15, 12), (15, 13), (15, 14), (15, 15), (15, 16), (21, 20), (21, 21), (18, 22), (18, 23), (11, 14), (19, 0), (19, 1), (19, 2), (19, 3), (19, 4), (19, 5)] (by decide +kernel) (by decide +kernel)
set_option maxRecDepth 20000 in
theorem lwq_L_isFound_L_areChoices_r6 : GoodIn wsL_isFound wsL_areChoices_r6 := goodIn_2 lwk_L_isFound_in _ [(19, 6), (19, 7), (6, 12), (6, 13), (6, 14), (6, 15), (6, 16), (6, 17), (19, 19), (19, 20), (19, 21), (19, 22), (19, 23), (8, 3), (8, 4), (8, 5), (21, 22), (21, 23), (22, 0), (22, 1), (10, 9), (22, 2), (22, 3), (22, 4)] (by decide +kernel) (by decide +kernel)
set_option maxRecDepth 20000 in
theorem lwq_L_isFound_L_areChoices_r7 : GoodIn wsL_isFound wsL_areChoices_r7 := goodIn_2 lwk_L_isFound_in _ [(22, 5), (22, 6), (22, 7), (11, 9), (17, 6), (17, 7), (17, 8), (17, 9), (22, 8), (1, 21), (1, 22), (2, 0), (2, 1), (20, 8), (2, 11), (2, 12), (2, 13), (2, 14), (2, 15), (2, 16), (2, 20), (2, 21), (2, 22), (2, 23)] (by decide +kernel) (by decide +kernel)
set_option maxRecDepth 20000 in
theorem lwq_L_isFound_L_areChoices_r8 : GoodIn wsL_isFound wsL_areChoices_r8 := goodIn_2 lwk_L_isFound_in _ [(3, 0), (3, 1), (3, 2), (3, 3), (3, 4), (3, 5), (3, 6), (3, 7), (3, 8), (3, 9), (3, 10), (3, 11), (3, 12), (3, 13), (3, 14), (3, 15), (3, 16), (3, 17), (3, 18), (3, 19), (3, 20), (3, 21), (3, 22), (3, 23)] (by decide +kernel) (by decide +kernel)
set_option maxRecDepth 20000 in
theorem lwq_L_isFound_L_areChoices_r9 : GoodIn wsL_isFound wsL_areChoices_r9 := goodIn_2 lwk_L_isFound_in _ [(4, 0), (4, 1), (4, 2), (4, 3), (4, 4), (4, 5), (4, 6), (22, 9), (6, 8), (6, 9), (6, 10), (22, 10)] (by decide +kernel) (by decide +kernel)
set_option maxRecDepth 20000 in
theorem ggL_isFound_L_areChoices : GoodIn wsL_isFound wsL_areChoices := goodIn_ca (goodIn_ca (goodIn_ca (goodIn_c1 (goodIn_2 lwk_L_isFound_in _ [(20, 20)] (by decide +kernel) (by decide +kernel)) (goodIn_app (goodIn_app (goodIn_app (goodIn_app (goodIn_app lwq_L_isFound_L_areChoices_r1 (goodIn_app lwq_L_isFound_L_areChoices_r2 (goodIn_app lwq_L_isFound_L_areChoices_r3 (goodIn_app lwq_L_isFound_L_areChoices_r4 (goodIn_app lwq_L_isFound_L_areChoices_r5 (goodIn_app lwq_L_isFound_L_areChoices_r6 (goodIn_app lwq_L_isFound_L_areChoices_r7 (goodIn_app lwq_L_isFound_L_areChoices_r8 lwq_L_isFound_L_areChoices_r9)))))))) (goodIn_sub (lwk_L_isFound_in _ (List.mem_of_getElem? (i := 33) rfl)) (by decide +kernel))) (goodIn_sub (lwk_L_isFound_in _ (List.mem_of_getElem? (i := 34) rfl)) (by decide +kernel))) (goodIn_sub (lwk_L_isFound_in _ (List.mem_of_getElem? (i := 37) rfl)) (by decide +kernel))) (goodIn_sub (lwk_L_isFound_in _ (List.mem_of_getElem? (i := 36) rfl)) (by decide +kernel)))) (goodIn_sub (fun _ h => List.mem_cons_of_mem _ (List.mem_append_right _ h)) (by decide +kernel))) (goodIn_sub (fun _ h => List.mem_cons_of_mem _ (List.mem_append_left _ (List.mem_append_right _ h))) (by decide +kernel))) (goodIn_sub (fun _ h => List.mem_cons_of_mem _ (List.mem_append_left _ (List.mem_append_left _ (List.mem_append_right _ h)))) (by decide +kernel))
set_option maxRecDepth 20000 in
theorem gL_isFound_L_areChoices : GoodIn wsL_isFound (wsV RL 145 RL yL_areChoices wsL_areChoices) := goodIn_app (goodIn_of _ (by decide +kernel)) ggL_isFound_L_areChoices
set_option maxRecDepth 20000 in
theorem lwq_L_isFound_L_isImproved_r1 : GoodIn wsL_isFound wsL_isImproved_r1 := goodIn_2 lwk_L_isFound_in _ [(1, 1), (1, 2), (19, 23), (8, 3), (8, 4), (8, 5), (1, 0), (19, 15), (19, 16), (19, 17), (8, 19), (19, 18), (9, 1), (9, 2), (19, 19), (19, 20), (19, 21), (19, 22), (9, 9), (9, 8), (9, 13), (9, 14), (9, 15), (9, 16)] (by decide +kernel) (by decide +kernel)
set_option maxRecDepth 20000 in
theorem lwq_L_isFound_L_isImproved_r2 : GoodIn wsL_isFound wsL_isImproved_r2 := goodIn_2 lwk_L_isFound_in _ [(9, 7), (9, 17), (9, 18), (9, 19), (9, 20), (9, 21), (9, 22), (9, 23), (8, 21), (8, 22), (8, 23), (9, 0), (9, 3), (9, 4), (9, 5), (9, 6), (9, 10), (9, 11), (9, 12), (10, 0), (10, 1), (10, 2), (1, 6), (10, 3)] (by decide +kernel) (by decide +kernel)
set_option maxRecDepth 20000 in
theorem lwq_L_isFound_L_isImproved_r3 : GoodIn wsL_isFound wsL_isImproved_r3 := goodIn_2 lwk_L_isFound_in _ [(1, 9), (10, 4), (10, 5), (10, 6), (10, 7), (1, 23), (10, 8), (2, 5), (10, 9), (2, 17), (2, 18), (2, 19), (22, 15), (22, 16), (22, 17), (22, 18), (11, 9), (11, 15), (22, 19), (17, 19), (17, 20), (17, 21), (17, 22), (16, 5)] (by decide +kernel) (by decide +kernel)
set_option maxRecDepth 20000 in
theorem lwq_L_isFound_L_isImproved_r4 : GoodIn wsL_isFound wsL_isImproved_r4 := goodIn_2 lwk_L_isFound_in _ [(16, 6), (22, 8), (1, 21), (1, 22), (2, 0), (2, 1), (2, 2), (2, 3), (2, 4), (2, 6), (2, 7), (2, 8), (2, 9), (20, 8), (2, 11), (2, 12), (2, 13), (2, 14), (2, 15), (2, 16), (2, 20), (2, 21), (2, 22), (2, 23)] (by decide +kernel) (by decide +kernel)
set_option maxRecDepth 20000 in
theorem lwq_L_isFound_L_isImproved_r5 : GoodIn wsL_isFound wsL_isImproved_r5 := goodIn_2 lwk_L_isFound_in _ [(3, 0), (3, 1), (3, 2), (3, 3), (3, 4), (3, 5), (3, 6), (3, 7), (3, 8), (3, 9), (3, 10), (3, 11), (3, 12), (3, 13), (3, 14), (3, 15), (3, 16), (3, 17), (3, 18), (3, 19), (3, 20), (3, 21), (3, 22), (3, 23)] (by decide +kernel) (by decide +kernel)
set_option maxRecDepth 20000 in
theorem lwq_L_isFound_L_isImproved_r6 : GoodIn wsL_isFound wsL_isImproved_r6 := goodIn_2 lwk_L_isFound_in _ [(4, 0), (4, 1), (4, 2), (4, 3), (4, 4), (4, 5), (4, 6), (4, 7), (4, 8), (4, 9), (22, 20), (22, 21), (22, 22), (11, 14), (22, 23), (23, 0), (23, 1), (13, 12), (23, 2), (4, 18), (4, 19), (4, 20), (23, 3), (23, 4)] (by decide +kernel) (by decide +kernel)
set_option maxRecDepth 20000 in
theorem lwq_L_isFound_L_isImproved_r7 : GoodIn wsL_isFound wsL_isImproved_r7 := goodIn_2 lwk_L_isFound_in _ [(18, 8), (18, 9), (18, 10), (18, 11), (18, 12), (18, 13), (18, 14), (18, 15), (18, 16), (18, 17), (18, 18), (18, 19), (18, 20), (18, 21), (18, 22), (18, 23), (19, 0), (19, 1), (19, 2), (19, 3), (19, 4), (19, 5), (19, 6), (19, 7)] (by decide +kernel) (by decide +kernel)
set_option maxRecDepth 20000 in
theorem lwq_L_isFound_L_isImproved_r8 : GoodIn wsL_isFound wsL_isImproved_r8 := goodIn_2 lwk_L_isFound_in _ [(6, 12), (6, 13), (6, 14), (6, 15), (6, 16), (6, 17), (19, 8), (19, 9), (19, 10), (19, 11), (19, 12), (19, 13), (19, 14), (23, 5), (23, 6), (23, 7), (23, 8), (23, 9), (6, 8), (6, 9), (6, 10), (23, 10), (23, 11), (23, 12)] (by decide +kernel) (by decide +kernel)
set_option maxRecDepth 20000 in
theorem lwq_L_isFound_L_isImproved_r9 : GoodIn wsL_isFound wsL_isImproved_r9 := goodIn_2 lwk_L_isFound_in _ [(23, 13), (13, 11), (23, 14), (23, 15), (23, 16), (23, 17), (23, 18), (23, 19), (23, 20), (23, 21), (23, 22), (7, 10), (7, 11), (7, 12), (7, 13), (7, 14), (1, 8), (7, 15), (7, 16), (7, 17), (7, 18), (7, 19), (7, 20), (7, 21)] (by decide +kernel) (by decide +kernel)
set_option maxRecDepth 20000 in
theorem lwq_L_isFound_L_isImproved_r10 : GoodIn wsL_isFound wsL_isImproved_r10 := goodIn_2 lwk_L_isFound_in _ [(7, 22), (7, 23), (8, 0), (8, 1), (8, 2), (8, 6), (8, 7), (8, 8), (1, 14), (8, 9), (7, 7), (8, 10), (8, 11), (8, 12), (8, 13), (8, 14), (8, 15), (17, 23), (18, 0), (18, 1), (18, 2), (17, 15), (17, 16), (17, 17)] (by decide +kernel) (by decide +kernel)
set_option maxRecDepth 20000 in
theorem lwq_L_isFound_L_isImproved_r11 : GoodIn wsL_isFound wsL_isImproved_r11 := goodIn_2 lwk_L_isFound_in _ [(17, 18), (17, 6), (17, 7), (17, 8), (17, 9), (16, 23), (17, 0), (18, 3), (18, 4), (18, 5), (18, 6), (18, 7)] (by decide +kernel) (by decide +kernel)
set_option maxRecDepth 20000 in
theorem ggL_isFound_L_isImproved : GoodIn wsL_isFound wsL_isImproved := goodIn_ca (goodIn_ca (goodIn_c1 (goodIn_2 lwk_L_isFound_in _ [(22, 14)] (by decide +kernel) (by decide +kernel)) (goodIn_app (goodIn_app (goodIn_app (goodIn_app (goodIn_app (goodIn_app (goodIn_app (goodIn_app lwq_L_isFound_L_isImproved_r1 (goodIn_app lwq_L_isFound_L_isImproved_r2 (goodIn_app lwq_L_isFound_L_isImproved_r3 (goodIn_app lwq_L_isFound_L_isImproved_r4 (goodIn_app lwq_L_isFound_L_isImproved_r5 (goodIn_app lwq_L_isFound_L_isImproved_r6 (goodIn_app lwq_L_isFound_L_isImproved_r7 (goodIn_app lwq_L_isFound_L_isImproved_r8 (goodIn_app lwq_L_isFound_L_isImproved_r9 (goodIn_app lwq_L_isFound_L_isImproved_r10 lwq_L_isFound_L_isImproved_r11)))))))))) (goodIn_sub (lwk_L_isFound_in _ (List.mem_of_getElem? (i := 33) rfl)) (by decide +kernel))) (goodIn_sub (lwk_L_isFound_in _ (List.mem_of_getElem? (i := 34) rfl)) (by decide +kernel))) (goodIn_sub (lwk_L_isFound_in _ (List.mem_of_getElem? (i := 37) rfl)) (by decide +kernel))) (goodIn_sub (lwk_L_isFound_in _ (List.mem_of_getElem? (i := 39) rfl)) (by decide +kernel))) (goodIn_sub (lwk_L_isFound_in _ (List.mem_of_getElem? (i := 36) rfl)) (by decide +kernel))) (goodIn_sub (lwk_L_isFound_in _ (List.mem_of_getElem? (i := 38) rfl)) (by decide +kernel))) (goodIn_sub (lwk_L_isFound_in _ (List.mem_of_getElem? (i := 35) rfl)) (by decide +kernel)))) (goodIn_sub (fun _ h => List.mem_cons_of_mem _ (List.mem_append_left _ (List.mem_append_right _ h))) (by decide +kernel))) (goodIn_sub (fun _ h => List.mem_cons_of_mem _ (List.mem_append_right _ h)) (by decide +kernel))
set_option maxRecDepth 20000 in
theorem gL_isFound_L_isImproved : GoodIn wsL_isFound (wsV RL 148 RL yL_isImproved wsL_isImproved) := goodIn_app (goodIn_of _ (by decide +kernel)) ggL_isFound_L_isImproved
set_option maxRecDepth 20000 in
theorem lwq_L_isFound_L_isTold_r1 : GoodIn wsL_isFound wsL_isTold_r1 := goodIn_2 lwk_L_isFound_in _ [(1, 0), (1, 1), (1, 2), (10, 0), (10, 1), (10, 2), (1, 6), (10, 3), (1, 9), (10, 4), (10, 5), (10, 6), (10, 7), (1, 23), (10, 8), (2, 5), (10, 9), (2, 17), (2, 18), (2, 19), (24, 3), (24, 4), (24, 5), (24, 6)] (by decide +kernel) (by decide +kernel)
set_option maxRecDepth 20000 in
theorem lwq_L_isFound_L_isTold_r2 : GoodIn wsL_isFound wsL_isTold_r2 := goodIn_2 lwk_L_isFound_in _ [(12, 15), (17, 19), (17, 20), (17, 21), (17, 22), (16, 5), (16, 6), (24, 7), (24, 8), (24, 9), (12, 14), (24, 10), (24, 11), (24, 12), (14, 20), (24, 13), (24, 14), (24, 15), (24, 16), (24, 17), (24, 18), (24, 19), (24, 20), (24, 21)] (by decide +kernel) (by decide +kernel)
set_option maxRecDepth 20000 in
theorem lwq_L_isFound_L_isTold_r3 : GoodIn wsL_isFound wsL_isTold_r3 := goodIn_2 lwk_L_isFound_in _ [(24, 22), (24, 23), (25, 0), (25, 1), (25, 2), (25, 3), (25, 4), (25, 5), (25, 6), (25, 7), (25, 8), (25, 9), (25, 10), (25, 11), (25, 12), (25, 13), (25, 14), (25, 15), (25, 16), (25, 17), (25, 18), (25, 19), (25, 20), (25, 21)] (by decide +kernel) (by decide +kernel)
set_option maxRecDepth 20000 in
theorem lwq_L_isFound_L_isTold_r4 : GoodIn wsL_isFound wsL_isTold_r4 := goodIn_2 lwk_L_isFound_in _ [(25, 22), (25, 23), (26, 0), (26, 1), (26, 2), (26, 3), (26, 4), (26, 5), (26, 6), (26, 7), (26, 8), (26, 9), (26, 10), (26, 11), (26, 12), (26, 13), (26, 14), (16, 23), (17, 0), (26, 15), (26, 16), (26, 17), (26, 18), (26, 19)] (by decide +kernel) (by decide +kernel)
set_option maxRecDepth 20000 in
theorem lwq_L_isFound_L_isTold_r5 : GoodIn wsL_isFound wsL_isTold_r5 := goodIn_2 lwk_L_isFound_in _ [(26, 20), (26, 21), (26, 22), (26, 23), (27, 0), (27, 1), (27, 2), (27, 3), (27, 4), (27, 5), (27, 6), (14, 22), (27, 7), (27, 8), (27, 9), (27, 10), (15, 15), (15, 16), (11, 9), (27, 11), (11, 15), (27, 12), (27, 13), (27, 14)] (by decide +kernel) (by decide +kernel)
set_option maxRecDepth 20000 in
theorem lwq_L_isFound_L_isTold_r6 : GoodIn wsL_isFound wsL_isTold_r6 := goodIn_2 lwk_L_isFound_in _ [(27, 15), (27, 16), (14, 21), (27, 17), (27, 18), (27, 19), (27, 20), (27, 21), (27, 22), (27, 23), (28, 0), (28, 1), (28, 2), (28, 3), (28, 4), (28, 5), (14, 18), (28, 6), (28, 7), (28, 8), (28, 9), (28, 10), (3, 13), (3, 14)] (by decide +kernel) (by decide +kernel)
set_option maxRecDepth 20000 in
theorem lwq_L_isFound_L_isTold_r7 : GoodIn wsL_isFound wsL_isTold_r7 := goodIn_2 lwk_L_isFound_in _ [(3, 15), (28, 11), (28, 12), (28, 13), (28, 14), (22, 8), (1, 21), (1, 22), (2, 0), (2, 1), (2, 2), (2, 3), (2, 4), (2, 6), (2, 7), (2, 8), (2, 9), (20, 8), (2, 11), (2, 12), (2, 13), (2, 14), (2, 15), (2, 16)] (by decide +kernel) (by decide +kernel)
set_option maxRecDepth 20000 in
theorem lwq_L_isFound_L_isTold_r8 : GoodIn wsL_isFound wsL_isTold_r8 := goodIn_2 lwk_L_isFound_in _ [(2, 20), (2, 21), (2, 22), (2, 23), (3, 0), (3, 1), (3, 2), (3, 3), (3, 4), (3, 5), (3, 6), (3, 7), (3, 8), (3, 9), (3, 10), (3, 11), (3, 12), (3, 16), (3, 17), (3, 18), (3, 19), (3, 20), (3, 21), (3, 22)] (by decide +kernel) (by decide +kernel)
set_option maxRecDepth 20000 in
theorem lwq_L_isFound_L_isTold_r9 : GoodIn wsL_isFound wsL_isTold_r9 := goodIn_2 lwk_L_isFound_in _ [(3, 23), (4, 0), (4, 1), (4, 2), (4, 3), (4, 4), (4, 5), (4, 6), (4, 7), (4, 8), (4, 9), (28, 15), (23, 19), (23, 20), (23, 21), (23, 22), (6, 8), (6, 9), (6, 10), (7, 10), (7, 11), (7, 12), (7, 13), (7, 14)] (by decide +kernel) (by decide +kernel)
set_option maxRecDepth 20000 in
theorem lwq_L_isFound_L_isTold_r10 : GoodIn wsL_isFound wsL_isTold_r10 := goodIn_2 lwk_L_isFound_in _ [(1, 8), (7, 15), (7, 16), (7, 17), (7, 18), (7, 19), (7, 20), (7, 21), (7, 22), (7, 23), (4, 18), (4, 19), (4, 20), (8, 0), (8, 1), (8, 2), (8, 3), (8, 4), (8, 5), (8, 6), (8, 7), (8, 8), (1, 14), (8, 9)] (by decide +kernel) (by decide +kernel)
set_option maxRecDepth 20000 in
theorem lwq_L_isFound_L_isTold_r11 : GoodIn wsL_isFound wsL_isTold_r11 := goodIn_2 lwk_L_isFound_in _ [(7, 7), (8, 10), (8, 11), (8, 12), (8, 13), (8, 14), (8, 15), (18, 7), (18, 8), (18, 9), (11, 14), (18, 10), (18, 11), (18, 12), (18, 13), (18, 14), (18, 15), (18, 16), (18, 17), (18, 18), (18, 19), (18, 20), (18, 21), (18, 22)] (by decide +kernel) (by decide +kernel)
set_option maxRecDepth 20000 in
theorem lwq_L_isFound_L_isTold_r12 : GoodIn wsL_isFound wsL_isTold_r12 := goodIn_2 lwk_L_isFound_in _ [(18, 23), (19, 0), (19, 1), (19, 2), (19, 3), (19, 4), (19, 5), (19, 6), (19, 7), (6, 12), (6, 13), (6, 14), (6, 15), (6, 16), (6, 17), (19, 8), (19, 9), (19, 10), (19, 11), (19, 12), (19, 13), (19, 14), (19, 15), (19, 16)] (by decide +kernel) (by decide +kernel)
set_option maxRecDepth 20000 in
theorem lwq_L_isFound_L_isTold_r13 : GoodIn wsL_isFound wsL_isTold_r13 := goodIn_2 lwk_L_isFound_in _ [(19, 17), (8, 19), (19, 18), (9, 1), (9, 2), (19, 19), (19, 20), (19, 21), (19, 22), (9, 9), (9, 8), (19, 23), (9, 13), (9, 14), (9, 15), (9, 16), (9, 7), (9, 17), (9, 18), (9, 19), (9, 20), (9, 21), (9, 22), (9, 23)] (by decide +kernel) (by decide +kernel)
set_option maxRecDepth 20000 in
theorem lwq_L_isFound_L_isTold_r14 : GoodIn wsL_isFound wsL_isTold_r14 := goodIn_2 lwk_L_isFound_in _ [(28, 16), (28, 17), (28, 18), (28, 19), (28, 20), (28, 21), (28, 22), (28, 23), (29, 0), (29, 1), (29, 2), (29, 3), (29, 4), (29, 5), (29, 6), (29, 7), (29, 8), (29, 9), (29, 10), (20, 21), (20, 22), (20, 23), (21, 0), (21, 1)] (by decide +kernel) (by decide +kernel)
set_option maxRecDepth 20000 in
theorem lwq_L_isFound_L_isTold_r15 : GoodIn wsL_isFound wsL_isTold_r15 := goodIn_2 lwk_L_isFound_in _ [(21, 2), (29, 11), (29, 12), (29, 13), (29, 14), (15, 7), (15, 8), (15, 9), (15, 10), (15, 11), (15, 12), (15, 13), (15, 14), (29, 15), (29, 16), (29, 17), (29, 18), (29, 19), (29, 20), (29, 21), (29, 22), (29, 23), (30, 0), (30, 1)] (by decide +kernel) (by decide +kernel)
set_option maxRecDepth 20000 in
theorem lwq_L_isFound_L_isTold_r16 : GoodIn wsL_isFound wsL_isTold_r16 := goodIn_2 lwk_L_isFound_in _ [(30, 2), (11, 23), (30, 3), (17, 6), (17, 7), (17, 8), (17, 9), (30, 4), (30, 5), (30, 6), (11, 22), (30, 7), (30, 8), (30, 9), (13, 21), (30, 10), (13, 20), (30, 11), (30, 12), (30, 13), (30, 14), (30, 15), (30, 16), (30, 17)] (by decide +kernel) (by decide +kernel)
set_option maxRecDepth 20000 in
theorem lwq_L_isFound_L_isTold_r17 : GoodIn wsL_isFound wsL_isTold_r17 := goodIn_2 lwk_L_isFound_in _ [(30, 18), (30, 19), (30, 20), (30, 21), (30, 22), (30, 23), (31, 0), (31, 1), (31, 2), (31, 3), (31, 4), (16, 8), (16, 9), (16, 10), (31, 5), (31, 6), (31, 7), (31, 8), (31, 9), (31, 10), (31, 11), (31, 12), (31, 13), (31, 14)] (by decide +kernel) (by decide +kernel)
set_option maxRecDepth 20000 in
theorem lwq_L_isFound_L_isTold_r18 : GoodIn wsL_isFound wsL_isTold_r18 := goodIn_2 lwk_L_isFound_in _ [(31, 15), (31, 16), (31, 17), (31, 18), (31, 19), (31, 20), (31, 21), (31, 22), (31, 23), (32, 0), (32, 1), (32, 2), (32, 3), (32, 4), (32, 5), (22, 10), (32, 6), (32, 7), (32, 8), (32, 9), (32, 10)] (by decide +kernel) (by decide +kernel)
set_option maxRecDepth 20000 in
theorem ggL_isFound_L_isTold : GoodIn wsL_isFound wsL_isTold := goodIn_ca (goodIn_ca (goodIn_ca (goodIn_c1 (goodIn_2 lwk_L_isFound_in _ [(24, 2)] (by decide +kernel) (by decide +kernel)) (goodIn_app (goodIn_app (goodIn_app (goodIn_app (goodIn_app (goodIn_app (goodIn_app (goodIn_app (goodIn_app lwq_L_isFound_L_isTold_r1 (goodIn_app lwq_L_isFound_L_isTold_r2 (goodIn_app lwq_L_isFound_L_isTold_r3 (goodIn_app lwq_L_isFound_L_isTold_r4 (goodIn_app lwq_L_isFound_L_isTold_r5 (goodIn_app lwq_L_isFound_L_isTold_r6 (goodIn_app lwq_L_isFound_L_isTold_r7 (goodIn_app lwq_L_isFound_L_isTold_r8 (goodIn_app lwq_L_isFound_L_isTold_r9 (goodIn_app lwq_L_isFound_L_isTold_r10 (goodIn_app lwq_L_isFound_L_isTold_r11 (goodIn_app lwq_L_isFound_L_isTold_r12 (goodIn_app lwq_L_isFound_L_isTold_r13 (goodIn_app lwq_L_isFound_L_isTold_r14 (goodIn_app lwq_L_isFound_L_isTold_r15 (goodIn_app lwq_L_isFound_L_isTold_r16 (goodIn_app lwq_L_isFound_L_isTold_r17 lwq_L_isFound_L_isTold_r18))))))))))))))))) (goodIn_sub (lwk_L_isFound_in _ (List.mem_of_getElem? (i := 33) rfl)) (by decide +kernel))) (goodIn_sub (lwk_L_isFound_in _ (List.mem_of_getElem? (i := 34) rfl)) (by decide +kernel))) (goodIn_sub (lwk_L_isFound_in _ (List.mem_of_getElem? (i := 37) rfl)) (by decide +kernel))) (goodIn_sub (lwk_L_isFound_in _ (List.mem_of_getElem? (i := 45) rfl)) (by decide +kernel))) (goodIn_sub (lwk_L_isFound_in _ (List.mem_of_getElem? (i := 36) rfl)) (by decide +kernel))) (goodIn_sub (lwk_L_isFound_in _ (List.mem_of_getElem? (i := 38) rfl)) (by decide +kernel))) (goodIn_sub (lwk_L_isFound_in _ (List.mem_of_getElem? (i := 35) rfl)) (by decide +kernel))) (goodIn_sub (lwk_L_isFound_in _ (List.mem_of_getElem? (i := 41) rfl)) (by decide +kernel)))) (goodIn_sub (fun _ h => List.mem_cons_of_mem _ (List.mem_append_left _ (List.mem_append_right _ h))) (by decide +kernel))) (goodIn_sub (fun _ h => List.mem_cons_of_mem _ (List.mem_append_right _ h)) (by decide +kernel))) (goodIn_sub (fun _ h => List.mem_cons_of_mem _ (List.mem_append_left _ (List.mem_append_left _ (List.mem_append_right _ h)))) (by decide +kernel))
set_option maxRecDepth 20000 in
theorem gL_isFound_L_isTold : GoodIn wsL_isFound (wsV RL 151 RL yL_isTold wsL_isTold) := goodIn_app (goodIn_of _ (by decide +kernel)) ggL_isFound_L_isTold
theorem dL_isFound_0 : decode cL_isFound 0 = .ok (.aload_n 0, 1) := by decide +kernel
theorem dL_isFound_1 : decode cL_isFound 1 = .ok (.getfield 10, 3) := by decide +kernel
theorem dL_isFound_4 : decode cL_isFound 4 = .ok (.invokevirtual 120, 3) := by decide +kernel
theorem dL_isFound_7 : decode cL_isFound 7 = .ok (.istore_n 1, 1) := by decide +kernel
theorem dL_isFound_8 : decode cL_isFound 8 = .ok (.aload_n 0, 1) := by decide +kernel
theorem dL_isFound_9 : decode cL_isFound 9 = .ok (.getfield 66, 3) := by decide +kernel
theorem dL_isFound_12 : decode cL_isFound 12 = .ok (.iconst 4, 1) := by decide +kernel
theorem dL_isFound_13 : decode cL_isFound 13 = .ok (.if_icmp .ge 13, 3) := by decide +kernel
theorem dL_isFound_16 : decode cL_isFound 16 = .ok (.aload_n 0, 1) := by decide +kernel
theorem dL_isFound_17 : decode cL_isFound 17 = .ok (.invokevirtual 123, 3) := by decide +kernel
theorem dL_isFound_20 : decode cL_isFound 20 = .ok (.iload_n 1, 1) := by decide +kernel
theorem dL_isFound_21 : decode cL_isFound 21 = .ok (.if_icmp .eq 5, 3) := by decide +kernel
theorem dL_isFound_24 : decode cL_isFound 24 = .ok (.iconst 0, 1) := by decide +kernel
theorem dL_isFound_25 : decode cL_isFound 25 = .ok (.ireturn, 1) := by decide +kernel
theorem dL_isFound_26 : decode cL_isFound 26 = .ok (.iload_n 1, 1) := by decide +kernel
theorem dL_isFound_27 : decode cL_isFound 27 = .ok (.ifCond .ne 26, 3) := by decide +kernel
theorem dL_isFound_30 : decode cL_isFound 30 = .ok (.aload_n 0, 1) := by decide +kernel
theorem dL_isFound_31 : decode cL_isFound 31 = .ok (.getfield 10, 3) := by decide +kernel
theorem dL_isFound_34 : decode cL_isFound 34 = .ok (.invokevirtual 126, 3) := by decide +kernel
theorem dL_isFound_37 : decode cL_isFound 37 = .ok (.ifCond .ne 14, 3) := by decide +kernel
theorem dL_isFound_40 : decode cL_isFound 40 = .ok (.aload_n 0, 1) := by decide +kernel
theorem dL_isFound_41 : decode cL_isFound 41 = .ok (.invokevirtual 129, 3) := by decide +kernel
theorem dL_isFound_44 : decode cL_isFound 44 = .ok (.ifCond .eq 7, 3) := by decide +kernel
theorem dL_isFound_47 : decode cL_isFound 47 = .ok (.iconst 1, 1) := by decide +kernel
theorem dL_isFound_48 : decode cL_isFound 48 = .ok (.goto 4, 3) := by decide +kernel
theorem dL_isFound_51 : decode cL_isFound 51 = .ok (.iconst 0, 1) := by decide +kernel
theorem dL_isFound_52 : decode cL_isFound 52 = .ok (.ireturn, 1) := by decide +kernel
theorem dL_isFound_53 : decode cL_isFound 53 = .ok (.iconst 0, 1) := by decide +kernel
theorem dL_isFound_54 : decode cL_isFound 54 = .ok (.istore_n 2, 1) := by decide +kernel
theorem dL_isFound_55 : decode cL_isFound 55 = .ok (.iload_n 2, 1) := by decide +kernel
theorem dL_isFound_56 : decode cL_isFound 56 = .ok (.aload_n 0, 1) := by decide +kernel
theorem dL_isFound_57 : decode cL_isFound 57 = .ok (.getfield 66, 3) := by decide +kernel
theorem dL_isFound_60 : decode cL_isFound 60 = .ok (.if_icmp .ge 36, 3) := by decide +kernel
theorem dL_isFound_63 : decode cL_isFound 63 = .ok (.aload_n 0, 1) := by decide +kernel
theorem dL_isFound_64 : decode cL_isFound 64 = .ok (.getfield 66, 3) := by decide +kernel
theorem dL_isFound_67 : decode cL_isFound 67 = .ok (.iconst 4, 1) := by decide +kernel
theorem dL_isFound_68 : decode cL_isFound 68 = .ok (.if_icmp .ge 28, 3) := by decide +kernel
theorem dL_isFound_71 : decode cL_isFound 71 = .ok (.aload_n 0, 1) := by decide +kernel
theorem dL_isFound_72 : decode cL_isFound 72 = .ok (.getfield 10, 3) := by decide +kernel
theorem dL_isFound_75 : decode cL_isFound 75 = .ok (.iload_n 2, 1) := by decide +kernel
theorem dL_isFound_76 : decode cL_isFound 76 = .ok (.invokevirtual 114, 3) := by decide +kernel
theorem dL_isFound_79 : decode cL_isFound 79 = .ok (.aload_n 0, 1) := by decide +kernel
theorem dL_isFound_80 : decode cL_isFound 80 = .ok (.getfield 32, 3) := by decide +kernel
theorem dL_isFound_83 : decode cL_isFound 83 = .ok (.iload_n 2, 1) := by decide +kernel
theorem dL_isFound_84 : decode cL_isFound 84 = .ok (.iaload, 1) := by decide +kernel
theorem dL_isFound_85 : decode cL_isFound 85 = .ok (.if_icmp .eq 5, 3) := by decide +kernel
theorem dL_isFound_88 : decode cL_isFound 88 = .ok (.iconst 0, 1) := by decide +kernel
theorem dL_isFound_89 : decode cL_isFound 89 = .ok (.ireturn, 1) := by decide +kernel
theorem dL_isFound_90 : decode cL_isFound 90 = .ok (.iinc 2 1, 3) := by decide +kernel
theorem dL_isFound_93 : decode cL_isFound 93 = .ok (.goto (-38), 3) := by decide +kernel
theorem dL_isFound_96 : decode cL_isFound 96 = .ok (.aload_n 0, 1) := by decide +kernel
theorem dL_isFound_97 : decode cL_isFound 97 = .ok (.invokevirtual 132, 3) := by decide +kernel
theorem dL_isFound_100 : decode cL_isFound 100 = .ok (.aload_n 0, 1) := by decide +kernel
theorem dL_isFound_101 : decode cL_isFound 101 = .ok (.invokevirtual 117, 3) := by decide +kernel
theorem dL_isFound_104 : decode cL_isFound 104 = .ok (.ifCond .eq 60, 3) := by decide +kernel
theorem dL_isFound_107 : decode cL_isFound 107 = .ok (.aload_n 0, 1) := by decide +kernel
theorem dL_isFound_108 : decode cL_isFound 108 = .ok (.getfield 10, 3) := by decide +kernel
theorem dL_isFound_111 : decode cL_isFound 111 = .ok (.invokevirtual 135, 3) := by decide +kernel
theorem dL_isFound_114 : decode cL_isFound 114 = .ok (.iconst (-1), 1) := by decide +kernel
theorem dL_isFound_115 : decode cL_isFound 115 = .ok (.if_icmp .ne 49, 3) := by decide +kernel
theorem dL_isFound_118 : decode cL_isFound 118 = .ok (.aload_n 0, 1) := by decide +kernel
theorem dL_isFound_119 : decode cL_isFound 119 = .ok (.getfield 10, 3) := by decide +kernel
theorem dL_isFound_122 : decode cL_isFound 122 = .ok (.invokevirtual 138, 3) := by decide +kernel
theorem dL_isFound_125 : decode cL_isFound 125 = .ok (.aload_n 0, 1) := by decide +kernel
theorem dL_isFound_126 : decode cL_isFound 126 = .ok (.invokevirtual 141, 3) := by decide +kernel
theorem dL_isFound_129 : decode cL_isFound 129 = .ok (.if_icmp .ne 35, 3) := by decide +kernel
theorem dL_isFound_132 : decode cL_isFound 132 = .ok (.aload_n 0, 1) := by decide +kernel
theorem dL_isFound_133 : decode cL_isFound 133 = .ok (.invokevirtual 142, 3) := by decide +kernel
theorem dL_isFound_136 : decode cL_isFound 136 = .ok (.ifCond .eq 28, 3) := by decide +kernel
theorem dL_isFound_139 : decode cL_isFound 139 = .ok (.aload_n 0, 1) := by decide +kernel
theorem dL_isFound_140 : decode cL_isFound 140 = .ok (.invokevirtual 145, 3) := by decide +kernel
theorem dL_isFound_143 : decode cL_isFound 143 = .ok (.ifCond .eq 21, 3) := by decide +kernel
theorem dL_isFound_146 : decode cL_isFound 146 = .ok (.aload_n 0, 1) := by decide +kernel
theorem dL_isFound_147 : decode cL_isFound 147 = .ok (.invokevirtual 148, 3) := by decide +kernel
theorem dL_isFound_150 : decode cL_isFound 150 = .ok (.ifCond .eq 14, 3) := by decide +kernel
theorem dL_isFound_153 : decode cL_isFound 153 = .ok (.aload_n 0, 1) := by decide +kernel
theorem dL_isFound_154 : decode cL_isFound 154 = .ok (.invokevirtual 151, 3) := by decide +kernel
theorem dL_isFound_157 : decode cL_isFound 157 = .ok (.ifCond .eq 7, 3) := by decide +kernel
theorem dL_isFound_160 : decode cL_isFound 160 = .ok (.iconst 1, 1) := by decide +kernel
theorem dL_isFound_161 : decode cL_isFound 161 = .ok (.goto 4, 3) := by decide +kernel
theorem dL_isFound_164 : decode cL_isFound 164 = .ok (.iconst 0, 1) := by decide +kernel
theorem dL_isFound_165 : decode cL_isFound 165 = .ok (.ireturn, 1) := by decide +kernel
set_option maxRecDepth 20000 in
theorem ggL_isProved_X11_proof : GoodIn wsL_isProved wsX11_proof := goodIn_2 lwk_L_isProved_in _ [(1, 11), (1, 12), (1, 13), (18, 0), (18, 1), (18, 2), (18, 3), (18, 4), (18, 5), (18, 6), (18, 7), (18, 8), (18, 9), (18, 10), (19, 0), (19, 1), (19, 2), (19, 3), (19, 4), (19, 5), (19, 6), (19, 7)] (by decide +kernel) (by decide +kernel)
set_option maxRecDepth 20000 in
theorem gL_isProved_X11_proof : GoodIn wsL_isProved (wsV RL 135 RX11 yX11_proof wsX11_proof) := goodIn_app (goodIn_of _ (by decide +kernel)) ggL_isProved_X11_proof
set_option maxRecDepth 20000 in
theorem lwq_L_isProved_X11_init_r1 : GoodIn wsL_isProved wsX11_init_r1 := goodIn_2 lwk_L_isProved_in _ [(1, 17), (1, 18), (1, 19), (1, 20), (1, 21), (1, 22), (1, 23), (2, 0), (2, 1), (2, 2), (2, 3), (2, 4), (2, 5), (2, 6), (2, 7), (2, 8), (2, 9), (2, 10), (1, 12), (2, 11), (2, 12), (2, 13), (2, 14), (2, 15)] (by decide +kernel) (by decide +kernel)
set_option maxRecDepth 20000 in
theorem lwq_L_isProved_X11_init_r2 : GoodIn wsL_isProved wsX11_init_r2 := goodIn_2 lwk_L_isProved_in _ [(2, 16), (2, 17), (2, 18), (2, 19), (2, 20), (2, 21), (2, 22), (2, 23), (3, 0), (3, 1), (3, 2), (3, 3), (3, 4), (3, 5), (3, 6), (3, 7), (3, 8), (3, 9), (3, 10), (3, 11), (3, 12), (3, 13), (3, 14), (3, 15)] (by decide +kernel) (by decide +kernel)
set_option maxRecDepth 20000 in
theorem lwq_L_isProved_X11_init_r3 : GoodIn wsL_isProved wsX11_init_r3 := goodIn_2 lwk_L_isProved_in _ [(3, 16), (3, 17), (3, 18), (3, 19), (3, 20), (3, 21), (3, 22), (3, 23), (4, 0), (4, 1), (4, 2), (4, 3), (4, 4), (4, 5), (4, 6), (4, 7), (4, 8), (4, 9), (4, 10), (4, 11), (4, 12), (4, 13), (4, 14), (4, 15)] (by decide +kernel) (by decide +kernel)
set_option maxRecDepth 20000 in
theorem lwq_L_isProved_X11_init_r4 : GoodIn wsL_isProved wsX11_init_r4 := goodIn_2 lwk_L_isProved_in _ [(4, 16), (4, 17), (4, 18), (4, 19), (4, 20), (4, 21), (4, 22), (4, 23), (5, 0), (5, 1), (5, 2), (5, 3), (5, 4), (5, 5), (5, 6), (5, 7), (5, 8), (5, 9), (5, 10), (5, 11), (5, 12), (5, 13), (5, 14), (5, 15)] (by decide +kernel) (by decide +kernel)
set_option maxRecDepth 20000 in
theorem lwq_L_isProved_X11_init_r5 : GoodIn wsL_isProved wsX11_init_r5 := goodIn_2 lwk_L_isProved_in _ [(5, 16), (5, 17), (5, 18), (5, 19), (5, 20), (5, 21), (5, 22), (5, 23), (6, 0), (6, 1), (6, 2), (6, 3), (6, 4), (6, 5), (6, 6), (6, 7), (6, 8), (6, 9), (6, 10), (6, 11), (6, 12), (6, 13), (6, 14), (6, 15)] (by decide +kernel) (by decide +kernel)
set_option maxRecDepth 20000 in
theorem lwq_L_isProved_X11_init_r6 : GoodIn wsL_isProved wsX11_init_r6 := goodIn_2 lwk_L_isProved_in _ [(6, 16), (6, 17)] (by decide +kernel) (by decide +kernel)
set_option maxRecDepth 20000 in
theorem ggL_isProved_X11_init : GoodIn wsL_isProved wsX11_init := goodIn_c1 (goodIn_2 lwk_L_isProved_in _ [(1, 16)] (by decide +kernel) (by decide +kernel)) (goodIn_app (goodIn_app (goodIn_app (goodIn_app (goodIn_app (goodIn_app (goodIn_app (goodIn_app (goodIn_app (goodIn_app (goodIn_app (goodIn_app (goodIn_app lwq_L_isProved_X11_init_r1 (goodIn_app lwq_L_isProved_X11_init_r2 (goodIn_app lwq_L_isProved_X11_init_r3 (goodIn_app lwq_L_isProved_X11_init_r4 (goodIn_app lwq_L_isProved_X11_init_r5 lwq_L_isProved_X11_init_r6))))) (goodIn_sub (lwk_L_isProved_in _ (List.mem_of_getElem? (i := 20) rfl)) (by decide +kernel))) (goodIn_sub (lwk_L_isProved_in _ (List.mem_of_getElem? (i := 18) rfl)) (by decide +kernel))) (goodIn_sub (lwk_L_isProved_in _ (List.mem_of_getElem? (i := 21) rfl)) (by decide +kernel))) (goodIn_sub (lwk_L_isProved_in _ (List.mem_of_getElem? (i := 22) rfl)) (by decide +kernel))) (goodIn_sub (lwk_L_isProved_in _ (List.mem_of_getElem? (i := 19) rfl)) (by decide +kernel))) (goodIn_sub (lwk_L_isProved_in _ (List.mem_of_getElem? (i := 23) rfl)) (by decide +kernel))) (goodIn_sub (lwk_L_isProved_in _ (List.mem_of_getElem? (i := 24) rfl)) (by decide +kernel))) (goodIn_sub (lwk_L_isProved_in _ (List.mem_of_getElem? (i := 25) rfl)) (by decide +kernel))) (goodIn_sub (lwk_L_isProved_in _ (List.mem_of_getElem? (i := 26) rfl)) (by decide +kernel))) (goodIn_sub (lwk_L_isProved_in _ (List.mem_of_getElem? (i := 27) rfl)) (by decide +kernel))) (goodIn_sub (lwk_L_isProved_in _ (List.mem_of_getElem? (i := 28) rfl)) (by decide +kernel))) (goodIn_sub (lwk_L_isProved_in _ (List.mem_of_getElem? (i := 29) rfl)) (by decide +kernel)))
set_option maxRecDepth 20000 in
theorem gL_isProved_X11_init : GoodIn wsL_isProved (wsX11_init) := ggL_isProved_X11_init
set_option maxRecDepth 20000 in
theorem lwq_L_isProved_L_isMade_r1 : GoodIn wsL_isProved wsL_isMade_r1 := goodIn_2 lwk_L_isProved_in _ [(6, 23), (7, 0), (7, 1), (7, 2), (7, 3), (7, 4), (7, 5), (7, 6), (7, 7), (7, 8), (1, 3), (7, 9), (1, 23), (7, 10), (7, 11), (7, 12), (7, 13), (7, 14), (7, 15), (7, 16), (7, 17), (7, 18), (7, 19), (7, 20)] (by decide +kernel) (by decide +kernel)
set_option maxRecDepth 20000 in
theorem lwq_L_isProved_L_isMade_r2 : GoodIn wsL_isProved wsL_isMade_r2 := goodIn_2 lwk_L_isProved_in _ [(7, 21), (7, 22), (7, 23), (2, 3), (1, 12), (8, 0), (8, 1), (8, 2), (2, 2), (8, 3), (8, 4), (4, 1), (8, 5), (8, 6), (8, 7), (8, 8), (8, 9), (8, 10), (8, 11), (8, 12), (8, 13), (8, 14), (8, 15), (8, 16)] (by decide +kernel) (by decide +kernel)
set_option maxRecDepth 20000 in
theorem lwq_L_isProved_L_isMade_r3 : GoodIn wsL_isProved wsL_isMade_r3 := goodIn_2 lwk_L_isProved_in _ [(8, 17), (8, 18), (2, 10), (8, 19), (4, 23), (8, 20), (8, 21), (8, 22), (1, 22), (8, 23), (3, 20), (9, 0), (9, 1), (9, 2), (9, 3), (9, 4), (9, 5), (9, 6), (9, 7), (9, 8), (9, 9), (9, 10), (9, 11), (9, 12)] (by decide +kernel) (by decide +kernel)
set_option maxRecDepth 20000 in
theorem lwq_L_isProved_L_isMade_r4 : GoodIn wsL_isProved wsL_isMade_r4 := goodIn_2 lwk_L_isProved_in _ [(9, 13), (9, 14), (9, 15), (9, 16), (9, 17), (9, 18), (9, 19), (9, 20), (9, 21), (9, 22), (9, 23), (10, 0), (10, 1)] (by decide +kernel) (by decide +kernel)
set_option maxRecDepth 20000 in
theorem ggL_isProved_L_isMade : GoodIn wsL_isProved wsL_isMade := goodIn_ca (goodIn_ca (goodIn_c1 (goodIn_2 lwk_L_isProved_in _ [(6, 22)] (by decide +kernel) (by decide +kernel)) (goodIn_app (goodIn_app (goodIn_app (goodIn_app (goodIn_app (goodIn_app lwq_L_isProved_L_isMade_r1 (goodIn_app lwq_L_isProved_L_isMade_r2 (goodIn_app lwq_L_isProved_L_isMade_r3 lwq_L_isProved_L_isMade_r4))) (goodIn_sub (lwk_L_isProved_in _ (List.mem_of_getElem? (i := 17) rfl)) (by decide +kernel))) (goodIn_sub (lwk_L_isProved_in _ (List.mem_of_getElem? (i := 18) rfl)) (by decide +kernel))) (goodIn_sub (lwk_L_isProved_in _ (List.mem_of_getElem? (i := 20) rfl)) (by decide +kernel))) (goodIn_sub (lwk_L_isProved_in _ (List.mem_of_getElem? (i := 21) rfl)) (by decide +kernel))) (goodIn_sub (lwk_L_isProved_in _ (List.mem_of_getElem? (i := 19) rfl)) (by decide +kernel)))) (goodIn_sub (fun _ h => List.mem_cons_of_mem _ (List.mem_append_left _ (List.mem_append_left _ (List.mem_append_right _ h)))) (by decide +kernel))) (goodIn_sub (fun _ h => List.mem_cons_of_mem _ (List.mem_append_left _ (List.mem_append_right _ h))) (by decide +kernel))
set_option maxRecDepth 20000 in
theorem gL_isProved_L_isMade : GoodIn wsL_isProved (wsV RL 80 RL yL_isMade wsL_isMade) := goodIn_app (goodIn_of _ (by decide +kernel)) ggL_isProved_L_isMade
set_option maxRecDepth 20000 in
theorem ggL_isProved_X11_proofAt : GoodIn wsL_isProved wsX11_proofAt := goodIn_ca (goodIn_2 lwk_L_isProved_in _ [(10, 5), (10, 6), (10, 7), (1, 12), (1, 13), (10, 8), (18, 0), (18, 1), (18, 2), (18, 3), (18, 4), (18, 5), (18, 6), (18, 7), (18, 8), (18, 9), (18, 10), (19, 0), (19, 1), (19, 2), (19, 3), (19, 4), (19, 5), (19, 6), (19, 7)] (by decide +kernel) (by decide +kernel)) (goodIn_sub (fun _ h => List.mem_cons_of_mem _ (List.mem_append_right _ h)) (by decide +kernel))
set_option maxRecDepth 20000 in
theorem gL_isProved_X11_proofAt : GoodIn wsL_isProved (wsV RL 154 RX11 yX11_proofAt wsX11_proofAt) := goodIn_app (goodIn_of _ (by decide +kernel)) ggL_isProved_X11_proofAt
set_option maxRecDepth 20000 in
theorem ggL_isProved_X11_wish : GoodIn wsL_isProved wsX11_wish := goodIn_ca (goodIn_ca (goodIn_ca (goodIn_2 lwk_L_isProved_in _ [(10, 12), (7, 18), (7, 19), (9, 8), (9, 9), (1, 23), (7, 10), (7, 11), (7, 12), (1, 3), (7, 13), (7, 14), (7, 15), (7, 16), (7, 17), (10, 13), (10, 14), (10, 15), (10, 16), (10, 6), (10, 7), (9, 14), (9, 15), (9, 16), (1, 22), (9, 17), (3, 20), (10, 17), (10, 18), (10, 19), (10, 20), (7, 20), (7, 21), (7, 22), (7, 23), (2, 3), (1, 12), (8, 0), (8, 1), (8, 2), (2, 2), (8, 3), (8, 4), (4, 1), (8, 5), (8, 6), (8, 7), (8, 8), (8, 9), (8, 10), (8, 11), (8, 12), (8, 13), (8, 14), (8, 15), (8, 16), (8, 17), (8, 18), (2, 10), (8, 19), (4, 23), (8, 20), (8, 21), (8, 22), (8, 23), (10, 21), (10, 22), (10, 23), (11, 0), (18, 0), (18, 1), (18, 2), (18, 3), (18, 4), (18, 5), (18, 6), (18, 7), (18, 8), (18, 9), (18, 10), (20, 0), (20, 1), (21, 0), (21, 1), (21, 2), (19, 0), (19, 1), (19, 2), (19, 3), (19, 4), (19, 5), (19, 6), (19, 7)] (by decide +kernel) (by decide +kernel)) (goodIn_sub (fun _ h => List.mem_cons_of_mem _ (List.mem_append_left _ (List.mem_append_left _ (List.mem_append_right _ h)))) (by decide +kernel))) (goodIn_sub (fun _ h => List.mem_cons_of_mem _ (List.mem_append_left _ (List.mem_append_right _ h))) (by decide +kernel))) (goodIn_sub (fun _ h => List.mem_cons_of_mem _ (List.mem_append_right _ h)) (by decide +kernel))
set_option maxRecDepth 20000 in
theorem gL_isProved_X11_wish : GoodIn wsL_isProved (wsV RL 87 RX11 yX11_wish wsX11_wish) := goodIn_app (goodIn_of _ (by decide +kernel)) ggL_isProved_X11_wish
set_option maxRecDepth 20000 in
theorem lwq_L_isProved_X11_find_r1 : GoodIn wsL_isProved wsX11_find_r1 := goodIn_2 lwk_L_isProved_in _ [(1, 12), (1, 23), (11, 5), (11, 6), (11, 7), (11, 8), (2, 10), (11, 9), (4, 20), (11, 10), (11, 11), (4, 21), (11, 12), (11, 13), (11, 14), (1, 22), (11, 15), (11, 16), (10, 18), (10, 19), (10, 20), (3, 20), (11, 17), (11, 18)] (by decide +kernel) (by decide +kernel)
set_option maxRecDepth 20000 in
theorem lwq_L_isProved_X11_find_r2 : GoodIn wsL_isProved wsX11_find_r2 := goodIn_2 lwk_L_isProved_in _ [(11, 19), (11, 20), (11, 21), (11, 22), (11, 23), (2, 6), (12, 0), (12, 1), (12, 2), (9, 15), (9, 16), (9, 17), (12, 3), (12, 4), (12, 5), (12, 6), (4, 14), (4, 6), (4, 7), (4, 5), (12, 7), (12, 8), (4, 8), (4, 9)] (by decide +kernel) (by decide +kernel)
set_option maxRecDepth 20000 in
theorem lwq_L_isProved_X11_find_r3 : GoodIn wsL_isProved wsX11_find_r3 := goodIn_2 lwk_L_isProved_in _ [(4, 10), (4, 11), (4, 12), (4, 13), (12, 9), (12, 10), (12, 11), (12, 12), (12, 13), (12, 14), (12, 15), (12, 16), (12, 17), (12, 18), (12, 19), (12, 20), (12, 21), (12, 22), (12, 23), (13, 0), (13, 1), (13, 2), (13, 3), (13, 4)] (by decide +kernel) (by decide +kernel)
set_option maxRecDepth 20000 in
theorem lwq_L_isProved_X11_find_r4 : GoodIn wsL_isProved wsX11_find_r4 := goodIn_2 lwk_L_isProved_in _ [(13, 5), (13, 6), (13, 7), (13, 8), (13, 9), (13, 10), (13, 11), (5, 2), (5, 1), (13, 12), (8, 7), (8, 8), (8, 9), (13, 13), (13, 14), (13, 15), (13, 16), (13, 17), (13, 18), (13, 19), (13, 20), (13, 21), (13, 22), (13, 23)] (by decide +kernel) (by decide +kernel)
set_option maxRecDepth 20000 in
theorem lwq_L_isProved_X11_find_r5 : GoodIn wsL_isProved wsX11_find_r5 := goodIn_2 lwk_L_isProved_in _ [(14, 0), (14, 1), (14, 2), (14, 3), (14, 4), (14, 5), (14, 6), (14, 7), (14, 8), (14, 9), (14, 10), (14, 11), (14, 12), (14, 13), (14, 14), (14, 15), (14, 16), (14, 17), (14, 18), (5, 0), (14, 19), (14, 20), (14, 21), (14, 22)] (by decide +kernel) (by decide +kernel)
set_option maxRecDepth 20000 in
theorem lwq_L_isProved_X11_find_r6 : GoodIn wsL_isProved wsX11_find_r6 := goodIn_2 lwk_L_isProved_in _ [(14, 23), (15, 0), (15, 1), (15, 2), (15, 3), (15, 4), (15, 5), (15, 6), (15, 7), (15, 8), (15, 9), (15, 10), (15, 11), (15, 12), (15, 13), (15, 14), (15, 15), (15, 16), (15, 17), (15, 18), (15, 19), (15, 20), (15, 21), (4, 23)] (by decide +kernel) (by decide +kernel)
set_option maxRecDepth 20000 in
theorem lwq_L_isProved_X11_find_r7 : GoodIn wsL_isProved wsX11_find_r7 := goodIn_2 lwk_L_isProved_in _ [(4, 22), (15, 22), (7, 20), (7, 21), (7, 22), (1, 3), (7, 23), (2, 3), (8, 0), (8, 1), (8, 2), (2, 2), (8, 3), (8, 4), (4, 1), (8, 5), (8, 6), (8, 10), (8, 11), (8, 12), (8, 13), (8, 14), (8, 15), (8, 16)] (by decide +kernel) (by decide +kernel)
set_option maxRecDepth 20000 in
theorem lwq_L_isProved_X11_find_r8 : GoodIn wsL_isProved wsX11_find_r8 := goodIn_2 lwk_L_isProved_in _ [(8, 17), (8, 18), (8, 19), (15, 23), (16, 0), (16, 1), (16, 2), (3, 21), (16, 3)] (by decide +kernel) (by decide +kernel)
set_option maxRecDepth 20000 in
theorem ggL_isProved_X11_find : GoodIn wsL_isProved wsX11_find := goodIn_c1 (goodIn_2 lwk_L_isProved_in _ [(11, 4)] (by decide +kernel) (by decide +kernel)) (goodIn_app (goodIn_app (goodIn_app (goodIn_app (goodIn_app (goodIn_app lwq_L_isProved_X11_find_r1 (goodIn_app lwq_L_isProved_X11_find_r2 (goodIn_app lwq_L_isProved_X11_find_r3 (goodIn_app lwq_L_isProved_X11_find_r4 (goodIn_app lwq_L_isProved_X11_find_r5 (goodIn_app lwq_L_isProved_X11_find_r6 (goodIn_app lwq_L_isProved_X11_find_r7 lwq_L_isProved_X11_find_r8))))))) (goodIn_sub (lwk_L_isProved_in _ (List.mem_of_getElem? (i := 18) rfl)) (by decide +kernel))) (goodIn_sub (lwk_L_isProved_in _ (List.mem_of_getElem? (i := 19) rfl)) (by decide +kernel))) (goodIn_sub (lwk_L_isProved_in _ (List.mem_of_getElem? (i := 22) rfl)) (by decide +kernel))) (goodIn_sub (lwk_L_isProved_in _ (List.mem_of_getElem? (i := 20) rfl)) (by decide +kernel))) (goodIn_sub (lwk_L_isProved_in _ (List.mem_of_getElem? (i := 21) rfl)) (by decide +kernel)))
set_option maxRecDepth 20000 in
theorem gL_isProved_X11_find : GoodIn wsL_isProved (wsV RL 120 RX11 yX11_find wsX11_find) := goodIn_app (goodIn_of _ (by decide +kernel)) ggL_isProved_X11_find
theorem dL_isProved_0 : decode cL_isProved 0 = .ok (.aload_n 0, 1) := by decide +kernel
theorem dL_isProved_1 : decode cL_isProved 1 = .ok (.getfield 10, 3) := by decide +kernel
theorem dL_isProved_4 : decode cL_isProved 4 = .ok (.invokevirtual 135, 3) := by decide +kernel
theorem dL_isProved_7 : decode cL_isProved 7 = .ok (.istore_n 1, 1) := by decide +kernel
theorem dL_isProved_8 : decode cL_isProved 8 = .ok (.iconst (-1), 1) := by decide +kernel
theorem dL_isProved_9 : decode cL_isProved 9 = .ok (.istore_n 2, 1) := by decide +kernel
theorem dL_isProved_10 : decode cL_isProved 10 = .ok (.iload_n 2, 1) := by decide +kernel
theorem dL_isProved_11 : decode cL_isProved 11 = .ok (.iload_n 1, 1) := by decide +kernel
theorem dL_isProved_12 : decode cL_isProved 12 = .ok (.if_icmp .ge 134, 3) := by decide +kernel
theorem dL_isProved_15 : decode cL_isProved 15 = .ok (.new 1, 3) := by decide +kernel
theorem dL_isProved_18 : decode cL_isProved 18 = .ok (.dup, 1) := by decide +kernel
theorem dL_isProved_19 : decode cL_isProved 19 = .ok (.invokespecial 9, 3) := by decide +kernel
theorem dL_isProved_22 : decode cL_isProved 22 = .ok (.astore_n 3, 1) := by decide +kernel
theorem dL_isProved_23 : decode cL_isProved 23 = .ok (.aload_n 0, 1) := by decide +kernel
theorem dL_isProved_24 : decode cL_isProved 24 = .ok (.aload_n 3, 1) := by decide +kernel
theorem dL_isProved_25 : decode cL_isProved 25 = .ok (.invokevirtual 80, 3) := by decide +kernel
theorem dL_isProved_28 : decode cL_isProved 28 = .ok (.ifCond .ne 5, 3) := by decide +kernel
theorem dL_isProved_31 : decode cL_isProved 31 = .ok (.iconst 0, 1) := by decide +kernel
theorem dL_isProved_32 : decode cL_isProved 32 = .ok (.ireturn, 1) := by decide +kernel
theorem dL_isProved_33 : decode cL_isProved 33 = .ok (.iconst (-1), 1) := by decide +kernel
theorem dL_isProved_34 : decode cL_isProved 34 = .ok (.istore 4, 2) := by decide +kernel
theorem dL_isProved_36 : decode cL_isProved 36 = .ok (.iconst 0, 1) := by decide +kernel
theorem dL_isProved_37 : decode cL_isProved 37 = .ok (.istore 5, 2) := by decide +kernel
theorem dL_isProved_39 : decode cL_isProved 39 = .ok (.iload 5, 2) := by decide +kernel
theorem dL_isProved_41 : decode cL_isProved 41 = .ok (.iload_n 1, 1) := by decide +kernel
theorem dL_isProved_42 : decode cL_isProved 42 = .ok (.if_icmp .ge 80, 3) := by decide +kernel
theorem dL_isProved_45 : decode cL_isProved 45 = .ok (.aload_n 0, 1) := by decide +kernel
theorem dL_isProved_46 : decode cL_isProved 46 = .ok (.getfield 10, 3) := by decide +kernel
theorem dL_isProved_49 : decode cL_isProved 49 = .ok (.iload 5, 2) := by decide +kernel
theorem dL_isProved_51 : decode cL_isProved 51 = .ok (.invokevirtual 154, 3) := by decide +kernel
theorem dL_isProved_54 : decode cL_isProved 54 = .ok (.istore 6, 2) := by decide +kernel
theorem dL_isProved_56 : decode cL_isProved 56 = .ok (.iload 6, 2) := by decide +kernel
theorem dL_isProved_58 : decode cL_isProved 58 = .ok (.iload 4, 2) := by decide +kernel
theorem dL_isProved_60 : decode cL_isProved 60 = .ok (.if_icmp .le 13, 3) := by decide +kernel
theorem dL_isProved_63 : decode cL_isProved 63 = .ok (.aload_n 0, 1) := by decide +kernel
theorem dL_isProved_64 : decode cL_isProved 64 = .ok (.getfield 44, 3) := by decide +kernel
theorem dL_isProved_67 : decode cL_isProved 67 = .ok (.iload 6, 2) := by decide +kernel
theorem dL_isProved_69 : decode cL_isProved 69 = .ok (.iaload, 1) := by decide +kernel
theorem dL_isProved_70 : decode cL_isProved 70 = .ok (.ifCond .eq 5, 3) := by decide +kernel
theorem dL_isProved_73 : decode cL_isProved 73 = .ok (.iconst 0, 1) := by decide +kernel
theorem dL_isProved_74 : decode cL_isProved 74 = .ok (.ireturn, 1) := by decide +kernel
theorem dL_isProved_75 : decode cL_isProved 75 = .ok (.iload 6, 2) := by decide +kernel
theorem dL_isProved_77 : decode cL_isProved 77 = .ok (.istore 4, 2) := by decide +kernel
theorem dL_isProved_79 : decode cL_isProved 79 = .ok (.iload 5, 2) := by decide +kernel
theorem dL_isProved_81 : decode cL_isProved 81 = .ok (.iload_n 2, 1) := by decide +kernel
theorem dL_isProved_82 : decode cL_isProved 82 = .ok (.if_icmp .eq 34, 3) := by decide +kernel
theorem dL_isProved_85 : decode cL_isProved 85 = .ok (.aload_n 3, 1) := by decide +kernel
theorem dL_isProved_86 : decode cL_isProved 86 = .ok (.aload_n 0, 1) := by decide +kernel
theorem dL_isProved_87 : decode cL_isProved 87 = .ok (.getfield 35, 3) := by decide +kernel
theorem dL_isProved_90 : decode cL_isProved 90 = .ok (.iload 6, 2) := by decide +kernel
theorem dL_isProved_92 : decode cL_isProved 92 = .ok (.iaload, 1) := by decide +kernel
theorem dL_isProved_93 : decode cL_isProved 93 = .ok (.aload_n 0, 1) := by decide +kernel
theorem dL_isProved_94 : decode cL_isProved 94 = .ok (.getfield 38, 3) := by decide +kernel
theorem dL_isProved_97 : decode cL_isProved 97 = .ok (.iload 6, 2) := by decide +kernel
theorem dL_isProved_99 : decode cL_isProved 99 = .ok (.iaload, 1) := by decide +kernel
theorem dL_isProved_100 : decode cL_isProved 100 = .ok (.aload_n 0, 1) := by decide +kernel
theorem dL_isProved_101 : decode cL_isProved 101 = .ok (.getfield 41, 3) := by decide +kernel
theorem dL_isProved_104 : decode cL_isProved 104 = .ok (.iload 6, 2) := by decide +kernel
theorem dL_isProved_106 : decode cL_isProved 106 = .ok (.iaload, 1) := by decide +kernel
theorem dL_isProved_107 : decode cL_isProved 107 = .ok (.iconst 0, 1) := by decide +kernel
theorem dL_isProved_108 : decode cL_isProved 108 = .ok (.invokevirtual 87, 3) := by decide +kernel
theorem dL_isProved_111 : decode cL_isProved 111 = .ok (.ifCond .ge 5, 3) := by decide +kernel
theorem dL_isProved_114 : decode cL_isProved 114 = .ok (.iconst 0, 1) := by decide +kernel
theorem dL_isProved_115 : decode cL_isProved 115 = .ok (.ireturn, 1) := by decide +kernel
theorem dL_isProved_116 : decode cL_isProved 116 = .ok (.iinc 5 1, 3) := by decide +kernel
theorem dL_isProved_119 : decode cL_isProved 119 = .ok (.goto (-80), 3) := by decide +kernel
theorem dL_isProved_122 : decode cL_isProved 122 = .ok (.aload_n 3, 1) := by decide +kernel
theorem dL_isProved_123 : decode cL_isProved 123 = .ok (.invokevirtual 120, 3) := by decide +kernel
theorem dL_isProved_126 : decode cL_isProved 126 = .ok (.iload_n 2, 1) := by decide +kernel
theorem dL_isProved_127 : decode cL_isProved 127 = .ok (.ifCond .lt 7, 3) := by decide +kernel
theorem dL_isProved_130 : decode cL_isProved 130 = .ok (.iconst 1, 1) := by decide +kernel
theorem dL_isProved_131 : decode cL_isProved 131 = .ok (.goto 4, 3) := by decide +kernel
theorem dL_isProved_134 : decode cL_isProved 134 = .ok (.iconst 0, 1) := by decide +kernel
theorem dL_isProved_135 : decode cL_isProved 135 = .ok (.if_icmp .eq 5, 3) := by decide +kernel
theorem dL_isProved_138 : decode cL_isProved 138 = .ok (.iconst 0, 1) := by decide +kernel
theorem dL_isProved_139 : decode cL_isProved 139 = .ok (.ireturn, 1) := by decide +kernel
theorem dL_isProved_140 : decode cL_isProved 140 = .ok (.iinc 2 1, 3) := by decide +kernel
theorem dL_isProved_143 : decode cL_isProved 143 = .ok (.goto (-133), 3) := by decide +kernel
theorem dL_isProved_146 : decode cL_isProved 146 = .ok (.iconst 1, 1) := by decide +kernel
theorem dL_isProved_147 : decode cL_isProved 147 = .ok (.ireturn, 1) := by decide +kernel
set_option maxRecDepth 20000 in
theorem lwq_L_areRooms_X11_roomOf_r1 : GoodIn wsL_areRooms wsX11_roomOf_r1 := goodIn_2 lwk_L_areRooms_in _ [(1, 11), (1, 12), (1, 13), (1, 14), (1, 15), (1, 16), (1, 9), (1, 17), (1, 18), (1, 19), (1, 20), (1, 21), (1, 22), (1, 23), (2, 0), (2, 1), (2, 2), (2, 3), (2, 4), (2, 5), (2, 6), (2, 7), (2, 8), (2, 9)] (by decide +kernel) (by decide +kernel)
set_option maxRecDepth 20000 in
theorem lwq_L_areRooms_X11_roomOf_r2 : GoodIn wsL_areRooms wsX11_roomOf_r2 := goodIn_2 lwk_L_areRooms_in _ [(2, 10), (2, 11), (2, 12), (2, 13), (2, 14), (2, 15), (2, 16), (2, 17), (2, 18), (2, 19), (2, 20), (2, 21), (2, 22), (2, 23), (3, 0), (3, 1), (3, 2), (3, 3), (3, 4), (3, 5), (3, 6), (3, 7), (3, 8), (3, 9)] (by decide +kernel) (by decide +kernel)
set_option maxRecDepth 20000 in
theorem lwq_L_areRooms_X11_roomOf_r3 : GoodIn wsL_areRooms wsX11_roomOf_r3 := goodIn_2 lwk_L_areRooms_in _ [(3, 10), (3, 11), (3, 12), (3, 13), (3, 14), (3, 15), (3, 16), (3, 17), (3, 18), (3, 19), (3, 20), (3, 21), (3, 22), (3, 23), (4, 0), (4, 1), (4, 2), (4, 3), (4, 4), (4, 5), (4, 6), (4, 7), (4, 8), (4, 9)] (by decide +kernel) (by decide +kernel)
set_option maxRecDepth 20000 in
theorem lwq_L_areRooms_X11_roomOf_r4 : GoodIn wsL_areRooms wsX11_roomOf_r4 := goodIn_2 lwk_L_areRooms_in _ [(4, 10), (4, 11), (4, 12), (4, 13), (4, 14), (4, 15), (4, 16), (4, 17), (4, 18), (4, 19), (4, 20), (4, 21), (4, 22), (4, 23)] (by decide +kernel) (by decide +kernel)
set_option maxRecDepth 20000 in
theorem ggL_areRooms_X11_roomOf : GoodIn wsL_areRooms wsX11_roomOf := goodIn_ca (goodIn_ca (goodIn_c1 (goodIn_2 lwk_L_areRooms_in _ [(1, 10)] (by decide +kernel) (by decide +kernel)) (goodIn_app (goodIn_app (goodIn_app (goodIn_app lwq_L_areRooms_X11_roomOf_r1 (goodIn_app lwq_L_areRooms_X11_roomOf_r2 (goodIn_app lwq_L_areRooms_X11_roomOf_r3 lwq_L_areRooms_X11_roomOf_r4))) (goodIn_sub (lwk_L_areRooms_in _ (List.mem_of_getElem? (i := 6) rfl)) (by decide +kernel))) (goodIn_sub (lwk_L_areRooms_in _ (List.mem_of_getElem? (i := 7) rfl)) (by decide +kernel))) (goodIn_sub (lwk_L_areRooms_in _ (List.mem_of_getElem? (i := 8) rfl)) (by decide +kernel)))) (goodIn_sub (fun _ h => List.mem_cons_of_mem _ (List.mem_append_left _ (List.mem_append_right _ h))) (by decide +kernel))) (goodIn_sub (fun _ h => List.mem_cons_of_mem _ (List.mem_append_right _ h)) (by decide +kernel))
set_option maxRecDepth 20000 in
theorem gL_areRooms_X11_roomOf : GoodIn wsL_areRooms (wsV RL 157 RX11 yX11_roomOf wsX11_roomOf) := goodIn_app (goodIn_of _ (by decide +kernel)) ggL_areRooms_X11_roomOf
theorem dL_areRooms_0 : decode cL_areRooms 0 = .ok (.iconst 0, 1) := by decide +kernel
theorem dL_areRooms_1 : decode cL_areRooms 1 = .ok (.istore_n 1, 1) := by decide +kernel
theorem dL_areRooms_2 : decode cL_areRooms 2 = .ok (.iload_n 1, 1) := by decide +kernel
theorem dL_areRooms_3 : decode cL_areRooms 3 = .ok (.aload_n 0, 1) := by decide +kernel
