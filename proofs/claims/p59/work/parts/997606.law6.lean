theorem dL_areChoices_239 : decode cL_areChoices 239 = .ok (.invokevirtual 166, 3) := by decide +kernel
theorem dL_areChoices_242 : decode cL_areChoices 242 = .ok (.iload_n 3, 1) := by decide +kernel
theorem dL_areChoices_243 : decode cL_areChoices 243 = .ok (.if_icmp .ne 7, 3) := by decide +kernel
theorem dL_areChoices_246 : decode cL_areChoices 246 = .ok (.iconst 1, 1) := by decide +kernel
theorem dL_areChoices_247 : decode cL_areChoices 247 = .ok (.goto 4, 3) := by decide +kernel
theorem dL_areChoices_250 : decode cL_areChoices 250 = .ok (.iconst 0, 1) := by decide +kernel
theorem dL_areChoices_251 : decode cL_areChoices 251 = .ok (.ireturn, 1) := by decide +kernel
set_option maxRecDepth 20000 in
theorem ggL_isImproved_L_cost : GoodIn wsL_isImproved wsL_cost := goodIn_2 lwk_L_isImproved_in _ [(1, 11), (1, 12), (1, 13), (1, 14), (1, 15), (1, 16), (1, 10), (1, 17), (1, 0), (1, 18), (1, 19), (1, 2), (1, 3), (1, 4), (1, 5), (1, 20), (1, 21), (1, 22), (1, 23), (1, 1), (2, 0), (2, 1), (2, 2), (2, 3), (2, 4), (2, 5), (2, 6), (2, 7), (12, 0), (12, 1), (12, 2), (12, 3), (12, 4), (12, 5), (12, 6), (12, 7), (12, 8), (12, 9), (12, 10), (12, 11), (12, 12), (12, 13), (12, 14), (12, 15), (12, 16)] (by decide +kernel) (by decide +kernel)
set_option maxRecDepth 20000 in
theorem gL_isImproved_L_cost : GoodIn wsL_isImproved (wsV RL 141 RL yL_cost wsL_cost) := goodIn_app (goodIn_2 lwk_L_isImproved_in _ [(1, 7), (1, 8), (1, 9), (1, 10)] (by decide +kernel) (by decide +kernel)) ggL_isImproved_L_cost
set_option maxRecDepth 20000 in
theorem ggL_isImproved_L_isGood : GoodIn wsL_isImproved wsL_isGood := goodIn_2 lwk_L_isImproved_in _ [(2, 11), (1, 12), (1, 13), (2, 12), (2, 13), (2, 14), (1, 10), (2, 15), (1, 0), (1, 1), (2, 0), (1, 19), (1, 18), (2, 16), (2, 17), (2, 18), (1, 20), (1, 21), (1, 22), (1, 23), (2, 1), (2, 2), (2, 3), (2, 4), (2, 5), (2, 6), (2, 7), (12, 0), (12, 1), (12, 2), (12, 3), (12, 4), (12, 5), (12, 6), (12, 7), (12, 8), (12, 9), (12, 10), (12, 11), (12, 12), (12, 13), (12, 14), (12, 15), (12, 16)] (by decide +kernel) (by decide +kernel)
set_option maxRecDepth 20000 in
theorem gL_isImproved_L_isGood : GoodIn wsL_isImproved (wsV RL 117 RL yL_isGood wsL_isGood) := goodIn_app (goodIn_2 lwk_L_isImproved_in _ [(2, 8), (2, 9), (2, 10), (1, 10)] (by decide +kernel) (by decide +kernel)) ggL_isImproved_L_isGood
set_option maxRecDepth 20000 in
theorem ggL_isImproved_X11_checksum : GoodIn wsL_isImproved wsX11_checksum := goodIn_2 lwk_L_isImproved_in _ [(2, 23), (3, 0), (3, 1), (3, 2), (3, 3), (3, 4), (3, 5), (3, 6), (3, 7), (3, 8), (3, 9), (3, 10), (3, 11), (13, 0), (13, 1), (13, 2), (13, 3), (13, 4), (13, 5), (13, 6), (13, 7), (13, 8), (13, 9), (13, 10), (14, 0), (14, 1)] (by decide +kernel) (by decide +kernel)
set_option maxRecDepth 20000 in
theorem gL_isImproved_X11_checksum : GoodIn wsL_isImproved (wsV RL 126 RX11 yX11_checksum wsX11_checksum) := goodIn_app (goodIn_2 lwk_L_isImproved_in _ [(2, 19), (2, 20), (2, 21), (2, 22)] (by decide +kernel) (by decide +kernel)) ggL_isImproved_X11_checksum
set_option maxRecDepth 20000 in
theorem lwq_L_isImproved_X11_improve_r1 : GoodIn wsL_isImproved wsX11_improve_r1 := goodIn_2 lwk_L_isImproved_in _ [(3, 16), (3, 0), (3, 17), (3, 18), (3, 19), (3, 20), (3, 21), (2, 22), (3, 22), (3, 23), (4, 0), (3, 2), (3, 3), (3, 4), (3, 5), (3, 6), (3, 7), (4, 1), (4, 2), (4, 3), (4, 4), (4, 5), (4, 6), (4, 7)] (by decide +kernel) (by decide +kernel)
set_option maxRecDepth 20000 in
theorem lwq_L_isImproved_X11_improve_r2 : GoodIn wsL_isImproved wsX11_improve_r2 := goodIn_2 lwk_L_isImproved_in _ [(4, 8), (4, 9), (4, 10), (4, 11), (4, 12), (4, 13), (4, 14), (4, 15), (4, 16), (4, 17), (4, 18), (4, 19), (3, 9), (3, 10), (3, 11), (4, 20), (4, 21), (4, 22), (4, 23), (5, 0), (5, 1), (5, 2), (5, 3), (5, 4)] (by decide +kernel) (by decide +kernel)
set_option maxRecDepth 20000 in
theorem lwq_L_isImproved_X11_improve_r3 : GoodIn wsL_isImproved wsX11_improve_r3 := goodIn_2 lwk_L_isImproved_in _ [(5, 5), (5, 6), (5, 7), (5, 8), (5, 9), (5, 10), (5, 11), (5, 12), (5, 13), (5, 14), (5, 15), (5, 16), (5, 17), (5, 18), (5, 19), (5, 20), (5, 21), (5, 22), (5, 23), (6, 0), (6, 1), (6, 2), (6, 3), (6, 4)] (by decide +kernel) (by decide +kernel)
set_option maxRecDepth 20000 in
theorem lwq_L_isImproved_X11_improve_r4 : GoodIn wsL_isImproved wsX11_improve_r4 := goodIn_2 lwk_L_isImproved_in _ [(6, 5), (6, 6), (6, 7), (6, 8), (6, 9), (6, 10), (6, 11), (6, 12), (6, 13), (6, 14), (6, 15), (6, 16), (6, 17), (6, 18), (6, 19), (6, 20), (6, 21), (6, 22), (6, 23), (7, 0), (7, 1), (7, 2), (7, 3), (7, 4)] (by decide +kernel) (by decide +kernel)
set_option maxRecDepth 20000 in
theorem lwq_L_isImproved_X11_improve_r5 : GoodIn wsL_isImproved wsX11_improve_r5 := goodIn_2 lwk_L_isImproved_in _ [(7, 5), (7, 6), (7, 7), (7, 8), (7, 9), (7, 10), (7, 11), (7, 12), (7, 13), (7, 14), (7, 15), (7, 16), (7, 17), (7, 18), (7, 19), (7, 20), (7, 21), (7, 22), (7, 23), (8, 0), (8, 1), (8, 2), (8, 3), (8, 4)] (by decide +kernel) (by decide +kernel)
set_option maxRecDepth 20000 in
theorem lwq_L_isImproved_X11_improve_r6 : GoodIn wsL_isImproved wsX11_improve_r6 := goodIn_2 lwk_L_isImproved_in _ [(8, 5), (8, 6), (8, 7), (8, 8), (8, 9), (8, 10), (8, 11), (8, 12), (8, 13), (8, 14), (8, 15), (8, 16), (8, 17), (8, 18), (8, 19), (8, 20), (8, 21), (8, 22), (8, 23), (9, 0), (9, 1), (9, 2), (9, 3), (9, 4)] (by decide +kernel) (by decide +kernel)
set_option maxRecDepth 20000 in
theorem lwq_L_isImproved_X11_improve_r7 : GoodIn wsL_isImproved wsX11_improve_r7 := goodIn_2 lwk_L_isImproved_in _ [(9, 5), (9, 6), (9, 7), (9, 8), (9, 9), (9, 10), (9, 11), (9, 12), (9, 13), (9, 14), (9, 15), (9, 16), (9, 17), (9, 18), (9, 19), (9, 20), (9, 21), (9, 22), (9, 23), (10, 0), (10, 1), (10, 2), (10, 3), (10, 4)] (by decide +kernel) (by decide +kernel)
set_option maxRecDepth 20000 in
theorem lwq_L_isImproved_X11_improve_r8 : GoodIn wsL_isImproved wsX11_improve_r8 := goodIn_2 lwk_L_isImproved_in _ [(1, 3), (1, 4), (1, 5), (10, 5), (10, 6), (10, 7), (10, 8), (10, 9), (10, 10), (10, 11), (10, 12), (10, 13), (10, 14), (10, 15), (10, 16)] (by decide +kernel) (by decide +kernel)
set_option maxRecDepth 20000 in
theorem ggL_isImproved_X11_improve : GoodIn wsL_isImproved wsX11_improve := goodIn_ca (goodIn_c1 (goodIn_2 lwk_L_isImproved_in _ [(3, 15)] (by decide +kernel) (by decide +kernel)) (goodIn_app (goodIn_app (goodIn_app (goodIn_app (goodIn_app (goodIn_app (goodIn_app lwq_L_isImproved_X11_improve_r1 (goodIn_app lwq_L_isImproved_X11_improve_r2 (goodIn_app lwq_L_isImproved_X11_improve_r3 (goodIn_app lwq_L_isImproved_X11_improve_r4 (goodIn_app lwq_L_isImproved_X11_improve_r5 (goodIn_app lwq_L_isImproved_X11_improve_r6 (goodIn_app lwq_L_isImproved_X11_improve_r7 lwq_L_isImproved_X11_improve_r8))))))) (goodIn_sub (lwk_L_isImproved_in _ (List.mem_of_getElem? (i := 13) rfl)) (by decide +kernel))) (goodIn_sub (lwk_L_isImproved_in _ (List.mem_of_getElem? (i := 15) rfl)) (by decide +kernel))) (goodIn_sub (lwk_L_isImproved_in _ (List.mem_of_getElem? (i := 14) rfl)) (by decide +kernel))) (goodIn_sub (lwk_L_isImproved_in _ (List.mem_of_getElem? (i := 16) rfl)) (by decide +kernel))) (goodIn_sub (lwk_L_isImproved_in _ (List.mem_of_getElem? (i := 17) rfl)) (by decide +kernel))) (goodIn_sub (lwk_L_isImproved_in _ (List.mem_of_getElem? (i := 18) rfl)) (by decide +kernel)))) (goodIn_sub (fun _ h => List.mem_cons_of_mem _ (List.mem_append_left _ (List.mem_append_right _ h))) (by decide +kernel))
set_option maxRecDepth 20000 in
theorem gL_isImproved_X11_improve : GoodIn wsL_isImproved (wsV RL 169 RX11 yX11_improve wsX11_improve) := goodIn_app (goodIn_2 lwk_L_isImproved_in _ [(3, 12), (3, 13), (3, 14), (2, 22)] (by decide +kernel) (by decide +kernel)) ggL_isImproved_X11_improve
set_option maxRecDepth 20000 in
theorem ggL_isImproved_L_looks : GoodIn wsL_isImproved wsL_looks := goodIn_ca (goodIn_ca (goodIn_2 lwk_L_isImproved_in _ [(10, 20), (1, 0), (1, 1), (1, 6), (10, 21), (10, 22), (10, 23), (2, 22), (11, 0), (3, 0), (3, 1), (11, 1), (11, 2), (11, 3), (11, 4), (11, 5), (11, 6), (3, 8), (3, 9), (3, 10), (3, 5), (3, 11), (3, 7), (3, 19), (3, 20), (3, 21), (3, 22), (3, 23), (4, 0), (3, 2), (3, 3), (3, 4), (3, 6), (12, 0), (12, 1), (12, 2), (12, 3), (12, 4), (12, 5), (12, 6), (12, 7), (12, 8), (12, 9), (12, 10), (12, 11), (12, 12), (12, 13), (12, 14), (12, 15), (12, 16), (13, 0), (13, 1), (13, 2), (13, 3), (13, 4), (13, 5), (13, 6), (13, 7), (13, 8), (13, 9), (13, 10), (14, 0), (14, 1)] (by decide +kernel) (by decide +kernel)) (goodIn_sub (fun _ h => List.mem_cons_of_mem _ (List.mem_append_right _ h)) (by decide +kernel))) (goodIn_sub (fun _ h => List.mem_cons_of_mem _ (List.mem_append_left _ (List.mem_append_right _ h))) (by decide +kernel))
set_option maxRecDepth 20000 in
theorem gL_isImproved_L_looks : GoodIn wsL_isImproved (wsV RL 132 RL yL_looks wsL_looks) := goodIn_app (goodIn_2 lwk_L_isImproved_in _ [(10, 17), (10, 18), (10, 19), (1, 10)] (by decide +kernel) (by decide +kernel)) ggL_isImproved_L_looks
set_option maxRecDepth 20000 in
theorem ggL_isImproved_X11_cost : GoodIn wsL_isImproved wsX11_cost := goodIn_ca (goodIn_2 lwk_L_isImproved_in _ [(11, 10), (3, 17), (3, 0), (3, 1), (3, 19), (3, 20), (3, 21), (2, 22), (3, 22), (3, 23), (4, 0), (3, 2), (3, 3), (3, 4), (3, 5), (3, 6), (3, 7), (11, 11), (7, 0), (7, 1), (6, 13), (7, 2), (7, 3), (7, 4), (7, 5), (7, 6), (7, 7), (3, 9), (3, 10), (3, 11), (7, 8), (6, 7), (6, 8), (6, 9), (7, 9), (7, 10), (7, 11), (7, 12), (7, 13), (7, 14), (7, 15), (7, 16), (7, 17), (7, 18), (7, 19), (7, 20), (7, 21), (7, 22), (7, 23), (8, 0), (8, 1), (8, 2), (8, 3), (8, 4), (8, 5), (8, 6), (4, 6), (4, 7), (4, 8), (8, 7), (4, 10), (4, 11), (4, 12), (8, 8), (8, 9), (8, 10), (8, 11), (4, 9), (8, 12), (13, 0), (13, 1), (13, 2), (13, 3), (13, 4), (13, 5), (13, 6), (13, 7), (13, 8), (13, 9), (13, 10), (14, 0), (14, 1)] (by decide +kernel) (by decide +kernel)) (goodIn_sub (fun _ h => List.mem_cons_of_mem _ (List.mem_append_left _ (List.mem_append_right _ h))) (by decide +kernel))
set_option maxRecDepth 20000 in
theorem gL_isImproved_X11_cost : GoodIn wsL_isImproved (wsV RL 138 RX11 yX11_cost wsX11_cost) := goodIn_app (goodIn_2 lwk_L_isImproved_in _ [(11, 7), (11, 8), (11, 9), (2, 22)] (by decide +kernel) (by decide +kernel)) ggL_isImproved_X11_cost
theorem dL_isImproved_0 : decode cL_isImproved 0 = .ok (.iconst 0, 1) := by decide +kernel
theorem dL_isImproved_1 : decode cL_isImproved 1 = .ok (.istore_n 1, 1) := by decide +kernel
theorem dL_isImproved_2 : decode cL_isImproved 2 = .ok (.iload_n 1, 1) := by decide +kernel
theorem dL_isImproved_3 : decode cL_isImproved 3 = .ok (.bipush 6, 2) := by decide +kernel
theorem dL_isImproved_5 : decode cL_isImproved 5 = .ok (.if_icmp .ge 253, 3) := by decide +kernel
theorem dL_isImproved_8 : decode cL_isImproved 8 = .ok (.aload_n 0, 1) := by decide +kernel
theorem dL_isImproved_9 : decode cL_isImproved 9 = .ok (.invokevirtual 141, 3) := by decide +kernel
theorem dL_isImproved_12 : decode cL_isImproved 12 = .ok (.istore_n 2, 1) := by decide +kernel
theorem dL_isImproved_13 : decode cL_isImproved 13 = .ok (.iload_n 2, 1) := by decide +kernel
theorem dL_isImproved_14 : decode cL_isImproved 14 = .ok (.istore_n 3, 1) := by decide +kernel
theorem dL_isImproved_15 : decode cL_isImproved 15 = .ok (.iconst 0, 1) := by decide +kernel
theorem dL_isImproved_16 : decode cL_isImproved 16 = .ok (.istore 4, 2) := by decide +kernel
theorem dL_isImproved_18 : decode cL_isImproved 18 = .ok (.iload 4, 2) := by decide +kernel
theorem dL_isImproved_20 : decode cL_isImproved 20 = .ok (.aload_n 0, 1) := by decide +kernel
theorem dL_isImproved_21 : decode cL_isImproved 21 = .ok (.getfield 66, 3) := by decide +kernel
theorem dL_isImproved_24 : decode cL_isImproved 24 = .ok (.if_icmp .ge 145, 3) := by decide +kernel
theorem dL_isImproved_27 : decode cL_isImproved 27 = .ok (.aload_n 0, 1) := by decide +kernel
theorem dL_isImproved_28 : decode cL_isImproved 28 = .ok (.getfield 32, 3) := by decide +kernel
theorem dL_isImproved_31 : decode cL_isImproved 31 = .ok (.iload 4, 2) := by decide +kernel
theorem dL_isImproved_33 : decode cL_isImproved 33 = .ok (.iaload, 1) := by decide +kernel
theorem dL_isImproved_34 : decode cL_isImproved 34 = .ok (.istore 5, 2) := by decide +kernel
theorem dL_isImproved_36 : decode cL_isImproved 36 = .ok (.iconst 0, 1) := by decide +kernel
theorem dL_isImproved_37 : decode cL_isImproved 37 = .ok (.istore 6, 2) := by decide +kernel
theorem dL_isImproved_39 : decode cL_isImproved 39 = .ok (.iload 6, 2) := by decide +kernel
theorem dL_isImproved_41 : decode cL_isImproved 41 = .ok (.bipush 20, 2) := by decide +kernel
theorem dL_isImproved_43 : decode cL_isImproved 43 = .ok (.if_icmp .ge 34, 3) := by decide +kernel
theorem dL_isImproved_46 : decode cL_isImproved 46 = .ok (.aload_n 0, 1) := by decide +kernel
theorem dL_isImproved_47 : decode cL_isImproved 47 = .ok (.getfield 32, 3) := by decide +kernel
theorem dL_isImproved_50 : decode cL_isImproved 50 = .ok (.iload 4, 2) := by decide +kernel
theorem dL_isImproved_52 : decode cL_isImproved 52 = .ok (.iload 6, 2) := by decide +kernel
theorem dL_isImproved_54 : decode cL_isImproved 54 = .ok (.iastore, 1) := by decide +kernel
theorem dL_isImproved_55 : decode cL_isImproved 55 = .ok (.aload_n 0, 1) := by decide +kernel
theorem dL_isImproved_56 : decode cL_isImproved 56 = .ok (.invokevirtual 117, 3) := by decide +kernel
theorem dL_isImproved_59 : decode cL_isImproved 59 = .ok (.ifCond .eq 12, 3) := by decide +kernel
theorem dL_isImproved_62 : decode cL_isImproved 62 = .ok (.iload_n 3, 1) := by decide +kernel
theorem dL_isImproved_63 : decode cL_isImproved 63 = .ok (.aload_n 0, 1) := by decide +kernel
theorem dL_isImproved_64 : decode cL_isImproved 64 = .ok (.invokevirtual 141, 3) := by decide +kernel
theorem dL_isImproved_67 : decode cL_isImproved 67 = .ok (.invokestatic 105, 3) := by decide +kernel
theorem dL_isImproved_70 : decode cL_isImproved 70 = .ok (.istore_n 3, 1) := by decide +kernel
theorem dL_isImproved_71 : decode cL_isImproved 71 = .ok (.iinc 6 1, 3) := by decide +kernel
theorem dL_isImproved_74 : decode cL_isImproved 74 = .ok (.goto (-35), 3) := by decide +kernel
theorem dL_isImproved_77 : decode cL_isImproved 77 = .ok (.aload_n 0, 1) := by decide +kernel
theorem dL_isImproved_78 : decode cL_isImproved 78 = .ok (.getfield 32, 3) := by decide +kernel
theorem dL_isImproved_81 : decode cL_isImproved 81 = .ok (.iload 4, 2) := by decide +kernel
theorem dL_isImproved_83 : decode cL_isImproved 83 = .ok (.iload 5, 2) := by decide +kernel
theorem dL_isImproved_85 : decode cL_isImproved 85 = .ok (.iastore, 1) := by decide +kernel
theorem dL_isImproved_86 : decode cL_isImproved 86 = .ok (.iconst 0, 1) := by decide +kernel
theorem dL_isImproved_87 : decode cL_isImproved 87 = .ok (.istore 6, 2) := by decide +kernel
theorem dL_isImproved_89 : decode cL_isImproved 89 = .ok (.iload 6, 2) := by decide +kernel
theorem dL_isImproved_91 : decode cL_isImproved 91 = .ok (.iload 4, 2) := by decide +kernel
theorem dL_isImproved_93 : decode cL_isImproved 93 = .ok (.if_icmp .ge 70, 3) := by decide +kernel
theorem dL_isImproved_96 : decode cL_isImproved 96 = .ok (.aload_n 0, 1) := by decide +kernel
theorem dL_isImproved_97 : decode cL_isImproved 97 = .ok (.getfield 32, 3) := by decide +kernel
theorem dL_isImproved_100 : decode cL_isImproved 100 = .ok (.iload 6, 2) := by decide +kernel
theorem dL_isImproved_102 : decode cL_isImproved 102 = .ok (.iaload, 1) := by decide +kernel
theorem dL_isImproved_103 : decode cL_isImproved 103 = .ok (.istore 7, 2) := by decide +kernel
theorem dL_isImproved_105 : decode cL_isImproved 105 = .ok (.aload_n 0, 1) := by decide +kernel
theorem dL_isImproved_106 : decode cL_isImproved 106 = .ok (.getfield 32, 3) := by decide +kernel
theorem dL_isImproved_109 : decode cL_isImproved 109 = .ok (.iload 6, 2) := by decide +kernel
theorem dL_isImproved_111 : decode cL_isImproved 111 = .ok (.iload 5, 2) := by decide +kernel
theorem dL_isImproved_113 : decode cL_isImproved 113 = .ok (.iastore, 1) := by decide +kernel
theorem dL_isImproved_114 : decode cL_isImproved 114 = .ok (.aload_n 0, 1) := by decide +kernel
theorem dL_isImproved_115 : decode cL_isImproved 115 = .ok (.getfield 32, 3) := by decide +kernel
theorem dL_isImproved_118 : decode cL_isImproved 118 = .ok (.iload 4, 2) := by decide +kernel
theorem dL_isImproved_120 : decode cL_isImproved 120 = .ok (.iload 7, 2) := by decide +kernel
theorem dL_isImproved_122 : decode cL_isImproved 122 = .ok (.iastore, 1) := by decide +kernel
theorem dL_isImproved_123 : decode cL_isImproved 123 = .ok (.aload_n 0, 1) := by decide +kernel
theorem dL_isImproved_124 : decode cL_isImproved 124 = .ok (.invokevirtual 117, 3) := by decide +kernel
theorem dL_isImproved_127 : decode cL_isImproved 127 = .ok (.ifCond .eq 12, 3) := by decide +kernel
theorem dL_isImproved_130 : decode cL_isImproved 130 = .ok (.iload_n 3, 1) := by decide +kernel
theorem dL_isImproved_131 : decode cL_isImproved 131 = .ok (.aload_n 0, 1) := by decide +kernel
theorem dL_isImproved_132 : decode cL_isImproved 132 = .ok (.invokevirtual 141, 3) := by decide +kernel
theorem dL_isImproved_135 : decode cL_isImproved 135 = .ok (.invokestatic 105, 3) := by decide +kernel
theorem dL_isImproved_138 : decode cL_isImproved 138 = .ok (.istore_n 3, 1) := by decide +kernel
theorem dL_isImproved_139 : decode cL_isImproved 139 = .ok (.aload_n 0, 1) := by decide +kernel
theorem dL_isImproved_140 : decode cL_isImproved 140 = .ok (.getfield 32, 3) := by decide +kernel
theorem dL_isImproved_143 : decode cL_isImproved 143 = .ok (.iload 6, 2) := by decide +kernel
theorem dL_isImproved_145 : decode cL_isImproved 145 = .ok (.iload 7, 2) := by decide +kernel
theorem dL_isImproved_147 : decode cL_isImproved 147 = .ok (.iastore, 1) := by decide +kernel
theorem dL_isImproved_148 : decode cL_isImproved 148 = .ok (.aload_n 0, 1) := by decide +kernel
theorem dL_isImproved_149 : decode cL_isImproved 149 = .ok (.getfield 32, 3) := by decide +kernel
theorem dL_isImproved_152 : decode cL_isImproved 152 = .ok (.iload 4, 2) := by decide +kernel
theorem dL_isImproved_154 : decode cL_isImproved 154 = .ok (.iload 5, 2) := by decide +kernel
theorem dL_isImproved_156 : decode cL_isImproved 156 = .ok (.iastore, 1) := by decide +kernel
theorem dL_isImproved_157 : decode cL_isImproved 157 = .ok (.iinc 6 1, 3) := by decide +kernel
theorem dL_isImproved_160 : decode cL_isImproved 160 = .ok (.goto (-71), 3) := by decide +kernel
theorem dL_isImproved_163 : decode cL_isImproved 163 = .ok (.iinc 4 1, 3) := by decide +kernel
theorem dL_isImproved_166 : decode cL_isImproved 166 = .ok (.goto (-148), 3) := by decide +kernel
theorem dL_isImproved_169 : decode cL_isImproved 169 = .ok (.aload_n 0, 1) := by decide +kernel
theorem dL_isImproved_170 : decode cL_isImproved 170 = .ok (.getfield 10, 3) := by decide +kernel
theorem dL_isImproved_173 : decode cL_isImproved 173 = .ok (.invokevirtual 126, 3) := by decide +kernel
theorem dL_isImproved_176 : decode cL_isImproved 176 = .ok (.istore 4, 2) := by decide +kernel
theorem dL_isImproved_178 : decode cL_isImproved 178 = .ok (.aload_n 0, 1) := by decide +kernel
theorem dL_isImproved_179 : decode cL_isImproved 179 = .ok (.getfield 10, 3) := by decide +kernel
theorem dL_isImproved_182 : decode cL_isImproved 182 = .ok (.invokevirtual 169, 3) := by decide +kernel
theorem dL_isImproved_185 : decode cL_isImproved 185 = .ok (.istore 5, 2) := by decide +kernel
theorem dL_isImproved_187 : decode cL_isImproved 187 = .ok (.iload 5, 2) := by decide +kernel
theorem dL_isImproved_189 : decode cL_isImproved 189 = .ok (.iload_n 2, 1) := by decide +kernel
theorem dL_isImproved_190 : decode cL_isImproved 190 = .ok (.iload_n 3, 1) := by decide +kernel
theorem dL_isImproved_191 : decode cL_isImproved 191 = .ok (.isub, 1) := by decide +kernel
theorem dL_isImproved_192 : decode cL_isImproved 192 = .ok (.if_icmp .eq 5, 3) := by decide +kernel
theorem dL_isImproved_195 : decode cL_isImproved 195 = .ok (.iconst 0, 1) := by decide +kernel
theorem dL_isImproved_196 : decode cL_isImproved 196 = .ok (.ireturn, 1) := by decide +kernel
theorem dL_isImproved_197 : decode cL_isImproved 197 = .ok (.aload_n 0, 1) := by decide +kernel
theorem dL_isImproved_198 : decode cL_isImproved 198 = .ok (.invokevirtual 132, 3) := by decide +kernel
theorem dL_isImproved_201 : decode cL_isImproved 201 = .ok (.aload_n 0, 1) := by decide +kernel
theorem dL_isImproved_202 : decode cL_isImproved 202 = .ok (.invokevirtual 117, 3) := by decide +kernel
theorem dL_isImproved_205 : decode cL_isImproved 205 = .ok (.ifCond .eq 22, 3) := by decide +kernel
theorem dL_isImproved_208 : decode cL_isImproved 208 = .ok (.aload_n 0, 1) := by decide +kernel
theorem dL_isImproved_209 : decode cL_isImproved 209 = .ok (.invokevirtual 141, 3) := by decide +kernel
theorem dL_isImproved_212 : decode cL_isImproved 212 = .ok (.iload_n 3, 1) := by decide +kernel
theorem dL_isImproved_213 : decode cL_isImproved 213 = .ok (.if_icmp .ne 14, 3) := by decide +kernel
theorem dL_isImproved_216 : decode cL_isImproved 216 = .ok (.aload_n 0, 1) := by decide +kernel
theorem dL_isImproved_217 : decode cL_isImproved 217 = .ok (.getfield 10, 3) := by decide +kernel
theorem dL_isImproved_220 : decode cL_isImproved 220 = .ok (.invokevirtual 138, 3) := by decide +kernel
theorem dL_isImproved_223 : decode cL_isImproved 223 = .ok (.iload_n 3, 1) := by decide +kernel
theorem dL_isImproved_224 : decode cL_isImproved 224 = .ok (.if_icmp .eq 5, 3) := by decide +kernel
theorem dL_isImproved_227 : decode cL_isImproved 227 = .ok (.iconst 0, 1) := by decide +kernel
theorem dL_isImproved_228 : decode cL_isImproved 228 = .ok (.ireturn, 1) := by decide +kernel
theorem dL_isImproved_229 : decode cL_isImproved 229 = .ok (.iload 5, 2) := by decide +kernel
theorem dL_isImproved_231 : decode cL_isImproved 231 = .ok (.ifCond .ne 21, 3) := by decide +kernel
theorem dL_isImproved_234 : decode cL_isImproved 234 = .ok (.aload_n 0, 1) := by decide +kernel
theorem dL_isImproved_235 : decode cL_isImproved 235 = .ok (.getfield 10, 3) := by decide +kernel
theorem dL_isImproved_238 : decode cL_isImproved 238 = .ok (.invokevirtual 126, 3) := by decide +kernel
theorem dL_isImproved_241 : decode cL_isImproved 241 = .ok (.iload 4, 2) := by decide +kernel
theorem dL_isImproved_243 : decode cL_isImproved 243 = .ok (.if_icmp .ne 7, 3) := by decide +kernel
theorem dL_isImproved_246 : decode cL_isImproved 246 = .ok (.iconst 1, 1) := by decide +kernel
theorem dL_isImproved_247 : decode cL_isImproved 247 = .ok (.goto 4, 3) := by decide +kernel
theorem dL_isImproved_250 : decode cL_isImproved 250 = .ok (.iconst 0, 1) := by decide +kernel
theorem dL_isImproved_251 : decode cL_isImproved 251 = .ok (.ireturn, 1) := by decide +kernel
theorem dL_isImproved_252 : decode cL_isImproved 252 = .ok (.iinc 1 1, 3) := by decide +kernel
theorem dL_isImproved_255 : decode cL_isImproved 255 = .ok (.goto (-253), 3) := by decide +kernel
theorem dL_isImproved_258 : decode cL_isImproved 258 = .ok (.iconst 1, 1) := by decide +kernel
theorem dL_isImproved_259 : decode cL_isImproved 259 = .ok (.ireturn, 1) := by decide +kernel
set_option maxRecDepth 20000 in
theorem ggL_isTold_X11_checksum : GoodIn wsL_isTold wsX11_checksum := goodIn_2 lwk_L_isTold_in _ [(1, 7), (1, 8), (1, 9), (1, 10), (1, 11), (1, 12), (1, 13), (1, 14), (1, 15), (1, 16), (1, 17), (1, 18), (1, 19), (20, 0), (20, 1), (20, 2), (20, 3), (20, 4), (20, 5), (20, 6), (20, 7), (20, 8), (20, 9), (20, 10), (21, 0), (21, 1)] (by decide +kernel) (by decide +kernel)
set_option maxRecDepth 20000 in
theorem gL_isTold_X11_checksum : GoodIn wsL_isTold (wsV RL 126 RX11 yX11_checksum wsX11_checksum) := goodIn_app (goodIn_2 lwk_L_isTold_in _ [(1, 3), (1, 4), (1, 5), (1, 6)] (by decide +kernel) (by decide +kernel)) ggL_isTold_X11_checksum
set_option maxRecDepth 20000 in
theorem ggL_isTold_X11_write : GoodIn wsL_isTold wsX11_write := goodIn_ca (goodIn_2 lwk_L_isTold_in _ [(1, 23), (2, 0), (1, 8), (2, 1), (2, 2), (2, 3), (1, 6), (2, 4), (2, 5), (2, 6), (1, 10), (1, 11), (1, 12), (1, 13), (1, 14), (1, 15), (2, 7), (2, 8), (2, 9), (2, 10), (2, 11), (2, 12), (2, 13), (2, 14), (2, 15), (1, 17), (1, 18), (1, 19), (2, 16), (2, 17), (2, 18), (2, 19), (2, 20), (2, 21), (2, 22), (2, 23), (3, 0), (3, 1), (3, 2), (3, 3), (3, 4), (3, 5), (3, 6), (3, 7), (3, 8), (3, 9), (3, 10), (3, 11), (3, 12), (3, 13), (3, 14), (3, 15), (3, 16), (3, 17), (3, 18), (3, 19), (3, 20), (3, 21), (3, 22), (3, 23), (4, 0), (4, 1), (4, 2), (4, 3), (4, 4), (4, 5), (4, 6), (4, 7), (4, 8), (4, 9), (4, 10), (4, 11), (4, 12), (20, 0), (20, 1), (20, 2), (20, 3), (20, 4), (20, 5), (20, 6), (20, 7), (20, 8), (20, 9), (20, 10), (21, 0), (21, 1), (22, 0), (22, 1), (22, 2), (22, 3), (22, 4), (22, 5), (22, 6), (22, 7)] (by decide +kernel) (by decide +kernel)) (goodIn_sub (fun _ h => List.mem_cons_of_mem _ (List.mem_append_left _ (List.mem_append_left _ (List.mem_append_right _ h)))) (by decide +kernel))
set_option maxRecDepth 20000 in
theorem gL_isTold_X11_write : GoodIn wsL_isTold (wsV RL 172 RX11 yX11_write wsX11_write) := goodIn_app (goodIn_2 lwk_L_isTold_in _ [(1, 20), (1, 21), (1, 22), (1, 6)] (by decide +kernel) (by decide +kernel)) ggL_isTold_X11_write
set_option maxRecDepth 20000 in
theorem ggL_isTold_X11_writtenAt : GoodIn wsL_isTold wsX11_writtenAt := goodIn_ca (goodIn_2 lwk_L_isTold_in _ [(4, 16), (4, 17), (4, 18), (2, 0), (4, 19), (4, 20), (20, 0), (20, 1), (20, 2), (20, 3), (20, 4), (20, 5), (20, 6), (20, 7), (20, 8), (20, 9), (20, 10), (22, 0), (22, 1), (22, 2), (22, 3), (22, 4), (22, 5), (22, 6), (22, 7)] (by decide +kernel) (by decide +kernel)) (goodIn_sub (fun _ h => List.mem_cons_of_mem _ (List.mem_append_left _ (List.mem_append_right _ h))) (by decide +kernel))
set_option maxRecDepth 20000 in
theorem gL_isTold_X11_writtenAt : GoodIn wsL_isTold (wsV RL 175 RX11 yX11_writtenAt wsX11_writtenAt) := goodIn_app (goodIn_2 lwk_L_isTold_in _ [(4, 13), (4, 14), (4, 15), (1, 6)] (by decide +kernel) (by decide +kernel)) ggL_isTold_X11_writtenAt
set_option maxRecDepth 20000 in
theorem ggL_isTold_X11_append : GoodIn wsL_isTold wsX11_append := goodIn_ca (goodIn_2 lwk_L_isTold_in _ [(5, 0), (2, 5), (2, 6), (2, 0), (5, 1), (5, 2), (5, 3), (5, 4), (2, 10), (5, 5), (5, 6), (5, 7), (5, 8), (5, 9), (5, 10), (5, 11), (20, 0), (20, 1), (20, 2), (20, 3), (20, 4), (20, 5), (20, 6), (20, 7), (20, 8), (20, 9), (20, 10), (22, 0), (22, 1), (22, 2), (22, 3), (22, 4), (22, 5), (22, 6), (22, 7)] (by decide +kernel) (by decide +kernel)) (goodIn_sub (fun _ h => List.mem_cons_of_mem _ (List.mem_append_left _ (List.mem_append_left _ (List.mem_append_right _ h)))) (by decide +kernel))
set_option maxRecDepth 20000 in
theorem gL_isTold_X11_append : GoodIn wsL_isTold (wsV RL 179 RX11 yX11_append wsX11_append) := goodIn_app (goodIn_2 lwk_L_isTold_in _ [(4, 21), (4, 22), (4, 23), (1, 6)] (by decide +kernel) (by decide +kernel)) ggL_isTold_X11_append
set_option maxRecDepth 20000 in
theorem lwq_L_isTold_X11_read_r1 : GoodIn wsL_isTold wsX11_read_r1 := goodIn_2 lwk_L_isTold_in _ [(5, 16), (5, 17), (2, 5), (2, 6), (2, 0), (1, 8), (5, 18), (5, 19), (5, 20), (1, 9), (5, 21), (5, 22), (5, 23), (2, 10), (6, 0), (6, 1), (6, 2), (5, 10), (5, 11), (6, 3), (6, 4), (6, 5), (6, 6), (6, 7)] (by decide +kernel) (by decide +kernel)
set_option maxRecDepth 20000 in
theorem lwq_L_isTold_X11_read_r2 : GoodIn wsL_isTold wsX11_read_r2 := goodIn_2 lwk_L_isTold_in _ [(6, 8), (6, 9), (6, 10), (6, 11), (2, 15), (1, 17), (1, 18), (1, 13), (1, 19), (1, 15), (6, 12), (6, 13), (6, 14), (6, 15), (6, 16), (2, 16), (2, 17), (2, 18), (2, 19), (2, 20), (2, 21), (2, 22), (2, 23), (3, 0)] (by decide +kernel) (by decide +kernel)
set_option maxRecDepth 20000 in
theorem lwq_L_isTold_X11_read_r3 : GoodIn wsL_isTold wsX11_read_r3 := goodIn_2 lwk_L_isTold_in _ [(3, 1), (3, 2), (3, 3), (3, 4), (3, 5), (3, 6), (3, 7), (3, 8), (3, 9), (3, 10), (3, 11), (3, 12), (3, 13), (3, 14), (3, 15), (3, 16), (3, 17), (3, 18), (3, 19), (3, 20), (3, 21), (3, 22), (3, 23), (4, 0)] (by decide +kernel) (by decide +kernel)
set_option maxRecDepth 20000 in
theorem lwq_L_isTold_X11_read_r4 : GoodIn wsL_isTold wsX11_read_r4 := goodIn_2 lwk_L_isTold_in _ [(4, 1), (4, 2), (4, 3), (4, 4), (4, 5), (4, 6), (4, 7), (4, 8), (4, 9), (4, 10), (4, 11), (4, 12), (6, 17), (6, 18), (6, 19), (6, 20), (6, 21), (6, 22), (6, 23), (7, 0), (7, 1), (7, 2), (7, 3), (7, 4)] (by decide +kernel) (by decide +kernel)
set_option maxRecDepth 20000 in
theorem lwq_L_isTold_X11_read_r5 : GoodIn wsL_isTold wsX11_read_r5 := goodIn_2 lwk_L_isTold_in _ [(7, 5), (7, 6), (7, 7), (7, 8), (7, 9), (7, 10), (7, 11), (7, 12), (7, 13), (7, 14), (7, 15), (7, 16), (7, 17), (7, 18), (7, 19), (7, 20), (7, 21), (7, 22), (7, 23), (8, 0), (8, 1), (8, 2), (8, 3), (8, 4)] (by decide +kernel) (by decide +kernel)
set_option maxRecDepth 20000 in
theorem lwq_L_isTold_X11_read_r6 : GoodIn wsL_isTold wsX11_read_r6 := goodIn_2 lwk_L_isTold_in _ [(8, 5), (8, 6), (8, 7), (8, 8), (8, 9), (8, 10), (8, 11), (8, 12), (8, 13), (8, 14), (8, 15), (8, 16), (8, 17), (8, 18), (8, 19), (8, 20), (8, 21), (8, 22), (8, 23), (9, 0), (9, 1), (9, 2), (9, 3), (9, 4)] (by decide +kernel) (by decide +kernel)
set_option maxRecDepth 20000 in
theorem lwq_L_isTold_X11_read_r7 : GoodIn wsL_isTold wsX11_read_r7 := goodIn_2 lwk_L_isTold_in _ [(9, 5), (9, 6), (9, 7), (9, 8), (9, 9), (9, 10), (9, 11), (9, 12), (9, 13), (9, 14), (9, 15), (9, 16), (9, 17), (9, 18), (9, 19), (9, 20), (9, 21), (1, 6), (9, 22), (9, 23), (10, 0), (10, 1), (10, 2), (10, 3)] (by decide +kernel) (by decide +kernel)
set_option maxRecDepth 20000 in
theorem lwq_L_isTold_X11_read_r8 : GoodIn wsL_isTold wsX11_read_r8 := goodIn_2 lwk_L_isTold_in _ [(10, 4), (10, 5), (10, 6), (10, 7), (10, 8), (10, 9), (10, 10), (10, 11), (10, 12), (10, 13), (10, 14), (10, 15), (10, 16), (10, 17), (10, 18), (10, 19), (10, 20), (10, 21), (10, 22), (10, 23), (11, 0), (11, 1), (11, 2), (11, 3)] (by decide +kernel) (by decide +kernel)
set_option maxRecDepth 20000 in
theorem lwq_L_isTold_X11_read_r9 : GoodIn wsL_isTold wsX11_read_r9 := goodIn_2 lwk_L_isTold_in _ [(11, 4), (11, 5), (11, 6), (11, 7), (11, 8), (11, 9), (11, 10), (11, 11), (11, 12), (11, 13), (11, 14), (11, 15), (11, 16), (11, 17), (11, 18), (11, 19), (11, 20), (11, 21), (11, 22), (11, 23), (12, 0), (12, 1), (12, 2), (12, 3)] (by decide +kernel) (by decide +kernel)
set_option maxRecDepth 20000 in
theorem lwq_L_isTold_X11_read_r10 : GoodIn wsL_isTold wsX11_read_r10 := goodIn_2 lwk_L_isTold_in _ [(12, 4), (12, 5), (12, 6), (12, 7), (12, 8), (12, 9), (12, 10), (12, 11), (12, 12), (12, 13), (12, 14), (12, 15), (12, 16), (12, 17), (12, 18), (12, 19), (12, 20), (12, 21)] (by decide +kernel) (by decide +kernel)
set_option maxRecDepth 20000 in
theorem ggL_isTold_X11_read : GoodIn wsL_isTold wsX11_read := goodIn_ca (goodIn_ca (goodIn_c1 (goodIn_2 lwk_L_isTold_in _ [(5, 15)] (by decide +kernel) (by decide +kernel)) (goodIn_app (goodIn_app (goodIn_app (goodIn_app (goodIn_app (goodIn_app (goodIn_app lwq_L_isTold_X11_read_r1 (goodIn_app lwq_L_isTold_X11_read_r2 (goodIn_app lwq_L_isTold_X11_read_r3 (goodIn_app lwq_L_isTold_X11_read_r4 (goodIn_app lwq_L_isTold_X11_read_r5 (goodIn_app lwq_L_isTold_X11_read_r6 (goodIn_app lwq_L_isTold_X11_read_r7 (goodIn_app lwq_L_isTold_X11_read_r8 (goodIn_app lwq_L_isTold_X11_read_r9 lwq_L_isTold_X11_read_r10))))))))) (goodIn_sub (lwk_L_isTold_in _ (List.mem_of_getElem? (i := 20) rfl)) (by decide +kernel))) (goodIn_sub (lwk_L_isTold_in _ (List.mem_of_getElem? (i := 22) rfl)) (by decide +kernel))) (goodIn_sub (lwk_L_isTold_in _ (List.mem_of_getElem? (i := 21) rfl)) (by decide +kernel))) (goodIn_sub (lwk_L_isTold_in _ (List.mem_of_getElem? (i := 23) rfl)) (by decide +kernel))) (goodIn_sub (lwk_L_isTold_in _ (List.mem_of_getElem? (i := 24) rfl)) (by decide +kernel))) (goodIn_sub (lwk_L_isTold_in _ (List.mem_of_getElem? (i := 25) rfl)) (by decide +kernel)))) (goodIn_sub (fun _ h => List.mem_cons_of_mem _ (List.mem_append_right _ h)) (by decide +kernel))) (goodIn_sub (fun _ h => List.mem_cons_of_mem _ (List.mem_append_left _ (List.mem_append_left _ (List.mem_append_right _ h)))) (by decide +kernel))
set_option maxRecDepth 20000 in
theorem gL_isTold_X11_read : GoodIn wsL_isTold (wsV RL 183 RX11 yX11_read wsX11_read) := goodIn_app (goodIn_2 lwk_L_isTold_in _ [(5, 12), (5, 13), (5, 14), (1, 6)] (by decide +kernel) (by decide +kernel)) ggL_isTold_X11_read
set_option maxRecDepth 20000 in
theorem ggL_isTold_L_cost : GoodIn wsL_isTold wsL_cost := goodIn_2 lwk_L_isTold_in _ [(13, 2), (13, 3), (13, 4), (13, 5), (13, 6), (13, 7), (13, 1), (13, 8), (1, 1), (13, 9), (13, 10), (13, 11), (10, 16), (10, 17), (10, 18), (13, 12), (13, 13), (13, 14), (13, 15), (1, 2), (13, 16), (13, 17), (13, 18), (13, 19), (13, 20), (13, 21), (13, 22), (13, 23), (19, 0), (19, 1), (19, 2), (19, 3), (19, 4), (19, 5), (19, 6), (19, 7), (19, 8), (19, 9), (19, 10), (19, 11), (19, 12), (19, 13), (19, 14), (19, 15), (19, 16)] (by decide +kernel) (by decide +kernel)
set_option maxRecDepth 20000 in
theorem gL_isTold_L_cost : GoodIn wsL_isTold (wsV RL 141 RL yL_cost wsL_cost) := goodIn_app (goodIn_2 lwk_L_isTold_in _ [(12, 22), (12, 23), (13, 0), (13, 1)] (by decide +kernel) (by decide +kernel)) ggL_isTold_L_cost
set_option maxRecDepth 20000 in
theorem ggL_isTold_X11_errorPosition : GoodIn wsL_isTold wsX11_errorPosition := goodIn_2 lwk_L_isTold_in _ [(14, 3), (2, 0), (14, 4), (20, 0), (20, 1), (20, 2), (20, 3), (20, 4), (20, 5), (20, 6), (20, 7), (20, 8), (20, 9), (20, 10), (22, 0), (22, 1), (22, 2), (22, 3), (22, 4), (22, 5), (22, 6), (22, 7)] (by decide +kernel) (by decide +kernel)
set_option maxRecDepth 20000 in
theorem gL_isTold_X11_errorPosition : GoodIn wsL_isTold (wsV RL 186 RX11 yX11_errorPosition wsX11_errorPosition) := goodIn_app (goodIn_2 lwk_L_isTold_in _ [(14, 0), (14, 1), (14, 2), (1, 6)] (by decide +kernel) (by decide +kernel)) ggL_isTold_X11_errorPosition
set_option maxRecDepth 20000 in
theorem ggL_isTold_X11_undo : GoodIn wsL_isTold wsX11_undo := goodIn_2 lwk_L_isTold_in _ [(14, 8), (9, 23), (14, 9), (10, 0), (1, 8), (10, 19), (10, 20), (10, 21), (10, 22), (10, 23), (11, 0), (14, 10), (14, 11), (14, 12), (10, 4), (14, 13), (10, 8), (10, 14), (10, 7), (10, 6), (10, 9), (10, 10), (10, 11), (10, 12), (10, 13), (20, 0), (20, 1), (20, 2), (20, 3), (20, 4), (20, 5), (20, 6), (20, 7), (20, 8), (20, 9), (20, 10), (24, 0), (24, 1), (24, 2), (25, 0), (25, 1), (25, 2), (25, 3), (25, 4), (25, 5), (25, 6), (25, 7), (21, 0), (21, 1)] (by decide +kernel) (by decide +kernel)
set_option maxRecDepth 20000 in
theorem gL_isTold_X11_undo : GoodIn wsL_isTold (wsV RL 189 RX11 yX11_undo wsX11_undo) := goodIn_app (goodIn_2 lwk_L_isTold_in _ [(14, 5), (14, 6), (14, 7), (1, 6)] (by decide +kernel) (by decide +kernel)) ggL_isTold_X11_undo
set_option maxRecDepth 20000 in
theorem lwq_L_isTold_L_areTaken_r1 : GoodIn wsL_isTold wsL_areTaken_r1 := goodIn_2 lwk_L_isTold_in _ [(14, 18), (1, 0), (1, 1), (13, 9), (14, 19), (14, 20), (14, 21), (13, 1), (14, 22), (14, 23), (15, 0), (15, 1), (15, 2), (15, 3), (1, 6), (15, 4), (1, 8), (15, 5), (15, 6), (15, 7), (15, 8), (15, 9), (15, 10), (15, 11)] (by decide +kernel) (by decide +kernel)
set_option maxRecDepth 20000 in
theorem lwq_L_isTold_L_areTaken_r2 : GoodIn wsL_isTold wsL_areTaken_r2 := goodIn_2 lwk_L_isTold_in _ [(15, 12), (5, 16), (5, 17), (9, 19), (9, 20), (9, 21), (9, 22), (9, 23), (10, 0), (10, 1), (10, 2), (10, 3), (10, 4), (10, 5), (10, 6), (10, 7), (10, 8), (10, 9), (10, 10), (10, 11), (10, 12), (10, 13), (10, 14), (10, 15)] (by decide +kernel) (by decide +kernel)
set_option maxRecDepth 20000 in
theorem lwq_L_isTold_L_areTaken_r3 : GoodIn wsL_isTold wsL_areTaken_r3 := goodIn_2 lwk_L_isTold_in _ [(10, 16), (10, 17), (10, 18), (10, 19), (10, 20), (10, 21), (10, 22), (10, 23), (11, 0), (15, 13), (15, 14), (15, 15), (1, 13), (15, 16), (15, 17), (15, 18), (15, 19), (15, 20), (1, 15), (15, 21), (15, 22), (15, 23), (16, 0), (16, 1)] (by decide +kernel) (by decide +kernel)
set_option maxRecDepth 20000 in
theorem lwq_L_isTold_L_areTaken_r4 : GoodIn wsL_isTold wsL_areTaken_r4 := goodIn_2 lwk_L_isTold_in _ [(16, 2), (16, 3), (16, 4), (16, 5), (16, 6), (4, 17), (4, 18), (1, 16), (1, 17), (1, 18), (1, 19), (2, 1), (2, 2), (2, 3), (2, 4), (2, 5), (2, 6), (1, 10), (1, 11), (1, 12), (1, 14), (16, 7), (16, 8), (16, 9)] (by decide +kernel) (by decide +kernel)
set_option maxRecDepth 20000 in
theorem lwq_L_isTold_L_areTaken_r5 : GoodIn wsL_isTold wsL_areTaken_r5 := goodIn_2 lwk_L_isTold_in _ [(16, 10), (16, 11), (16, 12), (16, 13), (16, 14), (16, 15), (16, 16), (16, 17), (16, 18), (16, 19), (16, 20), (16, 21), (16, 22), (11, 13), (11, 14), (11, 15), (11, 16), (11, 17), (9, 8), (9, 9), (9, 10), (11, 18), (11, 19), (11, 20)] (by decide +kernel) (by decide +kernel)
set_option maxRecDepth 20000 in
theorem lwq_L_isTold_L_areTaken_r6 : GoodIn wsL_isTold wsL_areTaken_r6 := goodIn_2 lwk_L_isTold_in _ [(11, 21), (16, 23), (17, 0), (17, 1), (17, 2), (17, 3), (17, 4), (17, 5), (6, 22), (6, 23), (7, 0), (17, 6), (17, 7), (17, 8), (17, 9), (17, 10), (17, 11), (17, 12), (17, 13), (17, 14), (17, 15), (17, 16), (17, 17), (17, 18)] (by decide +kernel) (by decide +kernel)
set_option maxRecDepth 20000 in
theorem lwq_L_isTold_L_areTaken_r7 : GoodIn wsL_isTold wsL_areTaken_r7 := goodIn_2 lwk_L_isTold_in _ [(17, 19), (17, 20), (17, 21), (17, 22), (17, 23), (13, 12), (13, 13), (13, 14), (13, 15), (1, 2), (13, 16), (18, 0), (18, 1), (18, 2), (18, 3), (18, 4), (18, 5), (18, 6), (18, 7), (18, 8), (18, 9), (18, 10), (18, 11), (18, 12)] (by decide +kernel) (by decide +kernel)
set_option maxRecDepth 20000 in
theorem lwq_L_isTold_L_areTaken_r8 : GoodIn wsL_isTold wsL_areTaken_r8 := goodIn_2 lwk_L_isTold_in _ [(18, 13), (18, 14), (18, 15), (12, 9), (12, 10), (12, 11), (12, 12), (12, 13), (12, 14), (18, 16), (18, 17), (18, 18), (18, 19), (18, 20)] (by decide +kernel) (by decide +kernel)
set_option maxRecDepth 20000 in
theorem ggL_isTold_L_areTaken : GoodIn wsL_isTold wsL_areTaken := goodIn_ca (goodIn_ca (goodIn_ca (goodIn_c1 (goodIn_2 lwk_L_isTold_in _ [(14, 17)] (by decide +kernel) (by decide +kernel)) (goodIn_app (goodIn_app (goodIn_app (goodIn_app (goodIn_app (goodIn_app (goodIn_app lwq_L_isTold_L_areTaken_r1 (goodIn_app lwq_L_isTold_L_areTaken_r2 (goodIn_app lwq_L_isTold_L_areTaken_r3 (goodIn_app lwq_L_isTold_L_areTaken_r4 (goodIn_app lwq_L_isTold_L_areTaken_r5 (goodIn_app lwq_L_isTold_L_areTaken_r6 (goodIn_app lwq_L_isTold_L_areTaken_r7 lwq_L_isTold_L_areTaken_r8))))))) (goodIn_sub (lwk_L_isTold_in _ (List.mem_of_getElem? (i := 19) rfl)) (by decide +kernel))) (goodIn_sub (lwk_L_isTold_in _ (List.mem_of_getElem? (i := 20) rfl)) (by decide +kernel))) (goodIn_sub (lwk_L_isTold_in _ (List.mem_of_getElem? (i := 21) rfl)) (by decide +kernel))) (goodIn_sub (lwk_L_isTold_in _ (List.mem_of_getElem? (i := 24) rfl)) (by decide +kernel))) (goodIn_sub (lwk_L_isTold_in _ (List.mem_of_getElem? (i := 25) rfl)) (by decide +kernel))) (goodIn_sub (lwk_L_isTold_in _ (List.mem_of_getElem? (i := 26) rfl)) (by decide +kernel)))) (goodIn_sub (fun _ h => List.mem_cons_of_mem _ (List.mem_append_right _ h)) (by decide +kernel))) (goodIn_sub (fun _ h => List.mem_cons_of_mem _ (List.mem_append_left _ (List.mem_append_right _ h))) (by decide +kernel))) (goodIn_sub (fun _ h => List.mem_cons_of_mem _ (List.mem_append_left _ (List.mem_append_left _ (List.mem_append_right _ h)))) (by decide +kernel))
set_option maxRecDepth 20000 in
theorem gL_isTold_L_areTaken : GoodIn wsL_isTold (wsV RL 192 RL yL_areTaken wsL_areTaken) := goodIn_app (goodIn_2 lwk_L_isTold_in _ [(14, 14), (14, 15), (14, 16), (13, 1)] (by decide +kernel) (by decide +kernel)) ggL_isTold_L_areTaken
theorem dL_isTold_0 : decode cL_isTold 0 = .ok (.aload_n 0, 1) := by decide +kernel
theorem dL_isTold_1 : decode cL_isTold 1 = .ok (.getfield 10, 3) := by decide +kernel
theorem dL_isTold_4 : decode cL_isTold 4 = .ok (.invokevirtual 126, 3) := by decide +kernel
theorem dL_isTold_7 : decode cL_isTold 7 = .ok (.istore_n 1, 1) := by decide +kernel
theorem dL_isTold_8 : decode cL_isTold 8 = .ok (.aload_n 0, 1) := by decide +kernel
theorem dL_isTold_9 : decode cL_isTold 9 = .ok (.getfield 10, 3) := by decide +kernel
theorem dL_isTold_12 : decode cL_isTold 12 = .ok (.invokevirtual 172, 3) := by decide +kernel
theorem dL_isTold_15 : decode cL_isTold 15 = .ok (.istore_n 2, 1) := by decide +kernel
theorem dL_isTold_16 : decode cL_isTold 16 = .ok (.iload_n 2, 1) := by decide +kernel
theorem dL_isTold_17 : decode cL_isTold 17 = .ok (.iconst 4, 1) := by decide +kernel
theorem dL_isTold_18 : decode cL_isTold 18 = .ok (.aload_n 0, 1) := by decide +kernel
theorem dL_isTold_19 : decode cL_isTold 19 = .ok (.getfield 66, 3) := by decide +kernel
theorem dL_isTold_22 : decode cL_isTold 22 = .ok (.imul, 1) := by decide +kernel
theorem dL_isTold_23 : decode cL_isTold 23 = .ok (.if_icmp .eq 5, 3) := by decide +kernel
theorem dL_isTold_26 : decode cL_isTold 26 = .ok (.iconst 0, 1) := by decide +kernel
theorem dL_isTold_27 : decode cL_isTold 27 = .ok (.ireturn, 1) := by decide +kernel
theorem dL_isTold_28 : decode cL_isTold 28 = .ok (.iconst 0, 1) := by decide +kernel
theorem dL_isTold_29 : decode cL_isTold 29 = .ok (.istore_n 3, 1) := by decide +kernel
theorem dL_isTold_30 : decode cL_isTold 30 = .ok (.iload_n 3, 1) := by decide +kernel
theorem dL_isTold_31 : decode cL_isTold 31 = .ok (.iload_n 2, 1) := by decide +kernel
theorem dL_isTold_32 : decode cL_isTold 32 = .ok (.if_icmp .ge 46, 3) := by decide +kernel
theorem dL_isTold_35 : decode cL_isTold 35 = .ok (.aload_n 0, 1) := by decide +kernel
theorem dL_isTold_36 : decode cL_isTold 36 = .ok (.getfield 10, 3) := by decide +kernel
theorem dL_isTold_39 : decode cL_isTold 39 = .ok (.aload_n 0, 1) := by decide +kernel
theorem dL_isTold_40 : decode cL_isTold 40 = .ok (.getfield 10, 3) := by decide +kernel
theorem dL_isTold_43 : decode cL_isTold 43 = .ok (.iload_n 3, 1) := by decide +kernel
theorem dL_isTold_44 : decode cL_isTold 44 = .ok (.invokevirtual 175, 3) := by decide +kernel
theorem dL_isTold_47 : decode cL_isTold 47 = .ok (.iload_n 3, 1) := by decide +kernel
theorem dL_isTold_48 : decode cL_isTold 48 = .ok (.iconst 4, 1) := by decide +kernel
theorem dL_isTold_49 : decode cL_isTold 49 = .ok (.irem, 1) := by decide +kernel
theorem dL_isTold_50 : decode cL_isTold 50 = .ok (.iconst 3, 1) := by decide +kernel
theorem dL_isTold_51 : decode cL_isTold 51 = .ok (.if_icmp .ne 8, 3) := by decide +kernel
theorem dL_isTold_54 : decode cL_isTold 54 = .ok (.bipush 32, 2) := by decide +kernel
theorem dL_isTold_56 : decode cL_isTold 56 = .ok (.goto 4, 3) := by decide +kernel
theorem dL_isTold_59 : decode cL_isTold 59 = .ok (.iconst 0, 1) := by decide +kernel
theorem dL_isTold_60 : decode cL_isTold 60 = .ok (.iconst 0, 1) := by decide +kernel
theorem dL_isTold_61 : decode cL_isTold 61 = .ok (.iconst 0, 1) := by decide +kernel
theorem dL_isTold_62 : decode cL_isTold 62 = .ok (.iconst 0, 1) := by decide +kernel
theorem dL_isTold_63 : decode cL_isTold 63 = .ok (.invokevirtual 179, 3) := by decide +kernel
theorem dL_isTold_66 : decode cL_isTold 66 = .ok (.iconst 1, 1) := by decide +kernel
theorem dL_isTold_67 : decode cL_isTold 67 = .ok (.if_icmp .ge 5, 3) := by decide +kernel
theorem dL_isTold_70 : decode cL_isTold 70 = .ok (.iconst 0, 1) := by decide +kernel
theorem dL_isTold_71 : decode cL_isTold 71 = .ok (.ireturn, 1) := by decide +kernel
theorem dL_isTold_72 : decode cL_isTold 72 = .ok (.iinc 3 1, 3) := by decide +kernel
theorem dL_isTold_75 : decode cL_isTold 75 = .ok (.goto (-45), 3) := by decide +kernel
theorem dL_isTold_78 : decode cL_isTold 78 = .ok (.aload_n 0, 1) := by decide +kernel
theorem dL_isTold_79 : decode cL_isTold 79 = .ok (.getfield 10, 3) := by decide +kernel
theorem dL_isTold_82 : decode cL_isTold 82 = .ok (.invokevirtual 183, 3) := by decide +kernel
theorem dL_isTold_85 : decode cL_isTold 85 = .ok (.aload_n 0, 1) := by decide +kernel
theorem dL_isTold_86 : decode cL_isTold 86 = .ok (.invokevirtual 141, 3) := by decide +kernel
theorem dL_isTold_89 : decode cL_isTold 89 = .ok (.if_icmp .ne 46, 3) := by decide +kernel
theorem dL_isTold_92 : decode cL_isTold 92 = .ok (.aload_n 0, 1) := by decide +kernel
theorem dL_isTold_93 : decode cL_isTold 93 = .ok (.getfield 10, 3) := by decide +kernel
theorem dL_isTold_96 : decode cL_isTold 96 = .ok (.invokevirtual 126, 3) := by decide +kernel
theorem dL_isTold_99 : decode cL_isTold 99 = .ok (.iload_n 1, 1) := by decide +kernel
theorem dL_isTold_100 : decode cL_isTold 100 = .ok (.if_icmp .ne 35, 3) := by decide +kernel
theorem dL_isTold_103 : decode cL_isTold 103 = .ok (.aload_n 0, 1) := by decide +kernel
theorem dL_isTold_104 : decode cL_isTold 104 = .ok (.getfield 10, 3) := by decide +kernel
theorem dL_isTold_107 : decode cL_isTold 107 = .ok (.invokevirtual 186, 3) := by decide +kernel
