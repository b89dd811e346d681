set_option maxRecDepth 20000 in
theorem ggL_init_X11_init : GoodIn wsL_init wsX11_init := goodIn_2 lwk_L_init_in _ [(2, 0), (2, 1), (1, 1), (1, 2), (2, 2), (2, 3), (2, 4), (2, 5), (2, 6), (2, 7), (2, 8), (2, 9), (2, 10), (2, 11), (2, 12), (2, 13), (2, 14), (2, 15), (2, 16), (2, 17), (2, 18), (2, 19), (2, 20), (2, 21), (2, 22), (2, 23), (3, 0), (3, 1), (3, 2), (3, 3), (3, 4), (3, 5), (3, 6), (3, 7), (3, 8), (3, 9), (3, 10), (3, 11), (3, 12), (3, 13), (3, 14), (3, 15), (3, 16), (3, 17), (3, 18), (3, 19), (3, 20), (3, 21), (3, 22), (3, 23), (4, 0), (4, 1), (1, 7), (4, 2), (4, 3), (4, 4), (4, 5), (4, 6), (4, 7), (4, 8), (4, 9), (4, 10), (4, 11), (4, 12), (4, 13), (4, 14), (4, 15), (4, 16), (4, 17), (4, 18), (4, 19), (4, 20), (4, 21), (4, 22), (4, 23), (5, 0), (5, 1), (5, 2), (5, 3), (5, 4), (5, 5), (5, 6), (5, 7), (5, 8), (5, 9), (5, 10), (5, 11), (5, 12), (5, 13), (5, 14), (5, 15), (5, 16), (5, 17), (5, 18), (5, 19), (5, 20), (5, 21), (5, 22), (5, 23), (6, 0), (6, 1), (6, 2), (6, 3), (6, 4), (6, 5), (6, 6), (6, 7), (6, 8), (6, 9), (6, 10), (6, 11), (6, 12), (1, 19), (6, 13), (6, 14), (6, 15), (6, 16), (6, 17), (6, 18), (6, 19), (6, 20), (6, 21), (6, 22), (9, 0), (9, 1), (7, 0), (7, 1), (7, 2), (7, 3), (7, 4), (7, 5), (7, 6), (7, 7), (7, 8), (7, 9), (7, 10), (10, 0), (10, 1), (10, 2), (11, 0), (11, 1), (11, 2), (11, 3), (11, 4), (11, 5), (11, 6), (11, 7), (11, 8), (11, 9), (11, 10), (11, 11), (12, 0), (12, 1), (12, 2), (12, 3), (12, 4), (12, 5), (12, 6), (12, 7), (13, 0), (13, 1), (13, 2), (14, 0), (15, 0), (15, 1), (15, 2), (15, 3), (15, 4), (16, 0), (17, 0), (17, 1), (17, 2), (18, 0), (18, 1), (18, 2), (19, 0), (19, 1), (19, 2), (19, 3), (19, 4), (19, 5), (19, 6), (19, 7)] (by decide +kernel) (by decide +kernel)
set_option maxRecDepth 20000 in
theorem gL_init_X11_init : GoodIn wsL_init (wsX11_init) := ggL_init_X11_init
theorem dL_init_0 : decode cL_init 0 = .ok (.aload_n 0, 1) := by decide +kernel
theorem dL_init_1 : decode cL_init 1 = .ok (.invokespecial 3, 3) := by decide +kernel
theorem dL_init_4 : decode cL_init 4 = .ok (.aload_n 0, 1) := by decide +kernel
theorem dL_init_5 : decode cL_init 5 = .ok (.new 1, 3) := by decide +kernel
theorem dL_init_8 : decode cL_init 8 = .ok (.dup, 1) := by decide +kernel
theorem dL_init_9 : decode cL_init 9 = .ok (.invokespecial 9, 3) := by decide +kernel
theorem dL_init_12 : decode cL_init 12 = .ok (.putfield 10, 3) := by decide +kernel
theorem dL_init_15 : decode cL_init 15 = .ok (.aload_n 0, 1) := by decide +kernel
theorem dL_init_16 : decode cL_init 16 = .ok (.bipush 9, 2) := by decide +kernel
theorem dL_init_18 : decode cL_init 18 = .ok (.newarray .int, 2) := by decide +kernel
theorem dL_init_20 : decode cL_init 20 = .ok (.putfield 16, 3) := by decide +kernel
theorem dL_init_23 : decode cL_init 23 = .ok (.aload_n 0, 1) := by decide +kernel
theorem dL_init_24 : decode cL_init 24 = .ok (.bipush 9, 2) := by decide +kernel
theorem dL_init_26 : decode cL_init 26 = .ok (.newarray .int, 2) := by decide +kernel
theorem dL_init_28 : decode cL_init 28 = .ok (.putfield 20, 3) := by decide +kernel
theorem dL_init_31 : decode cL_init 31 = .ok (.aload_n 0, 1) := by decide +kernel
theorem dL_init_32 : decode cL_init 32 = .ok (.bipush 9, 2) := by decide +kernel
theorem dL_init_34 : decode cL_init 34 = .ok (.newarray .int, 2) := by decide +kernel
theorem dL_init_36 : decode cL_init 36 = .ok (.putfield 23, 3) := by decide +kernel
theorem dL_init_39 : decode cL_init 39 = .ok (.aload_n 0, 1) := by decide +kernel
theorem dL_init_40 : decode cL_init 40 = .ok (.bipush 9, 2) := by decide +kernel
theorem dL_init_42 : decode cL_init 42 = .ok (.newarray .int, 2) := by decide +kernel
theorem dL_init_44 : decode cL_init 44 = .ok (.putfield 26, 3) := by decide +kernel
theorem dL_init_47 : decode cL_init 47 = .ok (.aload_n 0, 1) := by decide +kernel
theorem dL_init_48 : decode cL_init 48 = .ok (.bipush 9, 2) := by decide +kernel
theorem dL_init_50 : decode cL_init 50 = .ok (.newarray .int, 2) := by decide +kernel
theorem dL_init_52 : decode cL_init 52 = .ok (.putfield 29, 3) := by decide +kernel
theorem dL_init_55 : decode cL_init 55 = .ok (.aload_n 0, 1) := by decide +kernel
theorem dL_init_56 : decode cL_init 56 = .ok (.bipush 9, 2) := by decide +kernel
theorem dL_init_58 : decode cL_init 58 = .ok (.newarray .int, 2) := by decide +kernel
theorem dL_init_60 : decode cL_init 60 = .ok (.putfield 32, 3) := by decide +kernel
theorem dL_init_63 : decode cL_init 63 = .ok (.aload_n 0, 1) := by decide +kernel
theorem dL_init_64 : decode cL_init 64 = .ok (.bipush 12, 2) := by decide +kernel
theorem dL_init_66 : decode cL_init 66 = .ok (.newarray .int, 2) := by decide +kernel
theorem dL_init_68 : decode cL_init 68 = .ok (.putfield 35, 3) := by decide +kernel
theorem dL_init_71 : decode cL_init 71 = .ok (.aload_n 0, 1) := by decide +kernel
theorem dL_init_72 : decode cL_init 72 = .ok (.bipush 12, 2) := by decide +kernel
theorem dL_init_74 : decode cL_init 74 = .ok (.newarray .int, 2) := by decide +kernel
theorem dL_init_76 : decode cL_init 76 = .ok (.putfield 38, 3) := by decide +kernel
theorem dL_init_79 : decode cL_init 79 = .ok (.aload_n 0, 1) := by decide +kernel
theorem dL_init_80 : decode cL_init 80 = .ok (.bipush 12, 2) := by decide +kernel
theorem dL_init_82 : decode cL_init 82 = .ok (.newarray .int, 2) := by decide +kernel
theorem dL_init_84 : decode cL_init 84 = .ok (.putfield 41, 3) := by decide +kernel
theorem dL_init_87 : decode cL_init 87 = .ok (.aload_n 0, 1) := by decide +kernel
theorem dL_init_88 : decode cL_init 88 = .ok (.bipush 12, 2) := by decide +kernel
theorem dL_init_90 : decode cL_init 90 = .ok (.newarray .int, 2) := by decide +kernel
theorem dL_init_92 : decode cL_init 92 = .ok (.putfield 44, 3) := by decide +kernel
theorem dL_init_95 : decode cL_init 95 = .ok (.aload_n 0, 1) := by decide +kernel
theorem dL_init_96 : decode cL_init 96 = .ok (.iconst 3, 1) := by decide +kernel
theorem dL_init_97 : decode cL_init 97 = .ok (.newarray .int, 2) := by decide +kernel
theorem dL_init_99 : decode cL_init 99 = .ok (.putfield 47, 3) := by decide +kernel
theorem dL_init_102 : decode cL_init 102 = .ok (.aload_n 0, 1) := by decide +kernel
theorem dL_init_103 : decode cL_init 103 = .ok (.bipush 30, 2) := by decide +kernel
theorem dL_init_105 : decode cL_init 105 = .ok (.newarray .boolean, 2) := by decide +kernel
theorem dL_init_107 : decode cL_init 107 = .ok (.putfield 50, 3) := by decide +kernel
theorem dL_init_110 : decode cL_init 110 = .ok (.aload_n 0, 1) := by decide +kernel
theorem dL_init_111 : decode cL_init 111 = .ok (.bipush 64, 2) := by decide +kernel
theorem dL_init_113 : decode cL_init 113 = .ok (.newarray .boolean, 2) := by decide +kernel
theorem dL_init_115 : decode cL_init 115 = .ok (.putfield 54, 3) := by decide +kernel
theorem dL_init_118 : decode cL_init 118 = .ok (.return_, 1) := by decide +kernel
theorem dL_next_0 : decode cL_next 0 = .ok (.aload_n 0, 1) := by decide +kernel
theorem dL_next_1 : decode cL_next 1 = .ok (.aload_n 0, 1) := by decide +kernel
theorem dL_next_2 : decode cL_next 2 = .ok (.getfield 57, 3) := by decide +kernel
theorem dL_next_5 : decode cL_next 5 = .ok (.ldc 61, 2) := by decide +kernel
theorem dL_next_7 : decode cL_next 7 = .ok (.imul, 1) := by decide +kernel
theorem dL_next_8 : decode cL_next 8 = .ok (.sipush 12345, 3) := by decide +kernel
theorem dL_next_11 : decode cL_next 11 = .ok (.iadd, 1) := by decide +kernel
theorem dL_next_12 : decode cL_next 12 = .ok (.putfield 57, 3) := by decide +kernel
theorem dL_next_15 : decode cL_next 15 = .ok (.aload_n 0, 1) := by decide +kernel
theorem dL_next_16 : decode cL_next 16 = .ok (.getfield 57, 3) := by decide +kernel
theorem dL_next_19 : decode cL_next 19 = .ok (.bipush 16, 2) := by decide +kernel
theorem dL_next_21 : decode cL_next 21 = .ok (.iushr, 1) := by decide +kernel
theorem dL_next_22 : decode cL_next 22 = .ok (.iload_n 1, 1) := by decide +kernel
theorem dL_next_23 : decode cL_next 23 = .ok (.irem, 1) := by decide +kernel
theorem dL_next_24 : decode cL_next 24 = .ok (.ireturn, 1) := by decide +kernel
set_option maxRecDepth 20000 in
theorem ggL_isMade_X11_setRooms : GoodIn wsL_isMade wsX11_setRooms := goodIn_ca (goodIn_2 lwk_L_isMade_in _ [(1, 11), (1, 12), (1, 13), (1, 14), (1, 15), (1, 10), (1, 16), (1, 17), (1, 18), (1, 19), (1, 20), (1, 21), (1, 22), (1, 23), (2, 0), (2, 1), (2, 2), (2, 3), (2, 4), (2, 5), (2, 6), (2, 7), (2, 8), (2, 9), (2, 10), (2, 11), (2, 12), (2, 13), (2, 14), (2, 15), (2, 16), (2, 17), (2, 18), (2, 19), (2, 20), (2, 21), (2, 22), (2, 23), (3, 0), (3, 1), (3, 2), (3, 3), (3, 4), (3, 5), (3, 6), (3, 7), (3, 8), (3, 9), (3, 10), (3, 11), (3, 12), (3, 13), (3, 14), (6, 0), (6, 1), (6, 2), (6, 3), (6, 4), (6, 5), (6, 6), (6, 7), (6, 8), (6, 9), (6, 10), (7, 0), (7, 1), (8, 0), (8, 1), (8, 2), (9, 0), (9, 1), (9, 2), (9, 3), (9, 4), (9, 5), (9, 6), (9, 7)] (by decide +kernel) (by decide +kernel)) (goodIn_sub (fun _ h => List.mem_cons_of_mem _ (List.mem_append_left _ (List.mem_append_right _ h))) (by decide +kernel))
set_option maxRecDepth 20000 in
theorem gL_isMade_X11_setRooms : GoodIn wsL_isMade (wsV RL 62 RX11 yX11_setRooms wsX11_setRooms) := goodIn_app (goodIn_of _ (by decide +kernel)) ggL_isMade_X11_setRooms
set_option maxRecDepth 20000 in
theorem ggL_isMade_X11_lesson : GoodIn wsL_isMade wsX11_lesson := goodIn_ca (goodIn_ca (goodIn_2 lwk_L_isMade_in _ [(3, 18), (1, 21), (1, 22), (3, 19), (3, 20), (1, 12), (1, 13), (1, 14), (1, 15), (1, 10), (1, 16), (1, 17), (1, 18), (1, 19), (1, 20), (3, 21), (3, 22), (3, 23), (3, 8), (4, 0), (3, 10), (4, 1), (4, 2), (4, 3), (4, 4), (1, 23), (2, 0), (2, 1), (2, 2), (2, 3), (2, 4), (2, 5), (2, 6), (2, 7), (2, 8), (2, 9), (2, 10), (2, 11), (2, 12), (2, 13), (2, 14), (2, 15), (2, 16), (2, 17), (2, 18), (2, 19), (2, 20), (2, 21), (2, 22), (2, 23), (3, 0), (3, 1), (3, 2), (3, 3), (3, 4), (3, 5), (3, 6), (3, 7), (3, 9), (4, 5), (4, 6), (4, 7), (4, 8), (6, 0), (6, 1), (6, 2), (6, 3), (6, 4), (6, 5), (6, 6), (6, 7), (6, 8), (6, 9), (6, 10), (7, 0), (7, 1), (8, 0), (8, 1), (8, 2), (9, 0), (9, 1), (9, 2), (9, 3), (9, 4), (9, 5), (9, 6), (9, 7)] (by decide +kernel) (by decide +kernel)) (goodIn_sub (fun _ h => List.mem_cons_of_mem _ (List.mem_append_left _ (List.mem_append_right _ h))) (by decide +kernel))) (goodIn_sub (fun _ h => List.mem_cons_of_mem _ (List.mem_append_right _ h)) (by decide +kernel))
set_option maxRecDepth 20000 in
theorem gL_isMade_X11_lesson : GoodIn wsL_isMade (wsV RL 69 RX11 yX11_lesson wsX11_lesson) := goodIn_app (goodIn_of _ (by decide +kernel)) ggL_isMade_X11_lesson
set_option maxRecDepth 20000 in
theorem ggL_isMade_X11_lessons : GoodIn wsL_isMade wsX11_lessons := goodIn_2 lwk_L_isMade_in _ [(4, 12), (1, 12), (4, 1), (4, 2), (4, 3), (3, 8), (4, 4), (3, 10), (6, 0), (6, 1), (6, 2), (6, 3), (6, 4), (6, 5), (6, 6), (6, 7), (6, 8), (6, 9), (6, 10), (7, 0), (7, 1)] (by decide +kernel) (by decide +kernel)
set_option maxRecDepth 20000 in
theorem gL_isMade_X11_lessons : GoodIn wsL_isMade (wsV RL 73 RX11 yX11_lessons wsX11_lessons) := goodIn_app (goodIn_of _ (by decide +kernel)) ggL_isMade_X11_lessons
theorem dL_isMade_0 : decode cL_isMade 0 = .ok (.iconst 0, 1) := by decide +kernel
theorem dL_isMade_1 : decode cL_isMade 1 = .ok (.istore_n 2, 1) := by decide +kernel
theorem dL_isMade_2 : decode cL_isMade 2 = .ok (.iload_n 2, 1) := by decide +kernel
theorem dL_isMade_3 : decode cL_isMade 3 = .ok (.iconst 3, 1) := by decide +kernel
theorem dL_isMade_4 : decode cL_isMade 4 = .ok (.if_icmp .ge 26, 3) := by decide +kernel
theorem dL_isMade_7 : decode cL_isMade 7 = .ok (.aload_n 1, 1) := by decide +kernel
theorem dL_isMade_8 : decode cL_isMade 8 = .ok (.iload_n 2, 1) := by decide +kernel
theorem dL_isMade_9 : decode cL_isMade 9 = .ok (.aload_n 0, 1) := by decide +kernel
theorem dL_isMade_10 : decode cL_isMade 10 = .ok (.getfield 47, 3) := by decide +kernel
theorem dL_isMade_13 : decode cL_isMade 13 = .ok (.iload_n 2, 1) := by decide +kernel
theorem dL_isMade_14 : decode cL_isMade 14 = .ok (.iaload, 1) := by decide +kernel
theorem dL_isMade_15 : decode cL_isMade 15 = .ok (.invokevirtual 62, 3) := by decide +kernel
theorem dL_isMade_18 : decode cL_isMade 18 = .ok (.iconst 3, 1) := by decide +kernel
theorem dL_isMade_19 : decode cL_isMade 19 = .ok (.if_icmp .eq 5, 3) := by decide +kernel
theorem dL_isMade_22 : decode cL_isMade 22 = .ok (.iconst 0, 1) := by decide +kernel
theorem dL_isMade_23 : decode cL_isMade 23 = .ok (.ireturn, 1) := by decide +kernel
theorem dL_isMade_24 : decode cL_isMade 24 = .ok (.iinc 2 1, 3) := by decide +kernel
theorem dL_isMade_27 : decode cL_isMade 27 = .ok (.goto (-25), 3) := by decide +kernel
theorem dL_isMade_30 : decode cL_isMade 30 = .ok (.iconst 0, 1) := by decide +kernel
theorem dL_isMade_31 : decode cL_isMade 31 = .ok (.istore_n 2, 1) := by decide +kernel
theorem dL_isMade_32 : decode cL_isMade 32 = .ok (.iload_n 2, 1) := by decide +kernel
theorem dL_isMade_33 : decode cL_isMade 33 = .ok (.aload_n 0, 1) := by decide +kernel
theorem dL_isMade_34 : decode cL_isMade 34 = .ok (.getfield 66, 3) := by decide +kernel
theorem dL_isMade_37 : decode cL_isMade 37 = .ok (.if_icmp .ge 58, 3) := by decide +kernel
theorem dL_isMade_40 : decode cL_isMade 40 = .ok (.aload_n 1, 1) := by decide +kernel
theorem dL_isMade_41 : decode cL_isMade 41 = .ok (.aload_n 0, 1) := by decide +kernel
theorem dL_isMade_42 : decode cL_isMade 42 = .ok (.getfield 16, 3) := by decide +kernel
theorem dL_isMade_45 : decode cL_isMade 45 = .ok (.iload_n 2, 1) := by decide +kernel
theorem dL_isMade_46 : decode cL_isMade 46 = .ok (.iaload, 1) := by decide +kernel
theorem dL_isMade_47 : decode cL_isMade 47 = .ok (.aload_n 0, 1) := by decide +kernel
theorem dL_isMade_48 : decode cL_isMade 48 = .ok (.getfield 20, 3) := by decide +kernel
theorem dL_isMade_51 : decode cL_isMade 51 = .ok (.iload_n 2, 1) := by decide +kernel
theorem dL_isMade_52 : decode cL_isMade 52 = .ok (.iaload, 1) := by decide +kernel
theorem dL_isMade_53 : decode cL_isMade 53 = .ok (.aload_n 0, 1) := by decide +kernel
theorem dL_isMade_54 : decode cL_isMade 54 = .ok (.getfield 23, 3) := by decide +kernel
theorem dL_isMade_57 : decode cL_isMade 57 = .ok (.iload_n 2, 1) := by decide +kernel
theorem dL_isMade_58 : decode cL_isMade 58 = .ok (.iaload, 1) := by decide +kernel
theorem dL_isMade_59 : decode cL_isMade 59 = .ok (.aload_n 0, 1) := by decide +kernel
theorem dL_isMade_60 : decode cL_isMade 60 = .ok (.getfield 26, 3) := by decide +kernel
theorem dL_isMade_63 : decode cL_isMade 63 = .ok (.iload_n 2, 1) := by decide +kernel
theorem dL_isMade_64 : decode cL_isMade 64 = .ok (.iaload, 1) := by decide +kernel
theorem dL_isMade_65 : decode cL_isMade 65 = .ok (.aload_n 0, 1) := by decide +kernel
theorem dL_isMade_66 : decode cL_isMade 66 = .ok (.getfield 29, 3) := by decide +kernel
theorem dL_isMade_69 : decode cL_isMade 69 = .ok (.iload_n 2, 1) := by decide +kernel
theorem dL_isMade_70 : decode cL_isMade 70 = .ok (.iaload, 1) := by decide +kernel
theorem dL_isMade_71 : decode cL_isMade 71 = .ok (.iconst 2, 1) := by decide +kernel
theorem dL_isMade_72 : decode cL_isMade 72 = .ok (.if_icmp .ne 7, 3) := by decide +kernel
theorem dL_isMade_75 : decode cL_isMade 75 = .ok (.iconst 1, 1) := by decide +kernel
theorem dL_isMade_76 : decode cL_isMade 76 = .ok (.goto 4, 3) := by decide +kernel
theorem dL_isMade_79 : decode cL_isMade 79 = .ok (.iconst 0, 1) := by decide +kernel
theorem dL_isMade_80 : decode cL_isMade 80 = .ok (.invokevirtual 69, 3) := by decide +kernel
theorem dL_isMade_83 : decode cL_isMade 83 = .ok (.iload_n 2, 1) := by decide +kernel
theorem dL_isMade_84 : decode cL_isMade 84 = .ok (.if_icmp .eq 5, 3) := by decide +kernel
theorem dL_isMade_87 : decode cL_isMade 87 = .ok (.iconst 0, 1) := by decide +kernel
theorem dL_isMade_88 : decode cL_isMade 88 = .ok (.ireturn, 1) := by decide +kernel
theorem dL_isMade_89 : decode cL_isMade 89 = .ok (.iinc 2 1, 3) := by decide +kernel
theorem dL_isMade_92 : decode cL_isMade 92 = .ok (.goto (-60), 3) := by decide +kernel
theorem dL_isMade_95 : decode cL_isMade 95 = .ok (.aload_n 1, 1) := by decide +kernel
theorem dL_isMade_96 : decode cL_isMade 96 = .ok (.invokevirtual 73, 3) := by decide +kernel
theorem dL_isMade_99 : decode cL_isMade 99 = .ok (.aload_n 0, 1) := by decide +kernel
theorem dL_isMade_100 : decode cL_isMade 100 = .ok (.getfield 66, 3) := by decide +kernel
theorem dL_isMade_103 : decode cL_isMade 103 = .ok (.if_icmp .ne 7, 3) := by decide +kernel
theorem dL_isMade_106 : decode cL_isMade 106 = .ok (.iconst 1, 1) := by decide +kernel
theorem dL_isMade_107 : decode cL_isMade 107 = .ok (.goto 4, 3) := by decide +kernel
theorem dL_isMade_110 : decode cL_isMade 110 = .ok (.iconst 0, 1) := by decide +kernel
theorem dL_isMade_111 : decode cL_isMade 111 = .ok (.ireturn, 1) := by decide +kernel
set_option maxRecDepth 20000 in
theorem ggL_isDrawn_L_next : GoodIn wsL_isDrawn wsL_next := goodIn_2 lwk_L_isDrawn_in _ [(1, 17), (1, 18), (1, 19), (7, 0), (7, 1), (7, 2), (7, 3), (7, 4), (7, 5), (7, 6), (7, 7), (7, 8), (7, 9), (7, 10), (7, 11), (7, 12), (7, 13), (7, 14), (7, 15), (7, 16)] (by decide +kernel) (by decide +kernel)
set_option maxRecDepth 20000 in
theorem gL_isDrawn_L_next : GoodIn wsL_isDrawn (wsV RL 76 RL yL_next wsL_next) := goodIn_app (goodIn_of _ (by decide +kernel)) ggL_isDrawn_L_next
set_option maxRecDepth 20000 in
theorem ggL_isDrawn_L_isMade : GoodIn wsL_isDrawn wsL_isMade := goodIn_ca (goodIn_ca (goodIn_2 lwk_L_isDrawn_in _ [(1, 23), (1, 1), (1, 0), (1, 2), (1, 3), (1, 4), (1, 5), (1, 6), (2, 0), (2, 1), (2, 2), (2, 3), (2, 4), (2, 5), (2, 6), (2, 7), (2, 8), (2, 9), (2, 10), (2, 11), (2, 12), (2, 13), (2, 14), (2, 15), (2, 16), (2, 17), (2, 18), (2, 19), (2, 20), (2, 21), (2, 22), (2, 23), (3, 0), (3, 1), (3, 2), (3, 3), (3, 4), (3, 5), (3, 6), (3, 7), (3, 8), (3, 9), (3, 10), (3, 11), (3, 12), (3, 13), (3, 14), (3, 15), (3, 16), (3, 17), (3, 18), (3, 19), (3, 20), (3, 21), (3, 22), (3, 23), (4, 0), (4, 1), (4, 2), (4, 3), (4, 4), (4, 5), (4, 6), (4, 7), (4, 8), (4, 9), (4, 10), (4, 11), (4, 12), (4, 13), (4, 14), (4, 15), (4, 16), (4, 17), (4, 18), (4, 19), (4, 20), (4, 21), (4, 22), (4, 23), (5, 0), (5, 1), (5, 2), (5, 3), (5, 4), (5, 5), (7, 0), (7, 1), (7, 2), (7, 3), (7, 4), (7, 5), (7, 6), (7, 7), (7, 8), (7, 9), (7, 10), (7, 11), (7, 12), (7, 13), (7, 14), (7, 15), (7, 16), (8, 0), (8, 1), (8, 2), (8, 3), (8, 4), (8, 5), (8, 6), (8, 7), (8, 8), (8, 9), (8, 10), (9, 0), (9, 1), (10, 0), (10, 1), (10, 2), (11, 0), (11, 1), (11, 2), (11, 3), (11, 4), (11, 5), (11, 6), (11, 7)] (by decide +kernel) (by decide +kernel)) (goodIn_sub (fun _ h => List.mem_cons_of_mem _ (List.mem_append_left _ (List.mem_append_left _ (List.mem_append_right _ h)))) (by decide +kernel))) (goodIn_sub (fun _ h => List.mem_cons_of_mem _ (List.mem_append_left _ (List.mem_append_right _ h))) (by decide +kernel))
set_option maxRecDepth 20000 in
theorem gL_isDrawn_L_isMade : GoodIn wsL_isDrawn (wsV RL 80 RL yL_isMade wsL_isMade) := goodIn_app (goodIn_of _ (by decide +kernel)) ggL_isDrawn_L_isMade
set_option maxRecDepth 20000 in
theorem ggL_isDrawn_X11_wish : GoodIn wsL_isDrawn wsX11_wish := goodIn_ca (goodIn_ca (goodIn_ca (goodIn_2 lwk_L_isDrawn_in _ [(5, 9), (2, 14), (2, 15), (4, 12), (4, 13), (2, 5), (2, 6), (2, 7), (2, 8), (2, 3), (2, 9), (2, 10), (2, 11), (2, 12), (2, 13), (5, 10), (5, 11), (5, 12), (5, 13), (5, 14), (5, 15), (4, 18), (4, 19), (4, 20), (4, 1), (4, 21), (4, 3), (5, 16), (5, 17), (5, 18), (5, 19), (2, 16), (2, 17), (2, 18), (2, 19), (2, 20), (2, 21), (2, 22), (2, 23), (3, 0), (3, 1), (3, 2), (3, 3), (3, 4), (3, 5), (3, 6), (3, 7), (3, 8), (3, 9), (3, 10), (3, 11), (3, 12), (3, 13), (3, 14), (3, 15), (3, 16), (3, 17), (3, 18), (3, 19), (3, 20), (3, 21), (3, 22), (3, 23), (4, 0), (4, 2), (5, 20), (5, 21), (5, 22), (5, 23), (8, 0), (8, 1), (8, 2), (8, 3), (8, 4), (8, 5), (8, 6), (8, 7), (8, 8), (8, 9), (8, 10), (9, 0), (9, 1), (10, 0), (10, 1), (10, 2), (11, 0), (11, 1), (11, 2), (11, 3), (11, 4), (11, 5), (11, 6), (11, 7)] (by decide +kernel) (by decide +kernel)) (goodIn_sub (fun _ h => List.mem_cons_of_mem _ (List.mem_append_left _ (List.mem_append_left _ (List.mem_append_right _ h)))) (by decide +kernel))) (goodIn_sub (fun _ h => List.mem_cons_of_mem _ (List.mem_append_left _ (List.mem_append_right _ h))) (by decide +kernel))) (goodIn_sub (fun _ h => List.mem_cons_of_mem _ (List.mem_append_right _ h)) (by decide +kernel))
set_option maxRecDepth 20000 in
theorem gL_isDrawn_X11_wish : GoodIn wsL_isDrawn (wsV RL 87 RX11 yX11_wish wsX11_wish) := goodIn_app (goodIn_of _ (by decide +kernel)) ggL_isDrawn_X11_wish
set_option maxRecDepth 20000 in
theorem ggL_isDrawn_X11_wishes : GoodIn wsL_isDrawn wsX11_wishes := goodIn_2 lwk_L_isDrawn_in _ [(6, 3), (2, 5), (5, 16), (5, 17), (5, 18), (4, 1), (5, 19), (4, 3), (8, 0), (8, 1), (8, 2), (8, 3), (8, 4), (8, 5), (8, 6), (8, 7), (8, 8), (8, 9), (8, 10), (9, 0), (9, 1)] (by decide +kernel) (by decide +kernel)
set_option maxRecDepth 20000 in
theorem gL_isDrawn_X11_wishes : GoodIn wsL_isDrawn (wsV RL 91 RX11 yX11_wishes wsX11_wishes) := goodIn_app (goodIn_of _ (by decide +kernel)) ggL_isDrawn_X11_wishes
theorem dL_isDrawn_0 : decode cL_isDrawn 0 = .ok (.aload_n 0, 1) := by decide +kernel
theorem dL_isDrawn_1 : decode cL_isDrawn 1 = .ok (.aload_n 0, 1) := by decide +kernel
theorem dL_isDrawn_2 : decode cL_isDrawn 2 = .ok (.iconst 4, 1) := by decide +kernel
theorem dL_isDrawn_3 : decode cL_isDrawn 3 = .ok (.invokevirtual 76, 3) := by decide +kernel
theorem dL_isDrawn_6 : decode cL_isDrawn 6 = .ok (.ifCond .ne 14, 3) := by decide +kernel
theorem dL_isDrawn_9 : decode cL_isDrawn 9 = .ok (.iconst 4, 1) := by decide +kernel
theorem dL_isDrawn_10 : decode cL_isDrawn 10 = .ok (.aload_n 0, 1) := by decide +kernel
theorem dL_isDrawn_11 : decode cL_isDrawn 11 = .ok (.bipush 6, 2) := by decide +kernel
theorem dL_isDrawn_13 : decode cL_isDrawn 13 = .ok (.invokevirtual 76, 3) := by decide +kernel
theorem dL_isDrawn_16 : decode cL_isDrawn 16 = .ok (.iadd, 1) := by decide +kernel
theorem dL_isDrawn_17 : decode cL_isDrawn 17 = .ok (.goto 10, 3) := by decide +kernel
theorem dL_isDrawn_20 : decode cL_isDrawn 20 = .ok (.iconst 1, 1) := by decide +kernel
theorem dL_isDrawn_21 : decode cL_isDrawn 21 = .ok (.aload_n 0, 1) := by decide +kernel
theorem dL_isDrawn_22 : decode cL_isDrawn 22 = .ok (.iconst 3, 1) := by decide +kernel
theorem dL_isDrawn_23 : decode cL_isDrawn 23 = .ok (.invokevirtual 76, 3) := by decide +kernel
theorem dL_isDrawn_26 : decode cL_isDrawn 26 = .ok (.iadd, 1) := by decide +kernel
theorem dL_isDrawn_27 : decode cL_isDrawn 27 = .ok (.putfield 66, 3) := by decide +kernel
theorem dL_isDrawn_30 : decode cL_isDrawn 30 = .ok (.iconst 1, 1) := by decide +kernel
theorem dL_isDrawn_31 : decode cL_isDrawn 31 = .ok (.aload_n 0, 1) := by decide +kernel
theorem dL_isDrawn_32 : decode cL_isDrawn 32 = .ok (.iconst 4, 1) := by decide +kernel
theorem dL_isDrawn_33 : decode cL_isDrawn 33 = .ok (.invokevirtual 76, 3) := by decide +kernel
theorem dL_isDrawn_36 : decode cL_isDrawn 36 = .ok (.iadd, 1) := by decide +kernel
theorem dL_isDrawn_37 : decode cL_isDrawn 37 = .ok (.istore_n 1, 1) := by decide +kernel
theorem dL_isDrawn_38 : decode cL_isDrawn 38 = .ok (.iconst 1, 1) := by decide +kernel
theorem dL_isDrawn_39 : decode cL_isDrawn 39 = .ok (.aload_n 0, 1) := by decide +kernel
theorem dL_isDrawn_40 : decode cL_isDrawn 40 = .ok (.iconst 5, 1) := by decide +kernel
theorem dL_isDrawn_41 : decode cL_isDrawn 41 = .ok (.invokevirtual 76, 3) := by decide +kernel
theorem dL_isDrawn_44 : decode cL_isDrawn 44 = .ok (.iadd, 1) := by decide +kernel
theorem dL_isDrawn_45 : decode cL_isDrawn 45 = .ok (.istore_n 2, 1) := by decide +kernel
theorem dL_isDrawn_46 : decode cL_isDrawn 46 = .ok (.iconst 0, 1) := by decide +kernel
theorem dL_isDrawn_47 : decode cL_isDrawn 47 = .ok (.istore_n 3, 1) := by decide +kernel
theorem dL_isDrawn_48 : decode cL_isDrawn 48 = .ok (.iload_n 3, 1) := by decide +kernel
theorem dL_isDrawn_49 : decode cL_isDrawn 49 = .ok (.iconst 3, 1) := by decide +kernel
theorem dL_isDrawn_50 : decode cL_isDrawn 50 = .ok (.if_icmp .ge 35, 3) := by decide +kernel
theorem dL_isDrawn_53 : decode cL_isDrawn 53 = .ok (.aload_n 0, 1) := by decide +kernel
theorem dL_isDrawn_54 : decode cL_isDrawn 54 = .ok (.getfield 47, 3) := by decide +kernel
theorem dL_isDrawn_57 : decode cL_isDrawn 57 = .ok (.iload_n 3, 1) := by decide +kernel
theorem dL_isDrawn_58 : decode cL_isDrawn 58 = .ok (.aload_n 0, 1) := by decide +kernel
theorem dL_isDrawn_59 : decode cL_isDrawn 59 = .ok (.bipush 6, 2) := by decide +kernel
theorem dL_isDrawn_61 : decode cL_isDrawn 61 = .ok (.invokevirtual 76, 3) := by decide +kernel
theorem dL_isDrawn_64 : decode cL_isDrawn 64 = .ok (.ifCond .ne 7, 3) := by decide +kernel
theorem dL_isDrawn_67 : decode cL_isDrawn 67 = .ok (.iconst 0, 1) := by decide +kernel
theorem dL_isDrawn_68 : decode cL_isDrawn 68 = .ok (.goto 10, 3) := by decide +kernel
theorem dL_isDrawn_71 : decode cL_isDrawn 71 = .ok (.iconst 1, 1) := by decide +kernel
theorem dL_isDrawn_72 : decode cL_isDrawn 72 = .ok (.aload_n 0, 1) := by decide +kernel
theorem dL_isDrawn_73 : decode cL_isDrawn 73 = .ok (.iconst 3, 1) := by decide +kernel
theorem dL_isDrawn_74 : decode cL_isDrawn 74 = .ok (.invokevirtual 76, 3) := by decide +kernel
theorem dL_isDrawn_77 : decode cL_isDrawn 77 = .ok (.iadd, 1) := by decide +kernel
theorem dL_isDrawn_78 : decode cL_isDrawn 78 = .ok (.iastore, 1) := by decide +kernel
theorem dL_isDrawn_79 : decode cL_isDrawn 79 = .ok (.iinc 3 1, 3) := by decide +kernel
theorem dL_isDrawn_82 : decode cL_isDrawn 82 = .ok (.goto (-34), 3) := by decide +kernel
theorem dL_isDrawn_85 : decode cL_isDrawn 85 = .ok (.iconst 0, 1) := by decide +kernel
theorem dL_isDrawn_86 : decode cL_isDrawn 86 = .ok (.istore_n 3, 1) := by decide +kernel
theorem dL_isDrawn_87 : decode cL_isDrawn 87 = .ok (.iload_n 3, 1) := by decide +kernel
theorem dL_isDrawn_88 : decode cL_isDrawn 88 = .ok (.aload_n 0, 1) := by decide +kernel
theorem dL_isDrawn_89 : decode cL_isDrawn 89 = .ok (.getfield 66, 3) := by decide +kernel
theorem dL_isDrawn_92 : decode cL_isDrawn 92 = .ok (.if_icmp .ge 91, 3) := by decide +kernel
theorem dL_isDrawn_95 : decode cL_isDrawn 95 = .ok (.aload_n 0, 1) := by decide +kernel
theorem dL_isDrawn_96 : decode cL_isDrawn 96 = .ok (.getfield 16, 3) := by decide +kernel
theorem dL_isDrawn_99 : decode cL_isDrawn 99 = .ok (.iload_n 3, 1) := by decide +kernel
theorem dL_isDrawn_100 : decode cL_isDrawn 100 = .ok (.aload_n 0, 1) := by decide +kernel
theorem dL_isDrawn_101 : decode cL_isDrawn 101 = .ok (.iload_n 1, 1) := by decide +kernel
theorem dL_isDrawn_102 : decode cL_isDrawn 102 = .ok (.invokevirtual 76, 3) := by decide +kernel
theorem dL_isDrawn_105 : decode cL_isDrawn 105 = .ok (.iastore, 1) := by decide +kernel
theorem dL_isDrawn_106 : decode cL_isDrawn 106 = .ok (.aload_n 0, 1) := by decide +kernel
theorem dL_isDrawn_107 : decode cL_isDrawn 107 = .ok (.getfield 20, 3) := by decide +kernel
theorem dL_isDrawn_110 : decode cL_isDrawn 110 = .ok (.iload_n 3, 1) := by decide +kernel
theorem dL_isDrawn_111 : decode cL_isDrawn 111 = .ok (.aload_n 0, 1) := by decide +kernel
theorem dL_isDrawn_112 : decode cL_isDrawn 112 = .ok (.iload_n 2, 1) := by decide +kernel
theorem dL_isDrawn_113 : decode cL_isDrawn 113 = .ok (.invokevirtual 76, 3) := by decide +kernel
theorem dL_isDrawn_116 : decode cL_isDrawn 116 = .ok (.iastore, 1) := by decide +kernel
theorem dL_isDrawn_117 : decode cL_isDrawn 117 = .ok (.aload_n 0, 1) := by decide +kernel
theorem dL_isDrawn_118 : decode cL_isDrawn 118 = .ok (.getfield 23, 3) := by decide +kernel
theorem dL_isDrawn_121 : decode cL_isDrawn 121 = .ok (.iload_n 3, 1) := by decide +kernel
theorem dL_isDrawn_122 : decode cL_isDrawn 122 = .ok (.aload_n 0, 1) := by decide +kernel
theorem dL_isDrawn_123 : decode cL_isDrawn 123 = .ok (.bipush 6, 2) := by decide +kernel
theorem dL_isDrawn_125 : decode cL_isDrawn 125 = .ok (.invokevirtual 76, 3) := by decide +kernel
theorem dL_isDrawn_128 : decode cL_isDrawn 128 = .ok (.iastore, 1) := by decide +kernel
theorem dL_isDrawn_129 : decode cL_isDrawn 129 = .ok (.aload_n 0, 1) := by decide +kernel
theorem dL_isDrawn_130 : decode cL_isDrawn 130 = .ok (.getfield 26, 3) := by decide +kernel
theorem dL_isDrawn_133 : decode cL_isDrawn 133 = .ok (.iload_n 3, 1) := by decide +kernel
theorem dL_isDrawn_134 : decode cL_isDrawn 134 = .ok (.aload_n 0, 1) := by decide +kernel
theorem dL_isDrawn_135 : decode cL_isDrawn 135 = .ok (.iconst 5, 1) := by decide +kernel
theorem dL_isDrawn_136 : decode cL_isDrawn 136 = .ok (.invokevirtual 76, 3) := by decide +kernel
theorem dL_isDrawn_139 : decode cL_isDrawn 139 = .ok (.iconst 2, 1) := by decide +kernel
theorem dL_isDrawn_140 : decode cL_isDrawn 140 = .ok (.isub, 1) := by decide +kernel
theorem dL_isDrawn_141 : decode cL_isDrawn 141 = .ok (.iastore, 1) := by decide +kernel
