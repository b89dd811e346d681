set_option maxRecDepth 20000 in
theorem ggL_init_X11_init : GoodIn wsL_init wsX11_init := goodIn_r _ [25, 26, 2, 3, 27, 28, 29, 30, 31, 32, 33, 34, 35, 36, 37, 38, 39, 40, 41, 42, 43, 44, 45, 46, 47, 48, 49, 50, 51, 52, 53, 54, 55, 56, 57, 58, 59, 60, 61, 62, 63, 64, 65, 66, 67, 68, 69, 70, 71, 72, 73, 74, 8, 75, 76, 77, 78, 79, 80, 81, 82, 83, 84, 85, 86, 87, 88, 89, 90, 91, 92, 93, 94, 95, 96, 97, 98, 99, 100, 101, 102, 103, 104, 105, 106, 107, 108, 109, 110, 111, 112, 113, 114, 115, 116, 117, 118, 119, 120, 121, 122, 123, 124, 125, 126, 127, 128, 129, 130, 131, 132, 133, 20, 134, 135, 136, 137, 138, 139, 140, 141, 142, 143, 172, 173, 144, 145, 146, 147, 148, 149, 150, 151, 152, 153, 154, 174, 175, 176, 177, 178, 179, 180, 181, 182, 183, 184, 185, 186, 187, 188, 189, 190, 191, 192, 193, 194, 195, 196, 197, 198, 199, 200, 201, 202, 203, 204, 205, 206, 207, 208, 209, 210, 211, 212, 213, 214, 215, 216, 217, 218, 219, 220] (by decide +kernel) (by decide +kernel)
set_option maxRecDepth 20000 in
theorem gL_init_X11_init : GoodIn wsL_init (wsX11_init) := ggL_init_X11_init
theorem dL_init_0 : decode cL_init 0 = .ok (.aload_n 0, 1) := by decide +kernel
theorem dL_init_1 : decode cL_init 1 = .ok (.invokespecial 3, 3) := by decide +kernel
theorem dL_init_4 : decode cL_init 4 = .ok (.aload_n 0, 1) := by decide +kernel
theorem dL_init_5 : decode cL_init 5 = .ok (.new 1, 3) := by decide +kernel
theorem dL_init_8 : decode cL_init 8 = .ok (.dup, 1) := by decide +kernel
theorem dL_init_9 : decode cL_init 9 = .ok (.invokespecial 9, 3) := by decide +kernel
theorem dL_init_12 : decode cL_init 12 = .ok (.putfield 10, 3) := by decide +kernel
theorem dL_init_15 : decode cL_init 15 = .ok (.aload_n 0, 1) := by decide +kernel
theorem dL_init_16 : decode cL_init 16 = .ok (.bipush 9, 2) := by decide +kernel
theorem dL_init_18 : decode cL_init 18 = .ok (.newarray .int, 2) := by decide +kernel
theorem dL_init_20 : decode cL_init 20 = .ok (.putfield 16, 3) := by decide +kernel
theorem dL_init_23 : decode cL_init 23 = .ok (.aload_n 0, 1) := by decide +kernel
theorem dL_init_24 : decode cL_init 24 = .ok (.bipush 9, 2) := by decide +kernel
theorem dL_init_26 : decode cL_init 26 = .ok (.newarray .int, 2) := by decide +kernel
theorem dL_init_28 : decode cL_init 28 = .ok (.putfield 20, 3) := by decide +kernel
theorem dL_init_31 : decode cL_init 31 = .ok (.aload_n 0, 1) := by decide +kernel
theorem dL_init_32 : decode cL_init 32 = .ok (.bipush 9, 2) := by decide +kernel
theorem dL_init_34 : decode cL_init 34 = .ok (.newarray .int, 2) := by decide +kernel
theorem dL_init_36 : decode cL_init 36 = .ok (.putfield 23, 3) := by decide +kernel
theorem dL_init_39 : decode cL_init 39 = .ok (.aload_n 0, 1) := by decide +kernel
theorem dL_init_40 : decode cL_init 40 = .ok (.bipush 9, 2) := by decide +kernel
theorem dL_init_42 : decode cL_init 42 = .ok (.newarray .int, 2) := by decide +kernel
theorem dL_init_44 : decode cL_init 44 = .ok (.putfield 26, 3) := by decide +kernel
theorem dL_init_47 : decode cL_init 47 = .ok (.aload_n 0, 1) := by decide +kernel
theorem dL_init_48 : decode cL_init 48 = .ok (.bipush 9, 2) := by decide +kernel
theorem dL_init_50 : decode cL_init 50 = .ok (.newarray .int, 2) := by decide +kernel
theorem dL_init_52 : decode cL_init 52 = .ok (.putfield 29, 3) := by decide +kernel
theorem dL_init_55 : decode cL_init 55 = .ok (.aload_n 0, 1) := by decide +kernel
theorem dL_init_56 : decode cL_init 56 = .ok (.bipush 9, 2) := by decide +kernel
theorem dL_init_58 : decode cL_init 58 = .ok (.newarray .int, 2) := by decide +kernel
theorem dL_init_60 : decode cL_init 60 = .ok (.putfield 32, 3) := by decide +kernel
theorem dL_init_63 : decode cL_init 63 = .ok (.aload_n 0, 1) := by decide +kernel
theorem dL_init_64 : decode cL_init 64 = .ok (.bipush 12, 2) := by decide +kernel
theorem dL_init_66 : decode cL_init 66 = .ok (.newarray .int, 2) := by decide +kernel
theorem dL_init_68 : decode cL_init 68 = .ok (.putfield 35, 3) := by decide +kernel
theorem dL_init_71 : decode cL_init 71 = .ok (.aload_n 0, 1) := by decide +kernel
theorem dL_init_72 : decode cL_init 72 = .ok (.bipush 12, 2) := by decide +kernel
theorem dL_init_74 : decode cL_init 74 = .ok (.newarray .int, 2) := by decide +kernel
theorem dL_init_76 : decode cL_init 76 = .ok (.putfield 38, 3) := by decide +kernel
theorem dL_init_79 : decode cL_init 79 = .ok (.aload_n 0, 1) := by decide +kernel
theorem dL_init_80 : decode cL_init 80 = .ok (.bipush 12, 2) := by decide +kernel
theorem dL_init_82 : decode cL_init 82 = .ok (.newarray .int, 2) := by decide +kernel
theorem dL_init_84 : decode cL_init 84 = .ok (.putfield 41, 3) := by decide +kernel
theorem dL_init_87 : decode cL_init 87 = .ok (.aload_n 0, 1) := by decide +kernel
theorem dL_init_88 : decode cL_init 88 = .ok (.bipush 12, 2) := by decide +kernel
theorem dL_init_90 : decode cL_init 90 = .ok (.newarray .int, 2) := by decide +kernel
theorem dL_init_92 : decode cL_init 92 = .ok (.putfield 44, 3) := by decide +kernel
theorem dL_init_95 : decode cL_init 95 = .ok (.aload_n 0, 1) := by decide +kernel
theorem dL_init_96 : decode cL_init 96 = .ok (.iconst 3, 1) := by decide +kernel
theorem dL_init_97 : decode cL_init 97 = .ok (.newarray .int, 2) := by decide +kernel
theorem dL_init_99 : decode cL_init 99 = .ok (.putfield 47, 3) := by decide +kernel
theorem dL_init_102 : decode cL_init 102 = .ok (.aload_n 0, 1) := by decide +kernel
theorem dL_init_103 : decode cL_init 103 = .ok (.bipush 30, 2) := by decide +kernel
theorem dL_init_105 : decode cL_init 105 = .ok (.newarray .boolean, 2) := by decide +kernel
theorem dL_init_107 : decode cL_init 107 = .ok (.putfield 50, 3) := by decide +kernel
theorem dL_init_110 : decode cL_init 110 = .ok (.aload_n 0, 1) := by decide +kernel
theorem dL_init_111 : decode cL_init 111 = .ok (.bipush 64, 2) := by decide +kernel
theorem dL_init_113 : decode cL_init 113 = .ok (.newarray .boolean, 2) := by decide +kernel
theorem dL_init_115 : decode cL_init 115 = .ok (.putfield 54, 3) := by decide +kernel
theorem dL_init_118 : decode cL_init 118 = .ok (.return_, 1) := by decide +kernel
theorem dL_next_0 : decode cL_next 0 = .ok (.aload_n 0, 1) := by decide +kernel
theorem dL_next_1 : decode cL_next 1 = .ok (.aload_n 0, 1) := by decide +kernel
theorem dL_next_2 : decode cL_next 2 = .ok (.getfield 57, 3) := by decide +kernel
theorem dL_next_5 : decode cL_next 5 = .ok (.ldc 61, 2) := by decide +kernel
theorem dL_next_7 : decode cL_next 7 = .ok (.imul, 1) := by decide +kernel
theorem dL_next_8 : decode cL_next 8 = .ok (.sipush 12345, 3) := by decide +kernel
theorem dL_next_11 : decode cL_next 11 = .ok (.iadd, 1) := by decide +kernel
theorem dL_next_12 : decode cL_next 12 = .ok (.putfield 57, 3) := by decide +kernel
theorem dL_next_15 : decode cL_next 15 = .ok (.aload_n 0, 1) := by decide +kernel
theorem dL_next_16 : decode cL_next 16 = .ok (.getfield 57, 3) := by decide +kernel
theorem dL_next_19 : decode cL_next 19 = .ok (.bipush 16, 2) := by decide +kernel
theorem dL_next_21 : decode cL_next 21 = .ok (.iushr, 1) := by decide +kernel
theorem dL_next_22 : decode cL_next 22 = .ok (.iload_n 1, 1) := by decide +kernel
theorem dL_next_23 : decode cL_next 23 = .ok (.irem, 1) := by decide +kernel
theorem dL_next_24 : decode cL_next 24 = .ok (.ireturn, 1) := by decide +kernel
set_option maxRecDepth 20000 in
theorem ggL_isMade_X11_setRooms : GoodIn wsL_isMade wsX11_setRooms := goodIn_ca (goodIn_r _ [12, 13, 14, 15, 16, 11, 17, 18, 19, 20, 21, 22, 23, 24, 25, 26, 27, 28, 29, 30, 31, 32, 33, 34, 35, 36, 37, 38, 39, 40, 41, 42, 43, 44, 45, 46, 47, 48, 49, 50, 51, 52, 53, 54, 55, 56, 57, 58, 59, 60, 61, 62, 63, 103, 104, 105, 106, 107, 108, 109, 110, 111, 112, 113, 114, 115, 116, 117, 118, 119, 120, 121, 122, 123, 124, 125, 126] (by decide +kernel) (by decide +kernel)) (goodIn_sub (fun _ h => List.mem_cons_of_mem _ (List.mem_append_left _ (List.mem_append_right _ h))) (by decide +kernel))
set_option maxRecDepth 20000 in
theorem gL_isMade_X11_setRooms : GoodIn wsL_isMade (wsV RL 62 RX11 yX11_setRooms wsX11_setRooms) := goodIn_app (goodIn_of _ (by decide +kernel)) ggL_isMade_X11_setRooms
set_option maxRecDepth 20000 in
theorem ggL_isMade_X11_lesson : GoodIn wsL_isMade wsX11_lesson := goodIn_ca (goodIn_ca (goodIn_r _ [67, 22, 23, 68, 69, 13, 14, 15, 16, 11, 17, 18, 19, 20, 21, 70, 71, 72, 57, 73, 59, 74, 75, 76, 77, 24, 25, 26, 27, 28, 29, 30, 31, 32, 33, 34, 35, 36, 37, 38, 39, 40, 41, 42, 43, 44, 45, 46, 47, 48, 49, 50, 51, 52, 53, 54, 55, 56, 58, 78, 79, 80, 81, 103, 104, 105, 106, 107, 108, 109, 110, 111, 112, 113, 114, 115, 116, 117, 118, 119, 120, 121, 122, 123, 124, 125, 126] (by decide +kernel) (by decide +kernel)) (goodIn_sub (fun _ h => List.mem_cons_of_mem _ (List.mem_append_left _ (List.mem_append_right _ h))) (by decide +kernel))) (goodIn_sub (fun _ h => List.mem_cons_of_mem _ (List.mem_append_right _ h)) (by decide +kernel))
set_option maxRecDepth 20000 in
theorem gL_isMade_X11_lesson : GoodIn wsL_isMade (wsV RL 69 RX11 yX11_lesson wsX11_lesson) := goodIn_app (goodIn_of _ (by decide +kernel)) ggL_isMade_X11_lesson
set_option maxRecDepth 20000 in
theorem ggL_isMade_X11_lessons : GoodIn wsL_isMade wsX11_lessons := goodIn_r _ [85, 13, 74, 75, 76, 57, 77, 59, 103, 104, 105, 106, 107, 108, 109, 110, 111, 112, 113, 114, 115] (by decide +kernel) (by decide +kernel)
set_option maxRecDepth 20000 in
theorem gL_isMade_X11_lessons : GoodIn wsL_isMade (wsV RL 73 RX11 yX11_lessons wsX11_lessons) := goodIn_app (goodIn_of _ (by decide +kernel)) ggL_isMade_X11_lessons
theorem dL_isMade_0 : decode cL_isMade 0 = .ok (.iconst 0, 1) := by decide +kernel
theorem dL_isMade_1 : decode cL_isMade 1 = .ok (.istore_n 2, 1) := by decide +kernel
theorem dL_isMade_2 : decode cL_isMade 2 = .ok (.iload_n 2, 1) := by decide +kernel
theorem dL_isMade_3 : decode cL_isMade 3 = .ok (.iconst 3, 1) := by decide +kernel
theorem dL_isMade_4 : decode cL_isMade 4 = .ok (.if_icmp .ge 26, 3) := by decide +kernel
theorem dL_isMade_7 : decode cL_isMade 7 = .ok (.aload_n 1, 1) := by decide +kernel
theorem dL_isMade_8 : decode cL_isMade 8 = .ok (.iload_n 2, 1) := by decide +kernel
theorem dL_isMade_9 : decode cL_isMade 9 = .ok (.aload_n 0, 1) := by decide +kernel
theorem dL_isMade_10 : decode cL_isMade 10 = .ok (.getfield 47, 3) := by decide +kernel
theorem dL_isMade_13 : decode cL_isMade 13 = .ok (.iload_n 2, 1) := by decide +kernel
theorem dL_isMade_14 : decode cL_isMade 14 = .ok (.iaload, 1) := by decide +kernel
theorem dL_isMade_15 : decode cL_isMade 15 = .ok (.invokevirtual 62, 3) := by decide +kernel
theorem dL_isMade_18 : decode cL_isMade 18 = .ok (.iconst 3, 1) := by decide +kernel
theorem dL_isMade_19 : decode cL_isMade 19 = .ok (.if_icmp .eq 5, 3) := by decide +kernel
theorem dL_isMade_22 : decode cL_isMade 22 = .ok (.iconst 0, 1) := by decide +kernel
theorem dL_isMade_23 : decode cL_isMade 23 = .ok (.ireturn, 1) := by decide +kernel
theorem dL_isMade_24 : decode cL_isMade 24 = .ok (.iinc 2 1, 3) := by decide +kernel
theorem dL_isMade_27 : decode cL_isMade 27 = .ok (.goto (-25), 3) := by decide +kernel
theorem dL_isMade_30 : decode cL_isMade 30 = .ok (.iconst 0, 1) := by decide +kernel
theorem dL_isMade_31 : decode cL_isMade 31 = .ok (.istore_n 2, 1) := by decide +kernel
theorem dL_isMade_32 : decode cL_isMade 32 = .ok (.iload_n 2, 1) := by decide +kernel
theorem dL_isMade_33 : decode cL_isMade 33 = .ok (.aload_n 0, 1) := by decide +kernel
theorem dL_isMade_34 : decode cL_isMade 34 = .ok (.getfield 66, 3) := by decide +kernel
theorem dL_isMade_37 : decode cL_isMade 37 = .ok (.if_icmp .ge 58, 3) := by decide +kernel
theorem dL_isMade_40 : decode cL_isMade 40 = .ok (.aload_n 1, 1) := by decide +kernel
theorem dL_isMade_41 : decode cL_isMade 41 = .ok (.aload_n 0, 1) := by decide +kernel
theorem dL_isMade_42 : decode cL_isMade 42 = .ok (.getfield 16, 3) := by decide +kernel
theorem dL_isMade_45 : decode cL_isMade 45 = .ok (.iload_n 2, 1) := by decide +kernel
theorem dL_isMade_46 : decode cL_isMade 46 = .ok (.iaload, 1) := by decide +kernel
theorem dL_isMade_47 : decode cL_isMade 47 = .ok (.aload_n 0, 1) := by decide +kernel
theorem dL_isMade_48 : decode cL_isMade 48 = .ok (.getfield 20, 3) := by decide +kernel
theorem dL_isMade_51 : decode cL_isMade 51 = .ok (.iload_n 2, 1) := by decide +kernel
theorem dL_isMade_52 : decode cL_isMade 52 = .ok (.iaload, 1) := by decide +kernel
theorem dL_isMade_53 : decode cL_isMade 53 = .ok (.aload_n 0, 1) := by decide +kernel
theorem dL_isMade_54 : decode cL_isMade 54 = .ok (.getfield 23, 3) := by decide +kernel
theorem dL_isMade_57 : decode cL_isMade 57 = .ok (.iload_n 2, 1) := by decide +kernel
theorem dL_isMade_58 : decode cL_isMade 58 = .ok (.iaload, 1) := by decide +kernel
theorem dL_isMade_59 : decode cL_isMade 59 = .ok (.aload_n 0, 1) := by decide +kernel
theorem dL_isMade_60 : decode cL_isMade 60 = .ok (.getfield 26, 3) := by decide +kernel
theorem dL_isMade_63 : decode cL_isMade 63 = .ok (.iload_n 2, 1) := by decide +kernel
theorem dL_isMade_64 : decode cL_isMade 64 = .ok (.iaload, 1) := by decide +kernel
theorem dL_isMade_65 : decode cL_isMade 65 = .ok (.aload_n 0, 1) := by decide +kernel
theorem dL_isMade_66 : decode cL_isMade 66 = .ok (.getfield 29, 3) := by decide +kernel
theorem dL_isMade_69 : decode cL_isMade 69 = .ok (.iload_n 2, 1) := by decide +kernel
theorem dL_isMade_70 : decode cL_isMade 70 = .ok (.iaload, 1) := by decide +kernel
theorem dL_isMade_71 : decode cL_isMade 71 = .ok (.iconst 2, 1) := by decide +kernel
theorem dL_isMade_72 : decode cL_isMade 72 = .ok (.if_icmp .ne 7, 3) := by decide +kernel
theorem dL_isMade_75 : decode cL_isMade 75 = .ok (.iconst 1, 1) := by decide +kernel
theorem dL_isMade_76 : decode cL_isMade 76 = .ok (.goto 4, 3) := by decide +kernel
theorem dL_isMade_79 : decode cL_isMade 79 = .ok (.iconst 0, 1) := by decide +kernel
theorem dL_isMade_80 : decode cL_isMade 80 = .ok (.invokevirtual 69, 3) := by decide +kernel
theorem dL_isMade_83 : decode cL_isMade 83 = .ok (.iload_n 2, 1) := by decide +kernel
theorem dL_isMade_84 : decode cL_isMade 84 = .ok (.if_icmp .eq 5, 3) := by decide +kernel
theorem dL_isMade_87 : decode cL_isMade 87 = .ok (.iconst 0, 1) := by decide +kernel
theorem dL_isMade_88 : decode cL_isMade 88 = .ok (.ireturn, 1) := by decide +kernel
theorem dL_isMade_89 : decode cL_isMade 89 = .ok (.iinc 2 1, 3) := by decide +kernel
theorem dL_isMade_92 : decode cL_isMade 92 = .ok (.goto (-60), 3) := by decide +kernel
theorem dL_isMade_95 : decode cL_isMade 95 = .ok (.aload_n 1, 1) := by decide +kernel
theorem dL_isMade_96 : decode cL_isMade 96 = .ok (.invokevirtual 73, 3) := by decide +kernel
theorem dL_isMade_99 : decode cL_isMade 99 = .ok (.aload_n 0, 1) := by decide +kernel
theorem dL_isMade_100 : decode cL_isMade 100 = .ok (.getfield 66, 3) := by decide +kernel
theorem dL_isMade_103 : decode cL_isMade 103 = .ok (.if_icmp .ne 7, 3) := by decide +kernel
theorem dL_isMade_106 : decode cL_isMade 106 = .ok (.iconst 1, 1) := by decide +kernel
theorem dL_isMade_107 : decode cL_isMade 107 = .ok (.goto 4, 3) := by decide +kernel
theorem dL_isMade_110 : decode cL_isMade 110 = .ok (.iconst 0, 1) := by decide +kernel
theorem dL_isMade_111 : decode cL_isMade 111 = .ok (.ireturn, 1) := by decide +kernel
set_option maxRecDepth 20000 in
theorem ggL_isDrawn_L_next : GoodIn wsL_isDrawn wsL_next := goodIn_r _ [18, 19, 20, 125, 126, 127, 128, 129, 130, 131, 132, 133, 134, 135, 136, 137, 138, 139, 140, 141] (by decide +kernel) (by decide +kernel)
set_option maxRecDepth 20000 in
theorem gL_isDrawn_L_next : GoodIn wsL_isDrawn (wsV RL 76 RL yL_next wsL_next) := goodIn_app (goodIn_of _ (by decide +kernel)) ggL_isDrawn_L_next
set_option maxRecDepth 20000 in
theorem ggL_isDrawn_L_isMade : GoodIn wsL_isDrawn wsL_isMade := goodIn_ca (goodIn_ca (goodIn_r _ [24, 2, 1, 3, 4, 5, 6, 7, 25, 26, 27, 28, 29, 30, 31, 32, 33, 34, 35, 36, 37, 38, 39, 40, 41, 42, 43, 44, 45, 46, 47, 48, 49, 50, 51, 52, 53, 54, 55, 56, 57, 58, 59, 60, 61, 62, 63, 64, 65, 66, 67, 68, 69, 70, 71, 72, 73, 74, 75, 76, 77, 78, 79, 80, 81, 82, 83, 84, 85, 86, 87, 88, 89, 90, 91, 92, 93, 94, 95, 96, 97, 98, 99, 100, 101, 102, 125, 126, 127, 128, 129, 130, 131, 132, 133, 134, 135, 136, 137, 138, 139, 140, 141, 142, 143, 144, 145, 146, 147, 148, 149, 150, 151, 152, 153, 154, 155, 156, 157, 158, 159, 160, 161, 162, 163, 164, 165] (by decide +kernel) (by decide +kernel)) (goodIn_sub (fun _ h => List.mem_cons_of_mem _ (List.mem_append_left _ (List.mem_append_left _ (List.mem_append_right _ h)))) (by decide +kernel))) (goodIn_sub (fun _ h => List.mem_cons_of_mem _ (List.mem_append_left _ (List.mem_append_right _ h))) (by decide +kernel))
set_option maxRecDepth 20000 in
theorem gL_isDrawn_L_isMade : GoodIn wsL_isDrawn (wsV RL 80 RL yL_isMade wsL_isMade) := goodIn_app (goodIn_of _ (by decide +kernel)) ggL_isDrawn_L_isMade
set_option maxRecDepth 20000 in
theorem ggL_isDrawn_X11_wish : GoodIn wsL_isDrawn wsX11_wish := goodIn_ca (goodIn_ca (goodIn_ca (goodIn_r _ [106, 39, 40, 85, 86, 30, 31, 32, 33, 28, 34, 35, 36, 37, 38, 107, 108, 109, 110, 111, 112, 91, 92, 93, 74, 94, 76, 113, 114, 115, 116, 41, 42, 43, 44, 45, 46, 47, 48, 49, 50, 51, 52, 53, 54, 55, 56, 57, 58, 59, 60, 61, 62, 63, 64, 65, 66, 67, 68, 69, 70, 71, 72, 73, 75, 117, 118, 119, 120, 142, 143, 144, 145, 146, 147, 148, 149, 150, 151, 152, 153, 154, 155, 156, 157, 158, 159, 160, 161, 162, 163, 164, 165] (by decide +kernel) (by decide +kernel)) (goodIn_sub (fun _ h => List.mem_cons_of_mem _ (List.mem_append_left _ (List.mem_append_left _ (List.mem_append_right _ h)))) (by decide +kernel))) (goodIn_sub (fun _ h => List.mem_cons_of_mem _ (List.mem_append_left _ (List.mem_append_right _ h))) (by decide +kernel))) (goodIn_sub (fun _ h => List.mem_cons_of_mem _ (List.mem_append_right _ h)) (by decide +kernel))
set_option maxRecDepth 20000 in
theorem gL_isDrawn_X11_wish : GoodIn wsL_isDrawn (wsV RL 87 RX11 yX11_wish wsX11_wish) := goodIn_app (goodIn_of _ (by decide +kernel)) ggL_isDrawn_X11_wish
set_option maxRecDepth 20000 in
theorem ggL_isDrawn_X11_wishes : GoodIn wsL_isDrawn wsX11_wishes := goodIn_r _ [124, 30, 113, 114, 115, 74, 116, 76, 142, 143, 144, 145, 146, 147, 148, 149, 150, 151, 152, 153, 154] (by decide +kernel) (by decide +kernel)
set_option maxRecDepth 20000 in
theorem gL_isDrawn_X11_wishes : GoodIn wsL_isDrawn (wsV RL 91 RX11 yX11_wishes wsX11_wishes) := goodIn_app (goodIn_of _ (by decide +kernel)) ggL_isDrawn_X11_wishes
theorem dL_isDrawn_0 : decode cL_isDrawn 0 = .ok (.aload_n 0, 1) := by decide +kernel
theorem dL_isDrawn_1 : decode cL_isDrawn 1 = .ok (.aload_n 0, 1) := by decide +kernel
theorem dL_isDrawn_2 : decode cL_isDrawn 2 = .ok (.iconst 4, 1) := by decide +kernel
theorem dL_isDrawn_3 : decode cL_isDrawn 3 = .ok (.invokevirtual 76, 3) := by decide +kernel
theorem dL_isDrawn_6 : decode cL_isDrawn 6 = .ok (.ifCond .ne 14, 3) := by decide +kernel
theorem dL_isDrawn_9 : decode cL_isDrawn 9 = .ok (.iconst 4, 1) := by decide +kernel
theorem dL_isDrawn_10 : decode cL_isDrawn 10 = .ok (.aload_n 0, 1) := by decide +kernel
theorem dL_isDrawn_11 : decode cL_isDrawn 11 = .ok (.bipush 6, 2) := by decide +kernel
theorem dL_isDrawn_13 : decode cL_isDrawn 13 = .ok (.invokevirtual 76, 3) := by decide +kernel
theorem dL_isDrawn_16 : decode cL_isDrawn 16 = .ok (.iadd, 1) := by decide +kernel
theorem dL_isDrawn_17 : decode cL_isDrawn 17 = .ok (.goto 10, 3) := by decide +kernel
theorem dL_isDrawn_20 : decode cL_isDrawn 20 = .ok (.iconst 1, 1) := by decide +kernel
theorem dL_isDrawn_21 : decode cL_isDrawn 21 = .ok (.aload_n 0, 1) := by decide +kernel
theorem dL_isDrawn_22 : decode cL_isDrawn 22 = .ok (.iconst 3, 1) := by decide +kernel
theorem dL_isDrawn_23 : decode cL_isDrawn 23 = .ok (.invokevirtual 76, 3) := by decide +kernel
theorem dL_isDrawn_26 : decode cL_isDrawn 26 = .ok (.iadd, 1) := by decide +kernel
theorem dL_isDrawn_27 : decode cL_isDrawn 27 = .ok (.putfield 66, 3) := by decide +kernel
theorem dL_isDrawn_30 : decode cL_isDrawn 30 = .ok (.iconst 1, 1) := by decide +kernel
theorem dL_isDrawn_31 : decode cL_isDrawn 31 = .ok (.aload_n 0, 1) := by decide +kernel
theorem dL_isDrawn_32 : decode cL_isDrawn 32 = .ok (.iconst 4, 1) := by decide +kernel
theorem dL_isDrawn_33 : decode cL_isDrawn 33 = .ok (.invokevirtual 76, 3) := by decide +kernel
theorem dL_isDrawn_36 : decode cL_isDrawn 36 = .ok (.iadd, 1) := by decide +kernel
theorem dL_isDrawn_37 : decode cL_isDrawn 37 = .ok (.istore_n 1, 1) := by decide +kernel
theorem dL_isDrawn_38 : decode cL_isDrawn 38 = .ok (.iconst 1, 1) := by decide +kernel
theorem dL_isDrawn_39 : decode cL_isDrawn 39 = .ok (.aload_n 0, 1) := by decide +kernel
theorem dL_isDrawn_40 : decode cL_isDrawn 40 = .ok (.iconst 5, 1) := by decide +kernel
theorem dL_isDrawn_41 : decode cL_isDrawn 41 = .ok (.invokevirtual 76, 3) := by decide +kernel
theorem dL_isDrawn_44 : decode cL_isDrawn 44 = .ok (.iadd, 1) := by decide +kernel
theorem dL_isDrawn_45 : decode cL_isDrawn 45 = .ok (.istore_n 2, 1) := by decide +kernel
theorem dL_isDrawn_46 : decode cL_isDrawn 46 = .ok (.iconst 0, 1) := by decide +kernel
theorem dL_isDrawn_47 : decode cL_isDrawn 47 = .ok (.istore_n 3, 1) := by decide +kernel
theorem dL_isDrawn_48 : decode cL_isDrawn 48 = .ok (.iload_n 3, 1) := by decide +kernel
theorem dL_isDrawn_49 : decode cL_isDrawn 49 = .ok (.iconst 3, 1) := by decide +kernel
theorem dL_isDrawn_50 : decode cL_isDrawn 50 = .ok (.if_icmp .ge 35, 3) := by decide +kernel
theorem dL_isDrawn_53 : decode cL_isDrawn 53 = .ok (.aload_n 0, 1) := by decide +kernel
theorem dL_isDrawn_54 : decode cL_isDrawn 54 = .ok (.getfield 47, 3) := by decide +kernel
theorem dL_isDrawn_57 : decode cL_isDrawn 57 = .ok (.iload_n 3, 1) := by decide +kernel
theorem dL_isDrawn_58 : decode cL_isDrawn 58 = .ok (.aload_n 0, 1) := by decide +kernel
theorem dL_isDrawn_59 : decode cL_isDrawn 59 = .ok (.bipush 6, 2) := by decide +kernel
theorem dL_isDrawn_61 : decode cL_isDrawn 61 = .ok (.invokevirtual 76, 3) := by decide +kernel
theorem dL_isDrawn_64 : decode cL_isDrawn 64 = .ok (.ifCond .ne 7, 3) := by decide +kernel
theorem dL_isDrawn_67 : decode cL_isDrawn 67 = .ok (.iconst 0, 1) := by decide +kernel
theorem dL_isDrawn_68 : decode cL_isDrawn 68 = .ok (.goto 10, 3) := by decide +kernel
theorem dL_isDrawn_71 : decode cL_isDrawn 71 = .ok (.iconst 1, 1) := by decide +kernel
theorem dL_isDrawn_72 : decode cL_isDrawn 72 = .ok (.aload_n 0, 1) := by decide +kernel
theorem dL_isDrawn_73 : decode cL_isDrawn 73 = .ok (.iconst 3, 1) := by decide +kernel
theorem dL_isDrawn_74 : decode cL_isDrawn 74 = .ok (.invokevirtual 76, 3) := by decide +kernel
theorem dL_isDrawn_77 : decode cL_isDrawn 77 = .ok (.iadd, 1) := by decide +kernel
theorem dL_isDrawn_78 : decode cL_isDrawn 78 = .ok (.iastore, 1) := by decide +kernel
theorem dL_isDrawn_79 : decode cL_isDrawn 79 = .ok (.iinc 3 1, 3) := by decide +kernel
theorem dL_isDrawn_82 : decode cL_isDrawn 82 = .ok (.goto (-34), 3) := by decide +kernel
theorem dL_isDrawn_85 : decode cL_isDrawn 85 = .ok (.iconst 0, 1) := by decide +kernel
theorem dL_isDrawn_86 : decode cL_isDrawn 86 = .ok (.istore_n 3, 1) := by decide +kernel
theorem dL_isDrawn_87 : decode cL_isDrawn 87 = .ok (.iload_n 3, 1) := by decide +kernel
theorem dL_isDrawn_88 : decode cL_isDrawn 88 = .ok (.aload_n 0, 1) := by decide +kernel
theorem dL_isDrawn_89 : decode cL_isDrawn 89 = .ok (.getfield 66, 3) := by decide +kernel
theorem dL_isDrawn_92 : decode cL_isDrawn 92 = .ok (.if_icmp .ge 91, 3) := by decide +kernel
theorem dL_isDrawn_95 : decode cL_isDrawn 95 = .ok (.aload_n 0, 1) := by decide +kernel
theorem dL_isDrawn_96 : decode cL_isDrawn 96 = .ok (.getfield 16, 3) := by decide +kernel
theorem dL_isDrawn_99 : decode cL_isDrawn 99 = .ok (.iload_n 3, 1) := by decide +kernel
theorem dL_isDrawn_100 : decode cL_isDrawn 100 = .ok (.aload_n 0, 1) := by decide +kernel
theorem dL_isDrawn_101 : decode cL_isDrawn 101 = .ok (.iload_n 1, 1) := by decide +kernel
theorem dL_isDrawn_102 : decode cL_isDrawn 102 = .ok (.invokevirtual 76, 3) := by decide +kernel
theorem dL_isDrawn_105 : decode cL_isDrawn 105 = .ok (.iastore, 1) := by decide +kernel
theorem dL_isDrawn_106 : decode cL_isDrawn 106 = .ok (.aload_n 0, 1) := by decide +kernel
theorem dL_isDrawn_107 : decode cL_isDrawn 107 = .ok (.getfield 20, 3) := by decide +kernel
theorem dL_isDrawn_110 : decode cL_isDrawn 110 = .ok (.iload_n 3, 1) := by decide +kernel
theorem dL_isDrawn_111 : decode cL_isDrawn 111 = .ok (.aload_n 0, 1) := by decide +kernel
theorem dL_isDrawn_112 : decode cL_isDrawn 112 = .ok (.iload_n 2, 1) := by decide +kernel
theorem dL_isDrawn_113 : decode cL_isDrawn 113 = .ok (.invokevirtual 76, 3) := by decide +kernel
theorem dL_isDrawn_116 : decode cL_isDrawn 116 = .ok (.iastore, 1) := by decide +kernel
theorem dL_isDrawn_117 : decode cL_isDrawn 117 = .ok (.aload_n 0, 1) := by decide +kernel
theorem dL_isDrawn_118 : decode cL_isDrawn 118 = .ok (.getfield 23, 3) := by decide +kernel
theorem dL_isDrawn_121 : decode cL_isDrawn 121 = .ok (.iload_n 3, 1) := by decide +kernel
theorem dL_isDrawn_122 : decode cL_isDrawn 122 = .ok (.aload_n 0, 1) := by decide +kernel
theorem dL_isDrawn_123 : decode cL_isDrawn 123 = .ok (.bipush 6, 2) := by decide +kernel
theorem dL_isDrawn_125 : decode cL_isDrawn 125 = .ok (.invokevirtual 76, 3) := by decide +kernel
theorem dL_isDrawn_128 : decode cL_isDrawn 128 = .ok (.iastore, 1) := by decide +kernel
theorem dL_isDrawn_129 : decode cL_isDrawn 129 = .ok (.aload_n 0, 1) := by decide +kernel
theorem dL_isDrawn_130 : decode cL_isDrawn 130 = .ok (.getfield 26, 3) := by decide +kernel
theorem dL_isDrawn_133 : decode cL_isDrawn 133 = .ok (.iload_n 3, 1) := by decide +kernel
theorem dL_isDrawn_134 : decode cL_isDrawn 134 = .ok (.aload_n 0, 1) := by decide +kernel
theorem dL_isDrawn_135 : decode cL_isDrawn 135 = .ok (.iconst 5, 1) := by decide +kernel
theorem dL_isDrawn_136 : decode cL_isDrawn 136 = .ok (.invokevirtual 76, 3) := by decide +kernel
theorem dL_isDrawn_139 : decode cL_isDrawn 139 = .ok (.iconst 2, 1) := by decide +kernel
theorem dL_isDrawn_140 : decode cL_isDrawn 140 = .ok (.isub, 1) := by decide +kernel
theorem dL_isDrawn_141 : decode cL_isDrawn 141 = .ok (.iastore, 1) := by decide +kernel
theorem dL_isDrawn_142 : decode cL_isDrawn 142 = .ok (.aload_n 0, 1) := by decide +kernel
theorem dL_isDrawn_143 : decode cL_isDrawn 143 = .ok (.getfield 26, 3) := by decide +kernel
theorem dL_isDrawn_146 : decode cL_isDrawn 146 = .ok (.iload_n 3, 1) := by decide +kernel
theorem dL_isDrawn_147 : decode cL_isDrawn 147 = .ok (.iaload, 1) := by decide +kernel
theorem dL_isDrawn_148 : decode cL_isDrawn 148 = .ok (.ifCond .ge 10, 3) := by decide +kernel
theorem dL_isDrawn_151 : decode cL_isDrawn 151 = .ok (.aload_n 0, 1) := by decide +kernel
theorem dL_isDrawn_152 : decode cL_isDrawn 152 = .ok (.getfield 26, 3) := by decide +kernel
theorem dL_isDrawn_155 : decode cL_isDrawn 155 = .ok (.iload_n 3, 1) := by decide +kernel
theorem dL_isDrawn_156 : decode cL_isDrawn 156 = .ok (.iconst (-1), 1) := by decide +kernel
theorem dL_isDrawn_157 : decode cL_isDrawn 157 = .ok (.iastore, 1) := by decide +kernel
theorem dL_isDrawn_158 : decode cL_isDrawn 158 = .ok (.aload_n 0, 1) := by decide +kernel
theorem dL_isDrawn_159 : decode cL_isDrawn 159 = .ok (.getfield 29, 3) := by decide +kernel
theorem dL_isDrawn_162 : decode cL_isDrawn 162 = .ok (.iload_n 3, 1) := by decide +kernel
theorem dL_isDrawn_163 : decode cL_isDrawn 163 = .ok (.aload_n 0, 1) := by decide +kernel
theorem dL_isDrawn_164 : decode cL_isDrawn 164 = .ok (.iconst 3, 1) := by decide +kernel
theorem dL_isDrawn_165 : decode cL_isDrawn 165 = .ok (.invokevirtual 76, 3) := by decide +kernel
theorem dL_isDrawn_168 : decode cL_isDrawn 168 = .ok (.ifCond .ne 7, 3) := by decide +kernel
theorem dL_isDrawn_171 : decode cL_isDrawn 171 = .ok (.iconst 2, 1) := by decide +kernel
theorem dL_isDrawn_172 : decode cL_isDrawn 172 = .ok (.goto 4, 3) := by decide +kernel
theorem dL_isDrawn_175 : decode cL_isDrawn 175 = .ok (.iconst 1, 1) := by decide +kernel
theorem dL_isDrawn_176 : decode cL_isDrawn 176 = .ok (.iastore, 1) := by decide +kernel
theorem dL_isDrawn_177 : decode cL_isDrawn 177 = .ok (.iinc 3 1, 3) := by decide +kernel
theorem dL_isDrawn_180 : decode cL_isDrawn 180 = .ok (.goto (-93), 3) := by decide +kernel
theorem dL_isDrawn_183 : decode cL_isDrawn 183 = .ok (.aload_n 0, 1) := by decide +kernel
theorem dL_isDrawn_184 : decode cL_isDrawn 184 = .ok (.aload_n 0, 1) := by decide +kernel
theorem dL_isDrawn_185 : decode cL_isDrawn 185 = .ok (.getfield 10, 3) := by decide +kernel
theorem dL_isDrawn_188 : decode cL_isDrawn 188 = .ok (.invokevirtual 80, 3) := by decide +kernel
theorem dL_isDrawn_191 : decode cL_isDrawn 191 = .ok (.ifCond .ne 5, 3) := by decide +kernel
theorem dL_isDrawn_194 : decode cL_isDrawn 194 = .ok (.iconst 0, 1) := by decide +kernel
theorem dL_isDrawn_195 : decode cL_isDrawn 195 = .ok (.ireturn, 1) := by decide +kernel
theorem dL_isDrawn_196 : decode cL_isDrawn 196 = .ok (.aload_n 0, 1) := by decide +kernel
theorem dL_isDrawn_197 : decode cL_isDrawn 197 = .ok (.aload_n 0, 1) := by decide +kernel
theorem dL_isDrawn_198 : decode cL_isDrawn 198 = .ok (.bipush 12, 2) := by decide +kernel
theorem dL_isDrawn_200 : decode cL_isDrawn 200 = .ok (.invokevirtual 76, 3) := by decide +kernel
theorem dL_isDrawn_203 : decode cL_isDrawn 203 = .ok (.putfield 84, 3) := by decide +kernel
theorem dL_isDrawn_206 : decode cL_isDrawn 206 = .ok (.iconst 0, 1) := by decide +kernel
theorem dL_isDrawn_207 : decode cL_isDrawn 207 = .ok (.istore_n 3, 1) := by decide +kernel
theorem dL_isDrawn_208 : decode cL_isDrawn 208 = .ok (.iload_n 3, 1) := by decide +kernel
theorem dL_isDrawn_209 : decode cL_isDrawn 209 = .ok (.aload_n 0, 1) := by decide +kernel
theorem dL_isDrawn_210 : decode cL_isDrawn 210 = .ok (.getfield 84, 3) := by decide +kernel
theorem dL_isDrawn_213 : decode cL_isDrawn 213 = .ok (.if_icmp .ge 225, 3) := by decide +kernel
theorem dL_isDrawn_216 : decode cL_isDrawn 216 = .ok (.aload_n 0, 1) := by decide +kernel
theorem dL_isDrawn_217 : decode cL_isDrawn 217 = .ok (.getfield 35, 3) := by decide +kernel
theorem dL_isDrawn_220 : decode cL_isDrawn 220 = .ok (.iload_n 3, 1) := by decide +kernel
theorem dL_isDrawn_221 : decode cL_isDrawn 221 = .ok (.aload_n 0, 1) := by decide +kernel
theorem dL_isDrawn_222 : decode cL_isDrawn 222 = .ok (.aload_n 0, 1) := by decide +kernel
theorem dL_isDrawn_223 : decode cL_isDrawn 223 = .ok (.getfield 66, 3) := by decide +kernel
theorem dL_isDrawn_226 : decode cL_isDrawn 226 = .ok (.iconst 1, 1) := by decide +kernel
theorem dL_isDrawn_227 : decode cL_isDrawn 227 = .ok (.if_icmp .le 8, 3) := by decide +kernel
theorem dL_isDrawn_230 : decode cL_isDrawn 230 = .ok (.bipush 7, 2) := by decide +kernel
theorem dL_isDrawn_232 : decode cL_isDrawn 232 = .ok (.goto 4, 3) := by decide +kernel
theorem dL_isDrawn_235 : decode cL_isDrawn 235 = .ok (.iconst 4, 1) := by decide +kernel
theorem dL_isDrawn_236 : decode cL_isDrawn 236 = .ok (.invokevirtual 76, 3) := by decide +kernel
theorem dL_isDrawn_239 : decode cL_isDrawn 239 = .ok (.iastore, 1) := by decide +kernel
theorem dL_isDrawn_240 : decode cL_isDrawn 240 = .ok (.aload_n 0, 1) := by decide +kernel
theorem dL_isDrawn_241 : decode cL_isDrawn 241 = .ok (.getfield 38, 3) := by decide +kernel
theorem dL_isDrawn_244 : decode cL_isDrawn 244 = .ok (.iload_n 3, 1) := by decide +kernel
theorem dL_isDrawn_245 : decode cL_isDrawn 245 = .ok (.aload_n 0, 1) := by decide +kernel
theorem dL_isDrawn_246 : decode cL_isDrawn 246 = .ok (.getfield 35, 3) := by decide +kernel
theorem dL_isDrawn_249 : decode cL_isDrawn 249 = .ok (.iload_n 3, 1) := by decide +kernel
theorem dL_isDrawn_250 : decode cL_isDrawn 250 = .ok (.iaload, 1) := by decide +kernel
theorem dL_isDrawn_251 : decode cL_isDrawn 251 = .ok (.ifCond .ne 11, 3) := by decide +kernel
theorem dL_isDrawn_254 : decode cL_isDrawn 254 = .ok (.aload_n 0, 1) := by decide +kernel
theorem dL_isDrawn_255 : decode cL_isDrawn 255 = .ok (.iload_n 2, 1) := by decide +kernel
theorem dL_isDrawn_256 : decode cL_isDrawn 256 = .ok (.invokevirtual 76, 3) := by decide +kernel
theorem dL_isDrawn_259 : decode cL_isDrawn 259 = .ok (.goto 29, 3) := by decide +kernel
theorem dL_isDrawn_262 : decode cL_isDrawn 262 = .ok (.aload_n 0, 1) := by decide +kernel
theorem dL_isDrawn_263 : decode cL_isDrawn 263 = .ok (.getfield 35, 3) := by decide +kernel
theorem dL_isDrawn_266 : decode cL_isDrawn 266 = .ok (.iload_n 3, 1) := by decide +kernel
theorem dL_isDrawn_267 : decode cL_isDrawn 267 = .ok (.iaload, 1) := by decide +kernel
theorem dL_isDrawn_268 : decode cL_isDrawn 268 = .ok (.iconst 1, 1) := by decide +kernel
theorem dL_isDrawn_269 : decode cL_isDrawn 269 = .ok (.if_icmp .ne 11, 3) := by decide +kernel
theorem dL_isDrawn_272 : decode cL_isDrawn 272 = .ok (.aload_n 0, 1) := by decide +kernel
theorem dL_isDrawn_273 : decode cL_isDrawn 273 = .ok (.iload_n 1, 1) := by decide +kernel
theorem dL_isDrawn_274 : decode cL_isDrawn 274 = .ok (.invokevirtual 76, 3) := by decide +kernel
theorem dL_isDrawn_277 : decode cL_isDrawn 277 = .ok (.goto 11, 3) := by decide +kernel
theorem dL_isDrawn_280 : decode cL_isDrawn 280 = .ok (.aload_n 0, 1) := by decide +kernel
theorem dL_isDrawn_281 : decode cL_isDrawn 281 = .ok (.aload_n 0, 1) := by decide +kernel
theorem dL_isDrawn_282 : decode cL_isDrawn 282 = .ok (.getfield 66, 3) := by decide +kernel
theorem dL_isDrawn_285 : decode cL_isDrawn 285 = .ok (.invokevirtual 76, 3) := by decide +kernel
theorem dL_isDrawn_288 : decode cL_isDrawn 288 = .ok (.iastore, 1) := by decide +kernel
theorem dL_isDrawn_289 : decode cL_isDrawn 289 = .ok (.aload_n 0, 1) := by decide +kernel
theorem dL_isDrawn_290 : decode cL_isDrawn 290 = .ok (.getfield 41, 3) := by decide +kernel
theorem dL_isDrawn_293 : decode cL_isDrawn 293 = .ok (.iload_n 3, 1) := by decide +kernel
theorem dL_isDrawn_294 : decode cL_isDrawn 294 = .ok (.aload_n 0, 1) := by decide +kernel
theorem dL_isDrawn_295 : decode cL_isDrawn 295 = .ok (.getfield 35, 3) := by decide +kernel
theorem dL_isDrawn_298 : decode cL_isDrawn 298 = .ok (.iload_n 3, 1) := by decide +kernel
theorem dL_isDrawn_299 : decode cL_isDrawn 299 = .ok (.iaload, 1) := by decide +kernel
theorem dL_isDrawn_300 : decode cL_isDrawn 300 = .ok (.iconst 2, 1) := by decide +kernel
theorem dL_isDrawn_301 : decode cL_isDrawn 301 = .ok (.if_icmp .ne 11, 3) := by decide +kernel
theorem dL_isDrawn_304 : decode cL_isDrawn 304 = .ok (.aload_n 0, 1) := by decide +kernel
theorem dL_isDrawn_305 : decode cL_isDrawn 305 = .ok (.iconst 3, 1) := by decide +kernel
theorem dL_isDrawn_306 : decode cL_isDrawn 306 = .ok (.invokevirtual 76, 3) := by decide +kernel
theorem dL_isDrawn_309 : decode cL_isDrawn 309 = .ok (.goto 59, 3) := by decide +kernel
theorem dL_isDrawn_312 : decode cL_isDrawn 312 = .ok (.aload_n 0, 1) := by decide +kernel
theorem dL_isDrawn_313 : decode cL_isDrawn 313 = .ok (.getfield 35, 3) := by decide +kernel
theorem dL_isDrawn_316 : decode cL_isDrawn 316 = .ok (.iload_n 3, 1) := by decide +kernel
theorem dL_isDrawn_317 : decode cL_isDrawn 317 = .ok (.iaload, 1) := by decide +kernel
theorem dL_isDrawn_318 : decode cL_isDrawn 318 = .ok (.iconst 3, 1) := by decide +kernel
theorem dL_isDrawn_319 : decode cL_isDrawn 319 = .ok (.if_icmp .le 30, 3) := by decide +kernel
theorem dL_isDrawn_322 : decode cL_isDrawn 322 = .ok (.aload_n 0, 1) := by decide +kernel
theorem dL_isDrawn_323 : decode cL_isDrawn 323 = .ok (.getfield 38, 3) := by decide +kernel
theorem dL_isDrawn_326 : decode cL_isDrawn 326 = .ok (.iload_n 3, 1) := by decide +kernel
theorem dL_isDrawn_327 : decode cL_isDrawn 327 = .ok (.iaload, 1) := by decide +kernel
theorem dL_isDrawn_328 : decode cL_isDrawn 328 = .ok (.iconst 1, 1) := by decide +kernel
theorem dL_isDrawn_329 : decode cL_isDrawn 329 = .ok (.iadd, 1) := by decide +kernel
theorem dL_isDrawn_330 : decode cL_isDrawn 330 = .ok (.aload_n 0, 1) := by decide +kernel
theorem dL_isDrawn_331 : decode cL_isDrawn 331 = .ok (.aload_n 0, 1) := by decide +kernel
theorem dL_isDrawn_332 : decode cL_isDrawn 332 = .ok (.getfield 66, 3) := by decide +kernel
theorem dL_isDrawn_335 : decode cL_isDrawn 335 = .ok (.iconst 1, 1) := by decide +kernel
theorem dL_isDrawn_336 : decode cL_isDrawn 336 = .ok (.isub, 1) := by decide +kernel
theorem dL_isDrawn_337 : decode cL_isDrawn 337 = .ok (.invokevirtual 76, 3) := by decide +kernel
theorem dL_isDrawn_340 : decode cL_isDrawn 340 = .ok (.iadd, 1) := by decide +kernel
theorem dL_isDrawn_341 : decode cL_isDrawn 341 = .ok (.aload_n 0, 1) := by decide +kernel
theorem dL_isDrawn_342 : decode cL_isDrawn 342 = .ok (.getfield 66, 3) := by decide +kernel
theorem dL_isDrawn_345 : decode cL_isDrawn 345 = .ok (.irem, 1) := by decide +kernel
theorem dL_isDrawn_346 : decode cL_isDrawn 346 = .ok (.goto 22, 3) := by decide +kernel
theorem dL_isDrawn_349 : decode cL_isDrawn 349 = .ok (.aload_n 0, 1) := by decide +kernel
theorem dL_isDrawn_350 : decode cL_isDrawn 350 = .ok (.aload_n 0, 1) := by decide +kernel
theorem dL_isDrawn_351 : decode cL_isDrawn 351 = .ok (.iconst 2, 1) := by decide +kernel
theorem dL_isDrawn_352 : decode cL_isDrawn 352 = .ok (.invokevirtual 76, 3) := by decide +kernel
theorem dL_isDrawn_355 : decode cL_isDrawn 355 = .ok (.ifCond .ne 8, 3) := by decide +kernel
theorem dL_isDrawn_358 : decode cL_isDrawn 358 = .ok (.bipush 6, 2) := by decide +kernel
theorem dL_isDrawn_360 : decode cL_isDrawn 360 = .ok (.goto 5, 3) := by decide +kernel
theorem dL_isDrawn_363 : decode cL_isDrawn 363 = .ok (.bipush 20, 2) := by decide +kernel
theorem dL_isDrawn_365 : decode cL_isDrawn 365 = .ok (.invokevirtual 76, 3) := by decide +kernel
theorem dL_isDrawn_368 : decode cL_isDrawn 368 = .ok (.iastore, 1) := by decide +kernel
theorem dL_isDrawn_369 : decode cL_isDrawn 369 = .ok (.aload_n 0, 1) := by decide +kernel
theorem dL_isDrawn_370 : decode cL_isDrawn 370 = .ok (.getfield 44, 3) := by decide +kernel
theorem dL_isDrawn_373 : decode cL_isDrawn 373 = .ok (.iload_n 3, 1) := by decide +kernel
theorem dL_isDrawn_374 : decode cL_isDrawn 374 = .ok (.aload_n 0, 1) := by decide +kernel
theorem dL_isDrawn_375 : decode cL_isDrawn 375 = .ok (.iconst 2, 1) := by decide +kernel
theorem dL_isDrawn_376 : decode cL_isDrawn 376 = .ok (.invokevirtual 76, 3) := by decide +kernel
theorem dL_isDrawn_379 : decode cL_isDrawn 379 = .ok (.ifCond .ne 7, 3) := by decide +kernel
theorem dL_isDrawn_382 : decode cL_isDrawn 382 = .ok (.iconst 0, 1) := by decide +kernel
theorem dL_isDrawn_383 : decode cL_isDrawn 383 = .ok (.goto 11, 3) := by decide +kernel
theorem dL_isDrawn_386 : decode cL_isDrawn 386 = .ok (.iconst 1, 1) := by decide +kernel
theorem dL_isDrawn_387 : decode cL_isDrawn 387 = .ok (.aload_n 0, 1) := by decide +kernel
theorem dL_isDrawn_388 : decode cL_isDrawn 388 = .ok (.bipush 9, 2) := by decide +kernel
theorem dL_isDrawn_390 : decode cL_isDrawn 390 = .ok (.invokevirtual 76, 3) := by decide +kernel
theorem dL_isDrawn_393 : decode cL_isDrawn 393 = .ok (.iadd, 1) := by decide +kernel
theorem dL_isDrawn_394 : decode cL_isDrawn 394 = .ok (.iastore, 1) := by decide +kernel
theorem dL_isDrawn_395 : decode cL_isDrawn 395 = .ok (.aload_n 0, 1) := by decide +kernel
theorem dL_isDrawn_396 : decode cL_isDrawn 396 = .ok (.getfield 10, 3) := by decide +kernel
theorem dL_isDrawn_399 : decode cL_isDrawn 399 = .ok (.aload_n 0, 1) := by decide +kernel
theorem dL_isDrawn_400 : decode cL_isDrawn 400 = .ok (.getfield 35, 3) := by decide +kernel
theorem dL_isDrawn_403 : decode cL_isDrawn 403 = .ok (.iload_n 3, 1) := by decide +kernel
theorem dL_isDrawn_404 : decode cL_isDrawn 404 = .ok (.iaload, 1) := by decide +kernel
theorem dL_isDrawn_405 : decode cL_isDrawn 405 = .ok (.aload_n 0, 1) := by decide +kernel
theorem dL_isDrawn_406 : decode cL_isDrawn 406 = .ok (.getfield 38, 3) := by decide +kernel
theorem dL_isDrawn_409 : decode cL_isDrawn 409 = .ok (.iload_n 3, 1) := by decide +kernel
theorem dL_isDrawn_410 : decode cL_isDrawn 410 = .ok (.iaload, 1) := by decide +kernel
theorem dL_isDrawn_411 : decode cL_isDrawn 411 = .ok (.aload_n 0, 1) := by decide +kernel
theorem dL_isDrawn_412 : decode cL_isDrawn 412 = .ok (.getfield 41, 3) := by decide +kernel
theorem dL_isDrawn_415 : decode cL_isDrawn 415 = .ok (.iload_n 3, 1) := by decide +kernel
theorem dL_isDrawn_416 : decode cL_isDrawn 416 = .ok (.iaload, 1) := by decide +kernel
theorem dL_isDrawn_417 : decode cL_isDrawn 417 = .ok (.aload_n 0, 1) := by decide +kernel
theorem dL_isDrawn_418 : decode cL_isDrawn 418 = .ok (.getfield 44, 3) := by decide +kernel
theorem dL_isDrawn_421 : decode cL_isDrawn 421 = .ok (.iload_n 3, 1) := by decide +kernel
theorem dL_isDrawn_422 : decode cL_isDrawn 422 = .ok (.iaload, 1) := by decide +kernel
theorem dL_isDrawn_423 : decode cL_isDrawn 423 = .ok (.invokevirtual 87, 3) := by decide +kernel
theorem dL_isDrawn_426 : decode cL_isDrawn 426 = .ok (.iload_n 3, 1) := by decide +kernel
theorem dL_isDrawn_427 : decode cL_isDrawn 427 = .ok (.if_icmp .eq 5, 3) := by decide +kernel
theorem dL_isDrawn_430 : decode cL_isDrawn 430 = .ok (.iconst 0, 1) := by decide +kernel
theorem dL_isDrawn_431 : decode cL_isDrawn 431 = .ok (.ireturn, 1) := by decide +kernel
theorem dL_isDrawn_432 : decode cL_isDrawn 432 = .ok (.iinc 3 1, 3) := by decide +kernel
theorem dL_isDrawn_435 : decode cL_isDrawn 435 = .ok (.goto (-227), 3) := by decide +kernel
theorem dL_isDrawn_438 : decode cL_isDrawn 438 = .ok (.aload_n 0, 1) := by decide +kernel
theorem dL_isDrawn_439 : decode cL_isDrawn 439 = .ok (.getfield 10, 3) := by decide +kernel
theorem dL_isDrawn_442 : decode cL_isDrawn 442 = .ok (.invokevirtual 91, 3) := by decide +kernel
theorem dL_isDrawn_445 : decode cL_isDrawn 445 = .ok (.aload_n 0, 1) := by decide +kernel
theorem dL_isDrawn_446 : decode cL_isDrawn 446 = .ok (.getfield 84, 3) := by decide +kernel
theorem dL_isDrawn_449 : decode cL_isDrawn 449 = .ok (.if_icmp .ne 7, 3) := by decide +kernel
theorem dL_isDrawn_452 : decode cL_isDrawn 452 = .ok (.iconst 1, 1) := by decide +kernel
theorem dL_isDrawn_453 : decode cL_isDrawn 453 = .ok (.goto 4, 3) := by decide +kernel
theorem dL_isDrawn_456 : decode cL_isDrawn 456 = .ok (.iconst 0, 1) := by decide +kernel
theorem dL_isDrawn_457 : decode cL_isDrawn 457 = .ok (.ireturn, 1) := by decide +kernel
theorem dL_isOn_0 : decode cL_isOn 0 = .ok (.iload_n 2, 1) := by decide +kernel
theorem dL_isOn_1 : decode cL_isOn 1 = .ok (.aload_n 0, 1) := by decide +kernel
theorem dL_isOn_2 : decode cL_isOn 2 = .ok (.getfield 32, 3) := by decide +kernel
theorem dL_isOn_5 : decode cL_isOn 5 = .ok (.iload_n 1, 1) := by decide +kernel
theorem dL_isOn_6 : decode cL_isOn 6 = .ok (.iaload, 1) := by decide +kernel
theorem dL_isOn_7 : decode cL_isOn 7 = .ok (.if_icmp .lt 24, 3) := by decide +kernel
theorem dL_isOn_10 : decode cL_isOn 10 = .ok (.iload_n 2, 1) := by decide +kernel
theorem dL_isOn_11 : decode cL_isOn 11 = .ok (.aload_n 0, 1) := by decide +kernel
theorem dL_isOn_12 : decode cL_isOn 12 = .ok (.getfield 32, 3) := by decide +kernel
theorem dL_isOn_15 : decode cL_isOn 15 = .ok (.iload_n 1, 1) := by decide +kernel
theorem dL_isOn_16 : decode cL_isOn 16 = .ok (.iaload, 1) := by decide +kernel
theorem dL_isOn_17 : decode cL_isOn 17 = .ok (.aload_n 0, 1) := by decide +kernel
theorem dL_isOn_18 : decode cL_isOn 18 = .ok (.getfield 29, 3) := by decide +kernel
theorem dL_isOn_21 : decode cL_isOn 21 = .ok (.iload_n 1, 1) := by decide +kernel
theorem dL_isOn_22 : decode cL_isOn 22 = .ok (.iaload, 1) := by decide +kernel
theorem dL_isOn_23 : decode cL_isOn 23 = .ok (.iadd, 1) := by decide +kernel
theorem dL_isOn_24 : decode cL_isOn 24 = .ok (.if_icmp .ge 7, 3) := by decide +kernel
theorem dL_isOn_27 : decode cL_isOn 27 = .ok (.iconst 1, 1) := by decide +kernel
theorem dL_isOn_28 : decode cL_isOn 28 = .ok (.goto 4, 3) := by decide +kernel
theorem dL_isOn_31 : decode cL_isOn 31 = .ok (.iconst 0, 1) := by decide +kernel
theorem dL_isOn_32 : decode cL_isOn 32 = .ok (.ireturn, 1) := by decide +kernel
set_option maxRecDepth 20000 in
theorem ggL_holds_L_isOn : GoodIn wsL_holds wsL_isOn := goodIn_r _ [12, 7, 13, 14, 15, 16, 17, 18, 19, 20, 21, 22, 23, 24, 25, 26, 27, 28, 29, 30] (by decide +kernel) (by decide +kernel)
set_option maxRecDepth 20000 in
theorem gL_holds_L_isOn : GoodIn wsL_holds (wsV RL 93 RL yL_isOn wsL_isOn) := goodIn_app (goodIn_of _ (by decide +kernel)) ggL_holds_L_isOn
theorem dL_holds_0 : decode cL_holds 0 = .ok (.aload_n 0, 1) := by decide +kernel
theorem dL_holds_1 : decode cL_holds 1 = .ok (.getfield 38, 3) := by decide +kernel
theorem dL_holds_4 : decode cL_holds 4 = .ok (.iload_n 1, 1) := by decide +kernel
theorem dL_holds_5 : decode cL_holds 5 = .ok (.iaload, 1) := by decide +kernel
theorem dL_holds_6 : decode cL_holds 6 = .ok (.istore_n 2, 1) := by decide +kernel
theorem dL_holds_7 : decode cL_holds 7 = .ok (.aload_n 0, 1) := by decide +kernel
theorem dL_holds_8 : decode cL_holds 8 = .ok (.getfield 41, 3) := by decide +kernel
theorem dL_holds_11 : decode cL_holds 11 = .ok (.iload_n 1, 1) := by decide +kernel
theorem dL_holds_12 : decode cL_holds 12 = .ok (.iaload, 1) := by decide +kernel
theorem dL_holds_13 : decode cL_holds 13 = .ok (.istore_n 3, 1) := by decide +kernel
theorem dL_holds_14 : decode cL_holds 14 = .ok (.iconst 0, 1) := by decide +kernel
theorem dL_holds_15 : decode cL_holds 15 = .ok (.istore 4, 2) := by decide +kernel
theorem dL_holds_17 : decode cL_holds 17 = .ok (.iload 4, 2) := by decide +kernel
theorem dL_holds_19 : decode cL_holds 19 = .ok (.aload_n 0, 1) := by decide +kernel
theorem dL_holds_20 : decode cL_holds 20 = .ok (.getfield 66, 3) := by decide +kernel
theorem dL_holds_23 : decode cL_holds 23 = .ok (.if_icmp .ge 72, 3) := by decide +kernel
theorem dL_holds_26 : decode cL_holds 26 = .ok (.aload_n 0, 1) := by decide +kernel
theorem dL_holds_27 : decode cL_holds 27 = .ok (.getfield 35, 3) := by decide +kernel
theorem dL_holds_30 : decode cL_holds 30 = .ok (.iload_n 1, 1) := by decide +kernel
theorem dL_holds_31 : decode cL_holds 31 = .ok (.iaload, 1) := by decide +kernel
theorem dL_holds_32 : decode cL_holds 32 = .ok (.ifCond .ne 24, 3) := by decide +kernel
theorem dL_holds_35 : decode cL_holds 35 = .ok (.aload_n 0, 1) := by decide +kernel
theorem dL_holds_36 : decode cL_holds 36 = .ok (.getfield 20, 3) := by decide +kernel
theorem dL_holds_39 : decode cL_holds 39 = .ok (.iload 4, 2) := by decide +kernel
theorem dL_holds_41 : decode cL_holds 41 = .ok (.iaload, 1) := by decide +kernel
theorem dL_holds_42 : decode cL_holds 42 = .ok (.iload_n 2, 1) := by decide +kernel
theorem dL_holds_43 : decode cL_holds 43 = .ok (.if_icmp .ne 13, 3) := by decide +kernel
theorem dL_holds_46 : decode cL_holds 46 = .ok (.aload_n 0, 1) := by decide +kernel
theorem dL_holds_47 : decode cL_holds 47 = .ok (.iload 4, 2) := by decide +kernel
theorem dL_holds_49 : decode cL_holds 49 = .ok (.iload_n 3, 1) := by decide +kernel
theorem dL_holds_50 : decode cL_holds 50 = .ok (.invokevirtual 93, 3) := by decide +kernel
theorem dL_holds_53 : decode cL_holds 53 = .ok (.ifCond .ne 34, 3) := by decide +kernel
theorem dL_holds_56 : decode cL_holds 56 = .ok (.aload_n 0, 1) := by decide +kernel
theorem dL_holds_57 : decode cL_holds 57 = .ok (.getfield 35, 3) := by decide +kernel
theorem dL_holds_60 : decode cL_holds 60 = .ok (.iload_n 1, 1) := by decide +kernel
theorem dL_holds_61 : decode cL_holds 61 = .ok (.iaload, 1) := by decide +kernel
theorem dL_holds_62 : decode cL_holds 62 = .ok (.iconst 1, 1) := by decide +kernel
theorem dL_holds_63 : decode cL_holds 63 = .ok (.if_icmp .ne 26, 3) := by decide +kernel
theorem dL_holds_66 : decode cL_holds 66 = .ok (.aload_n 0, 1) := by decide +kernel
theorem dL_holds_67 : decode cL_holds 67 = .ok (.getfield 16, 3) := by decide +kernel
theorem dL_holds_70 : decode cL_holds 70 = .ok (.iload 4, 2) := by decide +kernel
theorem dL_holds_72 : decode cL_holds 72 = .ok (.iaload, 1) := by decide +kernel
theorem dL_holds_73 : decode cL_holds 73 = .ok (.iload_n 2, 1) := by decide +kernel
theorem dL_holds_74 : decode cL_holds 74 = .ok (.if_icmp .ne 15, 3) := by decide +kernel
theorem dL_holds_77 : decode cL_holds 77 = .ok (.aload_n 0, 1) := by decide +kernel
theorem dL_holds_78 : decode cL_holds 78 = .ok (.iload 4, 2) := by decide +kernel
theorem dL_holds_80 : decode cL_holds 80 = .ok (.iload_n 3, 1) := by decide +kernel
theorem dL_holds_81 : decode cL_holds 81 = .ok (.invokevirtual 93, 3) := by decide +kernel
theorem dL_holds_84 : decode cL_holds 84 = .ok (.ifCond .eq 5, 3) := by decide +kernel
theorem dL_holds_87 : decode cL_holds 87 = .ok (.iconst 0, 1) := by decide +kernel
theorem dL_holds_88 : decode cL_holds 88 = .ok (.ireturn, 1) := by decide +kernel
theorem dL_holds_89 : decode cL_holds 89 = .ok (.iinc 4 1, 3) := by decide +kernel
theorem dL_holds_92 : decode cL_holds 92 = .ok (.goto (-75), 3) := by decide +kernel
theorem dL_holds_95 : decode cL_holds 95 = .ok (.aload_n 0, 1) := by decide +kernel
theorem dL_holds_96 : decode cL_holds 96 = .ok (.getfield 35, 3) := by decide +kernel
theorem dL_holds_99 : decode cL_holds 99 = .ok (.iload_n 1, 1) := by decide +kernel
theorem dL_holds_100 : decode cL_holds 100 = .ok (.iaload, 1) := by decide +kernel
theorem dL_holds_101 : decode cL_holds 101 = .ok (.iconst 2, 1) := by decide +kernel
theorem dL_holds_102 : decode cL_holds 102 = .ok (.if_icmp .ge 5, 3) := by decide +kernel
theorem dL_holds_105 : decode cL_holds 105 = .ok (.iconst 1, 1) := by decide +kernel
theorem dL_holds_106 : decode cL_holds 106 = .ok (.ireturn, 1) := by decide +kernel
theorem dL_holds_107 : decode cL_holds 107 = .ok (.aload_n 0, 1) := by decide +kernel
theorem dL_holds_108 : decode cL_holds 108 = .ok (.getfield 35, 3) := by decide +kernel
theorem dL_holds_111 : decode cL_holds 111 = .ok (.iload_n 1, 1) := by decide +kernel
theorem dL_holds_112 : decode cL_holds 112 = .ok (.iaload, 1) := by decide +kernel
theorem dL_holds_113 : decode cL_holds 113 = .ok (.iconst 2, 1) := by decide +kernel
theorem dL_holds_114 : decode cL_holds 114 = .ok (.if_icmp .ne 21, 3) := by decide +kernel
theorem dL_holds_117 : decode cL_holds 117 = .ok (.aload_n 0, 1) := by decide +kernel
theorem dL_holds_118 : decode cL_holds 118 = .ok (.getfield 32, 3) := by decide +kernel
theorem dL_holds_121 : decode cL_holds 121 = .ok (.iload_n 2, 1) := by decide +kernel
theorem dL_holds_122 : decode cL_holds 122 = .ok (.iaload, 1) := by decide +kernel
theorem dL_holds_123 : decode cL_holds 123 = .ok (.iconst 4, 1) := by decide +kernel
theorem dL_holds_124 : decode cL_holds 124 = .ok (.idiv, 1) := by decide +kernel
theorem dL_holds_125 : decode cL_holds 125 = .ok (.iload_n 3, 1) := by decide +kernel
theorem dL_holds_126 : decode cL_holds 126 = .ok (.if_icmp .eq 7, 3) := by decide +kernel
theorem dL_holds_129 : decode cL_holds 129 = .ok (.iconst 1, 1) := by decide +kernel
theorem dL_holds_130 : decode cL_holds 130 = .ok (.goto 4, 3) := by decide +kernel
theorem dL_holds_133 : decode cL_holds 133 = .ok (.iconst 0, 1) := by decide +kernel
theorem dL_holds_134 : decode cL_holds 134 = .ok (.ireturn, 1) := by decide +kernel
theorem dL_holds_135 : decode cL_holds 135 = .ok (.aload_n 0, 1) := by decide +kernel
theorem dL_holds_136 : decode cL_holds 136 = .ok (.getfield 35, 3) := by decide +kernel
theorem dL_holds_139 : decode cL_holds 139 = .ok (.iload_n 1, 1) := by decide +kernel
theorem dL_holds_140 : decode cL_holds 140 = .ok (.iaload, 1) := by decide +kernel
theorem dL_holds_141 : decode cL_holds 141 = .ok (.iconst 3, 1) := by decide +kernel
theorem dL_holds_142 : decode cL_holds 142 = .ok (.if_icmp .ne 19, 3) := by decide +kernel
theorem dL_holds_145 : decode cL_holds 145 = .ok (.aload_n 0, 1) := by decide +kernel
theorem dL_holds_146 : decode cL_holds 146 = .ok (.getfield 32, 3) := by decide +kernel
theorem dL_holds_149 : decode cL_holds 149 = .ok (.iload_n 2, 1) := by decide +kernel
theorem dL_holds_150 : decode cL_holds 150 = .ok (.iaload, 1) := by decide +kernel
theorem dL_holds_151 : decode cL_holds 151 = .ok (.iload_n 3, 1) := by decide +kernel
theorem dL_holds_152 : decode cL_holds 152 = .ok (.if_icmp .ne 7, 3) := by decide +kernel
theorem dL_holds_155 : decode cL_holds 155 = .ok (.iconst 1, 1) := by decide +kernel
theorem dL_holds_156 : decode cL_holds 156 = .ok (.goto 4, 3) := by decide +kernel
theorem dL_holds_159 : decode cL_holds 159 = .ok (.iconst 0, 1) := by decide +kernel
theorem dL_holds_160 : decode cL_holds 160 = .ok (.ireturn, 1) := by decide +kernel
theorem dL_holds_161 : decode cL_holds 161 = .ok (.aload_n 0, 1) := by decide +kernel
theorem dL_holds_162 : decode cL_holds 162 = .ok (.getfield 35, 3) := by decide +kernel
theorem dL_holds_165 : decode cL_holds 165 = .ok (.iload_n 1, 1) := by decide +kernel
theorem dL_holds_166 : decode cL_holds 166 = .ok (.iaload, 1) := by decide +kernel
theorem dL_holds_167 : decode cL_holds 167 = .ok (.iconst 4, 1) := by decide +kernel
theorem dL_holds_168 : decode cL_holds 168 = .ok (.if_icmp .ne 30, 3) := by decide +kernel
theorem dL_holds_171 : decode cL_holds 171 = .ok (.aload_n 0, 1) := by decide +kernel
theorem dL_holds_172 : decode cL_holds 172 = .ok (.getfield 32, 3) := by decide +kernel
theorem dL_holds_175 : decode cL_holds 175 = .ok (.iload_n 2, 1) := by decide +kernel
theorem dL_holds_176 : decode cL_holds 176 = .ok (.iaload, 1) := by decide +kernel
theorem dL_holds_177 : decode cL_holds 177 = .ok (.iconst 4, 1) := by decide +kernel
theorem dL_holds_178 : decode cL_holds 178 = .ok (.idiv, 1) := by decide +kernel
theorem dL_holds_179 : decode cL_holds 179 = .ok (.aload_n 0, 1) := by decide +kernel
theorem dL_holds_180 : decode cL_holds 180 = .ok (.getfield 32, 3) := by decide +kernel
theorem dL_holds_183 : decode cL_holds 183 = .ok (.iload_n 3, 1) := by decide +kernel
theorem dL_holds_184 : decode cL_holds 184 = .ok (.iaload, 1) := by decide +kernel
theorem dL_holds_185 : decode cL_holds 185 = .ok (.iconst 4, 1) := by decide +kernel
theorem dL_holds_186 : decode cL_holds 186 = .ok (.idiv, 1) := by decide +kernel
theorem dL_holds_187 : decode cL_holds 187 = .ok (.if_icmp .ne 7, 3) := by decide +kernel
theorem dL_holds_190 : decode cL_holds 190 = .ok (.iconst 1, 1) := by decide +kernel
theorem dL_holds_191 : decode cL_holds 191 = .ok (.goto 64, 3) := by decide +kernel
theorem dL_holds_194 : decode cL_holds 194 = .ok (.iconst 0, 1) := by decide +kernel
theorem dL_holds_195 : decode cL_holds 195 = .ok (.goto 60, 3) := by decide +kernel
theorem dL_holds_198 : decode cL_holds 198 = .ok (.aload_n 0, 1) := by decide +kernel
theorem dL_holds_199 : decode cL_holds 199 = .ok (.getfield 35, 3) := by decide +kernel
theorem dL_holds_202 : decode cL_holds 202 = .ok (.iload_n 1, 1) := by decide +kernel
theorem dL_holds_203 : decode cL_holds 203 = .ok (.iaload, 1) := by decide +kernel
theorem dL_holds_204 : decode cL_holds 204 = .ok (.iconst 5, 1) := by decide +kernel
theorem dL_holds_205 : decode cL_holds 205 = .ok (.if_icmp .ne 30, 3) := by decide +kernel
theorem dL_holds_208 : decode cL_holds 208 = .ok (.aload_n 0, 1) := by decide +kernel
theorem dL_holds_209 : decode cL_holds 209 = .ok (.getfield 32, 3) := by decide +kernel
theorem dL_holds_212 : decode cL_holds 212 = .ok (.iload_n 2, 1) := by decide +kernel
theorem dL_holds_213 : decode cL_holds 213 = .ok (.iaload, 1) := by decide +kernel
theorem dL_holds_214 : decode cL_holds 214 = .ok (.iconst 4, 1) := by decide +kernel
theorem dL_holds_215 : decode cL_holds 215 = .ok (.idiv, 1) := by decide +kernel
theorem dL_holds_216 : decode cL_holds 216 = .ok (.aload_n 0, 1) := by decide +kernel
theorem dL_holds_217 : decode cL_holds 217 = .ok (.getfield 32, 3) := by decide +kernel
theorem dL_holds_220 : decode cL_holds 220 = .ok (.iload_n 3, 1) := by decide +kernel
theorem dL_holds_221 : decode cL_holds 221 = .ok (.iaload, 1) := by decide +kernel
theorem dL_holds_222 : decode cL_holds 222 = .ok (.iconst 4, 1) := by decide +kernel
theorem dL_holds_223 : decode cL_holds 223 = .ok (.idiv, 1) := by decide +kernel
theorem dL_holds_224 : decode cL_holds 224 = .ok (.if_icmp .eq 7, 3) := by decide +kernel
theorem dL_holds_227 : decode cL_holds 227 = .ok (.iconst 1, 1) := by decide +kernel
theorem dL_holds_228 : decode cL_holds 228 = .ok (.goto 27, 3) := by decide +kernel
theorem dL_holds_231 : decode cL_holds 231 = .ok (.iconst 0, 1) := by decide +kernel
theorem dL_holds_232 : decode cL_holds 232 = .ok (.goto 23, 3) := by decide +kernel
theorem dL_holds_235 : decode cL_holds 235 = .ok (.aload_n 0, 1) := by decide +kernel
theorem dL_holds_236 : decode cL_holds 236 = .ok (.getfield 32, 3) := by decide +kernel
theorem dL_holds_239 : decode cL_holds 239 = .ok (.iload_n 2, 1) := by decide +kernel
theorem dL_holds_240 : decode cL_holds 240 = .ok (.iaload, 1) := by decide +kernel
theorem dL_holds_241 : decode cL_holds 241 = .ok (.aload_n 0, 1) := by decide +kernel
theorem dL_holds_242 : decode cL_holds 242 = .ok (.getfield 32, 3) := by decide +kernel
theorem dL_holds_245 : decode cL_holds 245 = .ok (.iload_n 3, 1) := by decide +kernel
theorem dL_holds_246 : decode cL_holds 246 = .ok (.iaload, 1) := by decide +kernel
theorem dL_holds_247 : decode cL_holds 247 = .ok (.if_icmp .ge 7, 3) := by decide +kernel
theorem dL_holds_250 : decode cL_holds 250 = .ok (.iconst 1, 1) := by decide +kernel
theorem dL_holds_251 : decode cL_holds 251 = .ok (.goto 4, 3) := by decide +kernel
theorem dL_holds_254 : decode cL_holds 254 = .ok (.iconst 0, 1) := by decide +kernel
theorem dL_holds_255 : decode cL_holds 255 = .ok (.ireturn, 1) := by decide +kernel
set_option maxRecDepth 20000 in
theorem ggL_isRight_L_isOn : GoodIn wsL_isRight wsL_isOn := goodIn_r _ [13, 2, 3, 14, 15, 16, 17, 18, 19, 20, 21, 22, 23, 24, 25, 26, 27, 28, 29, 30] (by decide +kernel) (by decide +kernel)
set_option maxRecDepth 20000 in
theorem gL_isRight_L_isOn : GoodIn wsL_isRight (wsV RL 93 RL yL_isOn wsL_isOn) := goodIn_app (goodIn_of _ (by decide +kernel)) ggL_isRight_L_isOn
theorem dL_isRight_0 : decode cL_isRight 0 = .ok (.iconst 0, 1) := by decide +kernel
theorem dL_isRight_1 : decode cL_isRight 1 = .ok (.istore_n 1, 1) := by decide +kernel
theorem dL_isRight_2 : decode cL_isRight 2 = .ok (.iload_n 1, 1) := by decide +kernel
theorem dL_isRight_3 : decode cL_isRight 3 = .ok (.aload_n 0, 1) := by decide +kernel
theorem dL_isRight_4 : decode cL_isRight 4 = .ok (.getfield 66, 3) := by decide +kernel
theorem dL_isRight_7 : decode cL_isRight 7 = .ok (.if_icmp .ge 180, 3) := by decide +kernel
theorem dL_isRight_10 : decode cL_isRight 10 = .ok (.aload_n 0, 1) := by decide +kernel
theorem dL_isRight_11 : decode cL_isRight 11 = .ok (.getfield 32, 3) := by decide +kernel
theorem dL_isRight_14 : decode cL_isRight 14 = .ok (.iload_n 1, 1) := by decide +kernel
theorem dL_isRight_15 : decode cL_isRight 15 = .ok (.iaload, 1) := by decide +kernel
theorem dL_isRight_16 : decode cL_isRight 16 = .ok (.iconst 4, 1) := by decide +kernel
theorem dL_isRight_17 : decode cL_isRight 17 = .ok (.irem, 1) := by decide +kernel
theorem dL_isRight_18 : decode cL_isRight 18 = .ok (.aload_n 0, 1) := by decide +kernel
theorem dL_isRight_19 : decode cL_isRight 19 = .ok (.getfield 29, 3) := by decide +kernel
theorem dL_isRight_22 : decode cL_isRight 22 = .ok (.iload_n 1, 1) := by decide +kernel
theorem dL_isRight_23 : decode cL_isRight 23 = .ok (.iaload, 1) := by decide +kernel
theorem dL_isRight_24 : decode cL_isRight 24 = .ok (.iadd, 1) := by decide +kernel
theorem dL_isRight_25 : decode cL_isRight 25 = .ok (.iconst 4, 1) := by decide +kernel
theorem dL_isRight_26 : decode cL_isRight 26 = .ok (.if_icmp .le 5, 3) := by decide +kernel
theorem dL_isRight_29 : decode cL_isRight 29 = .ok (.iconst 0, 1) := by decide +kernel
theorem dL_isRight_30 : decode cL_isRight 30 = .ok (.ireturn, 1) := by decide +kernel
theorem dL_isRight_31 : decode cL_isRight 31 = .ok (.iconst 0, 1) := by decide +kernel
theorem dL_isRight_32 : decode cL_isRight 32 = .ok (.istore_n 2, 1) := by decide +kernel
theorem dL_isRight_33 : decode cL_isRight 33 = .ok (.iload_n 2, 1) := by decide +kernel
theorem dL_isRight_34 : decode cL_isRight 34 = .ok (.iload_n 1, 1) := by decide +kernel
theorem dL_isRight_35 : decode cL_isRight 35 = .ok (.if_icmp .ge 146, 3) := by decide +kernel
theorem dL_isRight_38 : decode cL_isRight 38 = .ok (.aload_n 0, 1) := by decide +kernel
theorem dL_isRight_39 : decode cL_isRight 39 = .ok (.getfield 32, 3) := by decide +kernel
theorem dL_isRight_42 : decode cL_isRight 42 = .ok (.iload_n 1, 1) := by decide +kernel
theorem dL_isRight_43 : decode cL_isRight 43 = .ok (.iaload, 1) := by decide +kernel
theorem dL_isRight_44 : decode cL_isRight 44 = .ok (.aload_n 0, 1) := by decide +kernel
theorem dL_isRight_45 : decode cL_isRight 45 = .ok (.getfield 32, 3) := by decide +kernel
theorem dL_isRight_48 : decode cL_isRight 48 = .ok (.iload_n 2, 1) := by decide +kernel
theorem dL_isRight_49 : decode cL_isRight 49 = .ok (.iaload, 1) := by decide +kernel
theorem dL_isRight_50 : decode cL_isRight 50 = .ok (.aload_n 0, 1) := by decide +kernel
theorem dL_isRight_51 : decode cL_isRight 51 = .ok (.getfield 29, 3) := by decide +kernel
theorem dL_isRight_54 : decode cL_isRight 54 = .ok (.iload_n 2, 1) := by decide +kernel
theorem dL_isRight_55 : decode cL_isRight 55 = .ok (.iaload, 1) := by decide +kernel
theorem dL_isRight_56 : decode cL_isRight 56 = .ok (.iadd, 1) := by decide +kernel
theorem dL_isRight_57 : decode cL_isRight 57 = .ok (.if_icmp .ge 29, 3) := by decide +kernel
theorem dL_isRight_60 : decode cL_isRight 60 = .ok (.aload_n 0, 1) := by decide +kernel
theorem dL_isRight_61 : decode cL_isRight 61 = .ok (.getfield 32, 3) := by decide +kernel
theorem dL_isRight_64 : decode cL_isRight 64 = .ok (.iload_n 2, 1) := by decide +kernel
theorem dL_isRight_65 : decode cL_isRight 65 = .ok (.iaload, 1) := by decide +kernel
theorem dL_isRight_66 : decode cL_isRight 66 = .ok (.aload_n 0, 1) := by decide +kernel
theorem dL_isRight_67 : decode cL_isRight 67 = .ok (.getfield 32, 3) := by decide +kernel
theorem dL_isRight_70 : decode cL_isRight 70 = .ok (.iload_n 1, 1) := by decide +kernel
theorem dL_isRight_71 : decode cL_isRight 71 = .ok (.iaload, 1) := by decide +kernel
theorem dL_isRight_72 : decode cL_isRight 72 = .ok (.aload_n 0, 1) := by decide +kernel
theorem dL_isRight_73 : decode cL_isRight 73 = .ok (.getfield 29, 3) := by decide +kernel
theorem dL_isRight_76 : decode cL_isRight 76 = .ok (.iload_n 1, 1) := by decide +kernel
theorem dL_isRight_77 : decode cL_isRight 77 = .ok (.iaload, 1) := by decide +kernel
theorem dL_isRight_78 : decode cL_isRight 78 = .ok (.iadd, 1) := by decide +kernel
theorem dL_isRight_79 : decode cL_isRight 79 = .ok (.if_icmp .ge 7, 3) := by decide +kernel
theorem dL_isRight_82 : decode cL_isRight 82 = .ok (.iconst 1, 1) := by decide +kernel
theorem dL_isRight_83 : decode cL_isRight 83 = .ok (.goto 4, 3) := by decide +kernel
theorem dL_isRight_86 : decode cL_isRight 86 = .ok (.iconst 0, 1) := by decide +kernel
theorem dL_isRight_87 : decode cL_isRight 87 = .ok (.istore_n 3, 1) := by decide +kernel
theorem dL_isRight_88 : decode cL_isRight 88 = .ok (.aload_n 0, 1) := by decide +kernel
theorem dL_isRight_89 : decode cL_isRight 89 = .ok (.getfield 16, 3) := by decide +kernel
theorem dL_isRight_92 : decode cL_isRight 92 = .ok (.iload_n 1, 1) := by decide +kernel
theorem dL_isRight_93 : decode cL_isRight 93 = .ok (.iaload, 1) := by decide +kernel
theorem dL_isRight_94 : decode cL_isRight 94 = .ok (.aload_n 0, 1) := by decide +kernel
theorem dL_isRight_95 : decode cL_isRight 95 = .ok (.getfield 16, 3) := by decide +kernel
theorem dL_isRight_98 : decode cL_isRight 98 = .ok (.iload_n 2, 1) := by decide +kernel
theorem dL_isRight_99 : decode cL_isRight 99 = .ok (.iaload, 1) := by decide +kernel
theorem dL_isRight_100 : decode cL_isRight 100 = .ok (.if_icmp .ne 7, 3) := by decide +kernel
theorem dL_isRight_103 : decode cL_isRight 103 = .ok (.iconst 1, 1) := by decide +kernel
theorem dL_isRight_104 : decode cL_isRight 104 = .ok (.goto 4, 3) := by decide +kernel
theorem dL_isRight_107 : decode cL_isRight 107 = .ok (.iconst 0, 1) := by decide +kernel
theorem dL_isRight_108 : decode cL_isRight 108 = .ok (.istore 4, 2) := by decide +kernel
theorem dL_isRight_110 : decode cL_isRight 110 = .ok (.iload_n 3, 1) := by decide +kernel
theorem dL_isRight_111 : decode cL_isRight 111 = .ok (.ifCond .eq 23, 3) := by decide +kernel
theorem dL_isRight_114 : decode cL_isRight 114 = .ok (.iload 4, 2) := by decide +kernel
theorem dL_isRight_116 : decode cL_isRight 116 = .ok (.ifCond .ne 57, 3) := by decide +kernel
theorem dL_isRight_119 : decode cL_isRight 119 = .ok (.aload_n 0, 1) := by decide +kernel
theorem dL_isRight_120 : decode cL_isRight 120 = .ok (.getfield 20, 3) := by decide +kernel
theorem dL_isRight_123 : decode cL_isRight 123 = .ok (.iload_n 1, 1) := by decide +kernel
theorem dL_isRight_124 : decode cL_isRight 124 = .ok (.iaload, 1) := by decide +kernel
theorem dL_isRight_125 : decode cL_isRight 125 = .ok (.aload_n 0, 1) := by decide +kernel
theorem dL_isRight_126 : decode cL_isRight 126 = .ok (.getfield 20, 3) := by decide +kernel
theorem dL_isRight_129 : decode cL_isRight 129 = .ok (.iload_n 2, 1) := by decide +kernel
theorem dL_isRight_130 : decode cL_isRight 130 = .ok (.iaload, 1) := by decide +kernel
theorem dL_isRight_131 : decode cL_isRight 131 = .ok (.if_icmp .eq 42, 3) := by decide +kernel
theorem dL_isRight_134 : decode cL_isRight 134 = .ok (.iload 4, 2) := by decide +kernel
theorem dL_isRight_136 : decode cL_isRight 136 = .ok (.ifCond .eq 39, 3) := by decide +kernel
theorem dL_isRight_139 : decode cL_isRight 139 = .ok (.aload_n 0, 1) := by decide +kernel
theorem dL_isRight_140 : decode cL_isRight 140 = .ok (.getfield 23, 3) := by decide +kernel
theorem dL_isRight_143 : decode cL_isRight 143 = .ok (.iload_n 1, 1) := by decide +kernel
theorem dL_isRight_144 : decode cL_isRight 144 = .ok (.iaload, 1) := by decide +kernel
theorem dL_isRight_145 : decode cL_isRight 145 = .ok (.aload_n 0, 1) := by decide +kernel
theorem dL_isRight_146 : decode cL_isRight 146 = .ok (.getfield 23, 3) := by decide +kernel
theorem dL_isRight_149 : decode cL_isRight 149 = .ok (.iload_n 2, 1) := by decide +kernel
theorem dL_isRight_150 : decode cL_isRight 150 = .ok (.iaload, 1) := by decide +kernel
theorem dL_isRight_151 : decode cL_isRight 151 = .ok (.if_icmp .ne 24, 3) := by decide +kernel
theorem dL_isRight_154 : decode cL_isRight 154 = .ok (.aload_n 0, 1) := by decide +kernel
theorem dL_isRight_155 : decode cL_isRight 155 = .ok (.getfield 32, 3) := by decide +kernel
theorem dL_isRight_158 : decode cL_isRight 158 = .ok (.iload_n 1, 1) := by decide +kernel
theorem dL_isRight_159 : decode cL_isRight 159 = .ok (.iaload, 1) := by decide +kernel
theorem dL_isRight_160 : decode cL_isRight 160 = .ok (.iconst 4, 1) := by decide +kernel
theorem dL_isRight_161 : decode cL_isRight 161 = .ok (.idiv, 1) := by decide +kernel
theorem dL_isRight_162 : decode cL_isRight 162 = .ok (.aload_n 0, 1) := by decide +kernel
theorem dL_isRight_163 : decode cL_isRight 163 = .ok (.getfield 32, 3) := by decide +kernel
theorem dL_isRight_166 : decode cL_isRight 166 = .ok (.iload_n 2, 1) := by decide +kernel
theorem dL_isRight_167 : decode cL_isRight 167 = .ok (.iaload, 1) := by decide +kernel
theorem dL_isRight_168 : decode cL_isRight 168 = .ok (.iconst 4, 1) := by decide +kernel
theorem dL_isRight_169 : decode cL_isRight 169 = .ok (.idiv, 1) := by decide +kernel
theorem dL_isRight_170 : decode cL_isRight 170 = .ok (.if_icmp .ne 5, 3) := by decide +kernel
theorem dL_isRight_173 : decode cL_isRight 173 = .ok (.iconst 0, 1) := by decide +kernel
theorem dL_isRight_174 : decode cL_isRight 174 = .ok (.ireturn, 1) := by decide +kernel
theorem dL_isRight_175 : decode cL_isRight 175 = .ok (.iinc 2 1, 3) := by decide +kernel
theorem dL_isRight_178 : decode cL_isRight 178 = .ok (.goto (-145), 3) := by decide +kernel
theorem dL_isRight_181 : decode cL_isRight 181 = .ok (.iinc 1 1, 3) := by decide +kernel
theorem dL_isRight_184 : decode cL_isRight 184 = .ok (.goto (-182), 3) := by decide +kernel
theorem dL_isRight_187 : decode cL_isRight 187 = .ok (.iconst 0, 1) := by decide +kernel
theorem dL_isRight_188 : decode cL_isRight 188 = .ok (.istore_n 1, 1) := by decide +kernel
theorem dL_isRight_189 : decode cL_isRight 189 = .ok (.iload_n 1, 1) := by decide +kernel
theorem dL_isRight_190 : decode cL_isRight 190 = .ok (.bipush 20, 2) := by decide +kernel
theorem dL_isRight_192 : decode cL_isRight 192 = .ok (.if_icmp .ge 83, 3) := by decide +kernel
theorem dL_isRight_195 : decode cL_isRight 195 = .ok (.iconst 0, 1) := by decide +kernel
theorem dL_isRight_196 : decode cL_isRight 196 = .ok (.istore_n 2, 1) := by decide +kernel
theorem dL_isRight_197 : decode cL_isRight 197 = .ok (.iload_n 2, 1) := by decide +kernel
theorem dL_isRight_198 : decode cL_isRight 198 = .ok (.iconst 3, 1) := by decide +kernel
theorem dL_isRight_199 : decode cL_isRight 199 = .ok (.if_icmp .ge 70, 3) := by decide +kernel
theorem dL_isRight_202 : decode cL_isRight 202 = .ok (.iconst 0, 1) := by decide +kernel
theorem dL_isRight_203 : decode cL_isRight 203 = .ok (.istore_n 3, 1) := by decide +kernel
theorem dL_isRight_204 : decode cL_isRight 204 = .ok (.iconst 0, 1) := by decide +kernel
theorem dL_isRight_205 : decode cL_isRight 205 = .ok (.istore 4, 2) := by decide +kernel
theorem dL_isRight_207 : decode cL_isRight 207 = .ok (.iload 4, 2) := by decide +kernel
theorem dL_isRight_209 : decode cL_isRight 209 = .ok (.aload_n 0, 1) := by decide +kernel
theorem dL_isRight_210 : decode cL_isRight 210 = .ok (.getfield 66, 3) := by decide +kernel
theorem dL_isRight_213 : decode cL_isRight 213 = .ok (.if_icmp .ge 38, 3) := by decide +kernel
theorem dL_isRight_216 : decode cL_isRight 216 = .ok (.iload_n 3, 1) := by decide +kernel
theorem dL_isRight_217 : decode cL_isRight 217 = .ok (.aload_n 0, 1) := by decide +kernel
theorem dL_isRight_218 : decode cL_isRight 218 = .ok (.getfield 26, 3) := by decide +kernel
theorem dL_isRight_221 : decode cL_isRight 221 = .ok (.iload 4, 2) := by decide +kernel
theorem dL_isRight_223 : decode cL_isRight 223 = .ok (.iaload, 1) := by decide +kernel
theorem dL_isRight_224 : decode cL_isRight 224 = .ok (.iload_n 2, 1) := by decide +kernel
theorem dL_isRight_225 : decode cL_isRight 225 = .ok (.if_icmp .ne 17, 3) := by decide +kernel
theorem dL_isRight_228 : decode cL_isRight 228 = .ok (.aload_n 0, 1) := by decide +kernel
theorem dL_isRight_229 : decode cL_isRight 229 = .ok (.iload 4, 2) := by decide +kernel
theorem dL_isRight_231 : decode cL_isRight 231 = .ok (.iload_n 1, 1) := by decide +kernel
theorem dL_isRight_232 : decode cL_isRight 232 = .ok (.invokevirtual 93, 3) := by decide +kernel
theorem dL_isRight_235 : decode cL_isRight 235 = .ok (.ifCond .eq 7, 3) := by decide +kernel
theorem dL_isRight_238 : decode cL_isRight 238 = .ok (.iconst 1, 1) := by decide +kernel
theorem dL_isRight_239 : decode cL_isRight 239 = .ok (.goto 4, 3) := by decide +kernel
theorem dL_isRight_242 : decode cL_isRight 242 = .ok (.iconst 0, 1) := by decide +kernel
theorem dL_isRight_243 : decode cL_isRight 243 = .ok (.iadd, 1) := by decide +kernel
theorem dL_isRight_244 : decode cL_isRight 244 = .ok (.istore_n 3, 1) := by decide +kernel
theorem dL_isRight_245 : decode cL_isRight 245 = .ok (.iinc 4 1, 3) := by decide +kernel
theorem dL_isRight_248 : decode cL_isRight 248 = .ok (.goto (-41), 3) := by decide +kernel
theorem dL_isRight_251 : decode cL_isRight 251 = .ok (.iload_n 3, 1) := by decide +kernel
theorem dL_isRight_252 : decode cL_isRight 252 = .ok (.aload_n 0, 1) := by decide +kernel
theorem dL_isRight_253 : decode cL_isRight 253 = .ok (.getfield 47, 3) := by decide +kernel
theorem dL_isRight_256 : decode cL_isRight 256 = .ok (.iload_n 2, 1) := by decide +kernel
theorem dL_isRight_257 : decode cL_isRight 257 = .ok (.iaload, 1) := by decide +kernel
theorem dL_isRight_258 : decode cL_isRight 258 = .ok (.if_icmp .le 5, 3) := by decide +kernel
theorem dL_isRight_261 : decode cL_isRight 261 = .ok (.iconst 0, 1) := by decide +kernel
theorem dL_isRight_262 : decode cL_isRight 262 = .ok (.ireturn, 1) := by decide +kernel
theorem dL_isRight_263 : decode cL_isRight 263 = .ok (.iinc 2 1, 3) := by decide +kernel
theorem dL_isRight_266 : decode cL_isRight 266 = .ok (.goto (-69), 3) := by decide +kernel
theorem dL_isRight_269 : decode cL_isRight 269 = .ok (.iinc 1 1, 3) := by decide +kernel
theorem dL_isRight_272 : decode cL_isRight 272 = .ok (.goto (-83), 3) := by decide +kernel
theorem dL_isRight_275 : decode cL_isRight 275 = .ok (.iconst 1, 1) := by decide +kernel
theorem dL_isRight_276 : decode cL_isRight 276 = .ok (.ireturn, 1) := by decide +kernel
set_option maxRecDepth 20000 in
theorem ggL_isGood_L_isRight : GoodIn wsL_isGood wsL_isRight := goodIn_r _ [7, 8, 9, 10, 11, 12, 13, 14, 15, 16, 17, 18, 6, 19, 27, 28, 29, 30, 31, 32, 33, 34, 35, 36, 37, 38, 39, 40, 41, 42, 43] (by decide +kernel) (by decide +kernel)
set_option maxRecDepth 20000 in
theorem gL_isGood_L_isRight : GoodIn wsL_isGood (wsV RL 97 RL yL_isRight wsL_isRight) := goodIn_app (goodIn_of _ (by decide +kernel)) ggL_isGood_L_isRight
set_option maxRecDepth 20000 in
theorem ggL_isGood_L_holds : GoodIn wsL_isGood wsL_holds := goodIn_r _ [23, 24, 25, 8, 26, 12, 11, 9, 16, 17, 18, 6, 19, 10, 27, 28, 29, 30, 31, 32, 33, 34, 35, 36, 37, 38, 39, 40, 41, 42, 43] (by decide +kernel) (by decide +kernel)
set_option maxRecDepth 20000 in
theorem gL_isGood_L_holds : GoodIn wsL_isGood (wsV RL 101 RL yL_holds wsL_holds) := goodIn_app (goodIn_of _ (by decide +kernel)) ggL_isGood_L_holds
theorem dL_isGood_0 : decode cL_isGood 0 = .ok (.aload_n 0, 1) := by decide +kernel
theorem dL_isGood_1 : decode cL_isGood 1 = .ok (.invokevirtual 97, 3) := by decide +kernel
theorem dL_isGood_4 : decode cL_isGood 4 = .ok (.ifCond .ne 5, 3) := by decide +kernel
theorem dL_isGood_7 : decode cL_isGood 7 = .ok (.iconst 0, 1) := by decide +kernel
theorem dL_isGood_8 : decode cL_isGood 8 = .ok (.ireturn, 1) := by decide +kernel
theorem dL_isGood_9 : decode cL_isGood 9 = .ok (.iconst 0, 1) := by decide +kernel
theorem dL_isGood_10 : decode cL_isGood 10 = .ok (.istore_n 1, 1) := by decide +kernel
theorem dL_isGood_11 : decode cL_isGood 11 = .ok (.iload_n 1, 1) := by decide +kernel
theorem dL_isGood_12 : decode cL_isGood 12 = .ok (.aload_n 0, 1) := by decide +kernel
theorem dL_isGood_13 : decode cL_isGood 13 = .ok (.getfield 84, 3) := by decide +kernel
theorem dL_isGood_16 : decode cL_isGood 16 = .ok (.if_icmp .ge 28, 3) := by decide +kernel
theorem dL_isGood_19 : decode cL_isGood 19 = .ok (.aload_n 0, 1) := by decide +kernel
theorem dL_isGood_20 : decode cL_isGood 20 = .ok (.getfield 44, 3) := by decide +kernel
theorem dL_isGood_23 : decode cL_isGood 23 = .ok (.iload_n 1, 1) := by decide +kernel
theorem dL_isGood_24 : decode cL_isGood 24 = .ok (.iaload, 1) := by decide +kernel
theorem dL_isGood_25 : decode cL_isGood 25 = .ok (.ifCond .ne 13, 3) := by decide +kernel
theorem dL_isGood_28 : decode cL_isGood 28 = .ok (.aload_n 0, 1) := by decide +kernel
theorem dL_isGood_29 : decode cL_isGood 29 = .ok (.iload_n 1, 1) := by decide +kernel
theorem dL_isGood_30 : decode cL_isGood 30 = .ok (.invokevirtual 101, 3) := by decide +kernel
theorem dL_isGood_33 : decode cL_isGood 33 = .ok (.ifCond .ne 5, 3) := by decide +kernel
theorem dL_isGood_36 : decode cL_isGood 36 = .ok (.iconst 0, 1) := by decide +kernel
theorem dL_isGood_37 : decode cL_isGood 37 = .ok (.ireturn, 1) := by decide +kernel
theorem dL_isGood_38 : decode cL_isGood 38 = .ok (.iinc 1 1, 3) := by decide +kernel
theorem dL_isGood_41 : decode cL_isGood 41 = .ok (.goto (-30), 3) := by decide +kernel
theorem dL_isGood_44 : decode cL_isGood 44 = .ok (.iconst 1, 1) := by decide +kernel
theorem dL_isGood_45 : decode cL_isGood 45 = .ok (.ireturn, 1) := by decide +kernel
set_option maxRecDepth 20000 in
theorem ggL_gaps_L_isOn : GoodIn wsL_gaps wsL_isOn := goodIn_r _ [12, 13, 14, 15, 16, 17, 18, 19, 20, 21, 22, 23, 24, 25, 26, 27, 28, 29, 30, 31] (by decide +kernel) (by decide +kernel)
set_option maxRecDepth 20000 in
theorem gL_gaps_L_isOn : GoodIn wsL_gaps (wsV RL 93 RL yL_isOn wsL_isOn) := goodIn_app (goodIn_of _ (by decide +kernel)) ggL_gaps_L_isOn
theorem dL_gaps_0 : decode cL_gaps 0 = .ok (.iconst 0, 1) := by decide +kernel
theorem dL_gaps_1 : decode cL_gaps 1 = .ok (.istore_n 3, 1) := by decide +kernel
theorem dL_gaps_2 : decode cL_gaps 2 = .ok (.iconst 0, 1) := by decide +kernel
theorem dL_gaps_3 : decode cL_gaps 3 = .ok (.istore 4, 2) := by decide +kernel
theorem dL_gaps_5 : decode cL_gaps 5 = .ok (.iload 4, 2) := by decide +kernel
theorem dL_gaps_7 : decode cL_gaps 7 = .ok (.iconst 5, 1) := by decide +kernel
theorem dL_gaps_8 : decode cL_gaps 8 = .ok (.if_icmp .ge 152, 3) := by decide +kernel
theorem dL_gaps_11 : decode cL_gaps 11 = .ok (.bipush 9, 2) := by decide +kernel
theorem dL_gaps_13 : decode cL_gaps 13 = .ok (.istore 5, 2) := by decide +kernel
theorem dL_gaps_15 : decode cL_gaps 15 = .ok (.iconst (-1), 1) := by decide +kernel
theorem dL_gaps_16 : decode cL_gaps 16 = .ok (.istore 6, 2) := by decide +kernel
theorem dL_gaps_18 : decode cL_gaps 18 = .ok (.iconst 0, 1) := by decide +kernel
theorem dL_gaps_19 : decode cL_gaps 19 = .ok (.istore 7, 2) := by decide +kernel
theorem dL_gaps_21 : decode cL_gaps 21 = .ok (.iconst 0, 1) := by decide +kernel
theorem dL_gaps_22 : decode cL_gaps 22 = .ok (.istore 8, 2) := by decide +kernel
theorem dL_gaps_24 : decode cL_gaps 24 = .ok (.iload 8, 2) := by decide +kernel
theorem dL_gaps_26 : decode cL_gaps 26 = .ok (.iconst 4, 1) := by decide +kernel
theorem dL_gaps_27 : decode cL_gaps 27 = .ok (.if_icmp .ge 105, 3) := by decide +kernel
theorem dL_gaps_30 : decode cL_gaps 30 = .ok (.iconst 0, 1) := by decide +kernel
theorem dL_gaps_31 : decode cL_gaps 31 = .ok (.istore 9, 2) := by decide +kernel
theorem dL_gaps_33 : decode cL_gaps 33 = .ok (.iconst 0, 1) := by decide +kernel
theorem dL_gaps_34 : decode cL_gaps 34 = .ok (.istore 10, 2) := by decide +kernel
theorem dL_gaps_36 : decode cL_gaps 36 = .ok (.iload 10, 2) := by decide +kernel
theorem dL_gaps_38 : decode cL_gaps 38 = .ok (.aload_n 0, 1) := by decide +kernel
theorem dL_gaps_39 : decode cL_gaps 39 = .ok (.getfield 66, 3) := by decide +kernel
theorem dL_gaps_42 : decode cL_gaps 42 = .ok (.if_icmp .ge 60, 3) := by decide +kernel
theorem dL_gaps_45 : decode cL_gaps 45 = .ok (.iload 9, 2) := by decide +kernel
theorem dL_gaps_47 : decode cL_gaps 47 = .ok (.iload_n 1, 1) := by decide +kernel
theorem dL_gaps_48 : decode cL_gaps 48 = .ok (.ifCond .eq 13, 3) := by decide +kernel
theorem dL_gaps_51 : decode cL_gaps 51 = .ok (.aload_n 0, 1) := by decide +kernel
theorem dL_gaps_52 : decode cL_gaps 52 = .ok (.getfield 20, 3) := by decide +kernel
theorem dL_gaps_55 : decode cL_gaps 55 = .ok (.iload 10, 2) := by decide +kernel
theorem dL_gaps_57 : decode cL_gaps 57 = .ok (.iaload, 1) := by decide +kernel
theorem dL_gaps_58 : decode cL_gaps 58 = .ok (.goto 10, 3) := by decide +kernel
theorem dL_gaps_61 : decode cL_gaps 61 = .ok (.aload_n 0, 1) := by decide +kernel
theorem dL_gaps_62 : decode cL_gaps 62 = .ok (.getfield 16, 3) := by decide +kernel
theorem dL_gaps_65 : decode cL_gaps 65 = .ok (.iload 10, 2) := by decide +kernel
theorem dL_gaps_67 : decode cL_gaps 67 = .ok (.iaload, 1) := by decide +kernel
theorem dL_gaps_68 : decode cL_gaps 68 = .ok (.iload_n 2, 1) := by decide +kernel
theorem dL_gaps_69 : decode cL_gaps 69 = .ok (.if_icmp .ne 23, 3) := by decide +kernel
theorem dL_gaps_72 : decode cL_gaps 72 = .ok (.aload_n 0, 1) := by decide +kernel
theorem dL_gaps_73 : decode cL_gaps 73 = .ok (.iload 10, 2) := by decide +kernel
theorem dL_gaps_75 : decode cL_gaps 75 = .ok (.iconst 4, 1) := by decide +kernel
theorem dL_gaps_76 : decode cL_gaps 76 = .ok (.iload 4, 2) := by decide +kernel
theorem dL_gaps_78 : decode cL_gaps 78 = .ok (.imul, 1) := by decide +kernel
theorem dL_gaps_79 : decode cL_gaps 79 = .ok (.iload 8, 2) := by decide +kernel
theorem dL_gaps_81 : decode cL_gaps 81 = .ok (.iadd, 1) := by decide +kernel
theorem dL_gaps_82 : decode cL_gaps 82 = .ok (.invokevirtual 93, 3) := by decide +kernel
theorem dL_gaps_85 : decode cL_gaps 85 = .ok (.ifCond .eq 7, 3) := by decide +kernel
theorem dL_gaps_88 : decode cL_gaps 88 = .ok (.iconst 1, 1) := by decide +kernel
theorem dL_gaps_89 : decode cL_gaps 89 = .ok (.goto 4, 3) := by decide +kernel
theorem dL_gaps_92 : decode cL_gaps 92 = .ok (.iconst 0, 1) := by decide +kernel
theorem dL_gaps_93 : decode cL_gaps 93 = .ok (.ior, 1) := by decide +kernel
theorem dL_gaps_94 : decode cL_gaps 94 = .ok (.istore 9, 2) := by decide +kernel
theorem dL_gaps_96 : decode cL_gaps 96 = .ok (.iinc 10 1, 3) := by decide +kernel
theorem dL_gaps_99 : decode cL_gaps 99 = .ok (.goto (-63), 3) := by decide +kernel
theorem dL_gaps_102 : decode cL_gaps 102 = .ok (.iload 9, 2) := by decide +kernel
theorem dL_gaps_104 : decode cL_gaps 104 = .ok (.ifCond .ne 6, 3) := by decide +kernel
theorem dL_gaps_107 : decode cL_gaps 107 = .ok (.goto 19, 3) := by decide +kernel
theorem dL_gaps_110 : decode cL_gaps 110 = .ok (.iload 5, 2) := by decide +kernel
theorem dL_gaps_112 : decode cL_gaps 112 = .ok (.iload 8, 2) := by decide +kernel
theorem dL_gaps_114 : decode cL_gaps 114 = .ok (.invokestatic 105, 3) := by decide +kernel
theorem dL_gaps_117 : decode cL_gaps 117 = .ok (.istore 5, 2) := by decide +kernel
theorem dL_gaps_119 : decode cL_gaps 119 = .ok (.iload 8, 2) := by decide +kernel
theorem dL_gaps_121 : decode cL_gaps 121 = .ok (.istore 6, 2) := by decide +kernel
theorem dL_gaps_123 : decode cL_gaps 123 = .ok (.iinc 7 1, 3) := by decide +kernel
theorem dL_gaps_126 : decode cL_gaps 126 = .ok (.iinc 8 1, 3) := by decide +kernel
theorem dL_gaps_129 : decode cL_gaps 129 = .ok (.goto (-105), 3) := by decide +kernel
theorem dL_gaps_132 : decode cL_gaps 132 = .ok (.iload_n 3, 1) := by decide +kernel
theorem dL_gaps_133 : decode cL_gaps 133 = .ok (.iload 6, 2) := by decide +kernel
theorem dL_gaps_135 : decode cL_gaps 135 = .ok (.ifCond .ge 7, 3) := by decide +kernel
theorem dL_gaps_138 : decode cL_gaps 138 = .ok (.iconst 0, 1) := by decide +kernel
theorem dL_gaps_139 : decode cL_gaps 139 = .ok (.goto 13, 3) := by decide +kernel
theorem dL_gaps_142 : decode cL_gaps 142 = .ok (.iload 6, 2) := by decide +kernel
theorem dL_gaps_144 : decode cL_gaps 144 = .ok (.iload 5, 2) := by decide +kernel
theorem dL_gaps_146 : decode cL_gaps 146 = .ok (.isub, 1) := by decide +kernel
theorem dL_gaps_147 : decode cL_gaps 147 = .ok (.iconst 1, 1) := by decide +kernel
theorem dL_gaps_148 : decode cL_gaps 148 = .ok (.iadd, 1) := by decide +kernel
theorem dL_gaps_149 : decode cL_gaps 149 = .ok (.iload 7, 2) := by decide +kernel
theorem dL_gaps_151 : decode cL_gaps 151 = .ok (.isub, 1) := by decide +kernel
theorem dL_gaps_152 : decode cL_gaps 152 = .ok (.iadd, 1) := by decide +kernel
theorem dL_gaps_153 : decode cL_gaps 153 = .ok (.istore_n 3, 1) := by decide +kernel
theorem dL_gaps_154 : decode cL_gaps 154 = .ok (.iinc 4 1, 3) := by decide +kernel
theorem dL_gaps_157 : decode cL_gaps 157 = .ok (.goto (-152), 3) := by decide +kernel
theorem dL_gaps_160 : decode cL_gaps 160 = .ok (.iload_n 3, 1) := by decide +kernel
theorem dL_gaps_161 : decode cL_gaps 161 = .ok (.ireturn, 1) := by decide +kernel
set_option maxRecDepth 20000 in
theorem ggL_cost_L_gaps : GoodIn wsL_cost wsL_gaps := goodIn_r _ [7, 8, 9, 10, 11, 12, 13, 14, 15, 16, 17, 6, 18, 19, 20, 28, 29, 30, 31, 32, 33, 34, 35, 36, 37, 38, 39, 40, 41, 42, 43, 44] (by decide +kernel) (by decide +kernel)
set_option maxRecDepth 20000 in
theorem gL_cost_L_gaps : GoodIn wsL_cost (wsV RL 110 RL yL_gaps wsL_gaps) := goodIn_app (goodIn_of _ (by decide +kernel)) ggL_cost_L_gaps
set_option maxRecDepth 20000 in
theorem ggL_cost_L_holds : GoodIn wsL_cost wsL_holds := goodIn_r _ [24, 25, 26, 8, 27, 9, 10, 19, 15, 16, 17, 6, 18, 20, 28, 29, 30, 31, 32, 33, 34, 35, 36, 37, 38, 39, 40, 41, 42, 43, 44] (by decide +kernel) (by decide +kernel)
set_option maxRecDepth 20000 in
theorem gL_cost_L_holds : GoodIn wsL_cost (wsV RL 101 RL yL_holds wsL_holds) := goodIn_app (goodIn_of _ (by decide +kernel)) ggL_cost_L_holds
theorem dL_cost_0 : decode cL_cost 0 = .ok (.iconst 0, 1) := by decide +kernel
theorem dL_cost_1 : decode cL_cost 1 = .ok (.istore_n 1, 1) := by decide +kernel
theorem dL_cost_2 : decode cL_cost 2 = .ok (.iconst 0, 1) := by decide +kernel
theorem dL_cost_3 : decode cL_cost 3 = .ok (.istore_n 2, 1) := by decide +kernel
theorem dL_cost_4 : decode cL_cost 4 = .ok (.iload_n 2, 1) := by decide +kernel
theorem dL_cost_5 : decode cL_cost 5 = .ok (.bipush 6, 2) := by decide +kernel
theorem dL_cost_7 : decode cL_cost 7 = .ok (.if_icmp .ge 18, 3) := by decide +kernel
theorem dL_cost_10 : decode cL_cost 10 = .ok (.iload_n 1, 1) := by decide +kernel
theorem dL_cost_11 : decode cL_cost 11 = .ok (.aload_n 0, 1) := by decide +kernel
theorem dL_cost_12 : decode cL_cost 12 = .ok (.iconst 1, 1) := by decide +kernel
theorem dL_cost_13 : decode cL_cost 13 = .ok (.iload_n 2, 1) := by decide +kernel
theorem dL_cost_14 : decode cL_cost 14 = .ok (.invokevirtual 110, 3) := by decide +kernel
theorem dL_cost_17 : decode cL_cost 17 = .ok (.iadd, 1) := by decide +kernel
theorem dL_cost_18 : decode cL_cost 18 = .ok (.istore_n 1, 1) := by decide +kernel
theorem dL_cost_19 : decode cL_cost 19 = .ok (.iinc 2 1, 3) := by decide +kernel
theorem dL_cost_22 : decode cL_cost 22 = .ok (.goto (-18), 3) := by decide +kernel
theorem dL_cost_25 : decode cL_cost 25 = .ok (.iconst 0, 1) := by decide +kernel
theorem dL_cost_26 : decode cL_cost 26 = .ok (.istore_n 2, 1) := by decide +kernel
theorem dL_cost_27 : decode cL_cost 27 = .ok (.iload_n 2, 1) := by decide +kernel
theorem dL_cost_28 : decode cL_cost 28 = .ok (.iconst 4, 1) := by decide +kernel
theorem dL_cost_29 : decode cL_cost 29 = .ok (.if_icmp .ge 18, 3) := by decide +kernel
theorem dL_cost_32 : decode cL_cost 32 = .ok (.iload_n 1, 1) := by decide +kernel
theorem dL_cost_33 : decode cL_cost 33 = .ok (.aload_n 0, 1) := by decide +kernel
theorem dL_cost_34 : decode cL_cost 34 = .ok (.iconst 0, 1) := by decide +kernel
theorem dL_cost_35 : decode cL_cost 35 = .ok (.iload_n 2, 1) := by decide +kernel
theorem dL_cost_36 : decode cL_cost 36 = .ok (.invokevirtual 110, 3) := by decide +kernel
theorem dL_cost_39 : decode cL_cost 39 = .ok (.iadd, 1) := by decide +kernel
theorem dL_cost_40 : decode cL_cost 40 = .ok (.istore_n 1, 1) := by decide +kernel
theorem dL_cost_41 : decode cL_cost 41 = .ok (.iinc 2 1, 3) := by decide +kernel
theorem dL_cost_44 : decode cL_cost 44 = .ok (.goto (-17), 3) := by decide +kernel
theorem dL_cost_47 : decode cL_cost 47 = .ok (.iconst 0, 1) := by decide +kernel
theorem dL_cost_48 : decode cL_cost 48 = .ok (.istore_n 2, 1) := by decide +kernel
theorem dL_cost_49 : decode cL_cost 49 = .ok (.iload_n 2, 1) := by decide +kernel
theorem dL_cost_50 : decode cL_cost 50 = .ok (.aload_n 0, 1) := by decide +kernel
theorem dL_cost_51 : decode cL_cost 51 = .ok (.getfield 84, 3) := by decide +kernel
theorem dL_cost_54 : decode cL_cost 54 = .ok (.if_icmp .ge 39, 3) := by decide +kernel
theorem dL_cost_57 : decode cL_cost 57 = .ok (.iload_n 1, 1) := by decide +kernel
theorem dL_cost_58 : decode cL_cost 58 = .ok (.aload_n 0, 1) := by decide +kernel
theorem dL_cost_59 : decode cL_cost 59 = .ok (.getfield 44, 3) := by decide +kernel
theorem dL_cost_62 : decode cL_cost 62 = .ok (.iload_n 2, 1) := by decide +kernel
theorem dL_cost_63 : decode cL_cost 63 = .ok (.iaload, 1) := by decide +kernel
theorem dL_cost_64 : decode cL_cost 64 = .ok (.ifCond .le 20, 3) := by decide +kernel
theorem dL_cost_67 : decode cL_cost 67 = .ok (.aload_n 0, 1) := by decide +kernel
theorem dL_cost_68 : decode cL_cost 68 = .ok (.iload_n 2, 1) := by decide +kernel
theorem dL_cost_69 : decode cL_cost 69 = .ok (.invokevirtual 101, 3) := by decide +kernel
theorem dL_cost_72 : decode cL_cost 72 = .ok (.ifCond .ne 12, 3) := by decide +kernel
theorem dL_cost_75 : decode cL_cost 75 = .ok (.aload_n 0, 1) := by decide +kernel
theorem dL_cost_76 : decode cL_cost 76 = .ok (.getfield 44, 3) := by decide +kernel
theorem dL_cost_79 : decode cL_cost 79 = .ok (.iload_n 2, 1) := by decide +kernel
theorem dL_cost_80 : decode cL_cost 80 = .ok (.iaload, 1) := by decide +kernel
theorem dL_cost_81 : decode cL_cost 81 = .ok (.goto 4, 3) := by decide +kernel
theorem dL_cost_84 : decode cL_cost 84 = .ok (.iconst 0, 1) := by decide +kernel
theorem dL_cost_85 : decode cL_cost 85 = .ok (.iadd, 1) := by decide +kernel
theorem dL_cost_86 : decode cL_cost 86 = .ok (.istore_n 1, 1) := by decide +kernel
theorem dL_cost_87 : decode cL_cost 87 = .ok (.iinc 2 1, 3) := by decide +kernel
theorem dL_cost_90 : decode cL_cost 90 = .ok (.goto (-41), 3) := by decide +kernel
theorem dL_cost_93 : decode cL_cost 93 = .ok (.iload_n 1, 1) := by decide +kernel
theorem dL_cost_94 : decode cL_cost 94 = .ok (.ireturn, 1) := by decide +kernel
set_option maxRecDepth 20000 in
theorem ggL_looks_X11_slotOf : GoodIn wsL_looks wsX11_slotOf := goodIn_ca (goodIn_ca (goodIn_r _ [8, 9, 10, 11, 12, 13, 7, 14, 15, 16, 17, 18, 19, 20, 21, 22, 23, 24, 25, 26, 27, 28, 29, 30, 31, 32, 50, 51, 52, 53, 54, 55, 56, 57, 58, 59, 60, 61, 62] (by decide +kernel) (by decide +kernel)) (goodIn_sub (fun _ h => List.mem_cons_of_mem _ (List.mem_append_left _ (List.mem_append_right _ h))) (by decide +kernel))) (goodIn_sub (fun _ h => List.mem_cons_of_mem _ (List.mem_append_right _ h)) (by decide +kernel))
set_option maxRecDepth 20000 in
theorem gL_looks_X11_slotOf : GoodIn wsL_looks (wsV RL 114 RX11 yX11_slotOf wsX11_slotOf) := goodIn_app (goodIn_of _ (by decide +kernel)) ggL_looks_X11_slotOf
theorem dL_looks_0 : decode cL_looks 0 = .ok (.iconst 0, 1) := by decide +kernel
theorem dL_looks_1 : decode cL_looks 1 = .ok (.istore_n 1, 1) := by decide +kernel
theorem dL_looks_2 : decode cL_looks 2 = .ok (.iload_n 1, 1) := by decide +kernel
theorem dL_looks_3 : decode cL_looks 3 = .ok (.aload_n 0, 1) := by decide +kernel
theorem dL_looks_4 : decode cL_looks 4 = .ok (.getfield 66, 3) := by decide +kernel
theorem dL_looks_7 : decode cL_looks 7 = .ok (.if_icmp .ge 23, 3) := by decide +kernel
theorem dL_looks_10 : decode cL_looks 10 = .ok (.aload_n 0, 1) := by decide +kernel
theorem dL_looks_11 : decode cL_looks 11 = .ok (.getfield 32, 3) := by decide +kernel
theorem dL_looks_14 : decode cL_looks 14 = .ok (.iload_n 1, 1) := by decide +kernel
theorem dL_looks_15 : decode cL_looks 15 = .ok (.aload_n 0, 1) := by decide +kernel
theorem dL_looks_16 : decode cL_looks 16 = .ok (.getfield 10, 3) := by decide +kernel
theorem dL_looks_19 : decode cL_looks 19 = .ok (.iload_n 1, 1) := by decide +kernel
theorem dL_looks_20 : decode cL_looks 20 = .ok (.invokevirtual 114, 3) := by decide +kernel
theorem dL_looks_23 : decode cL_looks 23 = .ok (.iastore, 1) := by decide +kernel
theorem dL_looks_24 : decode cL_looks 24 = .ok (.iinc 1 1, 3) := by decide +kernel
theorem dL_looks_27 : decode cL_looks 27 = .ok (.goto (-25), 3) := by decide +kernel
theorem dL_looks_30 : decode cL_looks 30 = .ok (.return_, 1) := by decide +kernel
set_option maxRecDepth 20000 in
theorem ggL_tries_L_isGood : GoodIn wsL_tries wsL_isGood := goodIn_r _ [7, 8, 9, 10, 11, 12, 6, 13, 1, 2, 14, 15, 16, 17, 18, 19, 20, 21, 22, 23, 24, 25, 26, 27, 28, 29, 30, 31, 32, 33, 34, 35, 36, 37, 38, 39, 40, 41, 42, 43, 44, 45, 46, 47] (by decide +kernel) (by decide +kernel)
set_option maxRecDepth 20000 in
theorem gL_tries_L_isGood : GoodIn wsL_tries (wsV RL 117 RL yL_isGood wsL_isGood) := goodIn_app (goodIn_of _ (by decide +kernel)) ggL_tries_L_isGood
theorem dL_tries_0 : decode cL_tries 0 = .ok (.aload_n 0, 1) := by decide +kernel
theorem dL_tries_1 : decode cL_tries 1 = .ok (.getfield 66, 3) := by decide +kernel
theorem dL_tries_4 : decode cL_tries 4 = .ok (.iconst 1, 1) := by decide +kernel
theorem dL_tries_5 : decode cL_tries 5 = .ok (.if_icmp .ne 8, 3) := by decide +kernel
theorem dL_tries_8 : decode cL_tries 8 = .ok (.bipush 20, 2) := by decide +kernel
theorem dL_tries_10 : decode cL_tries 10 = .ok (.goto 20, 3) := by decide +kernel
theorem dL_tries_13 : decode cL_tries 13 = .ok (.aload_n 0, 1) := by decide +kernel
theorem dL_tries_14 : decode cL_tries 14 = .ok (.getfield 66, 3) := by decide +kernel
theorem dL_tries_17 : decode cL_tries 17 = .ok (.iconst 2, 1) := by decide +kernel
theorem dL_tries_18 : decode cL_tries 18 = .ok (.if_icmp .ne 9, 3) := by decide +kernel
theorem dL_tries_21 : decode cL_tries 21 = .ok (.sipush 400, 3) := by decide +kernel
theorem dL_tries_24 : decode cL_tries 24 = .ok (.goto 6, 3) := by decide +kernel
theorem dL_tries_27 : decode cL_tries 27 = .ok (.sipush 8000, 3) := by decide +kernel
theorem dL_tries_30 : decode cL_tries 30 = .ok (.istore_n 1, 1) := by decide +kernel
theorem dL_tries_31 : decode cL_tries 31 = .ok (.iconst 0, 1) := by decide +kernel
theorem dL_tries_32 : decode cL_tries 32 = .ok (.istore_n 2, 1) := by decide +kernel
theorem dL_tries_33 : decode cL_tries 33 = .ok (.iload_n 2, 1) := by decide +kernel
theorem dL_tries_34 : decode cL_tries 34 = .ok (.iload_n 1, 1) := by decide +kernel
theorem dL_tries_35 : decode cL_tries 35 = .ok (.if_icmp .ge 55, 3) := by decide +kernel
theorem dL_tries_38 : decode cL_tries 38 = .ok (.iload_n 2, 1) := by decide +kernel
theorem dL_tries_39 : decode cL_tries 39 = .ok (.istore_n 3, 1) := by decide +kernel
theorem dL_tries_40 : decode cL_tries 40 = .ok (.aload_n 0, 1) := by decide +kernel
theorem dL_tries_41 : decode cL_tries 41 = .ok (.getfield 66, 3) := by decide +kernel
theorem dL_tries_44 : decode cL_tries 44 = .ok (.iconst 1, 1) := by decide +kernel
theorem dL_tries_45 : decode cL_tries 45 = .ok (.isub, 1) := by decide +kernel
theorem dL_tries_46 : decode cL_tries 46 = .ok (.istore 4, 2) := by decide +kernel
theorem dL_tries_48 : decode cL_tries 48 = .ok (.iload 4, 2) := by decide +kernel
theorem dL_tries_50 : decode cL_tries 50 = .ok (.ifCond .lt 25, 3) := by decide +kernel
theorem dL_tries_53 : decode cL_tries 53 = .ok (.aload_n 0, 1) := by decide +kernel
theorem dL_tries_54 : decode cL_tries 54 = .ok (.getfield 32, 3) := by decide +kernel
theorem dL_tries_57 : decode cL_tries 57 = .ok (.iload 4, 2) := by decide +kernel
theorem dL_tries_59 : decode cL_tries 59 = .ok (.iload_n 3, 1) := by decide +kernel
theorem dL_tries_60 : decode cL_tries 60 = .ok (.bipush 20, 2) := by decide +kernel
theorem dL_tries_62 : decode cL_tries 62 = .ok (.irem, 1) := by decide +kernel
theorem dL_tries_63 : decode cL_tries 63 = .ok (.iastore, 1) := by decide +kernel
theorem dL_tries_64 : decode cL_tries 64 = .ok (.iload_n 3, 1) := by decide +kernel
theorem dL_tries_65 : decode cL_tries 65 = .ok (.bipush 20, 2) := by decide +kernel
theorem dL_tries_67 : decode cL_tries 67 = .ok (.idiv, 1) := by decide +kernel
theorem dL_tries_68 : decode cL_tries 68 = .ok (.istore_n 3, 1) := by decide +kernel
theorem dL_tries_69 : decode cL_tries 69 = .ok (.iinc 4 (-1), 3) := by decide +kernel
theorem dL_tries_72 : decode cL_tries 72 = .ok (.goto (-24), 3) := by decide +kernel
theorem dL_tries_75 : decode cL_tries 75 = .ok (.aload_n 0, 1) := by decide +kernel
theorem dL_tries_76 : decode cL_tries 76 = .ok (.invokevirtual 117, 3) := by decide +kernel
theorem dL_tries_79 : decode cL_tries 79 = .ok (.ifCond .eq 5, 3) := by decide +kernel
theorem dL_tries_82 : decode cL_tries 82 = .ok (.iconst 1, 1) := by decide +kernel
theorem dL_tries_83 : decode cL_tries 83 = .ok (.ireturn, 1) := by decide +kernel
theorem dL_tries_84 : decode cL_tries 84 = .ok (.iinc 2 1, 3) := by decide +kernel
theorem dL_tries_87 : decode cL_tries 87 = .ok (.goto (-54), 3) := by decide +kernel
theorem dL_tries_90 : decode cL_tries 90 = .ok (.iconst 0, 1) := by decide +kernel
theorem dL_tries_91 : decode cL_tries 91 = .ok (.ireturn, 1) := by decide +kernel
set_option maxRecDepth 20000 in
theorem ggL_isFound_X11_find : GoodIn wsL_isFound wsX11_find := goodIn_r _ [8, 9, 10, 11, 12, 13, 14, 15, 16, 17, 18, 19, 20, 21, 22, 23, 24, 25, 26, 27, 28, 29, 30, 31, 32, 33, 34, 35, 36, 37, 38, 39, 40, 41, 42, 43, 44, 45, 46, 47, 48, 49, 50, 51, 52, 53, 54, 55, 56, 57, 58, 59, 60, 61, 62, 63, 64, 65, 66, 67, 68, 69, 70, 71, 72, 73, 74, 75, 76, 77, 78, 79, 80, 81, 82, 83, 84, 85, 86, 87, 88, 89, 90, 91, 92, 93, 94, 95, 96, 97, 98, 99, 100, 101, 102, 103, 104, 105, 106, 107, 108, 109, 110, 111, 112, 113, 114, 115, 116, 117, 118, 119, 120, 121, 122, 123, 124, 125, 126, 127, 128, 129, 130, 131, 132, 133, 134, 135, 136, 137, 138, 139, 140, 141, 142, 143, 144, 145, 146, 147, 148, 149, 150, 151, 152, 153, 154, 155, 156, 157, 7, 158, 159, 160, 161, 162, 163, 164, 165, 166, 167, 168, 169, 170, 171, 172, 173, 174, 175, 176, 177, 178, 179, 180, 181, 182, 183, 184, 773, 774, 775, 776, 777, 778, 779, 780, 781, 782, 783, 784, 785, 786, 787, 788, 789, 790, 791, 792, 793, 794, 795, 796, 797, 798, 799, 800, 801, 802, 803, 804, 805, 806, 807, 808] (by decide +kernel) (by decide +kernel)
set_option maxRecDepth 20000 in
theorem gL_isFound_X11_find : GoodIn wsL_isFound (wsV RL 120 RX11 yX11_find wsX11_find) := goodIn_app (goodIn_of _ (by decide +kernel)) ggL_isFound_X11_find
set_option maxRecDepth 20000 in
theorem ggL_isFound_L_tries : GoodIn wsL_isFound wsL_tries := goodIn_r _ [189, 2, 3, 190, 191, 192, 188, 193, 194, 195, 196, 197, 198, 199, 200, 201, 202, 203, 204, 205, 206, 207, 208, 209, 210, 211, 212, 213, 214, 215, 216, 756, 757, 758, 759, 760, 761, 762, 763, 764, 765, 766, 767, 768, 769, 770, 771, 772] (by decide +kernel) (by decide +kernel)
set_option maxRecDepth 20000 in
theorem gL_isFound_L_tries : GoodIn wsL_isFound (wsV RL 123 RL yL_tries wsL_tries) := goodIn_app (goodIn_of _ (by decide +kernel)) ggL_isFound_L_tries
set_option maxRecDepth 20000 in
theorem ggL_isFound_X11_checksum : GoodIn wsL_isFound wsX11_checksum := goodIn_r _ [220, 10, 221, 222, 223, 224, 24, 225, 30, 226, 42, 43, 44, 773, 774, 775, 776, 777, 778, 779, 780, 781, 782, 783, 804, 805] (by decide +kernel) (by decide +kernel)
set_option maxRecDepth 20000 in
theorem gL_isFound_X11_checksum : GoodIn wsL_isFound (wsV RL 126 RX11 yX11_checksum wsX11_checksum) := goodIn_app (goodIn_of _ (by decide +kernel)) ggL_isFound_X11_checksum
set_option maxRecDepth 20000 in
theorem ggL_isFound_L_isProved : GoodIn wsL_isFound wsL_isProved := goodIn_ca (goodIn_ca (goodIn_ca (goodIn_r _ [230, 1, 231, 232, 7, 195, 216, 214, 215, 233, 234, 235, 236, 9, 237, 238, 239, 240, 241, 242, 243, 244, 245, 24, 10, 246, 247, 163, 159, 248, 249, 38, 250, 251, 252, 15, 253, 254, 255, 256, 257, 258, 259, 260, 261, 262, 263, 264, 265, 266, 267, 268, 269, 270, 271, 272, 273, 274, 275, 276, 277, 278, 279, 280, 281, 282, 283, 284, 285, 30, 183, 286, 287, 288, 166, 289, 290, 291, 52, 50, 51, 55, 56, 57, 58, 59, 60, 49, 292, 293, 294, 295, 296, 17, 20, 153, 152, 124, 89, 88, 297, 298, 299, 300, 301, 302, 303, 304, 305, 306, 307, 308, 309, 310, 311, 312, 313, 314, 315, 316, 317, 318, 319, 320, 321, 322, 323, 324, 325, 326, 327, 328, 329, 330, 331, 332, 333, 334, 335, 336, 337, 338, 188, 339, 205, 2, 201, 202, 203, 204, 200, 340, 341, 342, 343, 344, 345, 346, 347, 348, 349, 350, 351, 352, 353, 155, 156, 157, 158, 160, 161, 162, 164, 165, 167, 168, 91, 92, 93, 169, 170, 171, 172, 173, 174, 175, 176, 177, 178, 354, 355, 356, 357, 358, 359, 360, 361, 362, 363, 364, 365, 366, 367, 368, 369, 370, 371, 226, 42, 43, 44, 372, 373, 374, 375, 376, 377, 378, 379, 380, 381, 382, 383, 384, 385, 386, 387, 388, 389, 390, 391, 392, 393, 394, 395, 27, 28, 29, 396, 397, 398, 399, 4, 5, 6, 8, 11, 12, 13, 14, 16, 18, 19, 21, 22, 23, 25, 26, 31, 32, 33, 34, 35, 36, 37, 39, 40, 41, 45, 46, 47, 48, 53, 54, 61, 62, 63, 64, 65, 66, 67, 68, 69, 70, 71, 72, 73, 74, 75, 76, 77, 78, 79, 80, 81, 82, 83, 84, 85, 86, 87, 90, 94, 95, 96, 97, 98, 99, 100, 101, 102, 103, 104, 105, 106, 107, 108, 109, 110, 111, 112, 113, 114, 115, 116, 117, 118, 119, 120, 121, 122, 123, 125, 126, 127, 128, 129, 130, 131, 132, 133, 134, 135, 136, 137, 138, 139, 140, 141, 142, 143, 144, 145, 146, 147, 148, 149, 150, 151, 154, 179, 180, 181, 182, 184, 756, 757, 758, 759, 760, 761, 762, 763, 764, 765, 766, 767, 768, 769, 770, 771, 772, 773, 774, 775, 776, 777, 778, 779, 780, 781, 782, 783, 784, 785, 786, 787, 788, 789, 790, 791, 804, 805, 806, 807, 808, 792, 793, 794, 795, 796, 797, 798, 799, 800, 801, 802, 803, 809, 810, 811, 812, 813, 814, 815, 816, 817, 818, 819, 820, 821, 822, 823, 824, 825, 826, 827, 828, 829, 830, 831, 832] (by decide +kernel) (by decide +kernel)) (goodIn_sub (fun _ h => List.mem_cons_of_mem _ (List.mem_append_left _ (List.mem_append_left _ (List.mem_append_right _ h)))) (by decide +kernel))) (goodIn_sub (fun _ h => List.mem_cons_of_mem _ (List.mem_append_left _ (List.mem_append_right _ h))) (by decide +kernel))) (goodIn_sub (fun _ h => List.mem_cons_of_mem _ (List.mem_append_right _ h)) (by decide +kernel))
set_option maxRecDepth 20000 in
theorem gL_isFound_L_isProved : GoodIn wsL_isFound (wsV RL 129 RL yL_isProved wsL_isProved) := goodIn_app (goodIn_of _ (by decide +kernel)) ggL_isFound_L_isProved
set_option maxRecDepth 20000 in
theorem ggL_isFound_X11_slotOf : GoodIn wsL_isFound wsX11_slotOf := goodIn_ca (goodIn_ca (goodIn_r _ [403, 10, 221, 391, 392, 393, 7, 394, 384, 385, 226, 42, 43, 24, 44, 30, 404, 405, 406, 407, 366, 367, 222, 223, 224, 225, 773, 774, 775, 776, 777, 778, 779, 780, 781, 782, 783, 804, 805] (by decide +kernel) (by decide +kernel)) (goodIn_sub (fun _ h => List.mem_cons_of_mem _ (List.mem_append_right _ h)) (by decide +kernel))) (goodIn_sub (fun _ h => List.mem_cons_of_mem _ (List.mem_append_left _ (List.mem_append_right _ h))) (by decide +kernel))
set_option maxRecDepth 20000 in
theorem gL_isFound_X11_slotOf : GoodIn wsL_isFound (wsV RL 114 RX11 yX11_slotOf wsX11_slotOf) := goodIn_app (goodIn_of _ (by decide +kernel)) ggL_isFound_X11_slotOf
set_option maxRecDepth 20000 in
theorem ggL_isFound_L_looks : GoodIn wsL_isFound wsL_looks := goodIn_ca (goodIn_ca (goodIn_r _ [411, 2, 3, 1, 400, 401, 402, 7, 403, 10, 221, 391, 392, 393, 394, 384, 385, 226, 42, 43, 24, 44, 30, 404, 405, 406, 407, 366, 367, 222, 223, 224, 225, 756, 757, 758, 759, 760, 761, 762, 763, 764, 765, 766, 767, 768, 769, 770, 771, 772, 773, 774, 775, 776, 777, 778, 779, 780, 781, 782, 783, 804, 805] (by decide +kernel) (by decide +kernel)) (goodIn_sub (fun _ h => List.mem_cons_of_mem _ (List.mem_append_right _ h)) (by decide +kernel))) (goodIn_sub (fun _ h => List.mem_cons_of_mem _ (List.mem_append_left _ (List.mem_append_right _ h))) (by decide +kernel))
set_option maxRecDepth 20000 in
theorem gL_isFound_L_looks : GoodIn wsL_isFound (wsV RL 132 RL yL_looks wsL_looks) := goodIn_app (goodIn_of _ (by decide +kernel)) ggL_isFound_L_looks
set_option maxRecDepth 20000 in
theorem ggL_isFound_L_isGood : GoodIn wsL_isFound wsL_isGood := goodIn_r _ [193, 194, 195, 196, 197, 198, 188, 199, 2, 3, 200, 201, 202, 203, 204, 205, 206, 207, 208, 209, 210, 211, 212, 213, 214, 215, 216, 756, 757, 758, 759, 760, 761, 762, 763, 764, 765, 766, 767, 768, 769, 770, 771, 772] (by decide +kernel) (by decide +kernel)
set_option maxRecDepth 20000 in
theorem gL_isFound_L_isGood : GoodIn wsL_isFound (wsV RL 117 RL yL_isGood wsL_isGood) := goodIn_app (goodIn_of _ (by decide +kernel)) ggL_isFound_L_isGood
set_option maxRecDepth 20000 in
theorem ggL_isFound_X11_proof : GoodIn wsL_isFound wsX11_proof := goodIn_r _ [236, 9, 237, 773, 774, 775, 776, 777, 778, 779, 780, 781, 782, 783, 784, 785, 786, 787, 788, 789, 790, 791] (by decide +kernel) (by decide +kernel)
set_option maxRecDepth 20000 in
theorem gL_isFound_X11_proof : GoodIn wsL_isFound (wsV RL 135 RX11 yX11_proof wsX11_proof) := goodIn_app (goodIn_of _ (by decide +kernel)) ggL_isFound_X11_proof
set_option maxRecDepth 20000 in
theorem ggL_isFound_X11_cost : GoodIn wsL_isFound wsX11_cost := goodIn_ca (goodIn_r _ [415, 256, 10, 221, 404, 405, 406, 7, 407, 366, 367, 222, 223, 224, 24, 225, 30, 416, 417, 418, 255, 419, 420, 421, 422, 423, 424, 42, 43, 44, 425, 80, 81, 82, 426, 427, 428, 429, 430, 431, 432, 433, 434, 435, 436, 437, 438, 439, 440, 133, 134, 135, 136, 137, 138, 441, 27, 28, 29, 442, 32, 33, 34, 443, 444, 445, 446, 31, 447, 773, 774, 775, 776, 777, 778, 779, 780, 781, 782, 783, 804, 805] (by decide +kernel) (by decide +kernel)) (goodIn_sub (fun _ h => List.mem_cons_of_mem _ (List.mem_append_left _ (List.mem_append_right _ h))) (by decide +kernel))
set_option maxRecDepth 20000 in
theorem gL_isFound_X11_cost : GoodIn wsL_isFound (wsV RL 138 RX11 yX11_cost wsX11_cost) := goodIn_app (goodIn_of _ (by decide +kernel)) ggL_isFound_X11_cost
set_option maxRecDepth 20000 in
theorem ggL_isFound_L_cost : GoodIn wsL_isFound wsL_cost := goodIn_r _ [451, 194, 195, 452, 453, 454, 188, 455, 2, 202, 201, 456, 172, 173, 174, 206, 207, 208, 209, 3, 200, 210, 211, 212, 213, 214, 215, 216, 756, 757, 758, 759, 760, 761, 762, 763, 764, 765, 766, 767, 768, 769, 770, 771, 772] (by decide +kernel) (by decide +kernel)
set_option maxRecDepth 20000 in
theorem gL_isFound_L_cost : GoodIn wsL_isFound (wsV RL 141 RL yL_cost wsL_cost) := goodIn_app (goodIn_of _ (by decide +kernel)) ggL_isFound_L_cost
set_option maxRecDepth 20000 in
theorem ggL_isFound_L_areRooms : GoodIn wsL_isFound wsL_areRooms := goodIn_ca (goodIn_ca (goodIn_r _ [460, 2, 1, 204, 205, 3, 200, 461, 462, 463, 7, 464, 250, 10, 221, 391, 392, 393, 394, 384, 385, 226, 42, 43, 24, 44, 30, 404, 405, 406, 407, 366, 367, 222, 223, 224, 225, 465, 36, 37, 38, 39, 40, 41, 45, 46, 47, 48, 49, 50, 51, 52, 53, 54, 55, 56, 57, 58, 59, 60, 61, 62, 63, 64, 65, 66, 67, 68, 69, 70, 71, 72, 73, 27, 28, 29, 74, 32, 33, 34, 75, 76, 77, 78, 79, 80, 81, 82, 466, 467, 468, 469, 292, 470, 471, 472, 473, 756, 757, 758, 759, 760, 761, 762, 763, 764, 765, 766, 767, 768, 769, 770, 771, 772, 773, 774, 775, 776, 777, 778, 779, 780, 781, 782, 783, 804, 805, 792, 793, 794, 795, 796, 797, 798, 799, 800, 801, 802, 803] (by decide +kernel) (by decide +kernel)) (goodIn_sub (fun _ h => List.mem_cons_of_mem _ (List.mem_append_right _ h)) (by decide +kernel))) (goodIn_sub (fun _ h => List.mem_cons_of_mem _ (List.mem_append_left _ (List.mem_append_right _ h))) (by decide +kernel))
set_option maxRecDepth 20000 in
theorem gL_isFound_L_areRooms : GoodIn wsL_isFound (wsV RL 142 RL yL_areRooms wsL_areRooms) := goodIn_app (goodIn_of _ (by decide +kernel)) ggL_isFound_L_areRooms
set_option maxRecDepth 20000 in
theorem ggL_isFound_L_areChoices : GoodIn wsL_isFound wsL_areChoices := goodIn_ca (goodIn_ca (goodIn_ca (goodIn_r _ [477, 2, 3, 194, 1, 201, 478, 479, 480, 188, 481, 482, 483, 190, 191, 192, 193, 195, 196, 197, 198, 199, 200, 202, 203, 204, 205, 206, 207, 208, 209, 210, 211, 212, 213, 214, 215, 216, 484, 485, 486, 7, 487, 10, 221, 488, 489, 490, 491, 384, 385, 395, 27, 28, 24, 29, 30, 404, 405, 406, 407, 366, 367, 222, 223, 224, 225, 492, 444, 445, 446, 31, 32, 33, 34, 447, 421, 422, 423, 424, 42, 43, 44, 425, 80, 81, 82, 426, 427, 428, 429, 493, 494, 495, 496, 256, 497, 498, 499, 500, 344, 345, 346, 347, 348, 349, 350, 351, 352, 353, 501, 502, 431, 432, 255, 433, 434, 435, 436, 437, 438, 439, 440, 133, 134, 135, 136, 137, 138, 452, 453, 454, 455, 456, 172, 173, 174, 503, 504, 505, 506, 226, 507, 508, 509, 510, 511, 512, 250, 391, 392, 393, 394, 513, 22, 23, 25, 26, 465, 36, 37, 38, 39, 40, 41, 45, 46, 47, 48, 49, 50, 51, 52, 53, 54, 55, 56, 57, 58, 59, 60, 61, 62, 63, 64, 65, 66, 67, 68, 69, 70, 71, 72, 73, 74, 75, 76, 77, 78, 79, 514, 129, 130, 131, 515, 756, 757, 758, 759, 760, 761, 762, 763, 764, 765, 766, 767, 768, 769, 770, 771, 772, 773, 774, 775, 776, 777, 778, 779, 780, 781, 782, 783, 804, 805, 792, 793, 794, 795, 796, 797, 798, 799, 800, 801, 802, 803] (by decide +kernel) (by decide +kernel)) (goodIn_sub (fun _ h => List.mem_cons_of_mem _ (List.mem_append_right _ h)) (by decide +kernel))) (goodIn_sub (fun _ h => List.mem_cons_of_mem _ (List.mem_append_left _ (List.mem_append_right _ h))) (by decide +kernel))) (goodIn_sub (fun _ h => List.mem_cons_of_mem _ (List.mem_append_left _ (List.mem_append_left _ (List.mem_append_right _ h)))) (by decide +kernel))
set_option maxRecDepth 20000 in
theorem gL_isFound_L_areChoices : GoodIn wsL_isFound (wsV RL 145 RL yL_areChoices wsL_areChoices) := goodIn_app (goodIn_of _ (by decide +kernel)) ggL_isFound_L_areChoices
set_option maxRecDepth 20000 in
theorem ggL_isFound_L_isImproved : GoodIn wsL_isFound wsL_isImproved := goodIn_ca (goodIn_ca (goodIn_r _ [519, 2, 3, 456, 172, 173, 174, 1, 448, 449, 450, 188, 451, 194, 195, 452, 453, 454, 455, 202, 201, 206, 207, 208, 209, 200, 210, 211, 212, 213, 214, 215, 216, 190, 191, 192, 193, 196, 197, 198, 199, 203, 204, 205, 217, 218, 219, 7, 220, 10, 221, 222, 223, 224, 24, 225, 30, 226, 42, 43, 44, 520, 521, 522, 523, 250, 256, 524, 404, 405, 406, 407, 366, 367, 513, 22, 23, 25, 26, 27, 28, 29, 31, 32, 33, 34, 465, 36, 37, 38, 39, 40, 41, 45, 46, 47, 48, 49, 50, 51, 52, 53, 54, 55, 56, 57, 58, 59, 60, 61, 62, 63, 64, 65, 66, 67, 68, 69, 70, 71, 72, 73, 74, 75, 76, 77, 78, 79, 80, 81, 82, 525, 526, 527, 255, 528, 529, 530, 301, 531, 91, 92, 93, 532, 533, 417, 418, 419, 420, 421, 422, 423, 424, 425, 426, 427, 428, 429, 430, 431, 432, 433, 434, 435, 436, 437, 438, 439, 440, 133, 134, 135, 136, 137, 138, 441, 442, 443, 444, 445, 446, 447, 534, 535, 536, 537, 538, 129, 130, 131, 539, 540, 541, 542, 300, 543, 544, 545, 546, 547, 548, 549, 550, 551, 155, 156, 157, 158, 159, 9, 160, 161, 162, 163, 164, 165, 166, 167, 168, 169, 170, 171, 175, 176, 177, 15, 178, 152, 179, 180, 181, 182, 183, 184, 408, 409, 410, 411, 400, 401, 402, 403, 391, 392, 393, 394, 384, 385, 412, 413, 414, 415, 416, 756, 757, 758, 759, 760, 761, 762, 763, 764, 765, 766, 767, 768, 769, 770, 771, 772, 773, 774, 775, 776, 777, 778, 779, 780, 781, 782, 783, 804, 805, 809, 810, 811, 792, 793, 794, 795, 796, 797, 798, 799, 800, 801, 802, 803, 806, 807, 808, 784, 785, 786, 787, 788, 789, 790, 791] (by decide +kernel) (by decide +kernel)) (goodIn_sub (fun _ h => List.mem_cons_of_mem _ (List.mem_append_left _ (List.mem_append_right _ h))) (by decide +kernel))) (goodIn_sub (fun _ h => List.mem_cons_of_mem _ (List.mem_append_right _ h)) (by decide +kernel))
set_option maxRecDepth 20000 in
theorem gL_isFound_L_isImproved : GoodIn wsL_isFound (wsV RL 148 RL yL_isImproved wsL_isImproved) := goodIn_app (goodIn_of _ (by decide +kernel)) ggL_isFound_L_isImproved
set_option maxRecDepth 20000 in
theorem ggL_isFound_L_isTold : GoodIn wsL_isFound wsL_isTold := goodIn_ca (goodIn_ca (goodIn_ca (goodIn_r _ [555, 1, 2, 3, 217, 218, 219, 7, 220, 10, 221, 222, 223, 224, 24, 225, 30, 226, 42, 43, 44, 556, 557, 558, 559, 280, 404, 405, 406, 407, 366, 367, 560, 561, 562, 279, 563, 564, 565, 333, 566, 567, 568, 569, 570, 571, 572, 573, 574, 575, 576, 577, 578, 579, 580, 581, 582, 583, 584, 585, 586, 587, 588, 589, 590, 591, 592, 593, 594, 595, 596, 597, 598, 599, 600, 601, 602, 603, 604, 605, 606, 607, 608, 609, 610, 611, 612, 613, 614, 615, 384, 385, 616, 617, 618, 619, 620, 621, 622, 623, 624, 625, 626, 627, 628, 629, 630, 631, 335, 632, 633, 634, 635, 352, 353, 250, 636, 256, 637, 638, 639, 640, 641, 334, 642, 643, 644, 645, 646, 647, 648, 649, 650, 651, 652, 653, 654, 331, 655, 656, 657, 658, 659, 62, 63, 64, 660, 661, 662, 663, 513, 22, 23, 25, 26, 27, 28, 29, 31, 32, 33, 34, 465, 36, 37, 38, 39, 40, 41, 45, 46, 47, 48, 49, 50, 51, 52, 53, 54, 55, 56, 57, 58, 59, 60, 61, 65, 66, 67, 68, 69, 70, 71, 72, 73, 74, 75, 76, 77, 78, 79, 80, 81, 82, 664, 548, 549, 550, 551, 129, 130, 131, 155, 156, 157, 158, 159, 9, 160, 161, 162, 163, 164, 165, 166, 167, 168, 91, 92, 93, 169, 170, 171, 172, 173, 174, 175, 176, 177, 15, 178, 152, 179, 180, 181, 182, 183, 184, 416, 417, 418, 255, 419, 420, 421, 422, 423, 424, 425, 426, 427, 428, 429, 430, 431, 432, 433, 434, 435, 436, 437, 438, 439, 440, 133, 134, 135, 136, 137, 138, 441, 442, 443, 444, 445, 446, 447, 448, 449, 450, 188, 451, 194, 195, 452, 453, 454, 455, 202, 201, 456, 206, 207, 208, 209, 200, 210, 211, 212, 213, 214, 215, 216, 665, 666, 667, 668, 669, 670, 671, 672, 673, 674, 675, 676, 677, 678, 679, 680, 681, 682, 683, 478, 479, 480, 481, 482, 483, 684, 685, 686, 687, 344, 345, 346, 347, 348, 349, 350, 351, 688, 689, 690, 691, 692, 693, 694, 695, 696, 697, 698, 699, 264, 700, 391, 392, 393, 394, 701, 702, 703, 263, 704, 705, 706, 310, 707, 309, 708, 709, 710, 711, 712, 713, 714, 715, 716, 717, 718, 719, 720, 721, 722, 723, 724, 725, 369, 370, 371, 726, 727, 728, 729, 730, 731, 732, 733, 734, 735, 736, 737, 738, 739, 740, 741, 742, 743, 744, 745, 746, 747, 748, 749, 750, 515, 751, 752, 753, 754, 755, 756, 757, 758, 759, 760, 761, 762, 763, 764, 765, 766, 767, 768, 769, 770, 771, 772, 773, 774, 775, 776, 777, 778, 779, 780, 781, 782, 783, 804, 805, 825, 826, 827, 828, 829, 830, 831, 832, 792, 793, 794, 795, 796, 797, 798, 799, 800, 801, 802, 803, 806, 807, 808, 784, 785, 786, 787, 788, 789, 790, 791, 813, 814, 815, 816, 817] (by decide +kernel) (by decide +kernel)) (goodIn_sub (fun _ h => List.mem_cons_of_mem _ (List.mem_append_left _ (List.mem_append_right _ h))) (by decide +kernel))) (goodIn_sub (fun _ h => List.mem_cons_of_mem _ (List.mem_append_right _ h)) (by decide +kernel))) (goodIn_sub (fun _ h => List.mem_cons_of_mem _ (List.mem_append_left _ (List.mem_append_left _ (List.mem_append_right _ h)))) (by decide +kernel))
set_option maxRecDepth 20000 in
theorem gL_isFound_L_isTold : GoodIn wsL_isFound (wsV RL 151 RL yL_isTold wsL_isTold) := goodIn_app (goodIn_of _ (by decide +kernel)) ggL_isFound_L_isTold
theorem dL_isFound_0 : decode cL_isFound 0 = .ok (.aload_n 0, 1) := by decide +kernel
theorem dL_isFound_1 : decode cL_isFound 1 = .ok (.getfield 10, 3) := by decide +kernel
theorem dL_isFound_4 : decode cL_isFound 4 = .ok (.invokevirtual 120, 3) := by decide +kernel
theorem dL_isFound_7 : decode cL_isFound 7 = .ok (.istore_n 1, 1) := by decide +kernel
theorem dL_isFound_8 : decode cL_isFound 8 = .ok (.aload_n 0, 1) := by decide +kernel
theorem dL_isFound_9 : decode cL_isFound 9 = .ok (.getfield 66, 3) := by decide +kernel
theorem dL_isFound_12 : decode cL_isFound 12 = .ok (.iconst 4, 1) := by decide +kernel
theorem dL_isFound_13 : decode cL_isFound 13 = .ok (.if_icmp .ge 13, 3) := by decide +kernel
theorem dL_isFound_16 : decode cL_isFound 16 = .ok (.aload_n 0, 1) := by decide +kernel
theorem dL_isFound_17 : decode cL_isFound 17 = .ok (.invokevirtual 123, 3) := by decide +kernel
theorem dL_isFound_20 : decode cL_isFound 20 = .ok (.iload_n 1, 1) := by decide +kernel
theorem dL_isFound_21 : decode cL_isFound 21 = .ok (.if_icmp .eq 5, 3) := by decide +kernel
theorem dL_isFound_24 : decode cL_isFound 24 = .ok (.iconst 0, 1) := by decide +kernel
theorem dL_isFound_25 : decode cL_isFound 25 = .ok (.ireturn, 1) := by decide +kernel
theorem dL_isFound_26 : decode cL_isFound 26 = .ok (.iload_n 1, 1) := by decide +kernel
theorem dL_isFound_27 : decode cL_isFound 27 = .ok (.ifCond .ne 26, 3) := by decide +kernel
theorem dL_isFound_30 : decode cL_isFound 30 = .ok (.aload_n 0, 1) := by decide +kernel
theorem dL_isFound_31 : decode cL_isFound 31 = .ok (.getfield 10, 3) := by decide +kernel
theorem dL_isFound_34 : decode cL_isFound 34 = .ok (.invokevirtual 126, 3) := by decide +kernel
theorem dL_isFound_37 : decode cL_isFound 37 = .ok (.ifCond .ne 14, 3) := by decide +kernel
theorem dL_isFound_40 : decode cL_isFound 40 = .ok (.aload_n 0, 1) := by decide +kernel
theorem dL_isFound_41 : decode cL_isFound 41 = .ok (.invokevirtual 129, 3) := by decide +kernel
theorem dL_isFound_44 : decode cL_isFound 44 = .ok (.ifCond .eq 7, 3) := by decide +kernel
theorem dL_isFound_47 : decode cL_isFound 47 = .ok (.iconst 1, 1) := by decide +kernel
theorem dL_isFound_48 : decode cL_isFound 48 = .ok (.goto 4, 3) := by decide +kernel
theorem dL_isFound_51 : decode cL_isFound 51 = .ok (.iconst 0, 1) := by decide +kernel
theorem dL_isFound_52 : decode cL_isFound 52 = .ok (.ireturn, 1) := by decide +kernel
theorem dL_isFound_53 : decode cL_isFound 53 = .ok (.iconst 0, 1) := by decide +kernel
theorem dL_isFound_54 : decode cL_isFound 54 = .ok (.istore_n 2, 1) := by decide +kernel
theorem dL_isFound_55 : decode cL_isFound 55 = .ok (.iload_n 2, 1) := by decide +kernel
theorem dL_isFound_56 : decode cL_isFound 56 = .ok (.aload_n 0, 1) := by decide +kernel
theorem dL_isFound_57 : decode cL_isFound 57 = .ok (.getfield 66, 3) := by decide +kernel
theorem dL_isFound_60 : decode cL_isFound 60 = .ok (.if_icmp .ge 36, 3) := by decide +kernel
theorem dL_isFound_63 : decode cL_isFound 63 = .ok (.aload_n 0, 1) := by decide +kernel
theorem dL_isFound_64 : decode cL_isFound 64 = .ok (.getfield 66, 3) := by decide +kernel
theorem dL_isFound_67 : decode cL_isFound 67 = .ok (.iconst 4, 1) := by decide +kernel
theorem dL_isFound_68 : decode cL_isFound 68 = .ok (.if_icmp .ge 28, 3) := by decide +kernel
theorem dL_isFound_71 : decode cL_isFound 71 = .ok (.aload_n 0, 1) := by decide +kernel
theorem dL_isFound_72 : decode cL_isFound 72 = .ok (.getfield 10, 3) := by decide +kernel
theorem dL_isFound_75 : decode cL_isFound 75 = .ok (.iload_n 2, 1) := by decide +kernel
theorem dL_isFound_76 : decode cL_isFound 76 = .ok (.invokevirtual 114, 3) := by decide +kernel
theorem dL_isFound_79 : decode cL_isFound 79 = .ok (.aload_n 0, 1) := by decide +kernel
theorem dL_isFound_80 : decode cL_isFound 80 = .ok (.getfield 32, 3) := by decide +kernel
theorem dL_isFound_83 : decode cL_isFound 83 = .ok (.iload_n 2, 1) := by decide +kernel
theorem dL_isFound_84 : decode cL_isFound 84 = .ok (.iaload, 1) := by decide +kernel
theorem dL_isFound_85 : decode cL_isFound 85 = .ok (.if_icmp .eq 5, 3) := by decide +kernel
theorem dL_isFound_88 : decode cL_isFound 88 = .ok (.iconst 0, 1) := by decide +kernel
theorem dL_isFound_89 : decode cL_isFound 89 = .ok (.ireturn, 1) := by decide +kernel
theorem dL_isFound_90 : decode cL_isFound 90 = .ok (.iinc 2 1, 3) := by decide +kernel
theorem dL_isFound_93 : decode cL_isFound 93 = .ok (.goto (-38), 3) := by decide +kernel
theorem dL_isFound_96 : decode cL_isFound 96 = .ok (.aload_n 0, 1) := by decide +kernel
theorem dL_isFound_97 : decode cL_isFound 97 = .ok (.invokevirtual 132, 3) := by decide +kernel
theorem dL_isFound_100 : decode cL_isFound 100 = .ok (.aload_n 0, 1) := by decide +kernel
theorem dL_isFound_101 : decode cL_isFound 101 = .ok (.invokevirtual 117, 3) := by decide +kernel
theorem dL_isFound_104 : decode cL_isFound 104 = .ok (.ifCond .eq 60, 3) := by decide +kernel
theorem dL_isFound_107 : decode cL_isFound 107 = .ok (.aload_n 0, 1) := by decide +kernel
theorem dL_isFound_108 : decode cL_isFound 108 = .ok (.getfield 10, 3) := by decide +kernel
theorem dL_isFound_111 : decode cL_isFound 111 = .ok (.invokevirtual 135, 3) := by decide +kernel
theorem dL_isFound_114 : decode cL_isFound 114 = .ok (.iconst (-1), 1) := by decide +kernel
theorem dL_isFound_115 : decode cL_isFound 115 = .ok (.if_icmp .ne 49, 3) := by decide +kernel
theorem dL_isFound_118 : decode cL_isFound 118 = .ok (.aload_n 0, 1) := by decide +kernel
theorem dL_isFound_119 : decode cL_isFound 119 = .ok (.getfield 10, 3) := by decide +kernel
theorem dL_isFound_122 : decode cL_isFound 122 = .ok (.invokevirtual 138, 3) := by decide +kernel
theorem dL_isFound_125 : decode cL_isFound 125 = .ok (.aload_n 0, 1) := by decide +kernel
theorem dL_isFound_126 : decode cL_isFound 126 = .ok (.invokevirtual 141, 3) := by decide +kernel
theorem dL_isFound_129 : decode cL_isFound 129 = .ok (.if_icmp .ne 35, 3) := by decide +kernel
theorem dL_isFound_132 : decode cL_isFound 132 = .ok (.aload_n 0, 1) := by decide +kernel
theorem dL_isFound_133 : decode cL_isFound 133 = .ok (.invokevirtual 142, 3) := by decide +kernel
theorem dL_isFound_136 : decode cL_isFound 136 = .ok (.ifCond .eq 28, 3) := by decide +kernel
theorem dL_isFound_139 : decode cL_isFound 139 = .ok (.aload_n 0, 1) := by decide +kernel
theorem dL_isFound_140 : decode cL_isFound 140 = .ok (.invokevirtual 145, 3) := by decide +kernel
theorem dL_isFound_143 : decode cL_isFound 143 = .ok (.ifCond .eq 21, 3) := by decide +kernel
theorem dL_isFound_146 : decode cL_isFound 146 = .ok (.aload_n 0, 1) := by decide +kernel
theorem dL_isFound_147 : decode cL_isFound 147 = .ok (.invokevirtual 148, 3) := by decide +kernel
theorem dL_isFound_150 : decode cL_isFound 150 = .ok (.ifCond .eq 14, 3) := by decide +kernel
theorem dL_isFound_153 : decode cL_isFound 153 = .ok (.aload_n 0, 1) := by decide +kernel
theorem dL_isFound_154 : decode cL_isFound 154 = .ok (.invokevirtual 151, 3) := by decide +kernel
theorem dL_isFound_157 : decode cL_isFound 157 = .ok (.ifCond .eq 7, 3) := by decide +kernel
theorem dL_isFound_160 : decode cL_isFound 160 = .ok (.iconst 1, 1) := by decide +kernel
theorem dL_isFound_161 : decode cL_isFound 161 = .ok (.goto 4, 3) := by decide +kernel
theorem dL_isFound_164 : decode cL_isFound 164 = .ok (.iconst 0, 1) := by decide +kernel
theorem dL_isFound_165 : decode cL_isFound 165 = .ok (.ireturn, 1) := by decide +kernel
set_option maxRecDepth 20000 in
theorem ggL_isProved_X11_proof : GoodIn wsL_isProved wsX11_proof := goodIn_r _ [12, 13, 14, 382, 383, 384, 385, 386, 387, 388, 389, 390, 391, 392, 393, 394, 395, 396, 397, 398, 399, 400] (by decide +kernel) (by decide +kernel)
set_option maxRecDepth 20000 in
theorem gL_isProved_X11_proof : GoodIn wsL_isProved (wsV RL 135 RX11 yX11_proof wsX11_proof) := goodIn_app (goodIn_of _ (by decide +kernel)) ggL_isProved_X11_proof
set_option maxRecDepth 20000 in
theorem ggL_isProved_X11_init : GoodIn wsL_isProved wsX11_init := goodIn_r _ [17, 18, 19, 20, 21, 22, 23, 24, 25, 26, 27, 28, 29, 30, 31, 32, 33, 34, 35, 13, 36, 37, 38, 39, 40, 41, 42, 43, 44, 45, 46, 47, 48, 49, 50, 51, 52, 53, 54, 55, 56, 57, 58, 59, 60, 61, 62, 63, 64, 65, 66, 67, 68, 69, 70, 71, 72, 73, 74, 75, 76, 77, 78, 79, 80, 81, 82, 83, 84, 85, 86, 87, 88, 89, 90, 91, 92, 93, 94, 95, 96, 97, 98, 99, 100, 101, 102, 103, 104, 105, 106, 107, 108, 109, 110, 111, 112, 113, 114, 115, 116, 117, 118, 119, 120, 121, 122, 123, 124, 125, 126, 127, 128, 129, 130, 131, 132, 133, 134, 135, 136, 137, 138, 401, 402, 382, 383, 384, 385, 386, 387, 388, 389, 390, 391, 392, 403, 404, 405, 406, 407, 408, 409, 410, 411, 412, 413, 414, 415, 416, 417, 393, 394, 395, 396, 397, 398, 399, 400, 418, 419, 420, 421, 422, 423, 424, 425, 426, 427, 428, 429, 430, 431, 432, 433, 434, 435, 436, 437, 438, 439, 440, 441] (by decide +kernel) (by decide +kernel)
set_option maxRecDepth 20000 in
theorem gL_isProved_X11_init : GoodIn wsL_isProved (wsX11_init) := ggL_isProved_X11_init
set_option maxRecDepth 20000 in
theorem ggL_isProved_L_isMade : GoodIn wsL_isProved wsL_isMade := goodIn_ca (goodIn_ca (goodIn_r _ [143, 144, 145, 146, 147, 148, 149, 150, 151, 152, 153, 4, 154, 24, 155, 156, 157, 158, 159, 160, 161, 162, 163, 164, 165, 166, 167, 168, 28, 13, 169, 170, 171, 27, 172, 173, 74, 174, 175, 176, 177, 178, 179, 180, 181, 182, 183, 184, 185, 186, 187, 35, 188, 96, 189, 190, 191, 23, 192, 69, 193, 194, 195, 196, 197, 198, 199, 200, 201, 202, 203, 204, 205, 206, 207, 208, 209, 210, 211, 212, 213, 214, 215, 216, 217, 218, 365, 366, 367, 368, 369, 370, 371, 372, 373, 374, 375, 376, 377, 378, 379, 380, 381, 382, 383, 384, 385, 386, 387, 388, 389, 390, 391, 392, 401, 402, 403, 404, 405, 393, 394, 395, 396, 397, 398, 399, 400] (by decide +kernel) (by decide +kernel)) (goodIn_sub (fun _ h => List.mem_cons_of_mem _ (List.mem_append_left _ (List.mem_append_left _ (List.mem_append_right _ h)))) (by decide +kernel))) (goodIn_sub (fun _ h => List.mem_cons_of_mem _ (List.mem_append_left _ (List.mem_append_right _ h))) (by decide +kernel))
set_option maxRecDepth 20000 in
theorem gL_isProved_L_isMade : GoodIn wsL_isProved (wsV RL 80 RL yL_isMade wsL_isMade) := goodIn_app (goodIn_of _ (by decide +kernel)) ggL_isProved_L_isMade
set_option maxRecDepth 20000 in
theorem ggL_isProved_X11_proofAt : GoodIn wsL_isProved wsX11_proofAt := goodIn_ca (goodIn_r _ [222, 223, 224, 13, 14, 225, 382, 383, 384, 385, 386, 387, 388, 389, 390, 391, 392, 393, 394, 395, 396, 397, 398, 399, 400] (by decide +kernel) (by decide +kernel)) (goodIn_sub (fun _ h => List.mem_cons_of_mem _ (List.mem_append_right _ h)) (by decide +kernel))
set_option maxRecDepth 20000 in
theorem gL_isProved_X11_proofAt : GoodIn wsL_isProved (wsV RL 154 RX11 yX11_proofAt wsX11_proofAt) := goodIn_app (goodIn_of _ (by decide +kernel)) ggL_isProved_X11_proofAt
set_option maxRecDepth 20000 in
theorem ggL_isProved_X11_wish : GoodIn wsL_isProved wsX11_wish := goodIn_ca (goodIn_ca (goodIn_ca (goodIn_r _ [229, 163, 164, 201, 202, 24, 155, 156, 157, 4, 158, 159, 160, 161, 162, 230, 231, 232, 233, 223, 224, 207, 208, 209, 23, 210, 69, 234, 235, 236, 237, 165, 166, 167, 168, 28, 13, 169, 170, 171, 27, 172, 173, 74, 174, 175, 176, 177, 178, 179, 180, 181, 182, 183, 184, 185, 186, 187, 35, 188, 96, 189, 190, 191, 192, 238, 239, 240, 241, 382, 383, 384, 385, 386, 387, 388, 389, 390, 391, 392, 401, 402, 403, 404, 405, 393, 394, 395, 396, 397, 398, 399, 400] (by decide +kernel) (by decide +kernel)) (goodIn_sub (fun _ h => List.mem_cons_of_mem _ (List.mem_append_left _ (List.mem_append_left _ (List.mem_append_right _ h)))) (by decide +kernel))) (goodIn_sub (fun _ h => List.mem_cons_of_mem _ (List.mem_append_left _ (List.mem_append_right _ h))) (by decide +kernel))) (goodIn_sub (fun _ h => List.mem_cons_of_mem _ (List.mem_append_right _ h)) (by decide +kernel))
set_option maxRecDepth 20000 in
theorem gL_isProved_X11_wish : GoodIn wsL_isProved (wsV RL 87 RX11 yX11_wish wsX11_wish) := goodIn_app (goodIn_of _ (by decide +kernel)) ggL_isProved_X11_wish
set_option maxRecDepth 20000 in
theorem ggL_isProved_X11_find : GoodIn wsL_isProved wsX11_find := goodIn_r _ [245, 13, 24, 246, 247, 248, 249, 35, 250, 93, 251, 252, 94, 253, 254, 255, 23, 256, 257, 235, 236, 237, 69, 258, 259, 260, 261, 262, 263, 264, 31, 265, 266, 267, 208, 209, 210, 268, 269, 270, 271, 87, 79, 80, 78, 272, 273, 81, 82, 83, 84, 85, 86, 274, 275, 276, 277, 278, 279, 280, 281, 282, 283, 284, 285, 286, 287, 288, 289, 290, 291, 292, 293, 294, 295, 296, 297, 298, 299, 300, 99, 98, 301, 176, 177, 178, 302, 303, 304, 305, 306, 307, 308, 309, 310, 311, 312, 313, 314, 315, 316, 317, 318, 319, 320, 321, 322, 323, 324, 325, 326, 327, 328, 329, 330, 331, 97, 332, 333, 334, 335, 336, 337, 338, 339, 340, 341, 342, 343, 344, 345, 346, 347, 348, 349, 350, 351, 352, 353, 354, 355, 356, 357, 358, 96, 95, 359, 165, 166, 167, 4, 168, 28, 169, 170, 171, 27, 172, 173, 74, 174, 175, 179, 180, 181, 182, 183, 184, 185, 186, 187, 188, 360, 361, 362, 363, 70, 364, 382, 383, 384, 385, 386, 387, 388, 389, 390, 391, 392, 393, 394, 395, 396, 397, 398, 399, 400, 406, 407, 408, 409, 410, 411, 412, 413, 414, 415, 416, 417, 401, 402, 403, 404, 405] (by decide +kernel) (by decide +kernel)
set_option maxRecDepth 20000 in
theorem gL_isProved_X11_find : GoodIn wsL_isProved (wsV RL 120 RX11 yX11_find wsX11_find) := goodIn_app (goodIn_of _ (by decide +kernel)) ggL_isProved_X11_find
theorem dL_isProved_0 : decode cL_isProved 0 = .ok (.aload_n 0, 1) := by decide +kernel
theorem dL_isProved_1 : decode cL_isProved 1 = .ok (.getfield 10, 3) := by decide +kernel
theorem dL_isProved_4 : decode cL_isProved 4 = .ok (.invokevirtual 135, 3) := by decide +kernel
theorem dL_isProved_7 : decode cL_isProved 7 = .ok (.istore_n 1, 1) := by decide +kernel
theorem dL_isProved_8 : decode cL_isProved 8 = .ok (.iconst (-1), 1) := by decide +kernel
theorem dL_isProved_9 : decode cL_isProved 9 = .ok (.istore_n 2, 1) := by decide +kernel
theorem dL_isProved_10 : decode cL_isProved 10 = .ok (.iload_n 2, 1) := by decide +kernel
theorem dL_isProved_11 : decode cL_isProved 11 = .ok (.iload_n 1, 1) := by decide +kernel
theorem dL_isProved_12 : decode cL_isProved 12 = .ok (.if_icmp .ge 134, 3) := by decide +kernel
theorem dL_isProved_15 : decode cL_isProved 15 = .ok (.new 1, 3) := by decide +kernel
theorem dL_isProved_18 : decode cL_isProved 18 = .ok (.dup, 1) := by decide +kernel
theorem dL_isProved_19 : decode cL_isProved 19 = .ok (.invokespecial 9, 3) := by decide +kernel
theorem dL_isProved_22 : decode cL_isProved 22 = .ok (.astore_n 3, 1) := by decide +kernel
theorem dL_isProved_23 : decode cL_isProved 23 = .ok (.aload_n 0, 1) := by decide +kernel
theorem dL_isProved_24 : decode cL_isProved 24 = .ok (.aload_n 3, 1) := by decide +kernel
theorem dL_isProved_25 : decode cL_isProved 25 = .ok (.invokevirtual 80, 3) := by decide +kernel
theorem dL_isProved_28 : decode cL_isProved 28 = .ok (.ifCond .ne 5, 3) := by decide +kernel
theorem dL_isProved_31 : decode cL_isProved 31 = .ok (.iconst 0, 1) := by decide +kernel
theorem dL_isProved_32 : decode cL_isProved 32 = .ok (.ireturn, 1) := by decide +kernel
theorem dL_isProved_33 : decode cL_isProved 33 = .ok (.iconst (-1), 1) := by decide +kernel
theorem dL_isProved_34 : decode cL_isProved 34 = .ok (.istore 4, 2) := by decide +kernel
theorem dL_isProved_36 : decode cL_isProved 36 = .ok (.iconst 0, 1) := by decide +kernel
theorem dL_isProved_37 : decode cL_isProved 37 = .ok (.istore 5, 2) := by decide +kernel
theorem dL_isProved_39 : decode cL_isProved 39 = .ok (.iload 5, 2) := by decide +kernel
theorem dL_isProved_41 : decode cL_isProved 41 = .ok (.iload_n 1, 1) := by decide +kernel
theorem dL_isProved_42 : decode cL_isProved 42 = .ok (.if_icmp .ge 80, 3) := by decide +kernel
theorem dL_isProved_45 : decode cL_isProved 45 = .ok (.aload_n 0, 1) := by decide +kernel
theorem dL_isProved_46 : decode cL_isProved 46 = .ok (.getfield 10, 3) := by decide +kernel
theorem dL_isProved_49 : decode cL_isProved 49 = .ok (.iload 5, 2) := by decide +kernel
theorem dL_isProved_51 : decode cL_isProved 51 = .ok (.invokevirtual 154, 3) := by decide +kernel
theorem dL_isProved_54 : decode cL_isProved 54 = .ok (.istore 6, 2) := by decide +kernel
theorem dL_isProved_56 : decode cL_isProved 56 = .ok (.iload 6, 2) := by decide +kernel
theorem dL_isProved_58 : decode cL_isProved 58 = .ok (.iload 4, 2) := by decide +kernel
theorem dL_isProved_60 : decode cL_isProved 60 = .ok (.if_icmp .le 13, 3) := by decide +kernel
theorem dL_isProved_63 : decode cL_isProved 63 = .ok (.aload_n 0, 1) := by decide +kernel
theorem dL_isProved_64 : decode cL_isProved 64 = .ok (.getfield 44, 3) := by decide +kernel
theorem dL_isProved_67 : decode cL_isProved 67 = .ok (.iload 6, 2) := by decide +kernel
theorem dL_isProved_69 : decode cL_isProved 69 = .ok (.iaload, 1) := by decide +kernel
theorem dL_isProved_70 : decode cL_isProved 70 = .ok (.ifCond .eq 5, 3) := by decide +kernel
theorem dL_isProved_73 : decode cL_isProved 73 = .ok (.iconst 0, 1) := by decide +kernel
theorem dL_isProved_74 : decode cL_isProved 74 = .ok (.ireturn, 1) := by decide +kernel
theorem dL_isProved_75 : decode cL_isProved 75 = .ok (.iload 6, 2) := by decide +kernel
theorem dL_isProved_77 : decode cL_isProved 77 = .ok (.istore 4, 2) := by decide +kernel
theorem dL_isProved_79 : decode cL_isProved 79 = .ok (.iload 5, 2) := by decide +kernel
theorem dL_isProved_81 : decode cL_isProved 81 = .ok (.iload_n 2, 1) := by decide +kernel
theorem dL_isProved_82 : decode cL_isProved 82 = .ok (.if_icmp .eq 34, 3) := by decide +kernel
theorem dL_isProved_85 : decode cL_isProved 85 = .ok (.aload_n 3, 1) := by decide +kernel
theorem dL_isProved_86 : decode cL_isProved 86 = .ok (.aload_n 0, 1) := by decide +kernel
theorem dL_isProved_87 : decode cL_isProved 87 = .ok (.getfield 35, 3) := by decide +kernel
theorem dL_isProved_90 : decode cL_isProved 90 = .ok (.iload 6, 2) := by decide +kernel
theorem dL_isProved_92 : decode cL_isProved 92 = .ok (.iaload, 1) := by decide +kernel
theorem dL_isProved_93 : decode cL_isProved 93 = .ok (.aload_n 0, 1) := by decide +kernel
theorem dL_isProved_94 : decode cL_isProved 94 = .ok (.getfield 38, 3) := by decide +kernel
theorem dL_isProved_97 : decode cL_isProved 97 = .ok (.iload 6, 2) := by decide +kernel
theorem dL_isProved_99 : decode cL_isProved 99 = .ok (.iaload, 1) := by decide +kernel
theorem dL_isProved_100 : decode cL_isProved 100 = .ok (.aload_n 0, 1) := by decide +kernel
theorem dL_isProved_101 : decode cL_isProved 101 = .ok (.getfield 41, 3) := by decide +kernel
theorem dL_isProved_104 : decode cL_isProved 104 = .ok (.iload 6, 2) := by decide +kernel
theorem dL_isProved_106 : decode cL_isProved 106 = .ok (.iaload, 1) := by decide +kernel
theorem dL_isProved_107 : decode cL_isProved 107 = .ok (.iconst 0, 1) := by decide +kernel
theorem dL_isProved_108 : decode cL_isProved 108 = .ok (.invokevirtual 87, 3) := by decide +kernel
theorem dL_isProved_111 : decode cL_isProved 111 = .ok (.ifCond .ge 5, 3) := by decide +kernel
theorem dL_isProved_114 : decode cL_isProved 114 = .ok (.iconst 0, 1) := by decide +kernel
theorem dL_isProved_115 : decode cL_isProved 115 = .ok (.ireturn, 1) := by decide +kernel
theorem dL_isProved_116 : decode cL_isProved 116 = .ok (.iinc 5 1, 3) := by decide +kernel
theorem dL_isProved_119 : decode cL_isProved 119 = .ok (.goto (-80), 3) := by decide +kernel
theorem dL_isProved_122 : decode cL_isProved 122 = .ok (.aload_n 3, 1) := by decide +kernel
theorem dL_isProved_123 : decode cL_isProved 123 = .ok (.invokevirtual 120, 3) := by decide +kernel
theorem dL_isProved_126 : decode cL_isProved 126 = .ok (.iload_n 2, 1) := by decide +kernel
theorem dL_isProved_127 : decode cL_isProved 127 = .ok (.ifCond .lt 7, 3) := by decide +kernel
theorem dL_isProved_130 : decode cL_isProved 130 = .ok (.iconst 1, 1) := by decide +kernel
theorem dL_isProved_131 : decode cL_isProved 131 = .ok (.goto 4, 3) := by decide +kernel
theorem dL_isProved_134 : decode cL_isProved 134 = .ok (.iconst 0, 1) := by decide +kernel
theorem dL_isProved_135 : decode cL_isProved 135 = .ok (.if_icmp .eq 5, 3) := by decide +kernel
theorem dL_isProved_138 : decode cL_isProved 138 = .ok (.iconst 0, 1) := by decide +kernel
theorem dL_isProved_139 : decode cL_isProved 139 = .ok (.ireturn, 1) := by decide +kernel
theorem dL_isProved_140 : decode cL_isProved 140 = .ok (.iinc 2 1, 3) := by decide +kernel
theorem dL_isProved_143 : decode cL_isProved 143 = .ok (.goto (-133), 3) := by decide +kernel
theorem dL_isProved_146 : decode cL_isProved 146 = .ok (.iconst 1, 1) := by decide +kernel
theorem dL_isProved_147 : decode cL_isProved 147 = .ok (.ireturn, 1) := by decide +kernel
set_option maxRecDepth 20000 in
theorem ggL_areRooms_X11_roomOf : GoodIn wsL_areRooms wsX11_roomOf := goodIn_ca (goodIn_ca (goodIn_r _ [11, 12, 13, 14, 15, 16, 17, 10, 18, 19, 20, 21, 22, 23, 24, 25, 26, 27, 28, 29, 30, 31, 32, 33, 34, 35, 36, 37, 38, 39, 40, 41, 42, 43, 44, 45, 46, 47, 48, 49, 50, 51, 52, 53, 54, 55, 56, 57, 58, 59, 60, 61, 62, 63, 64, 65, 66, 67, 68, 69, 70, 71, 72, 73, 74, 75, 76, 77, 78, 79, 80, 81, 82, 83, 84, 85, 86, 87, 88, 89, 90, 91, 92, 93, 94, 95, 96, 114, 115, 116, 117, 118, 119, 120, 121, 122, 123, 124, 125, 126, 127, 128, 129, 130, 131, 132, 133, 134, 135, 136, 137, 138] (by decide +kernel) (by decide +kernel)) (goodIn_sub (fun _ h => List.mem_cons_of_mem _ (List.mem_append_left _ (List.mem_append_right _ h))) (by decide +kernel))) (goodIn_sub (fun _ h => List.mem_cons_of_mem _ (List.mem_append_right _ h)) (by decide +kernel))
set_option maxRecDepth 20000 in
theorem gL_areRooms_X11_roomOf : GoodIn wsL_areRooms (wsV RL 157 RX11 yX11_roomOf wsX11_roomOf) := goodIn_app (goodIn_of _ (by decide +kernel)) ggL_areRooms_X11_roomOf
theorem dL_areRooms_0 : decode cL_areRooms 0 = .ok (.iconst 0, 1) := by decide +kernel
theorem dL_areRooms_1 : decode cL_areRooms 1 = .ok (.istore_n 1, 1) := by decide +kernel
theorem dL_areRooms_2 : decode cL_areRooms 2 = .ok (.iload_n 1, 1) := by decide +kernel
theorem dL_areRooms_3 : decode cL_areRooms 3 = .ok (.aload_n 0, 1) := by decide +kernel
theorem dL_areRooms_4 : decode cL_areRooms 4 = .ok (.getfield 66, 3) := by decide +kernel
theorem dL_areRooms_7 : decode cL_areRooms 7 = .ok (.if_icmp .ge 165, 3) := by decide +kernel
theorem dL_areRooms_10 : decode cL_areRooms 10 = .ok (.aload_n 0, 1) := by decide +kernel
theorem dL_areRooms_11 : decode cL_areRooms 11 = .ok (.getfield 10, 3) := by decide +kernel
theorem dL_areRooms_14 : decode cL_areRooms 14 = .ok (.iload_n 1, 1) := by decide +kernel
theorem dL_areRooms_15 : decode cL_areRooms 15 = .ok (.invokevirtual 157, 3) := by decide +kernel
theorem dL_areRooms_18 : decode cL_areRooms 18 = .ok (.istore_n 2, 1) := by decide +kernel
theorem dL_areRooms_19 : decode cL_areRooms 19 = .ok (.aload_n 0, 1) := by decide +kernel
theorem dL_areRooms_20 : decode cL_areRooms 20 = .ok (.getfield 26, 3) := by decide +kernel
theorem dL_areRooms_23 : decode cL_areRooms 23 = .ok (.iload_n 1, 1) := by decide +kernel
theorem dL_areRooms_24 : decode cL_areRooms 24 = .ok (.iaload, 1) := by decide +kernel
theorem dL_areRooms_25 : decode cL_areRooms 25 = .ok (.iconst (-1), 1) := by decide +kernel
theorem dL_areRooms_26 : decode cL_areRooms 26 = .ok (.if_icmp .ne 11, 3) := by decide +kernel
theorem dL_areRooms_29 : decode cL_areRooms 29 = .ok (.iload_n 2, 1) := by decide +kernel
theorem dL_areRooms_30 : decode cL_areRooms 30 = .ok (.iconst (-1), 1) := by decide +kernel
theorem dL_areRooms_31 : decode cL_areRooms 31 = .ok (.if_icmp .eq 27, 3) := by decide +kernel
theorem dL_areRooms_34 : decode cL_areRooms 34 = .ok (.goto 22, 3) := by decide +kernel
theorem dL_areRooms_37 : decode cL_areRooms 37 = .ok (.iload_n 2, 1) := by decide +kernel
theorem dL_areRooms_38 : decode cL_areRooms 38 = .ok (.ifCond .lt 18, 3) := by decide +kernel
theorem dL_areRooms_41 : decode cL_areRooms 41 = .ok (.iload_n 2, 1) := by decide +kernel
theorem dL_areRooms_42 : decode cL_areRooms 42 = .ok (.aload_n 0, 1) := by decide +kernel
theorem dL_areRooms_43 : decode cL_areRooms 43 = .ok (.getfield 47, 3) := by decide +kernel
theorem dL_areRooms_46 : decode cL_areRooms 46 = .ok (.aload_n 0, 1) := by decide +kernel
theorem dL_areRooms_47 : decode cL_areRooms 47 = .ok (.getfield 26, 3) := by decide +kernel
theorem dL_areRooms_50 : decode cL_areRooms 50 = .ok (.iload_n 1, 1) := by decide +kernel
theorem dL_areRooms_51 : decode cL_areRooms 51 = .ok (.iaload, 1) := by decide +kernel
theorem dL_areRooms_52 : decode cL_areRooms 52 = .ok (.iaload, 1) := by decide +kernel
theorem dL_areRooms_53 : decode cL_areRooms 53 = .ok (.if_icmp .lt 5, 3) := by decide +kernel
theorem dL_areRooms_56 : decode cL_areRooms 56 = .ok (.iconst 0, 1) := by decide +kernel
theorem dL_areRooms_57 : decode cL_areRooms 57 = .ok (.ireturn, 1) := by decide +kernel
theorem dL_areRooms_58 : decode cL_areRooms 58 = .ok (.iconst 0, 1) := by decide +kernel
theorem dL_areRooms_59 : decode cL_areRooms 59 = .ok (.istore_n 3, 1) := by decide +kernel
theorem dL_areRooms_60 : decode cL_areRooms 60 = .ok (.iload_n 3, 1) := by decide +kernel
theorem dL_areRooms_61 : decode cL_areRooms 61 = .ok (.iload_n 1, 1) := by decide +kernel
theorem dL_areRooms_62 : decode cL_areRooms 62 = .ok (.if_icmp .ge 104, 3) := by decide +kernel
theorem dL_areRooms_65 : decode cL_areRooms 65 = .ok (.aload_n 0, 1) := by decide +kernel
theorem dL_areRooms_66 : decode cL_areRooms 66 = .ok (.getfield 32, 3) := by decide +kernel
theorem dL_areRooms_69 : decode cL_areRooms 69 = .ok (.iload_n 1, 1) := by decide +kernel
theorem dL_areRooms_70 : decode cL_areRooms 70 = .ok (.iaload, 1) := by decide +kernel
theorem dL_areRooms_71 : decode cL_areRooms 71 = .ok (.aload_n 0, 1) := by decide +kernel
theorem dL_areRooms_72 : decode cL_areRooms 72 = .ok (.getfield 32, 3) := by decide +kernel
theorem dL_areRooms_75 : decode cL_areRooms 75 = .ok (.iload_n 3, 1) := by decide +kernel
theorem dL_areRooms_76 : decode cL_areRooms 76 = .ok (.iaload, 1) := by decide +kernel
theorem dL_areRooms_77 : decode cL_areRooms 77 = .ok (.aload_n 0, 1) := by decide +kernel
theorem dL_areRooms_78 : decode cL_areRooms 78 = .ok (.getfield 29, 3) := by decide +kernel
theorem dL_areRooms_81 : decode cL_areRooms 81 = .ok (.iload_n 3, 1) := by decide +kernel
theorem dL_areRooms_82 : decode cL_areRooms 82 = .ok (.iaload, 1) := by decide +kernel
theorem dL_areRooms_83 : decode cL_areRooms 83 = .ok (.iadd, 1) := by decide +kernel
theorem dL_areRooms_84 : decode cL_areRooms 84 = .ok (.if_icmp .ge 29, 3) := by decide +kernel
theorem dL_areRooms_87 : decode cL_areRooms 87 = .ok (.aload_n 0, 1) := by decide +kernel
theorem dL_areRooms_88 : decode cL_areRooms 88 = .ok (.getfield 32, 3) := by decide +kernel
theorem dL_areRooms_91 : decode cL_areRooms 91 = .ok (.iload_n 3, 1) := by decide +kernel
theorem dL_areRooms_92 : decode cL_areRooms 92 = .ok (.iaload, 1) := by decide +kernel
theorem dL_areRooms_93 : decode cL_areRooms 93 = .ok (.aload_n 0, 1) := by decide +kernel
theorem dL_areRooms_94 : decode cL_areRooms 94 = .ok (.getfield 32, 3) := by decide +kernel
theorem dL_areRooms_97 : decode cL_areRooms 97 = .ok (.iload_n 1, 1) := by decide +kernel
theorem dL_areRooms_98 : decode cL_areRooms 98 = .ok (.iaload, 1) := by decide +kernel
theorem dL_areRooms_99 : decode cL_areRooms 99 = .ok (.aload_n 0, 1) := by decide +kernel
theorem dL_areRooms_100 : decode cL_areRooms 100 = .ok (.getfield 29, 3) := by decide +kernel
theorem dL_areRooms_103 : decode cL_areRooms 103 = .ok (.iload_n 1, 1) := by decide +kernel
theorem dL_areRooms_104 : decode cL_areRooms 104 = .ok (.iaload, 1) := by decide +kernel
theorem dL_areRooms_105 : decode cL_areRooms 105 = .ok (.iadd, 1) := by decide +kernel
theorem dL_areRooms_106 : decode cL_areRooms 106 = .ok (.if_icmp .ge 7, 3) := by decide +kernel
theorem dL_areRooms_109 : decode cL_areRooms 109 = .ok (.iconst 1, 1) := by decide +kernel
theorem dL_areRooms_110 : decode cL_areRooms 110 = .ok (.goto 4, 3) := by decide +kernel
theorem dL_areRooms_113 : decode cL_areRooms 113 = .ok (.iconst 0, 1) := by decide +kernel
theorem dL_areRooms_114 : decode cL_areRooms 114 = .ok (.istore 4, 2) := by decide +kernel
theorem dL_areRooms_116 : decode cL_areRooms 116 = .ok (.aload_n 0, 1) := by decide +kernel
theorem dL_areRooms_117 : decode cL_areRooms 117 = .ok (.getfield 26, 3) := by decide +kernel
theorem dL_areRooms_120 : decode cL_areRooms 120 = .ok (.iload_n 1, 1) := by decide +kernel
theorem dL_areRooms_121 : decode cL_areRooms 121 = .ok (.iaload, 1) := by decide +kernel
theorem dL_areRooms_122 : decode cL_areRooms 122 = .ok (.iconst (-1), 1) := by decide +kernel
theorem dL_areRooms_123 : decode cL_areRooms 123 = .ok (.if_icmp .eq 37, 3) := by decide +kernel
theorem dL_areRooms_126 : decode cL_areRooms 126 = .ok (.aload_n 0, 1) := by decide +kernel
theorem dL_areRooms_127 : decode cL_areRooms 127 = .ok (.getfield 26, 3) := by decide +kernel
theorem dL_areRooms_130 : decode cL_areRooms 130 = .ok (.iload_n 3, 1) := by decide +kernel
theorem dL_areRooms_131 : decode cL_areRooms 131 = .ok (.iaload, 1) := by decide +kernel
theorem dL_areRooms_132 : decode cL_areRooms 132 = .ok (.aload_n 0, 1) := by decide +kernel
theorem dL_areRooms_133 : decode cL_areRooms 133 = .ok (.getfield 26, 3) := by decide +kernel
theorem dL_areRooms_136 : decode cL_areRooms 136 = .ok (.iload_n 1, 1) := by decide +kernel
theorem dL_areRooms_137 : decode cL_areRooms 137 = .ok (.iaload, 1) := by decide +kernel
theorem dL_areRooms_138 : decode cL_areRooms 138 = .ok (.if_icmp .ne 22, 3) := by decide +kernel
theorem dL_areRooms_141 : decode cL_areRooms 141 = .ok (.iload 4, 2) := by decide +kernel
theorem dL_areRooms_143 : decode cL_areRooms 143 = .ok (.ifCond .eq 17, 3) := by decide +kernel
theorem dL_areRooms_146 : decode cL_areRooms 146 = .ok (.aload_n 0, 1) := by decide +kernel
theorem dL_areRooms_147 : decode cL_areRooms 147 = .ok (.getfield 10, 3) := by decide +kernel
theorem dL_areRooms_150 : decode cL_areRooms 150 = .ok (.iload_n 3, 1) := by decide +kernel
theorem dL_areRooms_151 : decode cL_areRooms 151 = .ok (.invokevirtual 157, 3) := by decide +kernel
theorem dL_areRooms_154 : decode cL_areRooms 154 = .ok (.iload_n 2, 1) := by decide +kernel
theorem dL_areRooms_155 : decode cL_areRooms 155 = .ok (.if_icmp .ne 5, 3) := by decide +kernel
theorem dL_areRooms_158 : decode cL_areRooms 158 = .ok (.iconst 0, 1) := by decide +kernel
theorem dL_areRooms_159 : decode cL_areRooms 159 = .ok (.ireturn, 1) := by decide +kernel
theorem dL_areRooms_160 : decode cL_areRooms 160 = .ok (.iinc 3 1, 3) := by decide +kernel
theorem dL_areRooms_163 : decode cL_areRooms 163 = .ok (.goto (-103), 3) := by decide +kernel
theorem dL_areRooms_166 : decode cL_areRooms 166 = .ok (.iinc 1 1, 3) := by decide +kernel
theorem dL_areRooms_169 : decode cL_areRooms 169 = .ok (.goto (-167), 3) := by decide +kernel
theorem dL_areRooms_172 : decode cL_areRooms 172 = .ok (.iconst 1, 1) := by decide +kernel
theorem dL_areRooms_173 : decode cL_areRooms 173 = .ok (.ireturn, 1) := by decide +kernel
set_option maxRecDepth 20000 in
theorem ggL_areChoices_L_next : GoodIn wsL_areChoices wsL_next := goodIn_r _ [10, 11, 12, 205, 206, 207, 208, 209, 210, 211, 212, 213, 214, 215, 216, 217, 218, 219, 220, 221] (by decide +kernel) (by decide +kernel)
set_option maxRecDepth 20000 in
theorem gL_areChoices_L_next : GoodIn wsL_areChoices (wsV RL 76 RL yL_next wsL_next) := goodIn_app (goodIn_of _ (by decide +kernel)) ggL_areChoices_L_next
set_option maxRecDepth 20000 in
theorem ggL_areChoices_L_isGood : GoodIn wsL_areChoices wsL_isGood := goodIn_r _ [16, 3, 17, 18, 19, 20, 9, 21, 1, 2, 22, 5, 23, 24, 25, 26, 27, 28, 29, 30, 31, 32, 33, 34, 35, 36, 37, 205, 206, 207, 208, 209, 210, 211, 212, 213, 214, 215, 216, 217, 218, 219, 220, 221] (by decide +kernel) (by decide +kernel)
set_option maxRecDepth 20000 in
theorem gL_areChoices_L_isGood : GoodIn wsL_areChoices (wsV RL 117 RL yL_isGood wsL_isGood) := goodIn_app (goodIn_of _ (by decide +kernel)) ggL_areChoices_L_isGood
set_option maxRecDepth 20000 in
theorem ggL_areChoices_X11_holds : GoodIn wsL_areChoices wsX11_holds := goodIn_ca (goodIn_ca (goodIn_r _ [42, 43, 44, 45, 46, 47, 41, 48, 49, 50, 51, 52, 53, 54, 55, 56, 57, 58, 59, 60, 61, 62, 63, 64, 65, 66, 67, 68, 69, 70, 71, 72, 73, 74, 75, 76, 77, 78, 79, 80, 81, 82, 83, 84, 85, 86, 87, 88, 89, 90, 222, 223, 224, 225, 226, 227, 228, 229, 230, 231, 232, 233, 234] (by decide +kernel) (by decide +kernel)) (goodIn_sub (fun _ h => List.mem_cons_of_mem _ (List.mem_append_left _ (List.mem_append_left _ (List.mem_append_right _ h)))) (by decide +kernel))) (goodIn_sub (fun _ h => List.mem_cons_of_mem _ (List.mem_append_left _ (List.mem_append_right _ h))) (by decide +kernel))
set_option maxRecDepth 20000 in
theorem gL_areChoices_X11_holds : GoodIn wsL_areChoices (wsV RL 160 RX11 yX11_holds wsX11_holds) := goodIn_app (goodIn_of _ (by decide +kernel)) ggL_areChoices_X11_holds
set_option maxRecDepth 20000 in
theorem ggL_areChoices_L_holds : GoodIn wsL_areChoices wsL_holds := goodIn_r _ [34, 35, 36, 1, 37, 23, 5, 2, 27, 28, 29, 9, 30, 22, 205, 206, 207, 208, 209, 210, 211, 212, 213, 214, 215, 216, 217, 218, 219, 220, 221] (by decide +kernel) (by decide +kernel)
set_option maxRecDepth 20000 in
theorem gL_areChoices_L_holds : GoodIn wsL_areChoices (wsV RL 101 RL yL_holds wsL_holds) := goodIn_app (goodIn_of _ (by decide +kernel)) ggL_areChoices_L_holds
set_option maxRecDepth 20000 in
theorem ggL_areChoices_X11_gaps : GoodIn wsL_areChoices wsX11_gaps := goodIn_ca (goodIn_ca (goodIn_r _ [94, 95, 43, 44, 96, 97, 98, 41, 99, 100, 101, 102, 103, 104, 105, 106, 107, 108, 109, 57, 58, 59, 60, 61, 62, 63, 64, 65, 54, 66, 56, 110, 76, 77, 78, 79, 80, 81, 82, 83, 84, 85, 86, 87, 88, 89, 90, 111, 112, 113, 114, 115, 116, 117, 118, 119, 120, 121, 122, 123, 124, 125, 126, 127, 128, 222, 223, 224, 225, 226, 227, 228, 229, 230, 231, 232, 233, 234] (by decide +kernel) (by decide +kernel)) (goodIn_sub (fun _ h => List.mem_cons_of_mem _ (List.mem_append_right _ h)) (by decide +kernel))) (goodIn_sub (fun _ h => List.mem_cons_of_mem _ (List.mem_append_left _ (List.mem_append_right _ h))) (by decide +kernel))
set_option maxRecDepth 20000 in
theorem gL_areChoices_X11_gaps : GoodIn wsL_areChoices (wsV RL 161 RX11 yX11_gaps wsX11_gaps) := goodIn_app (goodIn_of _ (by decide +kernel)) ggL_areChoices_X11_gaps
set_option maxRecDepth 20000 in
theorem ggL_areChoices_L_gaps : GoodIn wsL_areChoices wsL_gaps := goodIn_r _ [132, 1, 23, 5, 133, 134, 135, 136, 27, 28, 29, 9, 30, 2, 22, 205, 206, 207, 208, 209, 210, 211, 212, 213, 214, 215, 216, 217, 218, 219, 220, 221] (by decide +kernel) (by decide +kernel)
set_option maxRecDepth 20000 in
theorem gL_areChoices_L_gaps : GoodIn wsL_areChoices (wsV RL 110 RL yL_gaps wsL_gaps) := goodIn_app (goodIn_of _ (by decide +kernel)) ggL_areChoices_L_gaps
set_option maxRecDepth 20000 in
theorem ggL_areChoices_X11_lessonAt : GoodIn wsL_areChoices wsX11_lessonAt := goodIn_ca (goodIn_ca (goodIn_r _ [140, 43, 44, 96, 97, 98, 41, 99, 100, 101, 102, 103, 104, 105, 106, 107, 108, 109, 57, 58, 59, 60, 61, 62, 63, 64, 65, 54, 66, 56, 141, 80, 81, 82, 142, 84, 85, 86, 143, 88, 89, 90, 222, 223, 224, 225, 226, 227, 228, 229, 230, 231, 232, 233, 234] (by decide +kernel) (by decide +kernel)) (goodIn_sub (fun _ h => List.mem_cons_of_mem _ (List.mem_append_right _ h)) (by decide +kernel))) (goodIn_sub (fun _ h => List.mem_cons_of_mem _ (List.mem_append_left _ (List.mem_append_right _ h))) (by decide +kernel))
set_option maxRecDepth 20000 in
theorem gL_areChoices_X11_lessonAt : GoodIn wsL_areChoices (wsV RL 162 RX11 yX11_lessonAt wsX11_lessonAt) := goodIn_app (goodIn_of _ (by decide +kernel)) ggL_areChoices_X11_lessonAt
set_option maxRecDepth 20000 in
theorem ggL_areChoices_L_isOn : GoodIn wsL_areChoices wsL_isOn := goodIn_r _ [30, 2, 22, 205, 206, 207, 208, 209, 210, 211, 212, 213, 214, 215, 216, 217, 218, 219, 220, 221] (by decide +kernel) (by decide +kernel)
set_option maxRecDepth 20000 in
theorem gL_areChoices_L_isOn : GoodIn wsL_areChoices (wsV RL 93 RL yL_isOn wsL_isOn) := goodIn_app (goodIn_of _ (by decide +kernel)) ggL_areChoices_L_isOn
set_option maxRecDepth 20000 in
theorem ggL_areChoices_X11_choices : GoodIn wsL_areChoices wsX11_choices := goodIn_ca (goodIn_ca (goodIn_r _ [147, 148, 43, 44, 149, 150, 151, 41, 152, 49, 50, 141, 80, 81, 54, 82, 56, 57, 58, 59, 60, 61, 62, 63, 64, 65, 66, 153, 154, 155, 156, 157, 52, 53, 55, 71, 72, 73, 74, 158, 159, 160, 161, 162, 163, 164, 165, 166, 167, 168, 169, 170, 171, 172, 173, 174, 175, 176, 177, 178, 179, 180, 181, 182, 183, 184, 185, 186, 187, 188, 189, 190, 191, 192, 193, 194, 195, 196, 197, 198, 199, 84, 85, 86, 200, 201, 202, 203, 204, 123, 124, 125, 126, 127, 128, 222, 223, 224, 225, 226, 227, 228, 229, 230, 231, 232, 233, 234, 235, 236, 237, 238, 239, 240, 241, 242, 243, 244, 245, 246] (by decide +kernel) (by decide +kernel)) (goodIn_sub (fun _ h => List.mem_cons_of_mem _ (List.mem_append_left _ (List.mem_append_left _ (List.mem_append_right _ h)))) (by decide +kernel))) (goodIn_sub (fun _ h => List.mem_cons_of_mem _ (List.mem_append_left _ (List.mem_append_right _ h))) (by decide +kernel))
set_option maxRecDepth 20000 in
theorem gL_areChoices_X11_choices : GoodIn wsL_areChoices (wsV RL 166 RX11 yX11_choices wsX11_choices) := goodIn_app (goodIn_of _ (by decide +kernel)) ggL_areChoices_X11_choices
theorem dL_areChoices_0 : decode cL_areChoices 0 = .ok (.aload_n 0, 1) := by decide +kernel
theorem dL_areChoices_1 : decode cL_areChoices 1 = .ok (.aload_n 0, 1) := by decide +kernel
theorem dL_areChoices_2 : decode cL_areChoices 2 = .ok (.getfield 66, 3) := by decide +kernel
theorem dL_areChoices_5 : decode cL_areChoices 5 = .ok (.invokevirtual 76, 3) := by decide +kernel
theorem dL_areChoices_8 : decode cL_areChoices 8 = .ok (.istore_n 1, 1) := by decide +kernel
theorem dL_areChoices_9 : decode cL_areChoices 9 = .ok (.aload_n 0, 1) := by decide +kernel
theorem dL_areChoices_10 : decode cL_areChoices 10 = .ok (.getfield 32, 3) := by decide +kernel
theorem dL_areChoices_13 : decode cL_areChoices 13 = .ok (.iload_n 1, 1) := by decide +kernel
theorem dL_areChoices_14 : decode cL_areChoices 14 = .ok (.iaload, 1) := by decide +kernel
theorem dL_areChoices_15 : decode cL_areChoices 15 = .ok (.istore_n 2, 1) := by decide +kernel
theorem dL_areChoices_16 : decode cL_areChoices 16 = .ok (.iconst 0, 1) := by decide +kernel
theorem dL_areChoices_17 : decode cL_areChoices 17 = .ok (.istore_n 3, 1) := by decide +kernel
theorem dL_areChoices_18 : decode cL_areChoices 18 = .ok (.iconst 0, 1) := by decide +kernel
theorem dL_areChoices_19 : decode cL_areChoices 19 = .ok (.istore 4, 2) := by decide +kernel
theorem dL_areChoices_21 : decode cL_areChoices 21 = .ok (.iload 4, 2) := by decide +kernel
theorem dL_areChoices_23 : decode cL_areChoices 23 = .ok (.bipush 20, 2) := by decide +kernel
theorem dL_areChoices_25 : decode cL_areChoices 25 = .ok (.if_icmp .ge 38, 3) := by decide +kernel
theorem dL_areChoices_28 : decode cL_areChoices 28 = .ok (.aload_n 0, 1) := by decide +kernel
theorem dL_areChoices_29 : decode cL_areChoices 29 = .ok (.getfield 32, 3) := by decide +kernel
theorem dL_areChoices_32 : decode cL_areChoices 32 = .ok (.iload_n 1, 1) := by decide +kernel
theorem dL_areChoices_33 : decode cL_areChoices 33 = .ok (.iload 4, 2) := by decide +kernel
theorem dL_areChoices_35 : decode cL_areChoices 35 = .ok (.iastore, 1) := by decide +kernel
theorem dL_areChoices_36 : decode cL_areChoices 36 = .ok (.iload_n 3, 1) := by decide +kernel
theorem dL_areChoices_37 : decode cL_areChoices 37 = .ok (.iload 4, 2) := by decide +kernel
theorem dL_areChoices_39 : decode cL_areChoices 39 = .ok (.iload_n 2, 1) := by decide +kernel
theorem dL_areChoices_40 : decode cL_areChoices 40 = .ok (.if_icmp .eq 14, 3) := by decide +kernel
theorem dL_areChoices_43 : decode cL_areChoices 43 = .ok (.aload_n 0, 1) := by decide +kernel
theorem dL_areChoices_44 : decode cL_areChoices 44 = .ok (.invokevirtual 117, 3) := by decide +kernel
theorem dL_areChoices_47 : decode cL_areChoices 47 = .ok (.ifCond .eq 7, 3) := by decide +kernel
theorem dL_areChoices_50 : decode cL_areChoices 50 = .ok (.iconst 1, 1) := by decide +kernel
theorem dL_areChoices_51 : decode cL_areChoices 51 = .ok (.goto 4, 3) := by decide +kernel
theorem dL_areChoices_54 : decode cL_areChoices 54 = .ok (.iconst 0, 1) := by decide +kernel
theorem dL_areChoices_55 : decode cL_areChoices 55 = .ok (.iadd, 1) := by decide +kernel
theorem dL_areChoices_56 : decode cL_areChoices 56 = .ok (.istore_n 3, 1) := by decide +kernel
theorem dL_areChoices_57 : decode cL_areChoices 57 = .ok (.iinc 4 1, 3) := by decide +kernel
theorem dL_areChoices_60 : decode cL_areChoices 60 = .ok (.goto (-39), 3) := by decide +kernel
theorem dL_areChoices_63 : decode cL_areChoices 63 = .ok (.aload_n 0, 1) := by decide +kernel
theorem dL_areChoices_64 : decode cL_areChoices 64 = .ok (.getfield 32, 3) := by decide +kernel
theorem dL_areChoices_67 : decode cL_areChoices 67 = .ok (.iload_n 1, 1) := by decide +kernel
theorem dL_areChoices_68 : decode cL_areChoices 68 = .ok (.iload_n 2, 1) := by decide +kernel
theorem dL_areChoices_69 : decode cL_areChoices 69 = .ok (.iastore, 1) := by decide +kernel
theorem dL_areChoices_70 : decode cL_areChoices 70 = .ok (.iconst 0, 1) := by decide +kernel
theorem dL_areChoices_71 : decode cL_areChoices 71 = .ok (.istore 4, 2) := by decide +kernel
theorem dL_areChoices_73 : decode cL_areChoices 73 = .ok (.iload 4, 2) := by decide +kernel
theorem dL_areChoices_75 : decode cL_areChoices 75 = .ok (.aload_n 0, 1) := by decide +kernel
theorem dL_areChoices_76 : decode cL_areChoices 76 = .ok (.getfield 84, 3) := by decide +kernel
theorem dL_areChoices_79 : decode cL_areChoices 79 = .ok (.if_icmp .ge 29, 3) := by decide +kernel
theorem dL_areChoices_82 : decode cL_areChoices 82 = .ok (.aload_n 0, 1) := by decide +kernel
theorem dL_areChoices_83 : decode cL_areChoices 83 = .ok (.getfield 10, 3) := by decide +kernel
theorem dL_areChoices_86 : decode cL_areChoices 86 = .ok (.iload 4, 2) := by decide +kernel
theorem dL_areChoices_88 : decode cL_areChoices 88 = .ok (.invokevirtual 160, 3) := by decide +kernel
theorem dL_areChoices_91 : decode cL_areChoices 91 = .ok (.aload_n 0, 1) := by decide +kernel
theorem dL_areChoices_92 : decode cL_areChoices 92 = .ok (.iload 4, 2) := by decide +kernel
theorem dL_areChoices_94 : decode cL_areChoices 94 = .ok (.invokevirtual 101, 3) := by decide +kernel
theorem dL_areChoices_97 : decode cL_areChoices 97 = .ok (.if_icmp .eq 5, 3) := by decide +kernel
theorem dL_areChoices_100 : decode cL_areChoices 100 = .ok (.iconst 0, 1) := by decide +kernel
theorem dL_areChoices_101 : decode cL_areChoices 101 = .ok (.ireturn, 1) := by decide +kernel
theorem dL_areChoices_102 : decode cL_areChoices 102 = .ok (.iinc 4 1, 3) := by decide +kernel
theorem dL_areChoices_105 : decode cL_areChoices 105 = .ok (.goto (-32), 3) := by decide +kernel
theorem dL_areChoices_108 : decode cL_areChoices 108 = .ok (.iconst 0, 1) := by decide +kernel
theorem dL_areChoices_109 : decode cL_areChoices 109 = .ok (.istore 4, 2) := by decide +kernel
theorem dL_areChoices_111 : decode cL_areChoices 111 = .ok (.iload 4, 2) := by decide +kernel
theorem dL_areChoices_113 : decode cL_areChoices 113 = .ok (.bipush 6, 2) := by decide +kernel
theorem dL_areChoices_115 : decode cL_areChoices 115 = .ok (.if_icmp .ge 31, 3) := by decide +kernel
theorem dL_areChoices_118 : decode cL_areChoices 118 = .ok (.aload_n 0, 1) := by decide +kernel
theorem dL_areChoices_119 : decode cL_areChoices 119 = .ok (.getfield 10, 3) := by decide +kernel
