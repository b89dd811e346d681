theorem dL_areRooms_4 : decode cL_areRooms 4 = .ok (.getfield 66, 3) := by decide +kernel
theorem dL_areRooms_7 : decode cL_areRooms 7 = .ok (.if_icmp .ge 165, 3) := by decide +kernel
theorem dL_areRooms_10 : decode cL_areRooms 10 = .ok (.aload_n 0, 1) := by decide +kernel
theorem dL_areRooms_11 : decode cL_areRooms 11 = .ok (.getfield 10, 3) := by decide +kernel
theorem dL_areRooms_14 : decode cL_areRooms 14 = .ok (.iload_n 1, 1) := by decide +kernel
theorem dL_areRooms_15 : decode cL_areRooms 15 = .ok (.invokevirtual 157, 3) := by decide +kernel
theorem dL_areRooms_18 : decode cL_areRooms 18 = .ok (.istore_n 2, 1) := by decide +kernel
theorem dL_areRooms_19 : decode cL_areRooms 19 = .ok (.aload_n 0, 1) := by decide +kernel
theorem dL_areRooms_20 : decode cL_areRooms 20 = .ok (.getfield 26, 3) := by decide +kernel
theorem dL_areRooms_23 : decode cL_areRooms 23 = .ok (.iload_n 1, 1) := by decide +kernel
theorem dL_areRooms_24 : decode cL_areRooms 24 = .ok (.iaload, 1) := by decide +kernel
theorem dL_areRooms_25 : decode cL_areRooms 25 = .ok (.iconst (-1), 1) := by decide +kernel
theorem dL_areRooms_26 : decode cL_areRooms 26 = .ok (.if_icmp .ne 11, 3) := by decide +kernel
theorem dL_areRooms_29 : decode cL_areRooms 29 = .ok (.iload_n 2, 1) := by decide +kernel
theorem dL_areRooms_30 : decode cL_areRooms 30 = .ok (.iconst (-1), 1) := by decide +kernel
theorem dL_areRooms_31 : decode cL_areRooms 31 = .ok (.if_icmp .eq 27, 3) := by decide +kernel
theorem dL_areRooms_34 : decode cL_areRooms 34 = .ok (.goto 22, 3) := by decide +kernel
theorem dL_areRooms_37 : decode cL_areRooms 37 = .ok (.iload_n 2, 1) := by decide +kernel
theorem dL_areRooms_38 : decode cL_areRooms 38 = .ok (.ifCond .lt 18, 3) := by decide +kernel
theorem dL_areRooms_41 : decode cL_areRooms 41 = .ok (.iload_n 2, 1) := by decide +kernel
theorem dL_areRooms_42 : decode cL_areRooms 42 = .ok (.aload_n 0, 1) := by decide +kernel
theorem dL_areRooms_43 : decode cL_areRooms 43 = .ok (.getfield 47, 3) := by decide +kernel
theorem dL_areRooms_46 : decode cL_areRooms 46 = .ok (.aload_n 0, 1) := by decide +kernel
theorem dL_areRooms_47 : decode cL_areRooms 47 = .ok (.getfield 26, 3) := by decide +kernel
theorem dL_areRooms_50 : decode cL_areRooms 50 = .ok (.iload_n 1, 1) := by decide +kernel
theorem dL_areRooms_51 : decode cL_areRooms 51 = .ok (.iaload, 1) := by decide +kernel
theorem dL_areRooms_52 : decode cL_areRooms 52 = .ok (.iaload, 1) := by decide +kernel
theorem dL_areRooms_53 : decode cL_areRooms 53 = .ok (.if_icmp .lt 5, 3) := by decide +kernel
theorem dL_areRooms_56 : decode cL_areRooms 56 = .ok (.iconst 0, 1) := by decide +kernel
theorem dL_areRooms_57 : decode cL_areRooms 57 = .ok (.ireturn, 1) := by decide +kernel
theorem dL_areRooms_58 : decode cL_areRooms 58 = .ok (.iconst 0, 1) := by decide +kernel
theorem dL_areRooms_59 : decode cL_areRooms 59 = .ok (.istore_n 3, 1) := by decide +kernel
theorem dL_areRooms_60 : decode cL_areRooms 60 = .ok (.iload_n 3, 1) := by decide +kernel
theorem dL_areRooms_61 : decode cL_areRooms 61 = .ok (.iload_n 1, 1) := by decide +kernel
theorem dL_areRooms_62 : decode cL_areRooms 62 = .ok (.if_icmp .ge 104, 3) := by decide +kernel
theorem dL_areRooms_65 : decode cL_areRooms 65 = .ok (.aload_n 0, 1) := by decide +kernel
theorem dL_areRooms_66 : decode cL_areRooms 66 = .ok (.getfield 32, 3) := by decide +kernel
theorem dL_areRooms_69 : decode cL_areRooms 69 = .ok (.iload_n 1, 1) := by decide +kernel
theorem dL_areRooms_70 : decode cL_areRooms 70 = .ok (.iaload, 1) := by decide +kernel
theorem dL_areRooms_71 : decode cL_areRooms 71 = .ok (.aload_n 0, 1) := by decide +kernel
theorem dL_areRooms_72 : decode cL_areRooms 72 = .ok (.getfield 32, 3) := by decide +kernel
theorem dL_areRooms_75 : decode cL_areRooms 75 = .ok (.iload_n 3, 1) := by decide +kernel
theorem dL_areRooms_76 : decode cL_areRooms 76 = .ok (.iaload, 1) := by decide +kernel
theorem dL_areRooms_77 : decode cL_areRooms 77 = .ok (.aload_n 0, 1) := by decide +kernel
theorem dL_areRooms_78 : decode cL_areRooms 78 = .ok (.getfield 29, 3) := by decide +kernel
theorem dL_areRooms_81 : decode cL_areRooms 81 = .ok (.iload_n 3, 1) := by decide +kernel
theorem dL_areRooms_82 : decode cL_areRooms 82 = .ok (.iaload, 1) := by decide +kernel
theorem dL_areRooms_83 : decode cL_areRooms 83 = .ok (.iadd, 1) := by decide +kernel
theorem dL_areRooms_84 : decode cL_areRooms 84 = .ok (.if_icmp .ge 29, 3) := by decide +kernel
theorem dL_areRooms_87 : decode cL_areRooms 87 = .ok (.aload_n 0, 1) := by decide +kernel
theorem dL_areRooms_88 : decode cL_areRooms 88 = .ok (.getfield 32, 3) := by decide +kernel
theorem dL_areRooms_91 : decode cL_areRooms 91 = .ok (.iload_n 3, 1) := by decide +kernel
theorem dL_areRooms_92 : decode cL_areRooms 92 = .ok (.iaload, 1) := by decide +kernel
theorem dL_areRooms_93 : decode cL_areRooms 93 = .ok (.aload_n 0, 1) := by decide +kernel
theorem dL_areRooms_94 : decode cL_areRooms 94 = .ok (.getfield 32, 3) := by decide +kernel
theorem dL_areRooms_97 : decode cL_areRooms 97 = .ok (.iload_n 1, 1) := by decide +kernel
theorem dL_areRooms_98 : decode cL_areRooms 98 = .ok (.iaload, 1) := by decide +kernel
theorem dL_areRooms_99 : decode cL_areRooms 99 = .ok (.aload_n 0, 1) := by decide +kernel
theorem dL_areRooms_100 : decode cL_areRooms 100 = .ok (.getfield 29, 3) := by decide +kernel
theorem dL_areRooms_103 : decode cL_areRooms 103 = .ok (.iload_n 1, 1) := by decide +kernel
theorem dL_areRooms_104 : decode cL_areRooms 104 = .ok (.iaload, 1) := by decide +kernel
theorem dL_areRooms_105 : decode cL_areRooms 105 = .ok (.iadd, 1) := by decide +kernel
theorem dL_areRooms_106 : decode cL_areRooms 106 = .ok (.if_icmp .ge 7, 3) := by decide +kernel
theorem dL_areRooms_109 : decode cL_areRooms 109 = .ok (.iconst 1, 1) := by decide +kernel
theorem dL_areRooms_110 : decode cL_areRooms 110 = .ok (.goto 4, 3) := by decide +kernel
theorem dL_areRooms_113 : decode cL_areRooms 113 = .ok (.iconst 0, 1) := by decide +kernel
theorem dL_areRooms_114 : decode cL_areRooms 114 = .ok (.istore 4, 2) := by decide +kernel
theorem dL_areRooms_116 : decode cL_areRooms 116 = .ok (.aload_n 0, 1) := by decide +kernel
theorem dL_areRooms_117 : decode cL_areRooms 117 = .ok (.getfield 26, 3) := by decide +kernel
theorem dL_areRooms_120 : decode cL_areRooms 120 = .ok (.iload_n 1, 1) := by decide +kernel
theorem dL_areRooms_121 : decode cL_areRooms 121 = .ok (.iaload, 1) := by decide +kernel
theorem dL_areRooms_122 : decode cL_areRooms 122 = .ok (.iconst (-1), 1) := by decide +kernel
theorem dL_areRooms_123 : decode cL_areRooms 123 = .ok (.if_icmp .eq 37, 3) := by decide +kernel
theorem dL_areRooms_126 : decode cL_areRooms 126 = .ok (.aload_n 0, 1) := by decide +kernel
theorem dL_areRooms_127 : decode cL_areRooms 127 = .ok (.getfield 26, 3) := by decide +kernel
theorem dL_areRooms_130 : decode cL_areRooms 130 = .ok (.iload_n 3, 1) := by decide +kernel
theorem dL_areRooms_131 : decode cL_areRooms 131 = .ok (.iaload, 1) := by decide +kernel
theorem dL_areRooms_132 : decode cL_areRooms 132 = .ok (.aload_n 0, 1) := by decide +kernel
theorem dL_areRooms_133 : decode cL_areRooms 133 = .ok (.getfield 26, 3) := by decide +kernel
theorem dL_areRooms_136 : decode cL_areRooms 136 = .ok (.iload_n 1, 1) := by decide +kernel
theorem dL_areRooms_137 : decode cL_areRooms 137 = .ok (.iaload, 1) := by decide +kernel
theorem dL_areRooms_138 : decode cL_areRooms 138 = .ok (.if_icmp .ne 22, 3) := by decide +kernel
theorem dL_areRooms_141 : decode cL_areRooms 141 = .ok (.iload 4, 2) := by decide +kernel
theorem dL_areRooms_143 : decode cL_areRooms 143 = .ok (.ifCond .eq 17, 3) := by decide +kernel
theorem dL_areRooms_146 : decode cL_areRooms 146 = .ok (.aload_n 0, 1) := by decide +kernel
theorem dL_areRooms_147 : decode cL_areRooms 147 = .ok (.getfield 10, 3) := by decide +kernel
theorem dL_areRooms_150 : decode cL_areRooms 150 = .ok (.iload_n 3, 1) := by decide +kernel
theorem dL_areRooms_151 : decode cL_areRooms 151 = .ok (.invokevirtual 157, 3) := by decide +kernel
theorem dL_areRooms_154 : decode cL_areRooms 154 = .ok (.iload_n 2, 1) := by decide +kernel
theorem dL_areRooms_155 : decode cL_areRooms 155 = .ok (.if_icmp .ne 5, 3) := by decide +kernel
theorem dL_areRooms_158 : decode cL_areRooms 158 = .ok (.iconst 0, 1) := by decide +kernel
theorem dL_areRooms_159 : decode cL_areRooms 159 = .ok (.ireturn, 1) := by decide +kernel
theorem dL_areRooms_160 : decode cL_areRooms 160 = .ok (.iinc 3 1, 3) := by decide +kernel
theorem dL_areRooms_163 : decode cL_areRooms 163 = .ok (.goto (-103), 3) := by decide +kernel
theorem dL_areRooms_166 : decode cL_areRooms 166 = .ok (.iinc 1 1, 3) := by decide +kernel
theorem dL_areRooms_169 : decode cL_areRooms 169 = .ok (.goto (-167), 3) := by decide +kernel
theorem dL_areRooms_172 : decode cL_areRooms 172 = .ok (.iconst 1, 1) := by decide +kernel
theorem dL_areRooms_173 : decode cL_areRooms 173 = .ok (.ireturn, 1) := by decide +kernel
set_option maxRecDepth 20000 in
theorem ggL_areChoices_L_next : GoodIn wsL_areChoices wsL_next := goodIn_2 lwk_L_areChoices_in _ [(1, 9), (1, 10), (1, 11), (10, 0), (10, 1), (10, 2), (10, 3), (10, 4), (10, 5), (10, 6), (10, 7), (10, 8), (10, 9), (10, 10), (10, 11), (10, 12), (10, 13), (10, 14), (10, 15), (10, 16)] (by decide +kernel) (by decide +kernel)
set_option maxRecDepth 20000 in
theorem gL_areChoices_L_next : GoodIn wsL_areChoices (wsV RL 76 RL yL_next wsL_next) := goodIn_app (goodIn_of _ (by decide +kernel)) ggL_areChoices_L_next
set_option maxRecDepth 20000 in
theorem ggL_areChoices_L_isGood : GoodIn wsL_areChoices wsL_isGood := goodIn_2 lwk_L_areChoices_in _ [(1, 15), (1, 2), (1, 16), (1, 17), (1, 18), (1, 19), (1, 8), (1, 20), (1, 0), (1, 1), (1, 21), (1, 4), (1, 22), (1, 23), (2, 0), (2, 1), (2, 2), (2, 3), (2, 4), (2, 5), (2, 6), (2, 7), (2, 8), (2, 9), (2, 10), (2, 11), (2, 12), (10, 0), (10, 1), (10, 2), (10, 3), (10, 4), (10, 5), (10, 6), (10, 7), (10, 8), (10, 9), (10, 10), (10, 11), (10, 12), (10, 13), (10, 14), (10, 15), (10, 16)] (by decide +kernel) (by decide +kernel)
set_option maxRecDepth 20000 in
theorem gL_areChoices_L_isGood : GoodIn wsL_areChoices (wsV RL 117 RL yL_isGood wsL_isGood) := goodIn_app (goodIn_of _ (by decide +kernel)) ggL_areChoices_L_isGood
set_option maxRecDepth 20000 in
theorem ggL_areChoices_X11_holds : GoodIn wsL_areChoices wsX11_holds := goodIn_ca (goodIn_ca (goodIn_2 lwk_L_areChoices_in _ [(2, 17), (2, 18), (2, 19), (2, 20), (2, 21), (2, 22), (2, 16), (2, 23), (3, 0), (3, 1), (3, 2), (3, 3), (3, 4), (3, 5), (3, 6), (3, 7), (3, 8), (3, 9), (3, 10), (3, 11), (3, 12), (3, 13), (3, 14), (3, 15), (3, 16), (3, 17), (3, 18), (3, 19), (3, 20), (3, 21), (3, 22), (3, 23), (4, 0), (4, 1), (4, 2), (4, 3), (4, 4), (4, 5), (4, 6), (4, 7), (4, 8), (4, 9), (4, 10), (4, 11), (4, 12), (4, 13), (4, 14), (4, 15), (4, 16), (4, 17), (11, 0), (11, 1), (11, 2), (11, 3), (11, 4), (11, 5), (11, 6), (11, 7), (11, 8), (11, 9), (11, 10), (12, 0), (12, 1)] (by decide +kernel) (by decide +kernel)) (goodIn_sub (fun _ h => List.mem_cons_of_mem _ (List.mem_append_left _ (List.mem_append_left _ (List.mem_append_right _ h)))) (by decide +kernel))) (goodIn_sub (fun _ h => List.mem_cons_of_mem _ (List.mem_append_left _ (List.mem_append_right _ h))) (by decide +kernel))
set_option maxRecDepth 20000 in
theorem gL_areChoices_X11_holds : GoodIn wsL_areChoices (wsV RL 160 RX11 yX11_holds wsX11_holds) := goodIn_app (goodIn_of _ (by decide +kernel)) ggL_areChoices_X11_holds
set_option maxRecDepth 20000 in
theorem ggL_areChoices_L_holds : GoodIn wsL_areChoices wsL_holds := goodIn_2 lwk_L_areChoices_in _ [(2, 9), (2, 10), (2, 11), (1, 0), (2, 12), (1, 22), (1, 4), (1, 1), (2, 2), (2, 3), (2, 4), (1, 8), (2, 5), (1, 21), (10, 0), (10, 1), (10, 2), (10, 3), (10, 4), (10, 5), (10, 6), (10, 7), (10, 8), (10, 9), (10, 10), (10, 11), (10, 12), (10, 13), (10, 14), (10, 15), (10, 16)] (by decide +kernel) (by decide +kernel)
set_option maxRecDepth 20000 in
theorem gL_areChoices_L_holds : GoodIn wsL_areChoices (wsV RL 101 RL yL_holds wsL_holds) := goodIn_app (goodIn_of _ (by decide +kernel)) ggL_areChoices_L_holds
set_option maxRecDepth 20000 in
theorem ggL_areChoices_X11_gaps : GoodIn wsL_areChoices wsX11_gaps := goodIn_ca (goodIn_ca (goodIn_2 lwk_L_areChoices_in _ [(4, 21), (4, 22), (2, 18), (2, 19), (4, 23), (5, 0), (5, 1), (2, 16), (5, 2), (5, 3), (5, 4), (5, 5), (5, 6), (5, 7), (5, 8), (5, 9), (5, 10), (5, 11), (5, 12), (3, 8), (3, 9), (3, 10), (3, 11), (3, 12), (3, 13), (3, 14), (3, 15), (3, 16), (3, 5), (3, 17), (3, 7), (5, 13), (4, 3), (4, 4), (4, 5), (4, 6), (4, 7), (4, 8), (4, 9), (4, 10), (4, 11), (4, 12), (4, 13), (4, 14), (4, 15), (4, 16), (4, 17), (5, 14), (5, 15), (5, 16), (5, 17), (5, 18), (5, 19), (5, 20), (5, 21), (5, 22), (5, 23), (6, 0), (6, 1), (6, 2), (6, 3), (6, 4), (6, 5), (6, 6), (6, 7), (11, 0), (11, 1), (11, 2), (11, 3), (11, 4), (11, 5), (11, 6), (11, 7), (11, 8), (11, 9), (11, 10), (12, 0), (12, 1)] (by decide +kernel) (by decide +kernel)) (goodIn_sub (fun _ h => List.mem_cons_of_mem _ (List.mem_append_right _ h)) (by decide +kernel))) (goodIn_sub (fun _ h => List.mem_cons_of_mem _ (List.mem_append_left _ (List.mem_append_right _ h))) (by decide +kernel))
set_option maxRecDepth 20000 in
theorem gL_areChoices_X11_gaps : GoodIn wsL_areChoices (wsV RL 161 RX11 yX11_gaps wsX11_gaps) := goodIn_app (goodIn_of _ (by decide +kernel)) ggL_areChoices_X11_gaps
set_option maxRecDepth 20000 in
theorem ggL_areChoices_L_gaps : GoodIn wsL_areChoices wsL_gaps := goodIn_2 lwk_L_areChoices_in _ [(6, 11), (1, 0), (1, 22), (1, 4), (6, 12), (6, 13), (6, 14), (6, 15), (2, 2), (2, 3), (2, 4), (1, 8), (2, 5), (1, 1), (1, 21), (10, 0), (10, 1), (10, 2), (10, 3), (10, 4), (10, 5), (10, 6), (10, 7), (10, 8), (10, 9), (10, 10), (10, 11), (10, 12), (10, 13), (10, 14), (10, 15), (10, 16)] (by decide +kernel) (by decide +kernel)
set_option maxRecDepth 20000 in
theorem gL_areChoices_L_gaps : GoodIn wsL_areChoices (wsV RL 110 RL yL_gaps wsL_gaps) := goodIn_app (goodIn_of _ (by decide +kernel)) ggL_areChoices_L_gaps
set_option maxRecDepth 20000 in
theorem ggL_areChoices_X11_lessonAt : GoodIn wsL_areChoices wsX11_lessonAt := goodIn_ca (goodIn_ca (goodIn_2 lwk_L_areChoices_in _ [(6, 19), (2, 18), (2, 19), (4, 23), (5, 0), (5, 1), (2, 16), (5, 2), (5, 3), (5, 4), (5, 5), (5, 6), (5, 7), (5, 8), (5, 9), (5, 10), (5, 11), (5, 12), (3, 8), (3, 9), (3, 10), (3, 11), (3, 12), (3, 13), (3, 14), (3, 15), (3, 16), (3, 5), (3, 17), (3, 7), (6, 20), (4, 7), (4, 8), (4, 9), (6, 21), (4, 11), (4, 12), (4, 13), (6, 22), (4, 15), (4, 16), (4, 17), (11, 0), (11, 1), (11, 2), (11, 3), (11, 4), (11, 5), (11, 6), (11, 7), (11, 8), (11, 9), (11, 10), (12, 0), (12, 1)] (by decide +kernel) (by decide +kernel)) (goodIn_sub (fun _ h => List.mem_cons_of_mem _ (List.mem_append_right _ h)) (by decide +kernel))) (goodIn_sub (fun _ h => List.mem_cons_of_mem _ (List.mem_append_left _ (List.mem_append_right _ h))) (by decide +kernel))
set_option maxRecDepth 20000 in
theorem gL_areChoices_X11_lessonAt : GoodIn wsL_areChoices (wsV RL 162 RX11 yX11_lessonAt wsX11_lessonAt) := goodIn_app (goodIn_of _ (by decide +kernel)) ggL_areChoices_X11_lessonAt
set_option maxRecDepth 20000 in
theorem ggL_areChoices_L_isOn : GoodIn wsL_areChoices wsL_isOn := goodIn_2 lwk_L_areChoices_in _ [(2, 5), (1, 1), (1, 21), (10, 0), (10, 1), (10, 2), (10, 3), (10, 4), (10, 5), (10, 6), (10, 7), (10, 8), (10, 9), (10, 10), (10, 11), (10, 12), (10, 13), (10, 14), (10, 15), (10, 16)] (by decide +kernel) (by decide +kernel)
set_option maxRecDepth 20000 in
theorem gL_areChoices_L_isOn : GoodIn wsL_areChoices (wsV RL 93 RL yL_isOn wsL_isOn) := goodIn_app (goodIn_of _ (by decide +kernel)) ggL_areChoices_L_isOn
set_option maxRecDepth 20000 in
theorem lwq_L_areChoices_X11_choices_r1 : GoodIn wsL_areChoices wsX11_choices_r1 := goodIn_2 lwk_L_areChoices_in _ [(7, 3), (2, 18), (2, 19), (7, 4), (7, 5), (7, 6), (2, 16), (7, 7), (3, 0), (3, 1), (6, 20), (4, 7), (4, 8), (3, 5), (4, 9), (3, 7), (3, 8), (3, 9), (3, 10), (3, 11), (3, 12), (3, 13), (3, 14), (3, 15)] (by decide +kernel) (by decide +kernel)
set_option maxRecDepth 20000 in
theorem lwq_L_areChoices_X11_choices_r2 : GoodIn wsL_areChoices wsX11_choices_r2 := goodIn_2 lwk_L_areChoices_in _ [(3, 16), (3, 17), (7, 8), (7, 9), (7, 10), (7, 11), (7, 12), (3, 3), (3, 4), (3, 6), (3, 22), (3, 23), (4, 0), (4, 1), (7, 13), (7, 14), (7, 15), (7, 16), (7, 17), (7, 18), (7, 19), (7, 20), (7, 21), (7, 22)] (by decide +kernel) (by decide +kernel)
set_option maxRecDepth 20000 in
theorem lwq_L_areChoices_X11_choices_r3 : GoodIn wsL_areChoices wsX11_choices_r3 := goodIn_2 lwk_L_areChoices_in _ [(7, 23), (8, 0), (8, 1), (8, 2), (8, 3), (8, 4), (8, 5), (8, 6), (8, 7), (8, 8), (8, 9), (8, 10), (8, 11), (8, 12), (8, 13), (8, 14), (8, 15), (8, 16), (8, 17), (8, 18), (8, 19), (8, 20), (8, 21), (8, 22)] (by decide +kernel) (by decide +kernel)
set_option maxRecDepth 20000 in
theorem lwq_L_areChoices_X11_choices_r4 : GoodIn wsL_areChoices wsX11_choices_r4 := goodIn_2 lwk_L_areChoices_in _ [(8, 23), (9, 0), (9, 1), (9, 2), (9, 3), (9, 4), (9, 5), (9, 6), (4, 11), (4, 12), (4, 13), (9, 7), (9, 8), (9, 9), (9, 10), (9, 11), (6, 2), (6, 3), (6, 4), (6, 5), (6, 6), (6, 7)] (by decide +kernel) (by decide +kernel)
set_option maxRecDepth 20000 in
theorem ggL_areChoices_X11_choices : GoodIn wsL_areChoices wsX11_choices := goodIn_ca (goodIn_ca (goodIn_c1 (goodIn_2 lwk_L_areChoices_in _ [(7, 2)] (by decide +kernel) (by decide +kernel)) (goodIn_app (goodIn_app (goodIn_app (goodIn_app lwq_L_areChoices_X11_choices_r1 (goodIn_app lwq_L_areChoices_X11_choices_r2 (goodIn_app lwq_L_areChoices_X11_choices_r3 lwq_L_areChoices_X11_choices_r4))) (goodIn_sub (lwk_L_areChoices_in _ (List.mem_of_getElem? (i := 11) rfl)) (by decide +kernel))) (goodIn_sub (lwk_L_areChoices_in _ (List.mem_of_getElem? (i := 12) rfl)) (by decide +kernel))) (goodIn_sub (lwk_L_areChoices_in _ (List.mem_of_getElem? (i := 13) rfl)) (by decide +kernel)))) (goodIn_sub (fun _ h => List.mem_cons_of_mem _ (List.mem_append_left _ (List.mem_append_left _ (List.mem_append_right _ h)))) (by decide +kernel))) (goodIn_sub (fun _ h => List.mem_cons_of_mem _ (List.mem_append_left _ (List.mem_append_right _ h))) (by decide +kernel))
set_option maxRecDepth 20000 in
theorem gL_areChoices_X11_choices : GoodIn wsL_areChoices (wsV RL 166 RX11 yX11_choices wsX11_choices) := goodIn_app (goodIn_of _ (by decide +kernel)) ggL_areChoices_X11_choices
theorem dL_areChoices_0 : decode cL_areChoices 0 = .ok (.aload_n 0, 1) := by decide +kernel
theorem dL_areChoices_1 : decode cL_areChoices 1 = .ok (.aload_n 0, 1) := by decide +kernel
theorem dL_areChoices_2 : decode cL_areChoices 2 = .ok (.getfield 66, 3) := by decide +kernel
theorem dL_areChoices_5 : decode cL_areChoices 5 = .ok (.invokevirtual 76, 3) := by decide +kernel
theorem dL_areChoices_8 : decode cL_areChoices 8 = .ok (.istore_n 1, 1) := by decide +kernel
theorem dL_areChoices_9 : decode cL_areChoices 9 = .ok (.aload_n 0, 1) := by decide +kernel
theorem dL_areChoices_10 : decode cL_areChoices 10 = .ok (.getfield 32, 3) := by decide +kernel
theorem dL_areChoices_13 : decode cL_areChoices 13 = .ok (.iload_n 1, 1) := by decide +kernel
theorem dL_areChoices_14 : decode cL_areChoices 14 = .ok (.iaload, 1) := by decide +kernel
theorem dL_areChoices_15 : decode cL_areChoices 15 = .ok (.istore_n 2, 1) := by decide +kernel
theorem dL_areChoices_16 : decode cL_areChoices 16 = .ok (.iconst 0, 1) := by decide +kernel
theorem dL_areChoices_17 : decode cL_areChoices 17 = .ok (.istore_n 3, 1) := by decide +kernel
theorem dL_areChoices_18 : decode cL_areChoices 18 = .ok (.iconst 0, 1) := by decide +kernel
theorem dL_areChoices_19 : decode cL_areChoices 19 = .ok (.istore 4, 2) := by decide +kernel
theorem dL_areChoices_21 : decode cL_areChoices 21 = .ok (.iload 4, 2) := by decide +kernel
theorem dL_areChoices_23 : decode cL_areChoices 23 = .ok (.bipush 20, 2) := by decide +kernel
theorem dL_areChoices_25 : decode cL_areChoices 25 = .ok (.if_icmp .ge 38, 3) := by decide +kernel
theorem dL_areChoices_28 : decode cL_areChoices 28 = .ok (.aload_n 0, 1) := by decide +kernel
theorem dL_areChoices_29 : decode cL_areChoices 29 = .ok (.getfield 32, 3) := by decide +kernel
theorem dL_areChoices_32 : decode cL_areChoices 32 = .ok (.iload_n 1, 1) := by decide +kernel
theorem dL_areChoices_33 : decode cL_areChoices 33 = .ok (.iload 4, 2) := by decide +kernel
theorem dL_areChoices_35 : decode cL_areChoices 35 = .ok (.iastore, 1) := by decide +kernel
theorem dL_areChoices_36 : decode cL_areChoices 36 = .ok (.iload_n 3, 1) := by decide +kernel
theorem dL_areChoices_37 : decode cL_areChoices 37 = .ok (.iload 4, 2) := by decide +kernel
theorem dL_areChoices_39 : decode cL_areChoices 39 = .ok (.iload_n 2, 1) := by decide +kernel
theorem dL_areChoices_40 : decode cL_areChoices 40 = .ok (.if_icmp .eq 14, 3) := by decide +kernel
theorem dL_areChoices_43 : decode cL_areChoices 43 = .ok (.aload_n 0, 1) := by decide +kernel
theorem dL_areChoices_44 : decode cL_areChoices 44 = .ok (.invokevirtual 117, 3) := by decide +kernel
theorem dL_areChoices_47 : decode cL_areChoices 47 = .ok (.ifCond .eq 7, 3) := by decide +kernel
theorem dL_areChoices_50 : decode cL_areChoices 50 = .ok (.iconst 1, 1) := by decide +kernel
theorem dL_areChoices_51 : decode cL_areChoices 51 = .ok (.goto 4, 3) := by decide +kernel
theorem dL_areChoices_54 : decode cL_areChoices 54 = .ok (.iconst 0, 1) := by decide +kernel
theorem dL_areChoices_55 : decode cL_areChoices 55 = .ok (.iadd, 1) := by decide +kernel
theorem dL_areChoices_56 : decode cL_areChoices 56 = .ok (.istore_n 3, 1) := by decide +kernel
theorem dL_areChoices_57 : decode cL_areChoices 57 = .ok (.iinc 4 1, 3) := by decide +kernel
theorem dL_areChoices_60 : decode cL_areChoices 60 = .ok (.goto (-39), 3) := by decide +kernel
theorem dL_areChoices_63 : decode cL_areChoices 63 = .ok (.aload_n 0, 1) := by decide +kernel
theorem dL_areChoices_64 : decode cL_areChoices 64 = .ok (.getfield 32, 3) := by decide +kernel
theorem dL_areChoices_67 : decode cL_areChoices 67 = .ok (.iload_n 1, 1) := by decide +kernel
theorem dL_areChoices_68 : decode cL_areChoices 68 = .ok (.iload_n 2, 1) := by decide +kernel
theorem dL_areChoices_69 : decode cL_areChoices 69 = .ok (.iastore, 1) := by decide +kernel
theorem dL_areChoices_70 : decode cL_areChoices 70 = .ok (.iconst 0, 1) := by decide +kernel
theorem dL_areChoices_71 : decode cL_areChoices 71 = .ok (.istore 4, 2) := by decide +kernel
theorem dL_areChoices_73 : decode cL_areChoices 73 = .ok (.iload 4, 2) := by decide +kernel
theorem dL_areChoices_75 : decode cL_areChoices 75 = .ok (.aload_n 0, 1) := by decide +kernel
theorem dL_areChoices_76 : decode cL_areChoices 76 = .ok (.getfield 84, 3) := by decide +kernel
theorem dL_areChoices_79 : decode cL_areChoices 79 = .ok (.if_icmp .ge 29, 3) := by decide +kernel
theorem dL_areChoices_82 : decode cL_areChoices 82 = .ok (.aload_n 0, 1) := by decide +kernel
theorem dL_areChoices_83 : decode cL_areChoices 83 = .ok (.getfield 10, 3) := by decide +kernel
theorem dL_areChoices_86 : decode cL_areChoices 86 = .ok (.iload 4, 2) := by decide +kernel
theorem dL_areChoices_88 : decode cL_areChoices 88 = .ok (.invokevirtual 160, 3) := by decide +kernel
theorem dL_areChoices_91 : decode cL_areChoices 91 = .ok (.aload_n 0, 1) := by decide +kernel
theorem dL_areChoices_92 : decode cL_areChoices 92 = .ok (.iload 4, 2) := by decide +kernel
theorem dL_areChoices_94 : decode cL_areChoices 94 = .ok (.invokevirtual 101, 3) := by decide +kernel
theorem dL_areChoices_97 : decode cL_areChoices 97 = .ok (.if_icmp .eq 5, 3) := by decide +kernel
theorem dL_areChoices_100 : decode cL_areChoices 100 = .ok (.iconst 0, 1) := by decide +kernel
theorem dL_areChoices_101 : decode cL_areChoices 101 = .ok (.ireturn, 1) := by decide +kernel
theorem dL_areChoices_102 : decode cL_areChoices 102 = .ok (.iinc 4 1, 3) := by decide +kernel
theorem dL_areChoices_105 : decode cL_areChoices 105 = .ok (.goto (-32), 3) := by decide +kernel
theorem dL_areChoices_108 : decode cL_areChoices 108 = .ok (.iconst 0, 1) := by decide +kernel
theorem dL_areChoices_109 : decode cL_areChoices 109 = .ok (.istore 4, 2) := by decide +kernel
theorem dL_areChoices_111 : decode cL_areChoices 111 = .ok (.iload 4, 2) := by decide +kernel
theorem dL_areChoices_113 : decode cL_areChoices 113 = .ok (.bipush 6, 2) := by decide +kernel
theorem dL_areChoices_115 : decode cL_areChoices 115 = .ok (.if_icmp .ge 31, 3) := by decide +kernel
theorem dL_areChoices_118 : decode cL_areChoices 118 = .ok (.aload_n 0, 1) := by decide +kernel
theorem dL_areChoices_119 : decode cL_areChoices 119 = .ok (.getfield 10, 3) := by decide +kernel
theorem dL_areChoices_122 : decode cL_areChoices 122 = .ok (.iconst 1, 1) := by decide +kernel
theorem dL_areChoices_123 : decode cL_areChoices 123 = .ok (.iload 4, 2) := by decide +kernel
theorem dL_areChoices_125 : decode cL_areChoices 125 = .ok (.invokevirtual 161, 3) := by decide +kernel
theorem dL_areChoices_128 : decode cL_areChoices 128 = .ok (.aload_n 0, 1) := by decide +kernel
theorem dL_areChoices_129 : decode cL_areChoices 129 = .ok (.iconst 1, 1) := by decide +kernel
theorem dL_areChoices_130 : decode cL_areChoices 130 = .ok (.iload 4, 2) := by decide +kernel
theorem dL_areChoices_132 : decode cL_areChoices 132 = .ok (.invokevirtual 110, 3) := by decide +kernel
theorem dL_areChoices_135 : decode cL_areChoices 135 = .ok (.if_icmp .eq 5, 3) := by decide +kernel
theorem dL_areChoices_138 : decode cL_areChoices 138 = .ok (.iconst 0, 1) := by decide +kernel
theorem dL_areChoices_139 : decode cL_areChoices 139 = .ok (.ireturn, 1) := by decide +kernel
theorem dL_areChoices_140 : decode cL_areChoices 140 = .ok (.iinc 4 1, 3) := by decide +kernel
theorem dL_areChoices_143 : decode cL_areChoices 143 = .ok (.goto (-32), 3) := by decide +kernel
theorem dL_areChoices_146 : decode cL_areChoices 146 = .ok (.iconst 0, 1) := by decide +kernel
theorem dL_areChoices_147 : decode cL_areChoices 147 = .ok (.istore 4, 2) := by decide +kernel
theorem dL_areChoices_149 : decode cL_areChoices 149 = .ok (.iload 4, 2) := by decide +kernel
theorem dL_areChoices_151 : decode cL_areChoices 151 = .ok (.bipush 20, 2) := by decide +kernel
theorem dL_areChoices_153 : decode cL_areChoices 153 = .ok (.if_icmp .ge 81, 3) := by decide +kernel
theorem dL_areChoices_156 : decode cL_areChoices 156 = .ok (.aload_n 0, 1) := by decide +kernel
theorem dL_areChoices_157 : decode cL_areChoices 157 = .ok (.getfield 10, 3) := by decide +kernel
theorem dL_areChoices_160 : decode cL_areChoices 160 = .ok (.iconst 0, 1) := by decide +kernel
theorem dL_areChoices_161 : decode cL_areChoices 161 = .ok (.aload_n 0, 1) := by decide +kernel
theorem dL_areChoices_162 : decode cL_areChoices 162 = .ok (.getfield 16, 3) := by decide +kernel
theorem dL_areChoices_165 : decode cL_areChoices 165 = .ok (.iload_n 1, 1) := by decide +kernel
theorem dL_areChoices_166 : decode cL_areChoices 166 = .ok (.iaload, 1) := by decide +kernel
theorem dL_areChoices_167 : decode cL_areChoices 167 = .ok (.iload 4, 2) := by decide +kernel
theorem dL_areChoices_169 : decode cL_areChoices 169 = .ok (.invokevirtual 162, 3) := by decide +kernel
theorem dL_areChoices_172 : decode cL_areChoices 172 = .ok (.istore 5, 2) := by decide +kernel
theorem dL_areChoices_174 : decode cL_areChoices 174 = .ok (.aload_n 0, 1) := by decide +kernel
theorem dL_areChoices_175 : decode cL_areChoices 175 = .ok (.iload_n 1, 1) := by decide +kernel
theorem dL_areChoices_176 : decode cL_areChoices 176 = .ok (.iload 4, 2) := by decide +kernel
theorem dL_areChoices_178 : decode cL_areChoices 178 = .ok (.invokevirtual 93, 3) := by decide +kernel
theorem dL_areChoices_181 : decode cL_areChoices 181 = .ok (.ifCond .eq 12, 3) := by decide +kernel
theorem dL_areChoices_184 : decode cL_areChoices 184 = .ok (.iload 5, 2) := by decide +kernel
theorem dL_areChoices_186 : decode cL_areChoices 186 = .ok (.iload_n 1, 1) := by decide +kernel
theorem dL_areChoices_187 : decode cL_areChoices 187 = .ok (.if_icmp .eq 41, 3) := by decide +kernel
theorem dL_areChoices_190 : decode cL_areChoices 190 = .ok (.goto 36, 3) := by decide +kernel
theorem dL_areChoices_193 : decode cL_areChoices 193 = .ok (.iload 5, 2) := by decide +kernel
theorem dL_areChoices_195 : decode cL_areChoices 195 = .ok (.iconst (-1), 1) := by decide +kernel
theorem dL_areChoices_196 : decode cL_areChoices 196 = .ok (.if_icmp .eq 32, 3) := by decide +kernel
theorem dL_areChoices_199 : decode cL_areChoices 199 = .ok (.aload_n 0, 1) := by decide +kernel
theorem dL_areChoices_200 : decode cL_areChoices 200 = .ok (.getfield 16, 3) := by decide +kernel
theorem dL_areChoices_203 : decode cL_areChoices 203 = .ok (.iload 5, 2) := by decide +kernel
theorem dL_areChoices_205 : decode cL_areChoices 205 = .ok (.iaload, 1) := by decide +kernel
theorem dL_areChoices_206 : decode cL_areChoices 206 = .ok (.aload_n 0, 1) := by decide +kernel
theorem dL_areChoices_207 : decode cL_areChoices 207 = .ok (.getfield 16, 3) := by decide +kernel
theorem dL_areChoices_210 : decode cL_areChoices 210 = .ok (.iload_n 1, 1) := by decide +kernel
theorem dL_areChoices_211 : decode cL_areChoices 211 = .ok (.iaload, 1) := by decide +kernel
theorem dL_areChoices_212 : decode cL_areChoices 212 = .ok (.if_icmp .ne 14, 3) := by decide +kernel
theorem dL_areChoices_215 : decode cL_areChoices 215 = .ok (.aload_n 0, 1) := by decide +kernel
theorem dL_areChoices_216 : decode cL_areChoices 216 = .ok (.iload 5, 2) := by decide +kernel
theorem dL_areChoices_218 : decode cL_areChoices 218 = .ok (.iload 4, 2) := by decide +kernel
theorem dL_areChoices_220 : decode cL_areChoices 220 = .ok (.invokevirtual 93, 3) := by decide +kernel
theorem dL_areChoices_223 : decode cL_areChoices 223 = .ok (.ifCond .ne 5, 3) := by decide +kernel
theorem dL_areChoices_226 : decode cL_areChoices 226 = .ok (.iconst 0, 1) := by decide +kernel
theorem dL_areChoices_227 : decode cL_areChoices 227 = .ok (.ireturn, 1) := by decide +kernel
theorem dL_areChoices_228 : decode cL_areChoices 228 = .ok (.iinc 4 1, 3) := by decide +kernel
theorem dL_areChoices_231 : decode cL_areChoices 231 = .ok (.goto (-82), 3) := by decide +kernel
theorem dL_areChoices_234 : decode cL_areChoices 234 = .ok (.aload_n 0, 1) := by decide +kernel
theorem dL_areChoices_235 : decode cL_areChoices 235 = .ok (.getfield 10, 3) := by decide +kernel
theorem dL_areChoices_238 : decode cL_areChoices 238 = .ok (.iload_n 1, 1) := by decide +kernel
