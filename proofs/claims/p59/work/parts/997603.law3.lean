theorem dL_isRight_266 : decode cL_isRight 266 = .ok (.goto (-69), 3) := by decide +kernel
theorem dL_isRight_269 : decode cL_isRight 269 = .ok (.iinc 1 1, 3) := by decide +kernel
theorem dL_isRight_272 : decode cL_isRight 272 = .ok (.goto (-83), 3) := by decide +kernel
theorem dL_isRight_275 : decode cL_isRight 275 = .ok (.iconst 1, 1) := by decide +kernel
theorem dL_isRight_276 : decode cL_isRight 276 = .ok (.ireturn, 1) := by decide +kernel
set_option maxRecDepth 20000 in
theorem ggL_isGood_L_isRight : GoodIn wsL_isGood wsL_isRight := goodIn_2 lwk_L_isGood_in _ [(1, 6), (1, 7), (1, 8), (1, 9), (1, 10), (1, 11), (1, 12), (1, 13), (1, 14), (1, 15), (1, 16), (1, 17), (1, 5), (1, 18), (3, 0), (3, 1), (3, 2), (3, 3), (3, 4), (3, 5), (3, 6), (3, 7), (3, 8), (3, 9), (3, 10), (3, 11), (3, 12), (3, 13), (3, 14), (3, 15), (3, 16)] (by decide +kernel) (by decide +kernel)
set_option maxRecDepth 20000 in
theorem gL_isGood_L_isRight : GoodIn wsL_isGood (wsV RL 97 RL yL_isRight wsL_isRight) := goodIn_app (goodIn_of _ (by decide +kernel)) ggL_isGood_L_isRight
set_option maxRecDepth 20000 in
theorem ggL_isGood_L_holds : GoodIn wsL_isGood wsL_holds := goodIn_2 lwk_L_isGood_in _ [(1, 22), (1, 23), (2, 0), (1, 7), (2, 1), (1, 11), (1, 10), (1, 8), (1, 15), (1, 16), (1, 17), (1, 5), (1, 18), (1, 9), (3, 0), (3, 1), (3, 2), (3, 3), (3, 4), (3, 5), (3, 6), (3, 7), (3, 8), (3, 9), (3, 10), (3, 11), (3, 12), (3, 13), (3, 14), (3, 15), (3, 16)] (by decide +kernel) (by decide +kernel)
set_option maxRecDepth 20000 in
theorem gL_isGood_L_holds : GoodIn wsL_isGood (wsV RL 101 RL yL_holds wsL_holds) := goodIn_app (goodIn_of _ (by decide +kernel)) ggL_isGood_L_holds
theorem dL_isGood_0 : decode cL_isGood 0 = .ok (.aload_n 0, 1) := by decide +kernel
theorem dL_isGood_1 : decode cL_isGood 1 = .ok (.invokevirtual 97, 3) := by decide +kernel
theorem dL_isGood_4 : decode cL_isGood 4 = .ok (.ifCond .ne 5, 3) := by decide +kernel
theorem dL_isGood_7 : decode cL_isGood 7 = .ok (.iconst 0, 1) := by decide +kernel
theorem dL_isGood_8 : decode cL_isGood 8 = .ok (.ireturn, 1) := by decide +kernel
theorem dL_isGood_9 : decode cL_isGood 9 = .ok (.iconst 0, 1) := by decide +kernel
theorem dL_isGood_10 : decode cL_isGood 10 = .ok (.istore_n 1, 1) := by decide +kernel
theorem dL_isGood_11 : decode cL_isGood 11 = .ok (.iload_n 1, 1) := by decide +kernel
theorem dL_isGood_12 : decode cL_isGood 12 = .ok (.aload_n 0, 1) := by decide +kernel
theorem dL_isGood_13 : decode cL_isGood 13 = .ok (.getfield 84, 3) := by decide +kernel
theorem dL_isGood_16 : decode cL_isGood 16 = .ok (.if_icmp .ge 28, 3) := by decide +kernel
theorem dL_isGood_19 : decode cL_isGood 19 = .ok (.aload_n 0, 1) := by decide +kernel
theorem dL_isGood_20 : decode cL_isGood 20 = .ok (.getfield 44, 3) := by decide +kernel
theorem dL_isGood_23 : decode cL_isGood 23 = .ok (.iload_n 1, 1) := by decide +kernel
theorem dL_isGood_24 : decode cL_isGood 24 = .ok (.iaload, 1) := by decide +kernel
theorem dL_isGood_25 : decode cL_isGood 25 = .ok (.ifCond .ne 13, 3) := by decide +kernel
theorem dL_isGood_28 : decode cL_isGood 28 = .ok (.aload_n 0, 1) := by decide +kernel
theorem dL_isGood_29 : decode cL_isGood 29 = .ok (.iload_n 1, 1) := by decide +kernel
theorem dL_isGood_30 : decode cL_isGood 30 = .ok (.invokevirtual 101, 3) := by decide +kernel
theorem dL_isGood_33 : decode cL_isGood 33 = .ok (.ifCond .ne 5, 3) := by decide +kernel
theorem dL_isGood_36 : decode cL_isGood 36 = .ok (.iconst 0, 1) := by decide +kernel
theorem dL_isGood_37 : decode cL_isGood 37 = .ok (.ireturn, 1) := by decide +kernel
theorem dL_isGood_38 : decode cL_isGood 38 = .ok (.iinc 1 1, 3) := by decide +kernel
theorem dL_isGood_41 : decode cL_isGood 41 = .ok (.goto (-30), 3) := by decide +kernel
theorem dL_isGood_44 : decode cL_isGood 44 = .ok (.iconst 1, 1) := by decide +kernel
theorem dL_isGood_45 : decode cL_isGood 45 = .ok (.ireturn, 1) := by decide +kernel
set_option maxRecDepth 20000 in
theorem ggL_gaps_L_isOn : GoodIn wsL_gaps wsL_isOn := goodIn_r _ [12, 13, 14, 15, 16, 17, 18, 19, 20, 21, 22, 23, 24, 25, 26, 27, 28, 29, 30, 31] (by decide +kernel) (by decide +kernel)
set_option maxRecDepth 20000 in
theorem gL_gaps_L_isOn : GoodIn wsL_gaps (wsV RL 93 RL yL_isOn wsL_isOn) := goodIn_app (goodIn_of _ (by decide +kernel)) ggL_gaps_L_isOn
theorem dL_gaps_0 : decode cL_gaps 0 = .ok (.iconst 0, 1) := by decide +kernel
theorem dL_gaps_1 : decode cL_gaps 1 = .ok (.istore_n 3, 1) := by decide +kernel
theorem dL_gaps_2 : decode cL_gaps 2 = .ok (.iconst 0, 1) := by decide +kernel
theorem dL_gaps_3 : decode cL_gaps 3 = .ok (.istore 4, 2) := by decide +kernel
theorem dL_gaps_5 : decode cL_gaps 5 = .ok (.iload 4, 2) := by decide +kernel
theorem dL_gaps_7 : decode cL_gaps 7 = .ok (.iconst 5, 1) := by decide +kernel
theorem dL_gaps_8 : decode cL_gaps 8 = .ok (.if_icmp .ge 152, 3) := by decide +kernel
theorem dL_gaps_11 : decode cL_gaps 11 = .ok (.bipush 9, 2) := by decide +kernel
theorem dL_gaps_13 : decode cL_gaps 13 = .ok (.istore 5, 2) := by decide +kernel
theorem dL_gaps_15 : decode cL_gaps 15 = .ok (.iconst (-1), 1) := by decide +kernel
theorem dL_gaps_16 : decode cL_gaps 16 = .ok (.istore 6, 2) := by decide +kernel
theorem dL_gaps_18 : decode cL_gaps 18 = .ok (.iconst 0, 1) := by decide +kernel
theorem dL_gaps_19 : decode cL_gaps 19 = .ok (.istore 7, 2) := by decide +kernel
theorem dL_gaps_21 : decode cL_gaps 21 = .ok (.iconst 0, 1) := by decide +kernel
theorem dL_gaps_22 : decode cL_gaps 22 = .ok (.istore 8, 2) := by decide +kernel
theorem dL_gaps_24 : decode cL_gaps 24 = .ok (.iload 8, 2) := by decide +kernel
theorem dL_gaps_26 : decode cL_gaps 26 = .ok (.iconst 4, 1) := by decide +kernel
theorem dL_gaps_27 : decode cL_gaps 27 = .ok (.if_icmp .ge 105, 3) := by decide +kernel
theorem dL_gaps_30 : decode cL_gaps 30 = .ok (.iconst 0, 1) := by decide +kernel
theorem dL_gaps_31 : decode cL_gaps 31 = .ok (.istore 9, 2) := by decide +kernel
theorem dL_gaps_33 : decode cL_gaps 33 = .ok (.iconst 0, 1) := by decide +kernel
theorem dL_gaps_34 : decode cL_gaps 34 = .ok (.istore 10, 2) := by decide +kernel
theorem dL_gaps_36 : decode cL_gaps 36 = .ok (.iload 10, 2) := by decide +kernel
theorem dL_gaps_38 : decode cL_gaps 38 = .ok (.aload_n 0, 1) := by decide +kernel
theorem dL_gaps_39 : decode cL_gaps 39 = .ok (.getfield 66, 3) := by decide +kernel
theorem dL_gaps_42 : decode cL_gaps 42 = .ok (.if_icmp .ge 60, 3) := by decide +kernel
theorem dL_gaps_45 : decode cL_gaps 45 = .ok (.iload 9, 2) := by decide +kernel
theorem dL_gaps_47 : decode cL_gaps 47 = .ok (.iload_n 1, 1) := by decide +kernel
theorem dL_gaps_48 : decode cL_gaps 48 = .ok (.ifCond .eq 13, 3) := by decide +kernel
theorem dL_gaps_51 : decode cL_gaps 51 = .ok (.aload_n 0, 1) := by decide +kernel
theorem dL_gaps_52 : decode cL_gaps 52 = .ok (.getfield 20, 3) := by decide +kernel
theorem dL_gaps_55 : decode cL_gaps 55 = .ok (.iload 10, 2) := by decide +kernel
theorem dL_gaps_57 : decode cL_gaps 57 = .ok (.iaload, 1) := by decide +kernel
theorem dL_gaps_58 : decode cL_gaps 58 = .ok (.goto 10, 3) := by decide +kernel
theorem dL_gaps_61 : decode cL_gaps 61 = .ok (.aload_n 0, 1) := by decide +kernel
theorem dL_gaps_62 : decode cL_gaps 62 = .ok (.getfield 16, 3) := by decide +kernel
theorem dL_gaps_65 : decode cL_gaps 65 = .ok (.iload 10, 2) := by decide +kernel
theorem dL_gaps_67 : decode cL_gaps 67 = .ok (.iaload, 1) := by decide +kernel
theorem dL_gaps_68 : decode cL_gaps 68 = .ok (.iload_n 2, 1) := by decide +kernel
theorem dL_gaps_69 : decode cL_gaps 69 = .ok (.if_icmp .ne 23, 3) := by decide +kernel
theorem dL_gaps_72 : decode cL_gaps 72 = .ok (.aload_n 0, 1) := by decide +kernel
theorem dL_gaps_73 : decode cL_gaps 73 = .ok (.iload 10, 2) := by decide +kernel
theorem dL_gaps_75 : decode cL_gaps 75 = .ok (.iconst 4, 1) := by decide +kernel
theorem dL_gaps_76 : decode cL_gaps 76 = .ok (.iload 4, 2) := by decide +kernel
theorem dL_gaps_78 : decode cL_gaps 78 = .ok (.imul, 1) := by decide +kernel
theorem dL_gaps_79 : decode cL_gaps 79 = .ok (.iload 8, 2) := by decide +kernel
theorem dL_gaps_81 : decode cL_gaps 81 = .ok (.iadd, 1) := by decide +kernel
theorem dL_gaps_82 : decode cL_gaps 82 = .ok (.invokevirtual 93, 3) := by decide +kernel
theorem dL_gaps_85 : decode cL_gaps 85 = .ok (.ifCond .eq 7, 3) := by decide +kernel
theorem dL_gaps_88 : decode cL_gaps 88 = .ok (.iconst 1, 1) := by decide +kernel
theorem dL_gaps_89 : decode cL_gaps 89 = .ok (.goto 4, 3) := by decide +kernel
theorem dL_gaps_92 : decode cL_gaps 92 = .ok (.iconst 0, 1) := by decide +kernel
theorem dL_gaps_93 : decode cL_gaps 93 = .ok (.ior, 1) := by decide +kernel
theorem dL_gaps_94 : decode cL_gaps 94 = .ok (.istore 9, 2) := by decide +kernel
theorem dL_gaps_96 : decode cL_gaps 96 = .ok (.iinc 10 1, 3) := by decide +kernel
theorem dL_gaps_99 : decode cL_gaps 99 = .ok (.goto (-63), 3) := by decide +kernel
theorem dL_gaps_102 : decode cL_gaps 102 = .ok (.iload 9, 2) := by decide +kernel
theorem dL_gaps_104 : decode cL_gaps 104 = .ok (.ifCond .ne 6, 3) := by decide +kernel
theorem dL_gaps_107 : decode cL_gaps 107 = .ok (.goto 19, 3) := by decide +kernel
theorem dL_gaps_110 : decode cL_gaps 110 = .ok (.iload 5, 2) := by decide +kernel
theorem dL_gaps_112 : decode cL_gaps 112 = .ok (.iload 8, 2) := by decide +kernel
theorem dL_gaps_114 : decode cL_gaps 114 = .ok (.invokestatic 105, 3) := by decide +kernel
theorem dL_gaps_117 : decode cL_gaps 117 = .ok (.istore 5, 2) := by decide +kernel
theorem dL_gaps_119 : decode cL_gaps 119 = .ok (.iload 8, 2) := by decide +kernel
theorem dL_gaps_121 : decode cL_gaps 121 = .ok (.istore 6, 2) := by decide +kernel
theorem dL_gaps_123 : decode cL_gaps 123 = .ok (.iinc 7 1, 3) := by decide +kernel
theorem dL_gaps_126 : decode cL_gaps 126 = .ok (.iinc 8 1, 3) := by decide +kernel
theorem dL_gaps_129 : decode cL_gaps 129 = .ok (.goto (-105), 3) := by decide +kernel
theorem dL_gaps_132 : decode cL_gaps 132 = .ok (.iload_n 3, 1) := by decide +kernel
theorem dL_gaps_133 : decode cL_gaps 133 = .ok (.iload 6, 2) := by decide +kernel
theorem dL_gaps_135 : decode cL_gaps 135 = .ok (.ifCond .ge 7, 3) := by decide +kernel
theorem dL_gaps_138 : decode cL_gaps 138 = .ok (.iconst 0, 1) := by decide +kernel
theorem dL_gaps_139 : decode cL_gaps 139 = .ok (.goto 13, 3) := by decide +kernel
theorem dL_gaps_142 : decode cL_gaps 142 = .ok (.iload 6, 2) := by decide +kernel
theorem dL_gaps_144 : decode cL_gaps 144 = .ok (.iload 5, 2) := by decide +kernel
theorem dL_gaps_146 : decode cL_gaps 146 = .ok (.isub, 1) := by decide +kernel
theorem dL_gaps_147 : decode cL_gaps 147 = .ok (.iconst 1, 1) := by decide +kernel
theorem dL_gaps_148 : decode cL_gaps 148 = .ok (.iadd, 1) := by decide +kernel
theorem dL_gaps_149 : decode cL_gaps 149 = .ok (.iload 7, 2) := by decide +kernel
theorem dL_gaps_151 : decode cL_gaps 151 = .ok (.isub, 1) := by decide +kernel
theorem dL_gaps_152 : decode cL_gaps 152 = .ok (.iadd, 1) := by decide +kernel
theorem dL_gaps_153 : decode cL_gaps 153 = .ok (.istore_n 3, 1) := by decide +kernel
theorem dL_gaps_154 : decode cL_gaps 154 = .ok (.iinc 4 1, 3) := by decide +kernel
theorem dL_gaps_157 : decode cL_gaps 157 = .ok (.goto (-152), 3) := by decide +kernel
theorem dL_gaps_160 : decode cL_gaps 160 = .ok (.iload_n 3, 1) := by decide +kernel
theorem dL_gaps_161 : decode cL_gaps 161 = .ok (.ireturn, 1) := by decide +kernel
set_option maxRecDepth 20000 in
theorem ggL_cost_L_gaps : GoodIn wsL_cost wsL_gaps := goodIn_2 lwk_L_cost_in _ [(1, 6), (1, 7), (1, 8), (1, 9), (1, 10), (1, 11), (1, 12), (1, 13), (1, 14), (1, 15), (1, 16), (1, 5), (1, 17), (1, 18), (1, 19), (3, 0), (3, 1), (3, 2), (3, 3), (3, 4), (3, 5), (3, 6), (3, 7), (3, 8), (3, 9), (3, 10), (3, 11), (3, 12), (3, 13), (3, 14), (3, 15), (3, 16)] (by decide +kernel) (by decide +kernel)
set_option maxRecDepth 20000 in
theorem gL_cost_L_gaps : GoodIn wsL_cost (wsV RL 110 RL yL_gaps wsL_gaps) := goodIn_app (goodIn_of _ (by decide +kernel)) ggL_cost_L_gaps
set_option maxRecDepth 20000 in
theorem ggL_cost_L_holds : GoodIn wsL_cost wsL_holds := goodIn_2 lwk_L_cost_in _ [(1, 23), (2, 0), (2, 1), (1, 7), (2, 2), (1, 8), (1, 9), (1, 18), (1, 14), (1, 15), (1, 16), (1, 5), (1, 17), (1, 19), (3, 0), (3, 1), (3, 2), (3, 3), (3, 4), (3, 5), (3, 6), (3, 7), (3, 8), (3, 9), (3, 10), (3, 11), (3, 12), (3, 13), (3, 14), (3, 15), (3, 16)] (by decide +kernel) (by decide +kernel)
set_option maxRecDepth 20000 in
theorem gL_cost_L_holds : GoodIn wsL_cost (wsV RL 101 RL yL_holds wsL_holds) := goodIn_app (goodIn_of _ (by decide +kernel)) ggL_cost_L_holds
theorem dL_cost_0 : decode cL_cost 0 = .ok (.iconst 0, 1) := by decide +kernel
theorem dL_cost_1 : decode cL_cost 1 = .ok (.istore_n 1, 1) := by decide +kernel
theorem dL_cost_2 : decode cL_cost 2 = .ok (.iconst 0, 1) := by decide +kernel
theorem dL_cost_3 : decode cL_cost 3 = .ok (.istore_n 2, 1) := by decide +kernel
theorem dL_cost_4 : decode cL_cost 4 = .ok (.iload_n 2, 1) := by decide +kernel
theorem dL_cost_5 : decode cL_cost 5 = .ok (.bipush 6, 2) := by decide +kernel
theorem dL_cost_7 : decode cL_cost 7 = .ok (.if_icmp .ge 18, 3) := by decide +kernel
theorem dL_cost_10 : decode cL_cost 10 = .ok (.iload_n 1, 1) := by decide +kernel
theorem dL_cost_11 : decode cL_cost 11 = .ok (.aload_n 0, 1) := by decide +kernel
theorem dL_cost_12 : decode cL_cost 12 = .ok (.iconst 1, 1) := by decide +kernel
theorem dL_cost_13 : decode cL_cost 13 = .ok (.iload_n 2, 1) := by decide +kernel
theorem dL_cost_14 : decode cL_cost 14 = .ok (.invokevirtual 110, 3) := by decide +kernel
theorem dL_cost_17 : decode cL_cost 17 = .ok (.iadd, 1) := by decide +kernel
theorem dL_cost_18 : decode cL_cost 18 = .ok (.istore_n 1, 1) := by decide +kernel
theorem dL_cost_19 : decode cL_cost 19 = .ok (.iinc 2 1, 3) := by decide +kernel
theorem dL_cost_22 : decode cL_cost 22 = .ok (.goto (-18), 3) := by decide +kernel
theorem dL_cost_25 : decode cL_cost 25 = .ok (.iconst 0, 1) := by decide +kernel
theorem dL_cost_26 : decode cL_cost 26 = .ok (.istore_n 2, 1) := by decide +kernel
theorem dL_cost_27 : decode cL_cost 27 = .ok (.iload_n 2, 1) := by decide +kernel
theorem dL_cost_28 : decode cL_cost 28 = .ok (.iconst 4, 1) := by decide +kernel
theorem dL_cost_29 : decode cL_cost 29 = .ok (.if_icmp .ge 18, 3) := by decide +kernel
theorem dL_cost_32 : decode cL_cost 32 = .ok (.iload_n 1, 1) := by decide +kernel
theorem dL_cost_33 : decode cL_cost 33 = .ok (.aload_n 0, 1) := by decide +kernel
theorem dL_cost_34 : decode cL_cost 34 = .ok (.iconst 0, 1) := by decide +kernel
theorem dL_cost_35 : decode cL_cost 35 = .ok (.iload_n 2, 1) := by decide +kernel
theorem dL_cost_36 : decode cL_cost 36 = .ok (.invokevirtual 110, 3) := by decide +kernel
theorem dL_cost_39 : decode cL_cost 39 = .ok (.iadd, 1) := by decide +kernel
theorem dL_cost_40 : decode cL_cost 40 = .ok (.istore_n 1, 1) := by decide +kernel
theorem dL_cost_41 : decode cL_cost 41 = .ok (.iinc 2 1, 3) := by decide +kernel
theorem dL_cost_44 : decode cL_cost 44 = .ok (.goto (-17), 3) := by decide +kernel
theorem dL_cost_47 : decode cL_cost 47 = .ok (.iconst 0, 1) := by decide +kernel
theorem dL_cost_48 : decode cL_cost 48 = .ok (.istore_n 2, 1) := by decide +kernel
theorem dL_cost_49 : decode cL_cost 49 = .ok (.iload_n 2, 1) := by decide +kernel
theorem dL_cost_50 : decode cL_cost 50 = .ok (.aload_n 0, 1) := by decide +kernel
theorem dL_cost_51 : decode cL_cost 51 = .ok (.getfield 84, 3) := by decide +kernel
theorem dL_cost_54 : decode cL_cost 54 = .ok (.if_icmp .ge 39, 3) := by decide +kernel
theorem dL_cost_57 : decode cL_cost 57 = .ok (.iload_n 1, 1) := by decide +kernel
theorem dL_cost_58 : decode cL_cost 58 = .ok (.aload_n 0, 1) := by decide +kernel
theorem dL_cost_59 : decode cL_cost 59 = .ok (.getfield 44, 3) := by decide +kernel
theorem dL_cost_62 : decode cL_cost 62 = .ok (.iload_n 2, 1) := by decide +kernel
theorem dL_cost_63 : decode cL_cost 63 = .ok (.iaload, 1) := by decide +kernel
theorem dL_cost_64 : decode cL_cost 64 = .ok (.ifCond .le 20, 3) := by decide +kernel
theorem dL_cost_67 : decode cL_cost 67 = .ok (.aload_n 0, 1) := by decide +kernel
theorem dL_cost_68 : decode cL_cost 68 = .ok (.iload_n 2, 1) := by decide +kernel
theorem dL_cost_69 : decode cL_cost 69 = .ok (.invokevirtual 101, 3) := by decide +kernel
theorem dL_cost_72 : decode cL_cost 72 = .ok (.ifCond .ne 12, 3) := by decide +kernel
theorem dL_cost_75 : decode cL_cost 75 = .ok (.aload_n 0, 1) := by decide +kernel
theorem dL_cost_76 : decode cL_cost 76 = .ok (.getfield 44, 3) := by decide +kernel
theorem dL_cost_79 : decode cL_cost 79 = .ok (.iload_n 2, 1) := by decide +kernel
theorem dL_cost_80 : decode cL_cost 80 = .ok (.iaload, 1) := by decide +kernel
theorem dL_cost_81 : decode cL_cost 81 = .ok (.goto 4, 3) := by decide +kernel
theorem dL_cost_84 : decode cL_cost 84 = .ok (.iconst 0, 1) := by decide +kernel
theorem dL_cost_85 : decode cL_cost 85 = .ok (.iadd, 1) := by decide +kernel
theorem dL_cost_86 : decode cL_cost 86 = .ok (.istore_n 1, 1) := by decide +kernel
theorem dL_cost_87 : decode cL_cost 87 = .ok (.iinc 2 1, 3) := by decide +kernel
theorem dL_cost_90 : decode cL_cost 90 = .ok (.goto (-41), 3) := by decide +kernel
theorem dL_cost_93 : decode cL_cost 93 = .ok (.iload_n 1, 1) := by decide +kernel
theorem dL_cost_94 : decode cL_cost 94 = .ok (.ireturn, 1) := by decide +kernel
set_option maxRecDepth 20000 in
theorem ggL_looks_X11_slotOf : GoodIn wsL_looks wsX11_slotOf := goodIn_ca (goodIn_ca (goodIn_2 lwk_L_looks_in _ [(1, 7), (1, 8), (1, 9), (1, 10), (1, 11), (1, 12), (1, 6), (1, 13), (1, 14), (1, 15), (1, 16), (1, 17), (1, 18), (1, 19), (1, 20), (1, 21), (1, 22), (1, 23), (2, 0), (2, 1), (2, 2), (2, 3), (2, 4), (2, 5), (2, 6), (2, 7), (4, 0), (4, 1), (4, 2), (4, 3), (4, 4), (4, 5), (4, 6), (4, 7), (4, 8), (4, 9), (4, 10), (5, 0), (5, 1)] (by decide +kernel) (by decide +kernel)) (goodIn_sub (fun _ h => List.mem_cons_of_mem _ (List.mem_append_left _ (List.mem_append_right _ h))) (by decide +kernel))) (goodIn_sub (fun _ h => List.mem_cons_of_mem _ (List.mem_append_right _ h)) (by decide +kernel))
set_option maxRecDepth 20000 in
theorem gL_looks_X11_slotOf : GoodIn wsL_looks (wsV RL 114 RX11 yX11_slotOf wsX11_slotOf) := goodIn_app (goodIn_of _ (by decide +kernel)) ggL_looks_X11_slotOf
theorem dL_looks_0 : decode cL_looks 0 = .ok (.iconst 0, 1) := by decide +kernel
theorem dL_looks_1 : decode cL_looks 1 = .ok (.istore_n 1, 1) := by decide +kernel
theorem dL_looks_2 : decode cL_looks 2 = .ok (.iload_n 1, 1) := by decide +kernel
theorem dL_looks_3 : decode cL_looks 3 = .ok (.aload_n 0, 1) := by decide +kernel
theorem dL_looks_4 : decode cL_looks 4 = .ok (.getfield 66, 3) := by decide +kernel
theorem dL_looks_7 : decode cL_looks 7 = .ok (.if_icmp .ge 23, 3) := by decide +kernel
theorem dL_looks_10 : decode cL_looks 10 = .ok (.aload_n 0, 1) := by decide +kernel
theorem dL_looks_11 : decode cL_looks 11 = .ok (.getfield 32, 3) := by decide +kernel
theorem dL_looks_14 : decode cL_looks 14 = .ok (.iload_n 1, 1) := by decide +kernel
theorem dL_looks_15 : decode cL_looks 15 = .ok (.aload_n 0, 1) := by decide +kernel
theorem dL_looks_16 : decode cL_looks 16 = .ok (.getfield 10, 3) := by decide +kernel
theorem dL_looks_19 : decode cL_looks 19 = .ok (.iload_n 1, 1) := by decide +kernel
theorem dL_looks_20 : decode cL_looks 20 = .ok (.invokevirtual 114, 3) := by decide +kernel
theorem dL_looks_23 : decode cL_looks 23 = .ok (.iastore, 1) := by decide +kernel
theorem dL_looks_24 : decode cL_looks 24 = .ok (.iinc 1 1, 3) := by decide +kernel
theorem dL_looks_27 : decode cL_looks 27 = .ok (.goto (-25), 3) := by decide +kernel
theorem dL_looks_30 : decode cL_looks 30 = .ok (.return_, 1) := by decide +kernel
set_option maxRecDepth 20000 in
theorem ggL_tries_L_isGood : GoodIn wsL_tries wsL_isGood := goodIn_2 lwk_L_tries_in _ [(1, 6), (1, 7), (1, 8), (1, 9), (1, 10), (1, 11), (1, 5), (1, 12), (1, 0), (1, 1), (1, 13), (1, 14), (1, 15), (1, 16), (1, 17), (1, 18), (1, 19), (1, 20), (1, 21), (1, 22), (1, 23), (2, 0), (2, 1), (2, 2), (2, 3), (2, 4), (2, 5), (3, 0), (3, 1), (3, 2), (3, 3), (3, 4), (3, 5), (3, 6), (3, 7), (3, 8), (3, 9), (3, 10), (3, 11), (3, 12), (3, 13), (3, 14), (3, 15), (3, 16)] (by decide +kernel) (by decide +kernel)
set_option maxRecDepth 20000 in
theorem gL_tries_L_isGood : GoodIn wsL_tries (wsV RL 117 RL yL_isGood wsL_isGood) := goodIn_app (goodIn_of _ (by decide +kernel)) ggL_tries_L_isGood
theorem dL_tries_0 : decode cL_tries 0 = .ok (.aload_n 0, 1) := by decide +kernel
theorem dL_tries_1 : decode cL_tries 1 = .ok (.getfield 66, 3) := by decide +kernel
theorem dL_tries_4 : decode cL_tries 4 = .ok (.iconst 1, 1) := by decide +kernel
theorem dL_tries_5 : decode cL_tries 5 = .ok (.if_icmp .ne 8, 3) := by decide +kernel
theorem dL_tries_8 : decode cL_tries 8 = .ok (.bipush 20, 2) := by decide +kernel
theorem dL_tries_10 : decode cL_tries 10 = .ok (.goto 20, 3) := by decide +kernel
theorem dL_tries_13 : decode cL_tries 13 = .ok (.aload_n 0, 1) := by decide +kernel
theorem dL_tries_14 : decode cL_tries 14 = .ok (.getfield 66, 3) := by decide +kernel
theorem dL_tries_17 : decode cL_tries 17 = .ok (.iconst 2, 1) := by decide +kernel
theorem dL_tries_18 : decode cL_tries 18 = .ok (.if_icmp .ne 9, 3) := by decide +kernel
theorem dL_tries_21 : decode cL_tries 21 = .ok (.sipush 400, 3) := by decide +kernel
theorem dL_tries_24 : decode cL_tries 24 = .ok (.goto 6, 3) := by decide +kernel
theorem dL_tries_27 : decode cL_tries 27 = .ok (.sipush 8000, 3) := by decide +kernel
theorem dL_tries_30 : decode cL_tries 30 = .ok (.istore_n 1, 1) := by decide +kernel
theorem dL_tries_31 : decode cL_tries 31 = .ok (.iconst 0, 1) := by decide +kernel
theorem dL_tries_32 : decode cL_tries 32 = .ok (.istore_n 2, 1) := by decide +kernel
theorem dL_tries_33 : decode cL_tries 33 = .ok (.iload_n 2, 1) := by decide +kernel
theorem dL_tries_34 : decode cL_tries 34 = .ok (.iload_n 1, 1) := by decide +kernel
theorem dL_tries_35 : decode cL_tries 35 = .ok (.if_icmp .ge 55, 3) := by decide +kernel
theorem dL_tries_38 : decode cL_tries 38 = .ok (.iload_n 2, 1) := by decide +kernel
theorem dL_tries_39 : decode cL_tries 39 = .ok (.istore_n 3, 1) := by decide +kernel
theorem dL_tries_40 : decode cL_tries 40 = .ok (.aload_n 0, 1) := by decide +kernel
theorem dL_tries_41 : decode cL_tries 41 = .ok (.getfield 66, 3) := by decide +kernel
theorem dL_tries_44 : decode cL_tries 44 = .ok (.iconst 1, 1) := by decide +kernel
theorem dL_tries_45 : decode cL_tries 45 = .ok (.isub, 1) := by decide +kernel
theorem dL_tries_46 : decode cL_tries 46 = .ok (.istore 4, 2) := by decide +kernel
theorem dL_tries_48 : decode cL_tries 48 = .ok (.iload 4, 2) := by decide +kernel
theorem dL_tries_50 : decode cL_tries 50 = .ok (.ifCond .lt 25, 3) := by decide +kernel
theorem dL_tries_53 : decode cL_tries 53 = .ok (.aload_n 0, 1) := by decide +kernel
theorem dL_tries_54 : decode cL_tries 54 = .ok (.getfield 32, 3) := by decide +kernel
theorem dL_tries_57 : decode cL_tries 57 = .ok (.iload 4, 2) := by decide +kernel
theorem dL_tries_59 : decode cL_tries 59 = .ok (.iload_n 3, 1) := by decide +kernel
theorem dL_tries_60 : decode cL_tries 60 = .ok (.bipush 20, 2) := by decide +kernel
theorem dL_tries_62 : decode cL_tries 62 = .ok (.irem, 1) := by decide +kernel
theorem dL_tries_63 : decode cL_tries 63 = .ok (.iastore, 1) := by decide +kernel
theorem dL_tries_64 : decode cL_tries 64 = .ok (.iload_n 3, 1) := by decide +kernel
theorem dL_tries_65 : decode cL_tries 65 = .ok (.bipush 20, 2) := by decide +kernel
theorem dL_tries_67 : decode cL_tries 67 = .ok (.idiv, 1) := by decide +kernel
theorem dL_tries_68 : decode cL_tries 68 = .ok (.istore_n 3, 1) := by decide +kernel
theorem dL_tries_69 : decode cL_tries 69 = .ok (.iinc 4 (-1), 3) := by decide +kernel
