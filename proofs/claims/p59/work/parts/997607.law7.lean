theorem dL_isTold_110 : decode cL_isTold 110 = .ok (.iconst (-1), 1) := by decide +kernel
theorem dL_isTold_111 : decode cL_isTold 111 = .ok (.if_icmp .ne 24, 3) := by decide +kernel
theorem dL_isTold_114 : decode cL_isTold 114 = .ok (.aload_n 0, 1) := by decide +kernel
theorem dL_isTold_115 : decode cL_isTold 115 = .ok (.getfield 10, 3) := by decide +kernel
theorem dL_isTold_118 : decode cL_isTold 118 = .ok (.invokevirtual 189, 3) := by decide +kernel
theorem dL_isTold_121 : decode cL_isTold 121 = .ok (.ifCond .lt 14, 3) := by decide +kernel
theorem dL_isTold_124 : decode cL_isTold 124 = .ok (.aload_n 0, 1) := by decide +kernel
theorem dL_isTold_125 : decode cL_isTold 125 = .ok (.getfield 10, 3) := by decide +kernel
theorem dL_isTold_128 : decode cL_isTold 128 = .ok (.invokevirtual 126, 3) := by decide +kernel
theorem dL_isTold_131 : decode cL_isTold 131 = .ok (.iload_n 1, 1) := by decide +kernel
theorem dL_isTold_132 : decode cL_isTold 132 = .ok (.if_icmp .eq 5, 3) := by decide +kernel
theorem dL_isTold_135 : decode cL_isTold 135 = .ok (.iconst 0, 1) := by decide +kernel
theorem dL_isTold_136 : decode cL_isTold 136 = .ok (.ireturn, 1) := by decide +kernel
theorem dL_isTold_137 : decode cL_isTold 137 = .ok (.bipush 17, 2) := by decide +kernel
theorem dL_isTold_139 : decode cL_isTold 139 = .ok (.istore_n 3, 1) := by decide +kernel
theorem dL_isTold_140 : decode cL_isTold 140 = .ok (.iconst 0, 1) := by decide +kernel
theorem dL_isTold_141 : decode cL_isTold 141 = .ok (.istore 4, 2) := by decide +kernel
theorem dL_isTold_143 : decode cL_isTold 143 = .ok (.iload 4, 2) := by decide +kernel
theorem dL_isTold_145 : decode cL_isTold 145 = .ok (.aload_n 0, 1) := by decide +kernel
theorem dL_isTold_146 : decode cL_isTold 146 = .ok (.getfield 66, 3) := by decide +kernel
theorem dL_isTold_149 : decode cL_isTold 149 = .ok (.if_icmp .ge 22, 3) := by decide +kernel
theorem dL_isTold_152 : decode cL_isTold 152 = .ok (.bipush 31, 2) := by decide +kernel
theorem dL_isTold_154 : decode cL_isTold 154 = .ok (.iload_n 3, 1) := by decide +kernel
theorem dL_isTold_155 : decode cL_isTold 155 = .ok (.imul, 1) := by decide +kernel
theorem dL_isTold_156 : decode cL_isTold 156 = .ok (.aload_n 0, 1) := by decide +kernel
theorem dL_isTold_157 : decode cL_isTold 157 = .ok (.getfield 32, 3) := by decide +kernel
theorem dL_isTold_160 : decode cL_isTold 160 = .ok (.iload 4, 2) := by decide +kernel
theorem dL_isTold_162 : decode cL_isTold 162 = .ok (.iaload, 1) := by decide +kernel
theorem dL_isTold_163 : decode cL_isTold 163 = .ok (.iadd, 1) := by decide +kernel
theorem dL_isTold_164 : decode cL_isTold 164 = .ok (.istore_n 3, 1) := by decide +kernel
theorem dL_isTold_165 : decode cL_isTold 165 = .ok (.iinc 4 1, 3) := by decide +kernel
theorem dL_isTold_168 : decode cL_isTold 168 = .ok (.goto (-25), 3) := by decide +kernel
theorem dL_isTold_171 : decode cL_isTold 171 = .ok (.iload_n 3, 1) := by decide +kernel
theorem dL_isTold_172 : decode cL_isTold 172 = .ok (.iload_n 1, 1) := by decide +kernel
theorem dL_isTold_173 : decode cL_isTold 173 = .ok (.if_icmp .ne 14, 3) := by decide +kernel
theorem dL_isTold_176 : decode cL_isTold 176 = .ok (.aload_n 0, 1) := by decide +kernel
theorem dL_isTold_177 : decode cL_isTold 177 = .ok (.invokevirtual 192, 3) := by decide +kernel
theorem dL_isTold_180 : decode cL_isTold 180 = .ok (.ifCond .eq 7, 3) := by decide +kernel
theorem dL_isTold_183 : decode cL_isTold 183 = .ok (.iconst 1, 1) := by decide +kernel
theorem dL_isTold_184 : decode cL_isTold 184 = .ok (.goto 4, 3) := by decide +kernel
theorem dL_isTold_187 : decode cL_isTold 187 = .ok (.iconst 0, 1) := by decide +kernel
theorem dL_isTold_188 : decode cL_isTold 188 = .ok (.ireturn, 1) := by decide +kernel
set_option maxRecDepth 20000 in
theorem ggL_canTake_L_isOn : GoodIn wsL_canTake wsL_isOn := goodIn_r _ [8, 9, 10, 11, 12, 13, 14, 15, 16, 17, 18, 19, 20, 21, 22, 23, 24, 25, 26, 27] (by decide +kernel) (by decide +kernel)
set_option maxRecDepth 20000 in
theorem gL_canTake_L_isOn : GoodIn wsL_canTake (wsV RL 93 RL yL_isOn wsL_isOn) := goodIn_app (goodIn_of _ (by decide +kernel)) ggL_canTake_L_isOn
theorem dL_canTake_0 : decode cL_canTake 0 = .ok (.aload_n 0, 1) := by decide +kernel
theorem dL_canTake_1 : decode cL_canTake 1 = .ok (.getfield 50, 3) := by decide +kernel
theorem dL_canTake_4 : decode cL_canTake 4 = .ok (.iconst 5, 1) := by decide +kernel
theorem dL_canTake_5 : decode cL_canTake 5 = .ok (.iload_n 1, 1) := by decide +kernel
theorem dL_canTake_6 : decode cL_canTake 6 = .ok (.imul, 1) := by decide +kernel
theorem dL_canTake_7 : decode cL_canTake 7 = .ok (.iload_n 2, 1) := by decide +kernel
theorem dL_canTake_8 : decode cL_canTake 8 = .ok (.iconst 4, 1) := by decide +kernel
theorem dL_canTake_9 : decode cL_canTake 9 = .ok (.idiv, 1) := by decide +kernel
theorem dL_canTake_10 : decode cL_canTake 10 = .ok (.iadd, 1) := by decide +kernel
theorem dL_canTake_11 : decode cL_canTake 11 = .ok (.baload, 1) := by decide +kernel
theorem dL_canTake_12 : decode cL_canTake 12 = .ok (.ifCond .eq 5, 3) := by decide +kernel
theorem dL_canTake_15 : decode cL_canTake 15 = .ok (.iconst 0, 1) := by decide +kernel
theorem dL_canTake_16 : decode cL_canTake 16 = .ok (.ireturn, 1) := by decide +kernel
theorem dL_canTake_17 : decode cL_canTake 17 = .ok (.iconst 0, 1) := by decide +kernel
theorem dL_canTake_18 : decode cL_canTake 18 = .ok (.istore_n 3, 1) := by decide +kernel
theorem dL_canTake_19 : decode cL_canTake 19 = .ok (.iload_n 3, 1) := by decide +kernel
theorem dL_canTake_20 : decode cL_canTake 20 = .ok (.aload_n 0, 1) := by decide +kernel
theorem dL_canTake_21 : decode cL_canTake 21 = .ok (.getfield 66, 3) := by decide +kernel
theorem dL_canTake_24 : decode cL_canTake 24 = .ok (.if_icmp .ge 30, 3) := by decide +kernel
theorem dL_canTake_27 : decode cL_canTake 27 = .ok (.aload_n 0, 1) := by decide +kernel
theorem dL_canTake_28 : decode cL_canTake 28 = .ok (.getfield 20, 3) := by decide +kernel
theorem dL_canTake_31 : decode cL_canTake 31 = .ok (.iload_n 3, 1) := by decide +kernel
theorem dL_canTake_32 : decode cL_canTake 32 = .ok (.iaload, 1) := by decide +kernel
theorem dL_canTake_33 : decode cL_canTake 33 = .ok (.iload_n 1, 1) := by decide +kernel
theorem dL_canTake_34 : decode cL_canTake 34 = .ok (.if_icmp .ne 14, 3) := by decide +kernel
theorem dL_canTake_37 : decode cL_canTake 37 = .ok (.aload_n 0, 1) := by decide +kernel
theorem dL_canTake_38 : decode cL_canTake 38 = .ok (.iload_n 3, 1) := by decide +kernel
theorem dL_canTake_39 : decode cL_canTake 39 = .ok (.iload_n 2, 1) := by decide +kernel
theorem dL_canTake_40 : decode cL_canTake 40 = .ok (.invokevirtual 93, 3) := by decide +kernel
theorem dL_canTake_43 : decode cL_canTake 43 = .ok (.ifCond .eq 5, 3) := by decide +kernel
theorem dL_canTake_46 : decode cL_canTake 46 = .ok (.iconst 0, 1) := by decide +kernel
theorem dL_canTake_47 : decode cL_canTake 47 = .ok (.ireturn, 1) := by decide +kernel
theorem dL_canTake_48 : decode cL_canTake 48 = .ok (.iinc 3 1, 3) := by decide +kernel
theorem dL_canTake_51 : decode cL_canTake 51 = .ok (.goto (-32), 3) := by decide +kernel
theorem dL_canTake_54 : decode cL_canTake 54 = .ok (.iconst 1, 1) := by decide +kernel
theorem dL_canTake_55 : decode cL_canTake 55 = .ok (.ireturn, 1) := by decide +kernel
set_option maxRecDepth 20000 in
theorem ggL_mostOf_L_mostOf : GoodIn wsL_mostOf wsL_mostOf := goodIn_r _ [0, 1, 2, 3, 4, 5, 6, 7, 8, 9, 10, 11, 12, 13, 14, 15, 16, 17, 18, 19, 20, 21, 22, 23, 24, 25, 26, 27, 28, 29, 30, 31, 32, 33, 34, 35, 36, 37, 38] (by decide +kernel) (by decide +kernel)
set_option maxRecDepth 20000 in
theorem gL_mostOf_L_mostOf : GoodIn wsL_mostOf (wsV RL 195 RL yL_mostOf wsL_mostOf) := goodIn_app (goodIn_of _ (by decide +kernel)) ggL_mostOf_L_mostOf
set_option maxRecDepth 20000 in
theorem ggL_mostOf_L_isOn : GoodIn wsL_mostOf wsL_isOn := goodIn_r _ [15, 16, 17, 22, 23, 24, 25, 26, 27, 28, 29, 30, 31, 32, 33, 34, 35, 36, 37, 38] (by decide +kernel) (by decide +kernel)
set_option maxRecDepth 20000 in
theorem gL_mostOf_L_isOn : GoodIn wsL_mostOf (wsV RL 93 RL yL_isOn wsL_isOn) := goodIn_app (goodIn_of _ (by decide +kernel)) ggL_mostOf_L_isOn
set_option maxRecDepth 20000 in
theorem ggL_mostOf_L_canTake : GoodIn wsL_mostOf wsL_canTake := goodIn_r _ [21, 2, 1, 3, 12, 13, 14, 11, 15, 16, 17, 22, 23, 24, 25, 26, 27, 28, 29, 30, 31, 32, 33, 34, 35, 36, 37, 38] (by decide +kernel) (by decide +kernel)
set_option maxRecDepth 20000 in
theorem gL_mostOf_L_canTake : GoodIn wsL_mostOf (wsV RL 199 RL yL_canTake wsL_canTake) := goodIn_app (goodIn_of _ (by decide +kernel)) ggL_mostOf_L_canTake
theorem dL_mostOf_0 : decode cL_mostOf 0 = .ok (.iload_n 2, 1) := by decide +kernel
theorem dL_mostOf_1 : decode cL_mostOf 1 = .ok (.aload_n 0, 1) := by decide +kernel
theorem dL_mostOf_2 : decode cL_mostOf 2 = .ok (.getfield 66, 3) := by decide +kernel
theorem dL_mostOf_5 : decode cL_mostOf 5 = .ok (.if_icmp .ne 5, 3) := by decide +kernel
theorem dL_mostOf_8 : decode cL_mostOf 8 = .ok (.iconst 0, 1) := by decide +kernel
theorem dL_mostOf_9 : decode cL_mostOf 9 = .ok (.ireturn, 1) := by decide +kernel
theorem dL_mostOf_10 : decode cL_mostOf 10 = .ok (.aload_n 0, 1) := by decide +kernel
theorem dL_mostOf_11 : decode cL_mostOf 11 = .ok (.iload_n 1, 1) := by decide +kernel
theorem dL_mostOf_12 : decode cL_mostOf 12 = .ok (.iload_n 2, 1) := by decide +kernel
theorem dL_mostOf_13 : decode cL_mostOf 13 = .ok (.iconst 1, 1) := by decide +kernel
theorem dL_mostOf_14 : decode cL_mostOf 14 = .ok (.iadd, 1) := by decide +kernel
theorem dL_mostOf_15 : decode cL_mostOf 15 = .ok (.iload_n 3, 1) := by decide +kernel
theorem dL_mostOf_16 : decode cL_mostOf 16 = .ok (.invokevirtual 195, 3) := by decide +kernel
theorem dL_mostOf_19 : decode cL_mostOf 19 = .ok (.istore 4, 2) := by decide +kernel
theorem dL_mostOf_21 : decode cL_mostOf 21 = .ok (.aload_n 0, 1) := by decide +kernel
theorem dL_mostOf_22 : decode cL_mostOf 22 = .ok (.iload_n 2, 1) := by decide +kernel
theorem dL_mostOf_23 : decode cL_mostOf 23 = .ok (.iload_n 1, 1) := by decide +kernel
theorem dL_mostOf_24 : decode cL_mostOf 24 = .ok (.invokevirtual 93, 3) := by decide +kernel
theorem dL_mostOf_27 : decode cL_mostOf 27 = .ok (.ifCond .eq 23, 3) := by decide +kernel
theorem dL_mostOf_30 : decode cL_mostOf 30 = .ok (.aload_n 0, 1) := by decide +kernel
theorem dL_mostOf_31 : decode cL_mostOf 31 = .ok (.getfield 50, 3) := by decide +kernel
theorem dL_mostOf_34 : decode cL_mostOf 34 = .ok (.iconst 5, 1) := by decide +kernel
theorem dL_mostOf_35 : decode cL_mostOf 35 = .ok (.aload_n 0, 1) := by decide +kernel
theorem dL_mostOf_36 : decode cL_mostOf 36 = .ok (.getfield 20, 3) := by decide +kernel
theorem dL_mostOf_39 : decode cL_mostOf 39 = .ok (.iload_n 2, 1) := by decide +kernel
theorem dL_mostOf_40 : decode cL_mostOf 40 = .ok (.iaload, 1) := by decide +kernel
theorem dL_mostOf_41 : decode cL_mostOf 41 = .ok (.imul, 1) := by decide +kernel
theorem dL_mostOf_42 : decode cL_mostOf 42 = .ok (.iload_n 1, 1) := by decide +kernel
theorem dL_mostOf_43 : decode cL_mostOf 43 = .ok (.iconst 4, 1) := by decide +kernel
theorem dL_mostOf_44 : decode cL_mostOf 44 = .ok (.idiv, 1) := by decide +kernel
theorem dL_mostOf_45 : decode cL_mostOf 45 = .ok (.iadd, 1) := by decide +kernel
theorem dL_mostOf_46 : decode cL_mostOf 46 = .ok (.baload, 1) := by decide +kernel
theorem dL_mostOf_47 : decode cL_mostOf 47 = .ok (.ifCond .ne 6, 3) := by decide +kernel
theorem dL_mostOf_50 : decode cL_mostOf 50 = .ok (.iload 4, 2) := by decide +kernel
theorem dL_mostOf_52 : decode cL_mostOf 52 = .ok (.ireturn, 1) := by decide +kernel
theorem dL_mostOf_53 : decode cL_mostOf 53 = .ok (.iconst 0, 1) := by decide +kernel
theorem dL_mostOf_54 : decode cL_mostOf 54 = .ok (.istore 5, 2) := by decide +kernel
theorem dL_mostOf_56 : decode cL_mostOf 56 = .ok (.iload 5, 2) := by decide +kernel
theorem dL_mostOf_58 : decode cL_mostOf 58 = .ok (.bipush 6, 2) := by decide +kernel
theorem dL_mostOf_60 : decode cL_mostOf 60 = .ok (.if_icmp .ge 51, 3) := by decide +kernel
theorem dL_mostOf_63 : decode cL_mostOf 63 = .ok (.iload_n 3, 1) := by decide +kernel
theorem dL_mostOf_64 : decode cL_mostOf 64 = .ok (.iload 5, 2) := by decide +kernel
theorem dL_mostOf_66 : decode cL_mostOf 66 = .ok (.ishr, 1) := by decide +kernel
theorem dL_mostOf_67 : decode cL_mostOf 67 = .ok (.iconst 1, 1) := by decide +kernel
theorem dL_mostOf_68 : decode cL_mostOf 68 = .ok (.iand, 1) := by decide +kernel
theorem dL_mostOf_69 : decode cL_mostOf 69 = .ok (.ifCond .ne 36, 3) := by decide +kernel
theorem dL_mostOf_72 : decode cL_mostOf 72 = .ok (.aload_n 0, 1) := by decide +kernel
theorem dL_mostOf_73 : decode cL_mostOf 73 = .ok (.iload 5, 2) := by decide +kernel
theorem dL_mostOf_75 : decode cL_mostOf 75 = .ok (.iload_n 1, 1) := by decide +kernel
theorem dL_mostOf_76 : decode cL_mostOf 76 = .ok (.invokevirtual 199, 3) := by decide +kernel
theorem dL_mostOf_79 : decode cL_mostOf 79 = .ok (.ifCond .eq 26, 3) := by decide +kernel
theorem dL_mostOf_82 : decode cL_mostOf 82 = .ok (.iload 4, 2) := by decide +kernel
theorem dL_mostOf_84 : decode cL_mostOf 84 = .ok (.iconst 1, 1) := by decide +kernel
theorem dL_mostOf_85 : decode cL_mostOf 85 = .ok (.aload_n 0, 1) := by decide +kernel
theorem dL_mostOf_86 : decode cL_mostOf 86 = .ok (.iload_n 1, 1) := by decide +kernel
theorem dL_mostOf_87 : decode cL_mostOf 87 = .ok (.iload_n 2, 1) := by decide +kernel
theorem dL_mostOf_88 : decode cL_mostOf 88 = .ok (.iconst 1, 1) := by decide +kernel
theorem dL_mostOf_89 : decode cL_mostOf 89 = .ok (.iadd, 1) := by decide +kernel
theorem dL_mostOf_90 : decode cL_mostOf 90 = .ok (.iload_n 3, 1) := by decide +kernel
theorem dL_mostOf_91 : decode cL_mostOf 91 = .ok (.iconst 1, 1) := by decide +kernel
theorem dL_mostOf_92 : decode cL_mostOf 92 = .ok (.iload 5, 2) := by decide +kernel
theorem dL_mostOf_94 : decode cL_mostOf 94 = .ok (.ishl, 1) := by decide +kernel
theorem dL_mostOf_95 : decode cL_mostOf 95 = .ok (.ior, 1) := by decide +kernel
theorem dL_mostOf_96 : decode cL_mostOf 96 = .ok (.invokevirtual 195, 3) := by decide +kernel
theorem dL_mostOf_99 : decode cL_mostOf 99 = .ok (.iadd, 1) := by decide +kernel
theorem dL_mostOf_100 : decode cL_mostOf 100 = .ok (.invokestatic 202, 3) := by decide +kernel
theorem dL_mostOf_103 : decode cL_mostOf 103 = .ok (.istore 4, 2) := by decide +kernel
theorem dL_mostOf_105 : decode cL_mostOf 105 = .ok (.iinc 5 1, 3) := by decide +kernel
theorem dL_mostOf_108 : decode cL_mostOf 108 = .ok (.goto (-52), 3) := by decide +kernel
theorem dL_mostOf_111 : decode cL_mostOf 111 = .ok (.iload 4, 2) := by decide +kernel
theorem dL_mostOf_113 : decode cL_mostOf 113 = .ok (.ireturn, 1) := by decide +kernel
set_option maxRecDepth 20000 in
theorem ggL_areTaken_L_next : GoodIn wsL_areTaken wsL_next := goodIn_2 lwk_L_areTaken_in _ [(1, 8), (1, 9), (1, 10), (9, 0), (9, 1), (9, 2), (9, 3), (9, 4), (9, 5), (9, 6), (9, 7), (9, 8), (9, 9), (9, 10), (9, 11), (9, 12), (9, 13), (9, 14), (9, 15), (9, 16)] (by decide +kernel) (by decide +kernel)
set_option maxRecDepth 20000 in
theorem gL_areTaken_L_next : GoodIn wsL_areTaken (wsV RL 76 RL yL_next wsL_next) := goodIn_app (goodIn_2 lwk_L_areTaken_in _ [(1, 4), (1, 5), (1, 6), (1, 7)] (by decide +kernel) (by decide +kernel)) ggL_areTaken_L_next
set_option maxRecDepth 20000 in
theorem ggL_areTaken_X11_setIll : GoodIn wsL_areTaken wsX11_setIll := goodIn_ca (goodIn_2 lwk_L_areTaken_in _ [(1, 15), (1, 16), (1, 17), (1, 18), (1, 19), (1, 14), (1, 20), (1, 21), (1, 22), (1, 23), (2, 0), (2, 1), (2, 2), (2, 3), (2, 4), (2, 5), (2, 6), (2, 7), (2, 8), (2, 9), (2, 10), (2, 11), (2, 12), (2, 13), (2, 14), (2, 15), (2, 16), (2, 17), (2, 18), (2, 19), (2, 20), (2, 21), (2, 22), (2, 23), (3, 0), (3, 1), (3, 2), (3, 3), (3, 4), (3, 5), (3, 6), (3, 7), (3, 8), (3, 9), (3, 10), (3, 11), (3, 12), (3, 13), (3, 14), (3, 15), (3, 16), (3, 17), (3, 18), (10, 0), (10, 1), (10, 2), (10, 3), (10, 4), (10, 5), (10, 6), (10, 7), (10, 8), (10, 9), (10, 10), (11, 0), (11, 1), (12, 0), (12, 1), (12, 2), (13, 0), (13, 1), (13, 2), (13, 3), (13, 4), (13, 5), (13, 6), (13, 7)] (by decide +kernel) (by decide +kernel)) (goodIn_sub (fun _ h => List.mem_cons_of_mem _ (List.mem_append_left _ (List.mem_append_left _ (List.mem_append_right _ h)))) (by decide +kernel))
set_option maxRecDepth 20000 in
theorem gL_areTaken_X11_setIll : GoodIn wsL_areTaken (wsV RL 205 RX11 yX11_setIll wsX11_setIll) := goodIn_app (goodIn_2 lwk_L_areTaken_in _ [(1, 11), (1, 12), (1, 13), (1, 14)] (by decide +kernel) (by decide +kernel)) ggL_areTaken_X11_setIll
set_option maxRecDepth 20000 in
theorem lwq_L_areTaken_X11_substitute_r1 : GoodIn wsL_areTaken wsX11_substitute_r1 := goodIn_2 lwk_L_areTaken_in _ [(3, 23), (1, 16), (4, 0), (4, 1), (4, 2), (4, 3), (1, 14), (4, 4), (4, 5), (4, 6), (4, 7), (4, 8), (4, 9), (3, 12), (4, 10), (3, 18), (1, 17), (1, 18), (1, 19), (1, 20), (1, 21), (1, 22), (1, 23), (2, 0)] (by decide +kernel) (by decide +kernel)
set_option maxRecDepth 20000 in
theorem lwq_L_areTaken_X11_substitute_r2 : GoodIn wsL_areTaken wsX11_substitute_r2 := goodIn_2 lwk_L_areTaken_in _ [(2, 1), (2, 2), (4, 11), (4, 12), (4, 13), (4, 14), (4, 15), (4, 16), (4, 17), (4, 18), (4, 19), (4, 20), (4, 21), (4, 22), (4, 23), (5, 0), (5, 1), (5, 2), (5, 3), (5, 4), (5, 5), (5, 6), (5, 7), (5, 8)] (by decide +kernel) (by decide +kernel)
set_option maxRecDepth 20000 in
theorem lwq_L_areTaken_X11_substitute_r3 : GoodIn wsL_areTaken wsX11_substitute_r3 := goodIn_2 lwk_L_areTaken_in _ [(5, 9), (5, 10), (5, 11), (5, 12), (5, 13), (5, 14), (5, 15), (5, 16), (5, 17), (5, 18), (5, 19), (5, 20), (5, 21), (5, 22), (5, 23), (6, 0), (6, 1), (6, 2), (6, 3), (6, 4), (6, 5), (6, 6), (6, 7), (6, 8)] (by decide +kernel) (by decide +kernel)
set_option maxRecDepth 20000 in
theorem lwq_L_areTaken_X11_substitute_r4 : GoodIn wsL_areTaken wsX11_substitute_r4 := goodIn_2 lwk_L_areTaken_in _ [(6, 9), (6, 10), (6, 11), (6, 12), (6, 13), (6, 14), (6, 15), (6, 16), (6, 17), (6, 18), (6, 19), (6, 20), (6, 21), (6, 22), (6, 23), (3, 1), (7, 0), (7, 1), (7, 2), (7, 3), (7, 4)] (by decide +kernel) (by decide +kernel)
set_option maxRecDepth 20000 in
theorem ggL_areTaken_X11_substitute : GoodIn wsL_areTaken wsX11_substitute := goodIn_ca (goodIn_ca (goodIn_ca (goodIn_c1 (goodIn_2 lwk_L_areTaken_in _ [(3, 22)] (by decide +kernel) (by decide +kernel)) (goodIn_app (goodIn_app (goodIn_app (goodIn_app lwq_L_areTaken_X11_substitute_r1 (goodIn_app lwq_L_areTaken_X11_substitute_r2 (goodIn_app lwq_L_areTaken_X11_substitute_r3 lwq_L_areTaken_X11_substitute_r4))) (goodIn_sub (lwk_L_areTaken_in _ (List.mem_of_getElem? (i := 10) rfl)) (by decide +kernel))) (goodIn_sub (lwk_L_areTaken_in _ (List.mem_of_getElem? (i := 14) rfl)) (by decide +kernel))) (goodIn_sub (lwk_L_areTaken_in _ (List.mem_of_getElem? (i := 11) rfl)) (by decide +kernel)))) (goodIn_sub (fun _ h => List.mem_cons_of_mem _ (List.mem_append_left _ (List.mem_append_right _ h))) (by decide +kernel))) (goodIn_sub (fun _ h => List.mem_cons_of_mem _ (List.mem_append_left _ (List.mem_append_left _ (List.mem_append_right _ h)))) (by decide +kernel))) (goodIn_sub (fun _ h => List.mem_cons_of_mem _ (List.mem_append_right _ h)) (by decide +kernel))
set_option maxRecDepth 20000 in
theorem gL_areTaken_X11_substitute : GoodIn wsL_areTaken (wsV RL 209 RX11 yX11_substitute wsX11_substitute) := goodIn_app (goodIn_2 lwk_L_areTaken_in _ [(3, 19), (3, 20), (3, 21), (1, 14)] (by decide +kernel) (by decide +kernel)) ggL_areTaken_X11_substitute
set_option maxRecDepth 20000 in
theorem ggL_areTaken_L_isOn : GoodIn wsL_areTaken wsL_isOn := goodIn_2 lwk_L_areTaken_in _ [(7, 8), (7, 9), (7, 10), (9, 0), (9, 1), (9, 2), (9, 3), (9, 4), (9, 5), (9, 6), (9, 7), (9, 8), (9, 9), (9, 10), (9, 11), (9, 12), (9, 13), (9, 14), (9, 15), (9, 16)] (by decide +kernel) (by decide +kernel)
set_option maxRecDepth 20000 in
theorem gL_areTaken_L_isOn : GoodIn wsL_areTaken (wsV RL 93 RL yL_isOn wsL_isOn) := goodIn_app (goodIn_2 lwk_L_areTaken_in _ [(7, 5), (7, 6), (7, 7), (1, 7)] (by decide +kernel) (by decide +kernel)) ggL_areTaken_L_isOn
set_option maxRecDepth 20000 in
theorem ggL_areTaken_L_canTake : GoodIn wsL_areTaken wsL_canTake := goodIn_2 lwk_L_areTaken_in _ [(7, 14), (1, 0), (1, 2), (1, 3), (7, 5), (7, 6), (7, 7), (1, 7), (7, 8), (7, 9), (7, 10), (9, 0), (9, 1), (9, 2), (9, 3), (9, 4), (9, 5), (9, 6), (9, 7), (9, 8), (9, 9), (9, 10), (9, 11), (9, 12), (9, 13), (9, 14), (9, 15), (9, 16)] (by decide +kernel) (by decide +kernel)
set_option maxRecDepth 20000 in
theorem gL_areTaken_L_canTake : GoodIn wsL_areTaken (wsV RL 199 RL yL_canTake wsL_canTake) := goodIn_app (goodIn_2 lwk_L_areTaken_in _ [(7, 11), (7, 12), (7, 13), (1, 7)] (by decide +kernel) (by decide +kernel)) ggL_areTaken_L_canTake
set_option maxRecDepth 20000 in
theorem ggL_areTaken_L_mostOf : GoodIn wsL_areTaken wsL_mostOf := goodIn_2 lwk_L_areTaken_in _ [(7, 18), (1, 2), (1, 0), (1, 3), (7, 19), (6, 23), (3, 1), (7, 0), (7, 15), (7, 16), (7, 17), (1, 7), (7, 5), (7, 6), (7, 7), (7, 8), (7, 9), (7, 10), (7, 11), (7, 12), (7, 13), (7, 14), (9, 0), (9, 1), (9, 2), (9, 3), (9, 4), (9, 5), (9, 6), (9, 7), (9, 8), (9, 9), (9, 10), (9, 11), (9, 12), (9, 13), (9, 14), (9, 15), (9, 16)] (by decide +kernel) (by decide +kernel)
set_option maxRecDepth 20000 in
theorem gL_areTaken_L_mostOf : GoodIn wsL_areTaken (wsV RL 195 RL yL_mostOf wsL_mostOf) := goodIn_app (goodIn_2 lwk_L_areTaken_in _ [(7, 15), (7, 16), (7, 17), (1, 7)] (by decide +kernel) (by decide +kernel)) ggL_areTaken_L_mostOf
set_option maxRecDepth 20000 in
theorem lwq_L_areTaken_X11_ill_r1 : GoodIn wsL_areTaken wsX11_ill_r1 := goodIn_2 lwk_L_areTaken_in _ [(3, 23), (1, 16), (8, 0), (8, 1), (1, 17), (1, 18), (1, 19), (1, 14), (1, 20), (1, 21), (1, 22), (1, 23), (2, 0), (2, 1), (2, 2), (4, 11), (4, 12), (4, 13), (4, 14), (4, 15), (4, 16), (4, 17), (4, 18), (4, 19)] (by decide +kernel) (by decide +kernel)
set_option maxRecDepth 20000 in
theorem lwq_L_areTaken_X11_ill_r2 : GoodIn wsL_areTaken wsX11_ill_r2 := goodIn_2 lwk_L_areTaken_in _ [(3, 12), (4, 20), (3, 18), (4, 21), (4, 22), (4, 23), (5, 0), (5, 1), (5, 2), (5, 3), (5, 4), (5, 5), (5, 6), (5, 7), (5, 8), (5, 9), (5, 10), (5, 11), (5, 12), (5, 13), (5, 14), (5, 15), (5, 16), (4, 8)] (by decide +kernel) (by decide +kernel)
set_option maxRecDepth 20000 in
theorem lwq_L_areTaken_X11_ill_r3 : GoodIn wsL_areTaken wsX11_ill_r3 := goodIn_2 lwk_L_areTaken_in _ [(4, 9), (4, 10), (5, 17), (5, 18), (5, 19), (5, 20), (5, 21), (5, 22), (5, 23), (6, 0), (6, 1), (6, 2), (6, 3), (6, 4), (6, 5), (6, 6), (6, 7), (6, 8), (6, 9), (6, 10), (6, 11), (6, 12), (6, 13), (6, 14)] (by decide +kernel) (by decide +kernel)
set_option maxRecDepth 20000 in
theorem lwq_L_areTaken_X11_ill_r4 : GoodIn wsL_areTaken wsX11_ill_r4 := goodIn_2 lwk_L_areTaken_in _ [(6, 15), (6, 16), (6, 17), (6, 18), (6, 19), (6, 20), (6, 21), (6, 22), (6, 23), (3, 1), (7, 0), (7, 1), (7, 2), (7, 3), (7, 4), (8, 2), (8, 3), (8, 4), (8, 5), (8, 6), (8, 7), (8, 8)] (by decide +kernel) (by decide +kernel)
set_option maxRecDepth 20000 in
theorem ggL_areTaken_X11_ill : GoodIn wsL_areTaken wsX11_ill := goodIn_ca (goodIn_ca (goodIn_c1 (goodIn_2 lwk_L_areTaken_in _ [(7, 23)] (by decide +kernel) (by decide +kernel)) (goodIn_app (goodIn_app (goodIn_app (goodIn_app lwq_L_areTaken_X11_ill_r1 (goodIn_app lwq_L_areTaken_X11_ill_r2 (goodIn_app lwq_L_areTaken_X11_ill_r3 lwq_L_areTaken_X11_ill_r4))) (goodIn_sub (lwk_L_areTaken_in _ (List.mem_of_getElem? (i := 10) rfl)) (by decide +kernel))) (goodIn_sub (lwk_L_areTaken_in _ (List.mem_of_getElem? (i := 14) rfl)) (by decide +kernel))) (goodIn_sub (lwk_L_areTaken_in _ (List.mem_of_getElem? (i := 11) rfl)) (by decide +kernel)))) (goodIn_sub (fun _ h => List.mem_cons_of_mem _ (List.mem_append_left _ (List.mem_append_left _ (List.mem_append_right _ h)))) (by decide +kernel))) (goodIn_sub (fun _ h => List.mem_cons_of_mem _ (List.mem_append_right _ h)) (by decide +kernel))
set_option maxRecDepth 20000 in
theorem gL_areTaken_X11_ill : GoodIn wsL_areTaken (wsV RL 212 RX11 yX11_ill wsX11_ill) := goodIn_app (goodIn_2 lwk_L_areTaken_in _ [(7, 20), (7, 21), (7, 22), (1, 14)] (by decide +kernel) (by decide +kernel)) ggL_areTaken_X11_ill
set_option maxRecDepth 20000 in
theorem lwq_L_areTaken_X11_takes_r1 : GoodIn wsL_areTaken wsX11_takes_r1 := goodIn_2 lwk_L_areTaken_in _ [(3, 23), (1, 16), (8, 13), (1, 17), (1, 18), (1, 19), (1, 14), (1, 20), (1, 21), (1, 22), (1, 23), (2, 0), (2, 1), (2, 2), (4, 11), (4, 12), (4, 13), (4, 14), (4, 15), (4, 16), (4, 17), (4, 18), (4, 19), (3, 12)] (by decide +kernel) (by decide +kernel)
set_option maxRecDepth 20000 in
theorem lwq_L_areTaken_X11_takes_r2 : GoodIn wsL_areTaken wsX11_takes_r2 := goodIn_2 lwk_L_areTaken_in _ [(4, 20), (3, 18), (4, 21), (4, 22), (4, 23), (5, 0), (5, 1), (5, 2), (5, 3), (5, 4), (5, 5), (5, 6), (5, 7), (5, 8), (5, 9), (5, 10), (5, 11), (5, 12), (5, 13), (5, 14), (5, 15), (5, 16), (4, 8), (4, 9)] (by decide +kernel) (by decide +kernel)
set_option maxRecDepth 20000 in
theorem lwq_L_areTaken_X11_takes_r3 : GoodIn wsL_areTaken wsX11_takes_r3 := goodIn_2 lwk_L_areTaken_in _ [(4, 10), (5, 17), (5, 18), (5, 19), (5, 20), (5, 21), (5, 22), (5, 23), (6, 0), (6, 1), (6, 2), (6, 3), (6, 4), (6, 5), (6, 6), (6, 7), (6, 8), (6, 9), (6, 10), (6, 11), (6, 12), (6, 13), (6, 14), (6, 15)] (by decide +kernel) (by decide +kernel)
set_option maxRecDepth 20000 in
theorem lwq_L_areTaken_X11_takes_r4 : GoodIn wsL_areTaken wsX11_takes_r4 := goodIn_2 lwk_L_areTaken_in _ [(6, 16), (6, 17), (6, 18), (6, 19), (6, 20), (6, 21), (6, 22), (6, 23), (3, 1), (7, 0), (7, 1), (7, 2), (7, 3), (7, 4)] (by decide +kernel) (by decide +kernel)
set_option maxRecDepth 20000 in
theorem ggL_areTaken_X11_takes : GoodIn wsL_areTaken wsX11_takes := goodIn_ca (goodIn_ca (goodIn_c1 (goodIn_2 lwk_L_areTaken_in _ [(8, 12)] (by decide +kernel) (by decide +kernel)) (goodIn_app (goodIn_app (goodIn_app (goodIn_app lwq_L_areTaken_X11_takes_r1 (goodIn_app lwq_L_areTaken_X11_takes_r2 (goodIn_app lwq_L_areTaken_X11_takes_r3 lwq_L_areTaken_X11_takes_r4))) (goodIn_sub (lwk_L_areTaken_in _ (List.mem_of_getElem? (i := 10) rfl)) (by decide +kernel))) (goodIn_sub (lwk_L_areTaken_in _ (List.mem_of_getElem? (i := 14) rfl)) (by decide +kernel))) (goodIn_sub (lwk_L_areTaken_in _ (List.mem_of_getElem? (i := 11) rfl)) (by decide +kernel)))) (goodIn_sub (fun _ h => List.mem_cons_of_mem _ (List.mem_append_left _ (List.mem_append_left _ (List.mem_append_right _ h)))) (by decide +kernel))) (goodIn_sub (fun _ h => List.mem_cons_of_mem _ (List.mem_append_right _ h)) (by decide +kernel))
set_option maxRecDepth 20000 in
theorem gL_areTaken_X11_takes : GoodIn wsL_areTaken (wsV RL 216 RX11 yX11_takes wsX11_takes) := goodIn_app (goodIn_2 lwk_L_areTaken_in _ [(8, 9), (8, 10), (8, 11), (1, 14)] (by decide +kernel) (by decide +kernel)) ggL_areTaken_X11_takes
theorem dL_areTaken_0 : decode cL_areTaken 0 = .ok (.iconst 0, 1) := by decide +kernel
theorem dL_areTaken_1 : decode cL_areTaken 1 = .ok (.istore_n 1, 1) := by decide +kernel
theorem dL_areTaken_2 : decode cL_areTaken 2 = .ok (.iload_n 1, 1) := by decide +kernel
theorem dL_areTaken_3 : decode cL_areTaken 3 = .ok (.bipush 6, 2) := by decide +kernel
theorem dL_areTaken_5 : decode cL_areTaken 5 = .ok (.if_icmp .ge 69, 3) := by decide +kernel
theorem dL_areTaken_8 : decode cL_areTaken 8 = .ok (.iconst 0, 1) := by decide +kernel
theorem dL_areTaken_9 : decode cL_areTaken 9 = .ok (.istore_n 2, 1) := by decide +kernel
theorem dL_areTaken_10 : decode cL_areTaken 10 = .ok (.iload_n 2, 1) := by decide +kernel
theorem dL_areTaken_11 : decode cL_areTaken 11 = .ok (.iconst 5, 1) := by decide +kernel
theorem dL_areTaken_12 : decode cL_areTaken 12 = .ok (.if_icmp .ge 56, 3) := by decide +kernel
theorem dL_areTaken_15 : decode cL_areTaken 15 = .ok (.aload_n 0, 1) := by decide +kernel
theorem dL_areTaken_16 : decode cL_areTaken 16 = .ok (.getfield 50, 3) := by decide +kernel
theorem dL_areTaken_19 : decode cL_areTaken 19 = .ok (.iconst 5, 1) := by decide +kernel
theorem dL_areTaken_20 : decode cL_areTaken 20 = .ok (.iload_n 1, 1) := by decide +kernel
theorem dL_areTaken_21 : decode cL_areTaken 21 = .ok (.imul, 1) := by decide +kernel
theorem dL_areTaken_22 : decode cL_areTaken 22 = .ok (.iload_n 2, 1) := by decide +kernel
theorem dL_areTaken_23 : decode cL_areTaken 23 = .ok (.iadd, 1) := by decide +kernel
theorem dL_areTaken_24 : decode cL_areTaken 24 = .ok (.aload_n 0, 1) := by decide +kernel
theorem dL_areTaken_25 : decode cL_areTaken 25 = .ok (.iconst 3, 1) := by decide +kernel
theorem dL_areTaken_26 : decode cL_areTaken 26 = .ok (.invokevirtual 76, 3) := by decide +kernel
theorem dL_areTaken_29 : decode cL_areTaken 29 = .ok (.ifCond .ne 7, 3) := by decide +kernel
theorem dL_areTaken_32 : decode cL_areTaken 32 = .ok (.iconst 1, 1) := by decide +kernel
theorem dL_areTaken_33 : decode cL_areTaken 33 = .ok (.goto 4, 3) := by decide +kernel
theorem dL_areTaken_36 : decode cL_areTaken 36 = .ok (.iconst 0, 1) := by decide +kernel
theorem dL_areTaken_37 : decode cL_areTaken 37 = .ok (.bastore, 1) := by decide +kernel
theorem dL_areTaken_38 : decode cL_areTaken 38 = .ok (.aload_n 0, 1) := by decide +kernel
theorem dL_areTaken_39 : decode cL_areTaken 39 = .ok (.getfield 10, 3) := by decide +kernel
theorem dL_areTaken_42 : decode cL_areTaken 42 = .ok (.iload_n 1, 1) := by decide +kernel
theorem dL_areTaken_43 : decode cL_areTaken 43 = .ok (.iload_n 2, 1) := by decide +kernel
theorem dL_areTaken_44 : decode cL_areTaken 44 = .ok (.aload_n 0, 1) := by decide +kernel
theorem dL_areTaken_45 : decode cL_areTaken 45 = .ok (.getfield 50, 3) := by decide +kernel
theorem dL_areTaken_48 : decode cL_areTaken 48 = .ok (.iconst 5, 1) := by decide +kernel
theorem dL_areTaken_49 : decode cL_areTaken 49 = .ok (.iload_n 1, 1) := by decide +kernel
theorem dL_areTaken_50 : decode cL_areTaken 50 = .ok (.imul, 1) := by decide +kernel
theorem dL_areTaken_51 : decode cL_areTaken 51 = .ok (.iload_n 2, 1) := by decide +kernel
theorem dL_areTaken_52 : decode cL_areTaken 52 = .ok (.iadd, 1) := by decide +kernel
theorem dL_areTaken_53 : decode cL_areTaken 53 = .ok (.baload, 1) := by decide +kernel
theorem dL_areTaken_54 : decode cL_areTaken 54 = .ok (.invokevirtual 205, 3) := by decide +kernel
theorem dL_areTaken_57 : decode cL_areTaken 57 = .ok (.ifCond .eq 5, 3) := by decide +kernel
theorem dL_areTaken_60 : decode cL_areTaken 60 = .ok (.iconst 0, 1) := by decide +kernel
theorem dL_areTaken_61 : decode cL_areTaken 61 = .ok (.ireturn, 1) := by decide +kernel
theorem dL_areTaken_62 : decode cL_areTaken 62 = .ok (.iinc 2 1, 3) := by decide +kernel
theorem dL_areTaken_65 : decode cL_areTaken 65 = .ok (.goto (-55), 3) := by decide +kernel
theorem dL_areTaken_68 : decode cL_areTaken 68 = .ok (.iinc 1 1, 3) := by decide +kernel
theorem dL_areTaken_71 : decode cL_areTaken 71 = .ok (.goto (-69), 3) := by decide +kernel
theorem dL_areTaken_74 : decode cL_areTaken 74 = .ok (.iconst 0, 1) := by decide +kernel
theorem dL_areTaken_75 : decode cL_areTaken 75 = .ok (.istore_n 1, 1) := by decide +kernel
theorem dL_areTaken_76 : decode cL_areTaken 76 = .ok (.iconst 0, 1) := by decide +kernel
theorem dL_areTaken_77 : decode cL_areTaken 77 = .ok (.istore_n 2, 1) := by decide +kernel
theorem dL_areTaken_78 : decode cL_areTaken 78 = .ok (.iload_n 2, 1) := by decide +kernel
theorem dL_areTaken_79 : decode cL_areTaken 79 = .ok (.iconst 5, 1) := by decide +kernel
theorem dL_areTaken_80 : decode cL_areTaken 80 = .ok (.if_icmp .ge 242, 3) := by decide +kernel
theorem dL_areTaken_83 : decode cL_areTaken 83 = .ok (.iconst 0, 1) := by decide +kernel
theorem dL_areTaken_84 : decode cL_areTaken 84 = .ok (.istore_n 3, 1) := by decide +kernel
theorem dL_areTaken_85 : decode cL_areTaken 85 = .ok (.iconst 0, 1) := by decide +kernel
theorem dL_areTaken_86 : decode cL_areTaken 86 = .ok (.istore 4, 2) := by decide +kernel
theorem dL_areTaken_88 : decode cL_areTaken 88 = .ok (.iconst 4, 1) := by decide +kernel
theorem dL_areTaken_89 : decode cL_areTaken 89 = .ok (.iload_n 2, 1) := by decide +kernel
theorem dL_areTaken_90 : decode cL_areTaken 90 = .ok (.imul, 1) := by decide +kernel
theorem dL_areTaken_91 : decode cL_areTaken 91 = .ok (.istore 5, 2) := by decide +kernel
theorem dL_areTaken_93 : decode cL_areTaken 93 = .ok (.iload 5, 2) := by decide +kernel
theorem dL_areTaken_95 : decode cL_areTaken 95 = .ok (.iconst 4, 1) := by decide +kernel
theorem dL_areTaken_96 : decode cL_areTaken 96 = .ok (.iload_n 2, 1) := by decide +kernel
