theorem dL_areColours_200 : decode cL_areColours 200 = .ok (.goto (-36), 3) := by decide +kernel
theorem dL_areColours_203 : decode cL_areColours 203 = .ok (.aload_n 0, 1) := by decide +kernel
theorem dL_areColours_204 : decode cL_areColours 204 = .ok (.getfield 10, 3) := by decide +kernel
theorem dL_areColours_207 : decode cL_areColours 207 = .ok (.invokevirtual 222, 3) := by decide +kernel
theorem dL_areColours_210 : decode cL_areColours 210 = .ok (.iload_n 1, 1) := by decide +kernel
theorem dL_areColours_211 : decode cL_areColours 211 = .ok (.if_icmp .ne 7, 3) := by decide +kernel
theorem dL_areColours_214 : decode cL_areColours 214 = .ok (.iconst 1, 1) := by decide +kernel
theorem dL_areColours_215 : decode cL_areColours 215 = .ok (.goto 4, 3) := by decide +kernel
theorem dL_areColours_218 : decode cL_areColours 218 = .ok (.iconst 0, 1) := by decide +kernel
theorem dL_areColours_219 : decode cL_areColours 219 = .ok (.ireturn, 1) := by decide +kernel
set_option maxRecDepth 20000 in
theorem ggL_areExams_L_next : GoodIn wsL_areExams wsL_next := goodIn_2 lwk_L_areExams_in _ [(1, 6), (1, 7), (1, 8), (6, 0), (6, 1), (6, 2), (6, 3), (6, 4), (6, 5), (6, 6), (6, 7), (6, 8), (6, 9), (6, 10), (6, 11), (6, 12), (6, 13), (6, 14), (6, 15), (6, 16)] (by decide +kernel) (by decide +kernel)
set_option maxRecDepth 20000 in
theorem gL_areExams_L_next : GoodIn wsL_areExams (wsV RL 76 RL yL_next wsL_next) := goodIn_app (goodIn_2 lwk_L_areExams_in _ [(1, 2), (1, 3), (1, 4), (1, 5)] (by decide +kernel) (by decide +kernel)) ggL_areExams_L_next
set_option maxRecDepth 20000 in
theorem ggL_areExams_X11_setApart : GoodIn wsL_areExams wsX11_setApart := goodIn_ca (goodIn_2 lwk_L_areExams_in _ [(1, 13), (1, 14), (1, 15), (1, 16), (1, 17), (1, 18), (1, 19), (1, 12), (1, 20), (1, 21), (1, 22), (1, 23), (2, 0), (2, 1), (2, 2), (2, 3), (2, 4), (2, 5), (2, 6), (2, 7), (2, 8), (2, 9), (2, 10), (2, 11), (2, 12), (2, 13), (2, 14), (2, 15), (2, 16), (2, 17), (2, 18), (2, 19), (2, 20), (2, 21), (2, 22), (2, 23), (3, 0), (3, 1), (3, 2), (3, 3), (3, 4), (3, 5), (3, 6), (3, 7), (3, 8), (3, 9), (3, 10), (3, 11), (3, 12), (3, 13), (3, 14), (3, 15), (3, 16), (7, 0), (7, 1), (7, 2), (7, 3), (7, 4), (7, 5), (7, 6), (7, 7), (7, 8), (7, 9), (7, 10), (8, 0), (8, 1), (9, 0), (9, 1), (9, 2), (10, 0), (10, 1), (10, 2), (10, 3), (10, 4), (10, 5), (10, 6), (10, 7)] (by decide +kernel) (by decide +kernel)) (goodIn_sub (fun _ h => List.mem_cons_of_mem _ (List.mem_append_right _ h)) (by decide +kernel))
set_option maxRecDepth 20000 in
theorem gL_areExams_X11_setApart : GoodIn wsL_areExams (wsV RL 225 RX11 yX11_setApart wsX11_setApart) := goodIn_app (goodIn_2 lwk_L_areExams_in _ [(1, 9), (1, 10), (1, 11), (1, 12)] (by decide +kernel) (by decide +kernel)) ggL_areExams_X11_setApart
set_option maxRecDepth 20000 in
theorem ggL_areExams_X11_daysNeeded : GoodIn wsL_areExams wsX11_daysNeeded := goodIn_2 lwk_L_areExams_in _ [(3, 20), (3, 21), (1, 16), (3, 22), (3, 23), (4, 0), (4, 1), (4, 2), (4, 3), (4, 4), (4, 5), (4, 6), (4, 7), (4, 8), (2, 23), (4, 9), (4, 10), (4, 11), (4, 12), (4, 13), (4, 14), (4, 15), (3, 10), (4, 16), (3, 16), (7, 0), (7, 1), (7, 2), (7, 3), (7, 4), (7, 5), (7, 6), (7, 7), (7, 8), (7, 9), (7, 10), (11, 0), (8, 0), (8, 1)] (by decide +kernel) (by decide +kernel)
set_option maxRecDepth 20000 in
theorem gL_areExams_X11_daysNeeded : GoodIn wsL_areExams (wsV RL 228 RX11 yX11_daysNeeded wsX11_daysNeeded) := goodIn_app (goodIn_2 lwk_L_areExams_in _ [(3, 17), (3, 18), (3, 19), (1, 12)] (by decide +kernel) (by decide +kernel)) ggL_areExams_X11_daysNeeded
set_option maxRecDepth 20000 in
theorem ggL_areExams_X11_examDay : GoodIn wsL_areExams wsX11_examDay := goodIn_ca (goodIn_2 lwk_L_areExams_in _ [(4, 20), (3, 21), (1, 16), (4, 21), (1, 17), (1, 18), (1, 19), (1, 12), (1, 20), (1, 21), (1, 22), (1, 23), (2, 0), (1, 14), (1, 15), (3, 22), (3, 23), (4, 0), (4, 1), (4, 2), (4, 3), (4, 4), (4, 5), (4, 6), (4, 7), (4, 8), (2, 23), (4, 9), (4, 10), (4, 11), (4, 12), (4, 13), (4, 14), (4, 15), (3, 10), (4, 16), (3, 16), (7, 0), (7, 1), (7, 2), (7, 3), (7, 4), (7, 5), (7, 6), (7, 7), (7, 8), (7, 9), (7, 10), (11, 0), (8, 0), (8, 1)] (by decide +kernel) (by decide +kernel)) (goodIn_sub (fun _ h => List.mem_cons_of_mem _ (List.mem_append_right _ h)) (by decide +kernel))
set_option maxRecDepth 20000 in
theorem gL_areExams_X11_examDay : GoodIn wsL_areExams (wsV RL 231 RX11 yX11_examDay wsX11_examDay) := goodIn_app (goodIn_2 lwk_L_areExams_in _ [(4, 17), (4, 18), (4, 19), (1, 12)] (by decide +kernel) (by decide +kernel)) ggL_areExams_X11_examDay
set_option maxRecDepth 20000 in
theorem ggL_areExams_X11_group : GoodIn wsL_areExams wsX11_group := goodIn_2 lwk_L_areExams_in _ [(5, 1), (3, 21), (1, 16), (5, 2), (5, 3), (5, 4), (4, 1), (5, 5), (5, 6), (5, 7), (5, 8), (5, 9), (5, 10), (5, 11), (5, 12), (5, 13), (5, 14), (5, 15), (5, 16), (4, 13), (4, 14), (4, 15), (3, 10), (4, 16), (3, 16), (7, 0), (7, 1), (7, 2), (7, 3), (7, 4), (7, 5), (7, 6), (7, 7), (7, 8), (7, 9), (7, 10), (8, 0), (8, 1)] (by decide +kernel) (by decide +kernel)
set_option maxRecDepth 20000 in
theorem gL_areExams_X11_group : GoodIn wsL_areExams (wsV RL 234 RX11 yX11_group wsX11_group) := goodIn_app (goodIn_2 lwk_L_areExams_in _ [(4, 22), (4, 23), (5, 0), (1, 12)] (by decide +kernel) (by decide +kernel)) ggL_areExams_X11_group
theorem dL_areExams_0 : decode cL_areExams 0 = .ok (.aload_n 0, 1) := by decide +kernel
theorem dL_areExams_1 : decode cL_areExams 1 = .ok (.bipush 16, 2) := by decide +kernel
theorem dL_areExams_3 : decode cL_areExams 3 = .ok (.invokevirtual 76, 3) := by decide +kernel
theorem dL_areExams_6 : decode cL_areExams 6 = .ok (.istore_n 1, 1) := by decide +kernel
theorem dL_areExams_7 : decode cL_areExams 7 = .ok (.iload_n 1, 1) := by decide +kernel
theorem dL_areExams_8 : decode cL_areExams 8 = .ok (.ifCond .le 84, 3) := by decide +kernel
theorem dL_areExams_11 : decode cL_areExams 11 = .ok (.aload_n 0, 1) := by decide +kernel
theorem dL_areExams_12 : decode cL_areExams 12 = .ok (.bipush 8, 2) := by decide +kernel
theorem dL_areExams_14 : decode cL_areExams 14 = .ok (.invokevirtual 76, 3) := by decide +kernel
theorem dL_areExams_17 : decode cL_areExams 17 = .ok (.istore_n 2, 1) := by decide +kernel
theorem dL_areExams_18 : decode cL_areExams 18 = .ok (.iload_n 2, 1) := by decide +kernel
theorem dL_areExams_19 : decode cL_areExams 19 = .ok (.iconst 1, 1) := by decide +kernel
theorem dL_areExams_20 : decode cL_areExams 20 = .ok (.iadd, 1) := by decide +kernel
theorem dL_areExams_21 : decode cL_areExams 21 = .ok (.aload_n 0, 1) := by decide +kernel
theorem dL_areExams_22 : decode cL_areExams 22 = .ok (.bipush 7, 2) := by decide +kernel
theorem dL_areExams_24 : decode cL_areExams 24 = .ok (.invokevirtual 76, 3) := by decide +kernel
theorem dL_areExams_27 : decode cL_areExams 27 = .ok (.iadd, 1) := by decide +kernel
theorem dL_areExams_28 : decode cL_areExams 28 = .ok (.bipush 8, 2) := by decide +kernel
theorem dL_areExams_30 : decode cL_areExams 30 = .ok (.irem, 1) := by decide +kernel
theorem dL_areExams_31 : decode cL_areExams 31 = .ok (.istore_n 3, 1) := by decide +kernel
theorem dL_areExams_32 : decode cL_areExams 32 = .ok (.aload_n 0, 1) := by decide +kernel
theorem dL_areExams_33 : decode cL_areExams 33 = .ok (.getfield 54, 3) := by decide +kernel
theorem dL_areExams_36 : decode cL_areExams 36 = .ok (.bipush 8, 2) := by decide +kernel
theorem dL_areExams_38 : decode cL_areExams 38 = .ok (.iload_n 2, 1) := by decide +kernel
theorem dL_areExams_39 : decode cL_areExams 39 = .ok (.imul, 1) := by decide +kernel
theorem dL_areExams_40 : decode cL_areExams 40 = .ok (.iload_n 3, 1) := by decide +kernel
theorem dL_areExams_41 : decode cL_areExams 41 = .ok (.iadd, 1) := by decide +kernel
theorem dL_areExams_42 : decode cL_areExams 42 = .ok (.baload, 1) := by decide +kernel
theorem dL_areExams_43 : decode cL_areExams 43 = .ok (.istore 4, 2) := by decide +kernel
theorem dL_areExams_45 : decode cL_areExams 45 = .ok (.aload_n 0, 1) := by decide +kernel
theorem dL_areExams_46 : decode cL_areExams 46 = .ok (.getfield 10, 3) := by decide +kernel
theorem dL_areExams_49 : decode cL_areExams 49 = .ok (.iload_n 2, 1) := by decide +kernel
theorem dL_areExams_50 : decode cL_areExams 50 = .ok (.iload_n 3, 1) := by decide +kernel
theorem dL_areExams_51 : decode cL_areExams 51 = .ok (.iconst 1, 1) := by decide +kernel
theorem dL_areExams_52 : decode cL_areExams 52 = .ok (.invokevirtual 225, 3) := by decide +kernel
theorem dL_areExams_55 : decode cL_areExams 55 = .ok (.iload 4, 2) := by decide +kernel
theorem dL_areExams_57 : decode cL_areExams 57 = .ok (.if_icmp .eq 5, 3) := by decide +kernel
theorem dL_areExams_60 : decode cL_areExams 60 = .ok (.iconst 0, 1) := by decide +kernel
theorem dL_areExams_61 : decode cL_areExams 61 = .ok (.ireturn, 1) := by decide +kernel
theorem dL_areExams_62 : decode cL_areExams 62 = .ok (.aload_n 0, 1) := by decide +kernel
theorem dL_areExams_63 : decode cL_areExams 63 = .ok (.getfield 54, 3) := by decide +kernel
theorem dL_areExams_66 : decode cL_areExams 66 = .ok (.bipush 8, 2) := by decide +kernel
theorem dL_areExams_68 : decode cL_areExams 68 = .ok (.iload_n 2, 1) := by decide +kernel
theorem dL_areExams_69 : decode cL_areExams 69 = .ok (.imul, 1) := by decide +kernel
theorem dL_areExams_70 : decode cL_areExams 70 = .ok (.iload_n 3, 1) := by decide +kernel
theorem dL_areExams_71 : decode cL_areExams 71 = .ok (.iadd, 1) := by decide +kernel
theorem dL_areExams_72 : decode cL_areExams 72 = .ok (.iconst 1, 1) := by decide +kernel
theorem dL_areExams_73 : decode cL_areExams 73 = .ok (.bastore, 1) := by decide +kernel
theorem dL_areExams_74 : decode cL_areExams 74 = .ok (.aload_n 0, 1) := by decide +kernel
theorem dL_areExams_75 : decode cL_areExams 75 = .ok (.getfield 54, 3) := by decide +kernel
theorem dL_areExams_78 : decode cL_areExams 78 = .ok (.bipush 8, 2) := by decide +kernel
theorem dL_areExams_80 : decode cL_areExams 80 = .ok (.iload_n 3, 1) := by decide +kernel
theorem dL_areExams_81 : decode cL_areExams 81 = .ok (.imul, 1) := by decide +kernel
theorem dL_areExams_82 : decode cL_areExams 82 = .ok (.iload_n 2, 1) := by decide +kernel
theorem dL_areExams_83 : decode cL_areExams 83 = .ok (.iadd, 1) := by decide +kernel
theorem dL_areExams_84 : decode cL_areExams 84 = .ok (.iconst 1, 1) := by decide +kernel
theorem dL_areExams_85 : decode cL_areExams 85 = .ok (.bastore, 1) := by decide +kernel
theorem dL_areExams_86 : decode cL_areExams 86 = .ok (.iinc 1 (-1), 3) := by decide +kernel
theorem dL_areExams_89 : decode cL_areExams 89 = .ok (.goto (-82), 3) := by decide +kernel
theorem dL_areExams_92 : decode cL_areExams 92 = .ok (.aload_n 0, 1) := by decide +kernel
theorem dL_areExams_93 : decode cL_areExams 93 = .ok (.getfield 10, 3) := by decide +kernel
theorem dL_areExams_96 : decode cL_areExams 96 = .ok (.invokevirtual 228, 3) := by decide +kernel
theorem dL_areExams_99 : decode cL_areExams 99 = .ok (.istore_n 1, 1) := by decide +kernel
theorem dL_areExams_100 : decode cL_areExams 100 = .ok (.iconst 0, 1) := by decide +kernel
theorem dL_areExams_101 : decode cL_areExams 101 = .ok (.istore_n 2, 1) := by decide +kernel
theorem dL_areExams_102 : decode cL_areExams 102 = .ok (.iconst 0, 1) := by decide +kernel
theorem dL_areExams_103 : decode cL_areExams 103 = .ok (.istore_n 3, 1) := by decide +kernel
theorem dL_areExams_104 : decode cL_areExams 104 = .ok (.iload_n 3, 1) := by decide +kernel
theorem dL_areExams_105 : decode cL_areExams 105 = .ok (.bipush 8, 2) := by decide +kernel
theorem dL_areExams_107 : decode cL_areExams 107 = .ok (.if_icmp .ge 86, 3) := by decide +kernel
theorem dL_areExams_110 : decode cL_areExams 110 = .ok (.aload_n 0, 1) := by decide +kernel
theorem dL_areExams_111 : decode cL_areExams 111 = .ok (.getfield 10, 3) := by decide +kernel
theorem dL_areExams_114 : decode cL_areExams 114 = .ok (.iload_n 3, 1) := by decide +kernel
theorem dL_areExams_115 : decode cL_areExams 115 = .ok (.invokevirtual 231, 3) := by decide +kernel
theorem dL_areExams_118 : decode cL_areExams 118 = .ok (.ifCond .lt 15, 3) := by decide +kernel
theorem dL_areExams_121 : decode cL_areExams 121 = .ok (.aload_n 0, 1) := by decide +kernel
theorem dL_areExams_122 : decode cL_areExams 122 = .ok (.getfield 10, 3) := by decide +kernel
theorem dL_areExams_125 : decode cL_areExams 125 = .ok (.iload_n 3, 1) := by decide +kernel
theorem dL_areExams_126 : decode cL_areExams 126 = .ok (.invokevirtual 231, 3) := by decide +kernel
theorem dL_areExams_129 : decode cL_areExams 129 = .ok (.iload_n 1, 1) := by decide +kernel
theorem dL_areExams_130 : decode cL_areExams 130 = .ok (.if_icmp .lt 5, 3) := by decide +kernel
theorem dL_areExams_133 : decode cL_areExams 133 = .ok (.iconst 0, 1) := by decide +kernel
theorem dL_areExams_134 : decode cL_areExams 134 = .ok (.ireturn, 1) := by decide +kernel
theorem dL_areExams_135 : decode cL_areExams 135 = .ok (.iconst 0, 1) := by decide +kernel
theorem dL_areExams_136 : decode cL_areExams 136 = .ok (.istore 4, 2) := by decide +kernel
theorem dL_areExams_138 : decode cL_areExams 138 = .ok (.iload 4, 2) := by decide +kernel
theorem dL_areExams_140 : decode cL_areExams 140 = .ok (.iload_n 3, 1) := by decide +kernel
theorem dL_areExams_141 : decode cL_areExams 141 = .ok (.if_icmp .ge 46, 3) := by decide +kernel
theorem dL_areExams_144 : decode cL_areExams 144 = .ok (.aload_n 0, 1) := by decide +kernel
theorem dL_areExams_145 : decode cL_areExams 145 = .ok (.getfield 54, 3) := by decide +kernel
theorem dL_areExams_148 : decode cL_areExams 148 = .ok (.bipush 8, 2) := by decide +kernel
theorem dL_areExams_150 : decode cL_areExams 150 = .ok (.iload_n 3, 1) := by decide +kernel
theorem dL_areExams_151 : decode cL_areExams 151 = .ok (.imul, 1) := by decide +kernel
theorem dL_areExams_152 : decode cL_areExams 152 = .ok (.iload 4, 2) := by decide +kernel
theorem dL_areExams_154 : decode cL_areExams 154 = .ok (.iadd, 1) := by decide +kernel
theorem dL_areExams_155 : decode cL_areExams 155 = .ok (.baload, 1) := by decide +kernel
theorem dL_areExams_156 : decode cL_areExams 156 = .ok (.ifCond .eq 25, 3) := by decide +kernel
theorem dL_areExams_159 : decode cL_areExams 159 = .ok (.aload_n 0, 1) := by decide +kernel
theorem dL_areExams_160 : decode cL_areExams 160 = .ok (.getfield 10, 3) := by decide +kernel
theorem dL_areExams_163 : decode cL_areExams 163 = .ok (.iload 4, 2) := by decide +kernel
theorem dL_areExams_165 : decode cL_areExams 165 = .ok (.invokevirtual 231, 3) := by decide +kernel
theorem dL_areExams_168 : decode cL_areExams 168 = .ok (.aload_n 0, 1) := by decide +kernel
theorem dL_areExams_169 : decode cL_areExams 169 = .ok (.getfield 10, 3) := by decide +kernel
theorem dL_areExams_172 : decode cL_areExams 172 = .ok (.iload_n 3, 1) := by decide +kernel
theorem dL_areExams_173 : decode cL_areExams 173 = .ok (.invokevirtual 231, 3) := by decide +kernel
theorem dL_areExams_176 : decode cL_areExams 176 = .ok (.if_icmp .ne 5, 3) := by decide +kernel
theorem dL_areExams_179 : decode cL_areExams 179 = .ok (.iconst 0, 1) := by decide +kernel
theorem dL_areExams_180 : decode cL_areExams 180 = .ok (.ireturn, 1) := by decide +kernel
theorem dL_areExams_181 : decode cL_areExams 181 = .ok (.iinc 4 1, 3) := by decide +kernel
theorem dL_areExams_184 : decode cL_areExams 184 = .ok (.goto (-46), 3) := by decide +kernel
theorem dL_areExams_187 : decode cL_areExams 187 = .ok (.iinc 3 1, 3) := by decide +kernel
theorem dL_areExams_190 : decode cL_areExams 190 = .ok (.goto (-86), 3) := by decide +kernel
theorem dL_areExams_193 : decode cL_areExams 193 = .ok (.aload_n 0, 1) := by decide +kernel
theorem dL_areExams_194 : decode cL_areExams 194 = .ok (.getfield 10, 3) := by decide +kernel
theorem dL_areExams_197 : decode cL_areExams 197 = .ok (.invokevirtual 234, 3) := by decide +kernel
theorem dL_areExams_200 : decode cL_areExams 200 = .ok (.istore_n 3, 1) := by decide +kernel
theorem dL_areExams_201 : decode cL_areExams 201 = .ok (.iconst 0, 1) := by decide +kernel
theorem dL_areExams_202 : decode cL_areExams 202 = .ok (.istore 4, 2) := by decide +kernel
theorem dL_areExams_204 : decode cL_areExams 204 = .ok (.iload 4, 2) := by decide +kernel
theorem dL_areExams_206 : decode cL_areExams 206 = .ok (.bipush 8, 2) := by decide +kernel
theorem dL_areExams_208 : decode cL_areExams 208 = .ok (.if_icmp .ge 67, 3) := by decide +kernel
theorem dL_areExams_211 : decode cL_areExams 211 = .ok (.iload_n 2, 1) := by decide +kernel
theorem dL_areExams_212 : decode cL_areExams 212 = .ok (.iload_n 3, 1) := by decide +kernel
theorem dL_areExams_213 : decode cL_areExams 213 = .ok (.iload 4, 2) := by decide +kernel
theorem dL_areExams_215 : decode cL_areExams 215 = .ok (.ishr, 1) := by decide +kernel
theorem dL_areExams_216 : decode cL_areExams 216 = .ok (.iconst 1, 1) := by decide +kernel
theorem dL_areExams_217 : decode cL_areExams 217 = .ok (.iand, 1) := by decide +kernel
theorem dL_areExams_218 : decode cL_areExams 218 = .ok (.iadd, 1) := by decide +kernel
theorem dL_areExams_219 : decode cL_areExams 219 = .ok (.istore_n 2, 1) := by decide +kernel
theorem dL_areExams_220 : decode cL_areExams 220 = .ok (.iconst 0, 1) := by decide +kernel
theorem dL_areExams_221 : decode cL_areExams 221 = .ok (.istore 5, 2) := by decide +kernel
theorem dL_areExams_223 : decode cL_areExams 223 = .ok (.iload 5, 2) := by decide +kernel
theorem dL_areExams_225 : decode cL_areExams 225 = .ok (.iload 4, 2) := by decide +kernel
theorem dL_areExams_227 : decode cL_areExams 227 = .ok (.if_icmp .ge 42, 3) := by decide +kernel
theorem dL_areExams_230 : decode cL_areExams 230 = .ok (.iload_n 3, 1) := by decide +kernel
theorem dL_areExams_231 : decode cL_areExams 231 = .ok (.iload 4, 2) := by decide +kernel
theorem dL_areExams_233 : decode cL_areExams 233 = .ok (.ishr, 1) := by decide +kernel
theorem dL_areExams_234 : decode cL_areExams 234 = .ok (.iload_n 3, 1) := by decide +kernel
theorem dL_areExams_235 : decode cL_areExams 235 = .ok (.iload 5, 2) := by decide +kernel
theorem dL_areExams_237 : decode cL_areExams 237 = .ok (.ishr, 1) := by decide +kernel
theorem dL_areExams_238 : decode cL_areExams 238 = .ok (.iand, 1) := by decide +kernel
theorem dL_areExams_239 : decode cL_areExams 239 = .ok (.iconst 1, 1) := by decide +kernel
theorem dL_areExams_240 : decode cL_areExams 240 = .ok (.iand, 1) := by decide +kernel
theorem dL_areExams_241 : decode cL_areExams 241 = .ok (.iconst 1, 1) := by decide +kernel
theorem dL_areExams_242 : decode cL_areExams 242 = .ok (.if_icmp .ne 21, 3) := by decide +kernel
theorem dL_areExams_245 : decode cL_areExams 245 = .ok (.aload_n 0, 1) := by decide +kernel
theorem dL_areExams_246 : decode cL_areExams 246 = .ok (.getfield 54, 3) := by decide +kernel
theorem dL_areExams_249 : decode cL_areExams 249 = .ok (.bipush 8, 2) := by decide +kernel
theorem dL_areExams_251 : decode cL_areExams 251 = .ok (.iload 4, 2) := by decide +kernel
theorem dL_areExams_253 : decode cL_areExams 253 = .ok (.imul, 1) := by decide +kernel
theorem dL_areExams_254 : decode cL_areExams 254 = .ok (.iload 5, 2) := by decide +kernel
theorem dL_areExams_256 : decode cL_areExams 256 = .ok (.iadd, 1) := by decide +kernel
theorem dL_areExams_257 : decode cL_areExams 257 = .ok (.baload, 1) := by decide +kernel
theorem dL_areExams_258 : decode cL_areExams 258 = .ok (.ifCond .ne 5, 3) := by decide +kernel
theorem dL_areExams_261 : decode cL_areExams 261 = .ok (.iconst 0, 1) := by decide +kernel
theorem dL_areExams_262 : decode cL_areExams 262 = .ok (.ireturn, 1) := by decide +kernel
theorem dL_areExams_263 : decode cL_areExams 263 = .ok (.iinc 5 1, 3) := by decide +kernel
theorem dL_areExams_266 : decode cL_areExams 266 = .ok (.goto (-43), 3) := by decide +kernel
theorem dL_areExams_269 : decode cL_areExams 269 = .ok (.iinc 4 1, 3) := by decide +kernel
theorem dL_areExams_272 : decode cL_areExams 272 = .ok (.goto (-68), 3) := by decide +kernel
theorem dL_areExams_275 : decode cL_areExams 275 = .ok (.iload_n 2, 1) := by decide +kernel
theorem dL_areExams_276 : decode cL_areExams 276 = .ok (.ifCond .le 23, 3) := by decide +kernel
theorem dL_areExams_279 : decode cL_areExams 279 = .ok (.iload_n 2, 1) := by decide +kernel
theorem dL_areExams_280 : decode cL_areExams 280 = .ok (.iload_n 1, 1) := by decide +kernel
theorem dL_areExams_281 : decode cL_areExams 281 = .ok (.if_icmp .gt 18, 3) := by decide +kernel
theorem dL_areExams_284 : decode cL_areExams 284 = .ok (.aload_n 0, 1) := by decide +kernel
theorem dL_areExams_285 : decode cL_areExams 285 = .ok (.getfield 10, 3) := by decide +kernel
theorem dL_areExams_288 : decode cL_areExams 288 = .ok (.iconst 0, 1) := by decide +kernel
theorem dL_areExams_289 : decode cL_areExams 289 = .ok (.invokevirtual 231, 3) := by decide +kernel
theorem dL_areExams_292 : decode cL_areExams 292 = .ok (.ifCond .ne 7, 3) := by decide +kernel
theorem dL_areExams_295 : decode cL_areExams 295 = .ok (.iconst 1, 1) := by decide +kernel
theorem dL_areExams_296 : decode cL_areExams 296 = .ok (.goto 4, 3) := by decide +kernel
theorem dL_areExams_299 : decode cL_areExams 299 = .ok (.iconst 0, 1) := by decide +kernel
theorem dL_areExams_300 : decode cL_areExams 300 = .ok (.ireturn, 1) := by decide +kernel
set_option maxRecDepth 20000 in
theorem ggL_isYear_X11_dayOfWeek : GoodIn wsL_isYear wsX11_dayOfWeek := goodIn_ca (goodIn_2 lwk_L_isYear_in _ [(1, 7), (1, 8), (1, 9), (1, 10), (1, 11), (1, 6), (1, 12), (1, 13), (1, 14), (1, 15), (1, 16), (1, 17), (1, 18), (1, 19), (1, 20), (1, 21), (1, 22), (1, 23), (2, 0), (2, 1), (2, 2), (2, 3), (2, 4), (2, 5), (2, 6), (2, 7), (2, 8), (2, 9), (2, 10), (2, 11), (2, 12), (2, 13), (8, 0), (8, 1), (8, 2), (8, 3), (8, 4), (8, 5), (8, 6), (8, 7), (8, 8), (8, 9), (8, 10)] (by decide +kernel) (by decide +kernel)) (goodIn_sub (fun _ h => List.mem_cons_of_mem _ (List.mem_append_left _ (List.mem_append_left _ (List.mem_append_right _ h)))) (by decide +kernel))
set_option maxRecDepth 20000 in
theorem gL_isYear_X11_dayOfWeek : GoodIn wsL_isYear (wsV RL 237 RX11 yX11_dayOfWeek wsX11_dayOfWeek) := goodIn_app (goodIn_2 lwk_L_isYear_in _ [(1, 3), (1, 4), (1, 5), (1, 6)] (by decide +kernel) (by decide +kernel)) ggL_isYear_X11_dayOfWeek
set_option maxRecDepth 20000 in
theorem ggL_isYear_X11_setYear : GoodIn wsL_isYear wsX11_setYear := goodIn_ca (goodIn_2 lwk_L_isYear_in _ [(2, 17), (1, 13), (1, 14), (1, 8), (1, 9), (1, 10), (1, 11), (1, 6), (1, 12), (1, 15), (1, 16), (1, 17), (1, 18), (1, 19), (1, 20), (1, 21), (1, 22), (1, 23), (2, 0), (2, 1), (2, 2), (2, 3), (2, 4), (2, 5), (2, 6), (2, 7), (2, 8), (2, 9), (2, 10), (2, 11), (2, 12), (2, 13), (2, 18), (2, 19), (2, 20), (2, 21), (2, 22), (2, 23), (3, 0), (3, 1), (3, 2), (3, 3), (3, 4), (3, 5), (3, 6), (8, 0), (8, 1), (8, 2), (8, 3), (8, 4), (8, 5), (8, 6), (8, 7), (8, 8), (8, 9), (8, 10), (9, 0), (9, 1), (9, 2)] (by decide +kernel) (by decide +kernel)) (goodIn_sub (fun _ h => List.mem_cons_of_mem _ (List.mem_append_left _ (List.mem_append_left _ (List.mem_append_right _ h)))) (by decide +kernel))
set_option maxRecDepth 20000 in
theorem gL_isYear_X11_setYear : GoodIn wsL_isYear (wsV RL 240 RX11 yX11_setYear wsX11_setYear) := goodIn_app (goodIn_2 lwk_L_isYear_in _ [(2, 14), (2, 15), (2, 16), (1, 6)] (by decide +kernel) (by decide +kernel)) ggL_isYear_X11_setYear
set_option maxRecDepth 20000 in
theorem ggL_isYear_L_next : GoodIn wsL_isYear wsL_next := goodIn_2 lwk_L_isYear_in _ [(3, 11), (3, 12), (3, 13), (7, 0), (7, 1), (7, 2), (7, 3), (7, 4), (7, 5), (7, 6), (7, 7), (7, 8), (7, 9), (7, 10), (7, 11), (7, 12), (7, 13), (7, 14), (7, 15), (7, 16)] (by decide +kernel) (by decide +kernel)
set_option maxRecDepth 20000 in
theorem gL_isYear_L_next : GoodIn wsL_isYear (wsV RL 76 RL yL_next wsL_next) := goodIn_app (goodIn_2 lwk_L_isYear_in _ [(3, 7), (3, 8), (3, 9), (3, 10)] (by decide +kernel) (by decide +kernel)) ggL_isYear_L_next
set_option maxRecDepth 20000 in
theorem ggL_isYear_X11_later : GoodIn wsL_isYear wsX11_later := goodIn_ca (goodIn_2 lwk_L_isYear_in _ [(3, 17), (1, 8), (1, 9), (1, 10), (1, 11), (1, 6), (1, 12), (1, 13), (1, 14), (1, 15), (1, 16), (1, 17), (1, 18), (1, 19), (1, 20), (1, 21), (1, 22), (1, 23), (2, 0), (2, 1), (2, 2), (2, 3), (2, 4), (2, 5), (3, 18), (3, 19), (3, 20), (3, 21), (3, 22), (3, 2), (3, 3), (3, 4), (3, 5), (3, 6), (8, 0), (8, 1), (8, 2), (8, 3), (8, 4), (8, 5), (8, 6), (8, 7), (8, 8), (8, 9), (8, 10)] (by decide +kernel) (by decide +kernel)) (goodIn_sub (fun _ h => List.mem_cons_of_mem _ (List.mem_append_left _ (List.mem_append_left _ (List.mem_append_right _ h)))) (by decide +kernel))
set_option maxRecDepth 20000 in
theorem gL_isYear_X11_later : GoodIn wsL_isYear (wsV RL 244 RX11 yX11_later wsX11_later) := goodIn_app (goodIn_2 lwk_L_isYear_in _ [(3, 14), (3, 15), (3, 16), (1, 6)] (by decide +kernel) (by decide +kernel)) ggL_isYear_X11_later
set_option maxRecDepth 20000 in
theorem ggL_isYear_X11_holiday : GoodIn wsL_isYear wsX11_holiday := goodIn_ca (goodIn_ca (goodIn_2 lwk_L_isYear_in _ [(4, 2), (1, 13), (1, 14), (4, 3), (4, 4), (1, 8), (4, 5), (1, 9), (1, 10), (1, 11), (1, 6), (1, 12), (1, 15), (1, 16), (1, 17), (1, 18), (1, 19), (1, 20), (1, 21), (1, 22), (1, 23), (2, 0), (2, 1), (2, 2), (2, 3), (2, 4), (2, 5), (4, 6), (4, 7), (4, 8), (4, 9), (2, 22), (4, 10), (4, 11), (4, 12), (4, 13), (3, 0), (2, 23), (8, 0), (8, 1), (8, 2), (8, 3), (8, 4), (8, 5), (8, 6), (8, 7), (8, 8), (8, 9), (8, 10), (9, 0), (9, 1), (9, 2)] (by decide +kernel) (by decide +kernel)) (goodIn_sub (fun _ h => List.mem_cons_of_mem _ (List.mem_append_left _ (List.mem_append_left _ (List.mem_append_right _ h)))) (by decide +kernel))) (goodIn_sub (fun _ h => List.mem_cons_of_mem _ (List.mem_append_left _ (List.mem_append_right _ h))) (by decide +kernel))
set_option maxRecDepth 20000 in
theorem gL_isYear_X11_holiday : GoodIn wsL_isYear (wsV RL 247 RX11 yX11_holiday wsX11_holiday) := goodIn_app (goodIn_2 lwk_L_isYear_in _ [(3, 23), (4, 0), (4, 1), (1, 6)] (by decide +kernel) (by decide +kernel)) ggL_isYear_X11_holiday
set_option maxRecDepth 20000 in
theorem ggL_isYear_X11_schoolDays : GoodIn wsL_isYear wsX11_schoolDays := goodIn_2 lwk_L_isYear_in _ [(4, 17), (1, 8), (4, 18), (4, 19), (4, 20), (1, 18), (4, 21), (4, 22), (4, 23), (5, 0), (5, 1), (3, 0), (8, 0), (8, 1), (8, 2), (8, 3), (8, 4), (8, 5), (8, 6), (8, 7), (8, 8), (8, 9), (8, 10), (9, 0), (9, 1), (9, 2)] (by decide +kernel) (by decide +kernel)
set_option maxRecDepth 20000 in
theorem gL_isYear_X11_schoolDays : GoodIn wsL_isYear (wsV RL 250 RX11 yX11_schoolDays wsX11_schoolDays) := goodIn_app (goodIn_2 lwk_L_isYear_in _ [(4, 14), (4, 15), (4, 16), (1, 6)] (by decide +kernel) (by decide +kernel)) ggL_isYear_X11_schoolDays
set_option maxRecDepth 20000 in
theorem ggL_isYear_X11_dateOf : GoodIn wsL_isYear wsX11_dateOf := goodIn_ca (goodIn_2 lwk_L_isYear_in _ [(5, 5), (5, 6), (5, 7), (1, 8), (5, 8), (5, 9), (4, 23), (5, 0), (1, 18), (5, 1), (3, 0), (3, 22), (3, 2), (3, 3), (3, 4), (2, 5), (2, 4), (3, 5), (3, 6), (8, 0), (8, 1), (8, 2), (8, 3), (8, 4), (8, 5), (8, 6), (8, 7), (8, 8), (8, 9), (8, 10), (9, 0), (9, 1), (9, 2)] (by decide +kernel) (by decide +kernel)) (goodIn_sub (fun _ h => List.mem_cons_of_mem _ (List.mem_append_right _ h)) (by decide +kernel))
set_option maxRecDepth 20000 in
theorem gL_isYear_X11_dateOf : GoodIn wsL_isYear (wsV RL 253 RX11 yX11_dateOf wsX11_dateOf) := goodIn_app (goodIn_2 lwk_L_isYear_in _ [(5, 2), (5, 3), (5, 4), (1, 6)] (by decide +kernel) (by decide +kernel)) ggL_isYear_X11_dateOf
set_option maxRecDepth 20000 in
theorem ggL_isYear_X11_numberOf : GoodIn wsL_isYear wsX11_numberOf := goodIn_ca (goodIn_2 lwk_L_isYear_in _ [(5, 13), (1, 8), (5, 8), (1, 9), (1, 10), (1, 11), (1, 6), (1, 12), (1, 13), (1, 14), (1, 15), (1, 16), (1, 17), (1, 18), (1, 19), (1, 20), (1, 21), (1, 22), (1, 23), (2, 0), (2, 1), (2, 2), (2, 3), (2, 4), (2, 5), (5, 9), (4, 23), (5, 0), (5, 1), (3, 0), (4, 18), (4, 19), (4, 20), (4, 21), (4, 22), (8, 0), (8, 1), (8, 2), (8, 3), (8, 4), (8, 5), (8, 6), (8, 7), (8, 8), (8, 9), (8, 10), (9, 0), (9, 1), (9, 2)] (by decide +kernel) (by decide +kernel)) (goodIn_sub (fun _ h => List.mem_cons_of_mem _ (List.mem_append_left _ (List.mem_append_left _ (List.mem_append_right _ h)))) (by decide +kernel))
set_option maxRecDepth 20000 in
theorem gL_isYear_X11_numberOf : GoodIn wsL_isYear (wsV RL 256 RX11 yX11_numberOf wsX11_numberOf) := goodIn_app (goodIn_2 lwk_L_isYear_in _ [(5, 10), (5, 11), (5, 12), (1, 6)] (by decide +kernel) (by decide +kernel)) ggL_isYear_X11_numberOf
set_option maxRecDepth 20000 in
theorem ggL_isYear_X11_weekOf : GoodIn wsL_isYear wsX11_weekOf := goodIn_ca (goodIn_2 lwk_L_isYear_in _ [(5, 17), (1, 8), (5, 8), (1, 9), (1, 10), (1, 11), (1, 6), (1, 12), (1, 13), (1, 14), (1, 15), (1, 16), (1, 17), (1, 18), (1, 19), (1, 20), (1, 21), (1, 22), (1, 23), (2, 0), (2, 1), (2, 2), (2, 3), (2, 4), (2, 5), (5, 18), (5, 19), (5, 20), (5, 21), (3, 18), (3, 19), (3, 20), (3, 21), (5, 22), (5, 23), (6, 0), (6, 1), (6, 2), (6, 3), (6, 4), (6, 5), (6, 6), (4, 19), (4, 20), (4, 21), (4, 22), (4, 23), (5, 0), (5, 1), (3, 0), (4, 18), (8, 0), (8, 1), (8, 2), (8, 3), (8, 4), (8, 5), (8, 6), (8, 7), (8, 8), (8, 9), (8, 10), (9, 0), (9, 1), (9, 2)] (by decide +kernel) (by decide +kernel)) (goodIn_sub (fun _ h => List.mem_cons_of_mem _ (List.mem_append_left _ (List.mem_append_left _ (List.mem_append_right _ h)))) (by decide +kernel))
set_option maxRecDepth 20000 in
theorem gL_isYear_X11_weekOf : GoodIn wsL_isYear (wsV RL 259 RX11 yX11_weekOf wsX11_weekOf) := goodIn_app (goodIn_2 lwk_L_isYear_in _ [(5, 14), (5, 15), (5, 16), (1, 6)] (by decide +kernel) (by decide +kernel)) ggL_isYear_X11_weekOf
set_option maxRecDepth 20000 in
theorem ggL_isYear_X11_nextDay : GoodIn wsL_isYear wsX11_nextDay := goodIn_ca (goodIn_2 lwk_L_isYear_in _ [(6, 10), (1, 8), (5, 8), (6, 11), (4, 11), (4, 12), (4, 13), (1, 9), (1, 10), (1, 11), (1, 6), (1, 12), (1, 13), (1, 14), (1, 15), (1, 16), (1, 17), (1, 18), (1, 19), (1, 20), (1, 21), (1, 22), (1, 23), (2, 0), (2, 1), (2, 2), (2, 3), (2, 4), (2, 5), (5, 9), (4, 23), (5, 0), (5, 1), (3, 0), (3, 22), (3, 2), (3, 3), (3, 4), (3, 5), (3, 6), (8, 0), (8, 1), (8, 2), (8, 3), (8, 4), (8, 5), (8, 6), (8, 7), (8, 8), (8, 9), (8, 10), (9, 0), (9, 1), (9, 2)] (by decide +kernel) (by decide +kernel)) (goodIn_sub (fun _ h => List.mem_cons_of_mem _ (List.mem_append_left _ (List.mem_append_left _ (List.mem_append_right _ h)))) (by decide +kernel))
set_option maxRecDepth 20000 in
theorem gL_isYear_X11_nextDay : GoodIn wsL_isYear (wsV RL 262 RX11 yX11_nextDay wsX11_nextDay) := goodIn_app (goodIn_2 lwk_L_isYear_in _ [(6, 7), (6, 8), (6, 9), (1, 6)] (by decide +kernel) (by decide +kernel)) ggL_isYear_X11_nextDay
theorem dL_isYear_0 : decode cL_isYear 0 = .ok (.ldc 236, 2) := by decide +kernel
theorem dL_isYear_2 : decode cL_isYear 2 = .ok (.istore_n 1, 1) := by decide +kernel
theorem dL_isYear_3 : decode cL_isYear 3 = .ok (.aload_n 0, 1) := by decide +kernel
theorem dL_isYear_4 : decode cL_isYear 4 = .ok (.getfield 10, 3) := by decide +kernel
theorem dL_isYear_7 : decode cL_isYear 7 = .ok (.iload_n 1, 1) := by decide +kernel
theorem dL_isYear_8 : decode cL_isYear 8 = .ok (.invokevirtual 237, 3) := by decide +kernel
theorem dL_isYear_11 : decode cL_isYear 11 = .ok (.ifCond .ne 16, 3) := by decide +kernel
theorem dL_isYear_14 : decode cL_isYear 14 = .ok (.aload_n 0, 1) := by decide +kernel
theorem dL_isYear_15 : decode cL_isYear 15 = .ok (.getfield 10, 3) := by decide +kernel
theorem dL_isYear_18 : decode cL_isYear 18 = .ok (.iload_n 1, 1) := by decide +kernel
theorem dL_isYear_19 : decode cL_isYear 19 = .ok (.invokevirtual 240, 3) := by decide +kernel
theorem dL_isYear_22 : decode cL_isYear 22 = .ok (.ldc 243, 2) := by decide +kernel
theorem dL_isYear_24 : decode cL_isYear 24 = .ok (.if_icmp .eq 5, 3) := by decide +kernel
theorem dL_isYear_27 : decode cL_isYear 27 = .ok (.iconst 0, 1) := by decide +kernel
theorem dL_isYear_28 : decode cL_isYear 28 = .ok (.ireturn, 1) := by decide +kernel
theorem dL_isYear_29 : decode cL_isYear 29 = .ok (.aload_n 0, 1) := by decide +kernel
