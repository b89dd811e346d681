theorem dL_areChoices_239 : decode cL_areChoices 239 = .ok (.invokevirtual 166, 3) := by decide +kernel
theorem dL_areChoices_242 : decode cL_areChoices 242 = .ok (.iload_n 3, 1) := by decide +kernel
theorem dL_areChoices_243 : decode cL_areChoices 243 = .ok (.if_icmp .ne 7, 3) := by decide +kernel
theorem dL_areChoices_246 : decode cL_areChoices 246 = .ok (.iconst 1, 1) := by decide +kernel
theorem dL_areChoices_247 : decode cL_areChoices 247 = .ok (.goto 4, 3) := by decide +kernel
theorem dL_areChoices_250 : decode cL_areChoices 250 = .ok (.iconst 0, 1) := by decide +kernel
theorem dL_areChoices_251 : decode cL_areChoices 251 = .ok (.ireturn, 1) := by decide +kernel
set_option maxRecDepth 20000 in
theorem ggL_isImproved_L_cost : GoodIn wsL_isImproved wsL_cost := goodIn_r _ [12, 13, 14, 15, 16, 17, 11, 18, 1, 19, 20, 3, 4, 5, 6, 21, 22, 23, 24, 2, 25, 26, 27, 28, 29, 30, 31, 32, 253, 254, 255, 256, 257, 258, 259, 260, 261, 262, 263, 264, 265, 266, 267, 268, 269] (by decide +kernel) (by decide +kernel)
set_option maxRecDepth 20000 in
theorem gL_isImproved_L_cost : GoodIn wsL_isImproved (wsV RL 141 RL yL_cost wsL_cost) := goodIn_app (goodIn_of _ (by decide +kernel)) ggL_isImproved_L_cost
set_option maxRecDepth 20000 in
theorem ggL_isImproved_L_isGood : GoodIn wsL_isImproved wsL_isGood := goodIn_r _ [36, 13, 14, 37, 38, 39, 11, 40, 1, 2, 25, 20, 19, 41, 42, 43, 21, 22, 23, 24, 26, 27, 28, 29, 30, 31, 32, 253, 254, 255, 256, 257, 258, 259, 260, 261, 262, 263, 264, 265, 266, 267, 268, 269] (by decide +kernel) (by decide +kernel)
set_option maxRecDepth 20000 in
theorem gL_isImproved_L_isGood : GoodIn wsL_isImproved (wsV RL 117 RL yL_isGood wsL_isGood) := goodIn_app (goodIn_of _ (by decide +kernel)) ggL_isImproved_L_isGood
set_option maxRecDepth 20000 in
theorem ggL_isImproved_X11_checksum : GoodIn wsL_isImproved wsX11_checksum := goodIn_r _ [48, 49, 50, 51, 52, 53, 54, 55, 56, 57, 58, 59, 60, 270, 271, 272, 273, 274, 275, 276, 277, 278, 279, 280, 281, 282] (by decide +kernel) (by decide +kernel)
set_option maxRecDepth 20000 in
theorem gL_isImproved_X11_checksum : GoodIn wsL_isImproved (wsV RL 126 RX11 yX11_checksum wsX11_checksum) := goodIn_app (goodIn_of _ (by decide +kernel)) ggL_isImproved_X11_checksum
set_option maxRecDepth 20000 in
theorem ggL_isImproved_X11_improve : GoodIn wsL_isImproved wsX11_improve := goodIn_ca (goodIn_r _ [64, 65, 49, 66, 67, 68, 69, 70, 47, 71, 72, 73, 51, 52, 53, 54, 55, 56, 74, 75, 76, 77, 78, 79, 80, 81, 82, 83, 84, 85, 86, 87, 88, 89, 90, 91, 92, 58, 59, 60, 93, 94, 95, 96, 97, 98, 99, 100, 101, 102, 103, 104, 105, 106, 107, 108, 109, 110, 111, 112, 113, 114, 115, 116, 117, 118, 119, 120, 121, 122, 123, 124, 125, 126, 127, 128, 129, 130, 131, 132, 133, 134, 135, 136, 137, 138, 139, 140, 141, 142, 143, 144, 145, 146, 147, 148, 149, 150, 151, 152, 153, 154, 155, 156, 157, 158, 159, 160, 161, 162, 163, 164, 165, 166, 167, 168, 169, 170, 171, 172, 173, 174, 175, 176, 177, 178, 179, 180, 181, 182, 183, 184, 185, 186, 187, 188, 189, 190, 191, 192, 193, 194, 195, 196, 197, 198, 199, 200, 201, 202, 203, 204, 205, 206, 207, 208, 209, 210, 211, 212, 213, 214, 215, 216, 217, 218, 219, 220, 221, 4, 5, 6, 222, 223, 224, 225, 226, 227, 228, 229, 230, 231, 232, 233, 270, 271, 272, 273, 274, 275, 276, 277, 278, 279, 280, 283, 284, 285, 281, 282, 286, 287, 288, 289, 290, 291, 292, 293, 294, 295, 296, 297, 298, 299, 300, 301, 302, 303, 304, 305, 306, 307, 308] (by decide +kernel) (by decide +kernel)) (goodIn_sub (fun _ h => List.mem_cons_of_mem _ (List.mem_append_left _ (List.mem_append_right _ h))) (by decide +kernel))
set_option maxRecDepth 20000 in
theorem gL_isImproved_X11_improve : GoodIn wsL_isImproved (wsV RL 169 RX11 yX11_improve wsX11_improve) := goodIn_app (goodIn_of _ (by decide +kernel)) ggL_isImproved_X11_improve
set_option maxRecDepth 20000 in
theorem ggL_isImproved_L_looks : GoodIn wsL_isImproved wsL_looks := goodIn_ca (goodIn_ca (goodIn_r _ [237, 1, 2, 7, 238, 239, 240, 47, 241, 49, 50, 242, 243, 244, 245, 246, 247, 57, 58, 59, 54, 60, 56, 68, 69, 70, 71, 72, 73, 51, 52, 53, 55, 253, 254, 255, 256, 257, 258, 259, 260, 261, 262, 263, 264, 265, 266, 267, 268, 269, 270, 271, 272, 273, 274, 275, 276, 277, 278, 279, 280, 281, 282] (by decide +kernel) (by decide +kernel)) (goodIn_sub (fun _ h => List.mem_cons_of_mem _ (List.mem_append_right _ h)) (by decide +kernel))) (goodIn_sub (fun _ h => List.mem_cons_of_mem _ (List.mem_append_left _ (List.mem_append_right _ h))) (by decide +kernel))
set_option maxRecDepth 20000 in
theorem gL_isImproved_L_looks : GoodIn wsL_isImproved (wsV RL 132 RL yL_looks wsL_looks) := goodIn_app (goodIn_of _ (by decide +kernel)) ggL_isImproved_L_looks
set_option maxRecDepth 20000 in
theorem ggL_isImproved_X11_cost : GoodIn wsL_isImproved wsX11_cost := goodIn_ca (goodIn_r _ [251, 66, 49, 50, 68, 69, 70, 47, 71, 72, 73, 51, 52, 53, 54, 55, 56, 252, 145, 146, 134, 147, 148, 149, 150, 151, 152, 58, 59, 60, 153, 128, 129, 130, 154, 155, 156, 157, 158, 159, 160, 161, 162, 163, 164, 165, 166, 167, 168, 169, 170, 171, 172, 173, 174, 175, 79, 80, 81, 176, 83, 84, 85, 177, 178, 179, 180, 82, 181, 270, 271, 272, 273, 274, 275, 276, 277, 278, 279, 280, 281, 282] (by decide +kernel) (by decide +kernel)) (goodIn_sub (fun _ h => List.mem_cons_of_mem _ (List.mem_append_left _ (List.mem_append_right _ h))) (by decide +kernel))
set_option maxRecDepth 20000 in
theorem gL_isImproved_X11_cost : GoodIn wsL_isImproved (wsV RL 138 RX11 yX11_cost wsX11_cost) := goodIn_app (goodIn_of _ (by decide +kernel)) ggL_isImproved_X11_cost
theorem dL_isImproved_0 : decode cL_isImproved 0 = .ok (.iconst 0, 1) := by decide +kernel
theorem dL_isImproved_1 : decode cL_isImproved 1 = .ok (.istore_n 1, 1) := by decide +kernel
theorem dL_isImproved_2 : decode cL_isImproved 2 = .ok (.iload_n 1, 1) := by decide +kernel
theorem dL_isImproved_3 : decode cL_isImproved 3 = .ok (.bipush 6, 2) := by decide +kernel
theorem dL_isImproved_5 : decode cL_isImproved 5 = .ok (.if_icmp .ge 253, 3) := by decide +kernel
theorem dL_isImproved_8 : decode cL_isImproved 8 = .ok (.aload_n 0, 1) := by decide +kernel
theorem dL_isImproved_9 : decode cL_isImproved 9 = .ok (.invokevirtual 141, 3) := by decide +kernel
theorem dL_isImproved_12 : decode cL_isImproved 12 = .ok (.istore_n 2, 1) := by decide +kernel
theorem dL_isImproved_13 : decode cL_isImproved 13 = .ok (.iload_n 2, 1) := by decide +kernel
theorem dL_isImproved_14 : decode cL_isImproved 14 = .ok (.istore_n 3, 1) := by decide +kernel
theorem dL_isImproved_15 : decode cL_isImproved 15 = .ok (.iconst 0, 1) := by decide +kernel
theorem dL_isImproved_16 : decode cL_isImproved 16 = .ok (.istore 4, 2) := by decide +kernel
theorem dL_isImproved_18 : decode cL_isImproved 18 = .ok (.iload 4, 2) := by decide +kernel
theorem dL_isImproved_20 : decode cL_isImproved 20 = .ok (.aload_n 0, 1) := by decide +kernel
theorem dL_isImproved_21 : decode cL_isImproved 21 = .ok (.getfield 66, 3) := by decide +kernel
theorem dL_isImproved_24 : decode cL_isImproved 24 = .ok (.if_icmp .ge 145, 3) := by decide +kernel
theorem dL_isImproved_27 : decode cL_isImproved 27 = .ok (.aload_n 0, 1) := by decide +kernel
theorem dL_isImproved_28 : decode cL_isImproved 28 = .ok (.getfield 32, 3) := by decide +kernel
theorem dL_isImproved_31 : decode cL_isImproved 31 = .ok (.iload 4, 2) := by decide +kernel
theorem dL_isImproved_33 : decode cL_isImproved 33 = .ok (.iaload, 1) := by decide +kernel
theorem dL_isImproved_34 : decode cL_isImproved 34 = .ok (.istore 5, 2) := by decide +kernel
theorem dL_isImproved_36 : decode cL_isImproved 36 = .ok (.iconst 0, 1) := by decide +kernel
theorem dL_isImproved_37 : decode cL_isImproved 37 = .ok (.istore 6, 2) := by decide +kernel
theorem dL_isImproved_39 : decode cL_isImproved 39 = .ok (.iload 6, 2) := by decide +kernel
theorem dL_isImproved_41 : decode cL_isImproved 41 = .ok (.bipush 20, 2) := by decide +kernel
theorem dL_isImproved_43 : decode cL_isImproved 43 = .ok (.if_icmp .ge 34, 3) := by decide +kernel
theorem dL_isImproved_46 : decode cL_isImproved 46 = .ok (.aload_n 0, 1) := by decide +kernel
theorem dL_isImproved_47 : decode cL_isImproved 47 = .ok (.getfield 32, 3) := by decide +kernel
theorem dL_isImproved_50 : decode cL_isImproved 50 = .ok (.iload 4, 2) := by decide +kernel
theorem dL_isImproved_52 : decode cL_isImproved 52 = .ok (.iload 6, 2) := by decide +kernel
theorem dL_isImproved_54 : decode cL_isImproved 54 = .ok (.iastore, 1) := by decide +kernel
theorem dL_isImproved_55 : decode cL_isImproved 55 = .ok (.aload_n 0, 1) := by decide +kernel
theorem dL_isImproved_56 : decode cL_isImproved 56 = .ok (.invokevirtual 117, 3) := by decide +kernel
theorem dL_isImproved_59 : decode cL_isImproved 59 = .ok (.ifCond .eq 12, 3) := by decide +kernel
theorem dL_isImproved_62 : decode cL_isImproved 62 = .ok (.iload_n 3, 1) := by decide +kernel
theorem dL_isImproved_63 : decode cL_isImproved 63 = .ok (.aload_n 0, 1) := by decide +kernel
theorem dL_isImproved_64 : decode cL_isImproved 64 = .ok (.invokevirtual 141, 3) := by decide +kernel
theorem dL_isImproved_67 : decode cL_isImproved 67 = .ok (.invokestatic 105, 3) := by decide +kernel
theorem dL_isImproved_70 : decode cL_isImproved 70 = .ok (.istore_n 3, 1) := by decide +kernel
theorem dL_isImproved_71 : decode cL_isImproved 71 = .ok (.iinc 6 1, 3) := by decide +kernel
theorem dL_isImproved_74 : decode cL_isImproved 74 = .ok (.goto (-35), 3) := by decide +kernel
theorem dL_isImproved_77 : decode cL_isImproved 77 = .ok (.aload_n 0, 1) := by decide +kernel
theorem dL_isImproved_78 : decode cL_isImproved 78 = .ok (.getfield 32, 3) := by decide +kernel
theorem dL_isImproved_81 : decode cL_isImproved 81 = .ok (.iload 4, 2) := by decide +kernel
theorem dL_isImproved_83 : decode cL_isImproved 83 = .ok (.iload 5, 2) := by decide +kernel
theorem dL_isImproved_85 : decode cL_isImproved 85 = .ok (.iastore, 1) := by decide +kernel
theorem dL_isImproved_86 : decode cL_isImproved 86 = .ok (.iconst 0, 1) := by decide +kernel
theorem dL_isImproved_87 : decode cL_isImproved 87 = .ok (.istore 6, 2) := by decide +kernel
theorem dL_isImproved_89 : decode cL_isImproved 89 = .ok (.iload 6, 2) := by decide +kernel
theorem dL_isImproved_91 : decode cL_isImproved 91 = .ok (.iload 4, 2) := by decide +kernel
theorem dL_isImproved_93 : decode cL_isImproved 93 = .ok (.if_icmp .ge 70, 3) := by decide +kernel
theorem dL_isImproved_96 : decode cL_isImproved 96 = .ok (.aload_n 0, 1) := by decide +kernel
theorem dL_isImproved_97 : decode cL_isImproved 97 = .ok (.getfield 32, 3) := by decide +kernel
theorem dL_isImproved_100 : decode cL_isImproved 100 = .ok (.iload 6, 2) := by decide +kernel
theorem dL_isImproved_102 : decode cL_isImproved 102 = .ok (.iaload, 1) := by decide +kernel
theorem dL_isImproved_103 : decode cL_isImproved 103 = .ok (.istore 7, 2) := by decide +kernel
theorem dL_isImproved_105 : decode cL_isImproved 105 = .ok (.aload_n 0, 1) := by decide +kernel
theorem dL_isImproved_106 : decode cL_isImproved 106 = .ok (.getfield 32, 3) := by decide +kernel
theorem dL_isImproved_109 : decode cL_isImproved 109 = .ok (.iload 6, 2) := by decide +kernel
theorem dL_isImproved_111 : decode cL_isImproved 111 = .ok (.iload 5, 2) := by decide +kernel
theorem dL_isImproved_113 : decode cL_isImproved 113 = .ok (.iastore, 1) := by decide +kernel
theorem dL_isImproved_114 : decode cL_isImproved 114 = .ok (.aload_n 0, 1) := by decide +kernel
theorem dL_isImproved_115 : decode cL_isImproved 115 = .ok (.getfield 32, 3) := by decide +kernel
theorem dL_isImproved_118 : decode cL_isImproved 118 = .ok (.iload 4, 2) := by decide +kernel
theorem dL_isImproved_120 : decode cL_isImproved 120 = .ok (.iload 7, 2) := by decide +kernel
theorem dL_isImproved_122 : decode cL_isImproved 122 = .ok (.iastore, 1) := by decide +kernel
theorem dL_isImproved_123 : decode cL_isImproved 123 = .ok (.aload_n 0, 1) := by decide +kernel
theorem dL_isImproved_124 : decode cL_isImproved 124 = .ok (.invokevirtual 117, 3) := by decide +kernel
theorem dL_isImproved_127 : decode cL_isImproved 127 = .ok (.ifCond .eq 12, 3) := by decide +kernel
theorem dL_isImproved_130 : decode cL_isImproved 130 = .ok (.iload_n 3, 1) := by decide +kernel
theorem dL_isImproved_131 : decode cL_isImproved 131 = .ok (.aload_n 0, 1) := by decide +kernel
theorem dL_isImproved_132 : decode cL_isImproved 132 = .ok (.invokevirtual 141, 3) := by decide +kernel
theorem dL_isImproved_135 : decode cL_isImproved 135 = .ok (.invokestatic 105, 3) := by decide +kernel
theorem dL_isImproved_138 : decode cL_isImproved 138 = .ok (.istore_n 3, 1) := by decide +kernel
theorem dL_isImproved_139 : decode cL_isImproved 139 = .ok (.aload_n 0, 1) := by decide +kernel
theorem dL_isImproved_140 : decode cL_isImproved 140 = .ok (.getfield 32, 3) := by decide +kernel
theorem dL_isImproved_143 : decode cL_isImproved 143 = .ok (.iload 6, 2) := by decide +kernel
theorem dL_isImproved_145 : decode cL_isImproved 145 = .ok (.iload 7, 2) := by decide +kernel
theorem dL_isImproved_147 : decode cL_isImproved 147 = .ok (.iastore, 1) := by decide +kernel
theorem dL_isImproved_148 : decode cL_isImproved 148 = .ok (.aload_n 0, 1) := by decide +kernel
theorem dL_isImproved_149 : decode cL_isImproved 149 = .ok (.getfield 32, 3) := by decide +kernel
theorem dL_isImproved_152 : decode cL_isImproved 152 = .ok (.iload 4, 2) := by decide +kernel
theorem dL_isImproved_154 : decode cL_isImproved 154 = .ok (.iload 5, 2) := by decide +kernel
theorem dL_isImproved_156 : decode cL_isImproved 156 = .ok (.iastore, 1) := by decide +kernel
theorem dL_isImproved_157 : decode cL_isImproved 157 = .ok (.iinc 6 1, 3) := by decide +kernel
theorem dL_isImproved_160 : decode cL_isImproved 160 = .ok (.goto (-71), 3) := by decide +kernel
theorem dL_isImproved_163 : decode cL_isImproved 163 = .ok (.iinc 4 1, 3) := by decide +kernel
theorem dL_isImproved_166 : decode cL_isImproved 166 = .ok (.goto (-148), 3) := by decide +kernel
theorem dL_isImproved_169 : decode cL_isImproved 169 = .ok (.aload_n 0, 1) := by decide +kernel
theorem dL_isImproved_170 : decode cL_isImproved 170 = .ok (.getfield 10, 3) := by decide +kernel
theorem dL_isImproved_173 : decode cL_isImproved 173 = .ok (.invokevirtual 126, 3) := by decide +kernel
theorem dL_isImproved_176 : decode cL_isImproved 176 = .ok (.istore 4, 2) := by decide +kernel
theorem dL_isImproved_178 : decode cL_isImproved 178 = .ok (.aload_n 0, 1) := by decide +kernel
theorem dL_isImproved_179 : decode cL_isImproved 179 = .ok (.getfield 10, 3) := by decide +kernel
theorem dL_isImproved_182 : decode cL_isImproved 182 = .ok (.invokevirtual 169, 3) := by decide +kernel
theorem dL_isImproved_185 : decode cL_isImproved 185 = .ok (.istore 5, 2) := by decide +kernel
theorem dL_isImproved_187 : decode cL_isImproved 187 = .ok (.iload 5, 2) := by decide +kernel
theorem dL_isImproved_189 : decode cL_isImproved 189 = .ok (.iload_n 2, 1) := by decide +kernel
theorem dL_isImproved_190 : decode cL_isImproved 190 = .ok (.iload_n 3, 1) := by decide +kernel
theorem dL_isImproved_191 : decode cL_isImproved 191 = .ok (.isub, 1) := by decide +kernel
theorem dL_isImproved_192 : decode cL_isImproved 192 = .ok (.if_icmp .eq 5, 3) := by decide +kernel
theorem dL_isImproved_195 : decode cL_isImproved 195 = .ok (.iconst 0, 1) := by decide +kernel
theorem dL_isImproved_196 : decode cL_isImproved 196 = .ok (.ireturn, 1) := by decide +kernel
theorem dL_isImproved_197 : decode cL_isImproved 197 = .ok (.aload_n 0, 1) := by decide +kernel
theorem dL_isImproved_198 : decode cL_isImproved 198 = .ok (.invokevirtual 132, 3) := by decide +kernel
theorem dL_isImproved_201 : decode cL_isImproved 201 = .ok (.aload_n 0, 1) := by decide +kernel
theorem dL_isImproved_202 : decode cL_isImproved 202 = .ok (.invokevirtual 117, 3) := by decide +kernel
theorem dL_isImproved_205 : decode cL_isImproved 205 = .ok (.ifCond .eq 22, 3) := by decide +kernel
theorem dL_isImproved_208 : decode cL_isImproved 208 = .ok (.aload_n 0, 1) := by decide +kernel
theorem dL_isImproved_209 : decode cL_isImproved 209 = .ok (.invokevirtual 141, 3) := by decide +kernel
theorem dL_isImproved_212 : decode cL_isImproved 212 = .ok (.iload_n 3, 1) := by decide +kernel
theorem dL_isImproved_213 : decode cL_isImproved 213 = .ok (.if_icmp .ne 14, 3) := by decide +kernel
theorem dL_isImproved_216 : decode cL_isImproved 216 = .ok (.aload_n 0, 1) := by decide +kernel
theorem dL_isImproved_217 : decode cL_isImproved 217 = .ok (.getfield 10, 3) := by decide +kernel
theorem dL_isImproved_220 : decode cL_isImproved 220 = .ok (.invokevirtual 138, 3) := by decide +kernel
theorem dL_isImproved_223 : decode cL_isImproved 223 = .ok (.iload_n 3, 1) := by decide +kernel
theorem dL_isImproved_224 : decode cL_isImproved 224 = .ok (.if_icmp .eq 5, 3) := by decide +kernel
theorem dL_isImproved_227 : decode cL_isImproved 227 = .ok (.iconst 0, 1) := by decide +kernel
theorem dL_isImproved_228 : decode cL_isImproved 228 = .ok (.ireturn, 1) := by decide +kernel
theorem dL_isImproved_229 : decode cL_isImproved 229 = .ok (.iload 5, 2) := by decide +kernel
theorem dL_isImproved_231 : decode cL_isImproved 231 = .ok (.ifCond .ne 21, 3) := by decide +kernel
theorem dL_isImproved_234 : decode cL_isImproved 234 = .ok (.aload_n 0, 1) := by decide +kernel
theorem dL_isImproved_235 : decode cL_isImproved 235 = .ok (.getfield 10, 3) := by decide +kernel
theorem dL_isImproved_238 : decode cL_isImproved 238 = .ok (.invokevirtual 126, 3) := by decide +kernel
theorem dL_isImproved_241 : decode cL_isImproved 241 = .ok (.iload 4, 2) := by decide +kernel
theorem dL_isImproved_243 : decode cL_isImproved 243 = .ok (.if_icmp .ne 7, 3) := by decide +kernel
theorem dL_isImproved_246 : decode cL_isImproved 246 = .ok (.iconst 1, 1) := by decide +kernel
theorem dL_isImproved_247 : decode cL_isImproved 247 = .ok (.goto 4, 3) := by decide +kernel
theorem dL_isImproved_250 : decode cL_isImproved 250 = .ok (.iconst 0, 1) := by decide +kernel
theorem dL_isImproved_251 : decode cL_isImproved 251 = .ok (.ireturn, 1) := by decide +kernel
theorem dL_isImproved_252 : decode cL_isImproved 252 = .ok (.iinc 1 1, 3) := by decide +kernel
theorem dL_isImproved_255 : decode cL_isImproved 255 = .ok (.goto (-253), 3) := by decide +kernel
theorem dL_isImproved_258 : decode cL_isImproved 258 = .ok (.iconst 1, 1) := by decide +kernel
theorem dL_isImproved_259 : decode cL_isImproved 259 = .ok (.ireturn, 1) := by decide +kernel
set_option maxRecDepth 20000 in
theorem ggL_isTold_X11_checksum : GoodIn wsL_isTold wsX11_checksum := goodIn_r _ [8, 9, 10, 11, 12, 13, 14, 15, 16, 17, 18, 19, 20, 447, 448, 449, 450, 451, 452, 453, 454, 455, 456, 457, 458, 459] (by decide +kernel) (by decide +kernel)
set_option maxRecDepth 20000 in
theorem gL_isTold_X11_checksum : GoodIn wsL_isTold (wsV RL 126 RX11 yX11_checksum wsX11_checksum) := goodIn_app (goodIn_of _ (by decide +kernel)) ggL_isTold_X11_checksum
set_option maxRecDepth 20000 in
theorem ggL_isTold_X11_write : GoodIn wsL_isTold wsX11_write := goodIn_ca (goodIn_r _ [24, 25, 9, 26, 27, 28, 7, 29, 30, 31, 11, 12, 13, 14, 15, 16, 32, 33, 34, 35, 36, 37, 38, 39, 40, 18, 19, 20, 41, 42, 43, 44, 45, 46, 47, 48, 49, 50, 51, 52, 53, 54, 55, 56, 57, 58, 59, 60, 61, 62, 63, 64, 65, 66, 67, 68, 69, 70, 71, 72, 73, 74, 75, 76, 77, 78, 79, 80, 81, 82, 83, 84, 85, 447, 448, 449, 450, 451, 452, 453, 454, 455, 456, 457, 458, 459, 460, 461, 462, 463, 464, 465, 466, 467] (by decide +kernel) (by decide +kernel)) (goodIn_sub (fun _ h => List.mem_cons_of_mem _ (List.mem_append_left _ (List.mem_append_left _ (List.mem_append_right _ h)))) (by decide +kernel))
set_option maxRecDepth 20000 in
theorem gL_isTold_X11_write : GoodIn wsL_isTold (wsV RL 172 RX11 yX11_write wsX11_write) := goodIn_app (goodIn_of _ (by decide +kernel)) ggL_isTold_X11_write
set_option maxRecDepth 20000 in
theorem ggL_isTold_X11_writtenAt : GoodIn wsL_isTold wsX11_writtenAt := goodIn_ca (goodIn_r _ [89, 90, 91, 25, 92, 93, 447, 448, 449, 450, 451, 452, 453, 454, 455, 456, 457, 460, 461, 462, 463, 464, 465, 466, 467] (by decide +kernel) (by decide +kernel)) (goodIn_sub (fun _ h => List.mem_cons_of_mem _ (List.mem_append_left _ (List.mem_append_right _ h))) (by decide +kernel))
set_option maxRecDepth 20000 in
theorem gL_isTold_X11_writtenAt : GoodIn wsL_isTold (wsV RL 175 RX11 yX11_writtenAt wsX11_writtenAt) := goodIn_app (goodIn_of _ (by decide +kernel)) ggL_isTold_X11_writtenAt
set_option maxRecDepth 20000 in
theorem ggL_isTold_X11_append : GoodIn wsL_isTold wsX11_append := goodIn_ca (goodIn_r _ [97, 30, 31, 25, 98, 99, 100, 101, 35, 102, 103, 104, 105, 106, 107, 108, 447, 448, 449, 450, 451, 452, 453, 454, 455, 456, 457, 460, 461, 462, 463, 464, 465, 466, 467] (by decide +kernel) (by decide +kernel)) (goodIn_sub (fun _ h => List.mem_cons_of_mem _ (List.mem_append_left _ (List.mem_append_left _ (List.mem_append_right _ h)))) (by decide +kernel))
set_option maxRecDepth 20000 in
theorem gL_isTold_X11_append : GoodIn wsL_isTold (wsV RL 179 RX11 yX11_append wsX11_append) := goodIn_app (goodIn_of _ (by decide +kernel)) ggL_isTold_X11_append
set_option maxRecDepth 20000 in
theorem ggL_isTold_X11_read : GoodIn wsL_isTold wsX11_read := goodIn_ca (goodIn_ca (goodIn_r _ [112, 113, 114, 30, 31, 25, 9, 115, 116, 117, 10, 118, 119, 120, 35, 121, 122, 123, 107, 108, 124, 125, 126, 127, 128, 129, 130, 131, 132, 40, 18, 19, 14, 20, 16, 133, 134, 135, 136, 137, 41, 42, 43, 44, 45, 46, 47, 48, 49, 50, 51, 52, 53, 54, 55, 56, 57, 58, 59, 60, 61, 62, 63, 64, 65, 66, 67, 68, 69, 70, 71, 72, 73, 74, 75, 76, 77, 78, 79, 80, 81, 82, 83, 84, 85, 138, 139, 140, 141, 142, 143, 144, 145, 146, 147, 148, 149, 150, 151, 152, 153, 154, 155, 156, 157, 158, 159, 160, 161, 162, 163, 164, 165, 166, 167, 168, 169, 170, 171, 172, 173, 174, 175, 176, 177, 178, 179, 180, 181, 182, 183, 184, 185, 186, 187, 188, 189, 190, 191, 192, 193, 194, 195, 196, 197, 198, 199, 200, 201, 202, 203, 204, 205, 206, 207, 208, 209, 210, 211, 212, 213, 214, 7, 215, 216, 217, 218, 219, 220, 221, 222, 223, 224, 225, 226, 227, 228, 229, 230, 231, 232, 233, 234, 235, 236, 237, 238, 239, 240, 241, 242, 243, 244, 245, 246, 247, 248, 249, 250, 251, 252, 253, 254, 255, 256, 257, 258, 259, 260, 261, 262, 263, 264, 265, 266, 267, 268, 269, 270, 271, 272, 273, 274, 275, 276, 277, 278, 279, 280, 281, 282, 283, 284, 285, 286, 447, 448, 449, 450, 451, 452, 453, 454, 455, 456, 457, 460, 461, 462, 463, 464, 465, 466, 467, 458, 459, 468, 469, 470, 471, 472, 473, 474, 475, 476, 477, 478, 479, 480, 481, 482, 483, 484, 485, 486, 487, 488, 489, 490] (by decide +kernel) (by decide +kernel)) (goodIn_sub (fun _ h => List.mem_cons_of_mem _ (List.mem_append_right _ h)) (by decide +kernel))) (goodIn_sub (fun _ h => List.mem_cons_of_mem _ (List.mem_append_left _ (List.mem_append_left _ (List.mem_append_right _ h)))) (by decide +kernel))
set_option maxRecDepth 20000 in
theorem gL_isTold_X11_read : GoodIn wsL_isTold (wsV RL 183 RX11 yX11_read wsX11_read) := goodIn_app (goodIn_of _ (by decide +kernel)) ggL_isTold_X11_read
set_option maxRecDepth 20000 in
theorem ggL_isTold_L_cost : GoodIn wsL_isTold wsL_cost := goodIn_r _ [291, 292, 293, 294, 295, 296, 290, 297, 2, 298, 299, 300, 233, 234, 235, 301, 302, 303, 304, 3, 305, 306, 307, 308, 309, 310, 311, 312, 430, 431, 432, 433, 434, 435, 436, 437, 438, 439, 440, 441, 442, 443, 444, 445, 446] (by decide +kernel) (by decide +kernel)
set_option maxRecDepth 20000 in
theorem gL_isTold_L_cost : GoodIn wsL_isTold (wsV RL 141 RL yL_cost wsL_cost) := goodIn_app (goodIn_of _ (by decide +kernel)) ggL_isTold_L_cost
set_option maxRecDepth 20000 in
theorem ggL_isTold_X11_errorPosition : GoodIn wsL_isTold wsX11_errorPosition := goodIn_r _ [316, 25, 317, 447, 448, 449, 450, 451, 452, 453, 454, 455, 456, 457, 460, 461, 462, 463, 464, 465, 466, 467] (by decide +kernel) (by decide +kernel)
set_option maxRecDepth 20000 in
theorem gL_isTold_X11_errorPosition : GoodIn wsL_isTold (wsV RL 186 RX11 yX11_errorPosition wsX11_errorPosition) := goodIn_app (goodIn_of _ (by decide +kernel)) ggL_isTold_X11_errorPosition
set_option maxRecDepth 20000 in
theorem ggL_isTold_X11_undo : GoodIn wsL_isTold wsX11_undo := goodIn_r _ [321, 216, 322, 217, 9, 236, 237, 238, 239, 240, 241, 323, 324, 325, 221, 326, 225, 231, 224, 223, 226, 227, 228, 229, 230, 447, 448, 449, 450, 451, 452, 453, 454, 455, 456, 457, 480, 481, 482, 483, 484, 485, 486, 487, 488, 489, 490, 458, 459] (by decide +kernel) (by decide +kernel)
set_option maxRecDepth 20000 in
theorem gL_isTold_X11_undo : GoodIn wsL_isTold (wsV RL 189 RX11 yX11_undo wsX11_undo) := goodIn_app (goodIn_of _ (by decide +kernel)) ggL_isTold_X11_undo
set_option maxRecDepth 20000 in
theorem ggL_isTold_L_areTaken : GoodIn wsL_isTold wsL_areTaken := goodIn_ca (goodIn_ca (goodIn_ca (goodIn_r _ [330, 331, 1, 2, 298, 332, 333, 334, 290, 335, 336, 337, 338, 339, 340, 7, 341, 9, 342, 343, 344, 345, 346, 347, 348, 349, 113, 114, 212, 213, 214, 215, 216, 217, 218, 219, 220, 221, 222, 223, 224, 225, 226, 227, 228, 229, 230, 231, 232, 233, 234, 235, 236, 237, 238, 239, 240, 241, 350, 351, 352, 14, 353, 354, 355, 356, 357, 16, 358, 359, 360, 361, 362, 363, 364, 365, 366, 367, 90, 91, 17, 18, 19, 20, 26, 27, 28, 29, 30, 31, 11, 12, 13, 15, 368, 369, 370, 371, 372, 373, 374, 375, 376, 377, 378, 379, 380, 381, 382, 383, 254, 255, 256, 257, 258, 201, 202, 203, 259, 260, 261, 262, 384, 385, 386, 387, 388, 389, 390, 143, 144, 145, 391, 392, 393, 394, 395, 396, 397, 398, 399, 400, 401, 402, 403, 404, 405, 406, 407, 408, 301, 302, 303, 304, 3, 305, 409, 410, 411, 412, 413, 414, 415, 416, 417, 418, 419, 420, 421, 422, 423, 424, 274, 275, 276, 277, 278, 279, 425, 426, 427, 428, 429, 430, 431, 432, 433, 434, 435, 436, 437, 438, 439, 440, 441, 442, 443, 444, 445, 446, 447, 448, 449, 450, 451, 452, 453, 454, 455, 456, 457, 458, 459, 480, 481, 482, 483, 484, 485, 486, 487, 488, 489, 490, 491, 492, 493, 494, 495] (by decide +kernel) (by decide +kernel)) (goodIn_sub (fun _ h => List.mem_cons_of_mem _ (List.mem_append_right _ h)) (by decide +kernel))) (goodIn_sub (fun _ h => List.mem_cons_of_mem _ (List.mem_append_left _ (List.mem_append_right _ h))) (by decide +kernel))) (goodIn_sub (fun _ h => List.mem_cons_of_mem _ (List.mem_append_left _ (List.mem_append_left _ (List.mem_append_right _ h)))) (by decide +kernel))
set_option maxRecDepth 20000 in
theorem gL_isTold_L_areTaken : GoodIn wsL_isTold (wsV RL 192 RL yL_areTaken wsL_areTaken) := goodIn_app (goodIn_of _ (by decide +kernel)) ggL_isTold_L_areTaken
theorem dL_isTold_0 : decode cL_isTold 0 = .ok (.aload_n 0, 1) := by decide +kernel
theorem dL_isTold_1 : decode cL_isTold 1 = .ok (.getfield 10, 3) := by decide +kernel
theorem dL_isTold_4 : decode cL_isTold 4 = .ok (.invokevirtual 126, 3) := by decide +kernel
theorem dL_isTold_7 : decode cL_isTold 7 = .ok (.istore_n 1, 1) := by decide +kernel
theorem dL_isTold_8 : decode cL_isTold 8 = .ok (.aload_n 0, 1) := by decide +kernel
theorem dL_isTold_9 : decode cL_isTold 9 = .ok (.getfield 10, 3) := by decide +kernel
theorem dL_isTold_12 : decode cL_isTold 12 = .ok (.invokevirtual 172, 3) := by decide +kernel
theorem dL_isTold_15 : decode cL_isTold 15 = .ok (.istore_n 2, 1) := by decide +kernel
theorem dL_isTold_16 : decode cL_isTold 16 = .ok (.iload_n 2, 1) := by decide +kernel
theorem dL_isTold_17 : decode cL_isTold 17 = .ok (.iconst 4, 1) := by decide +kernel
theorem dL_isTold_18 : decode cL_isTold 18 = .ok (.aload_n 0, 1) := by decide +kernel
theorem dL_isTold_19 : decode cL_isTold 19 = .ok (.getfield 66, 3) := by decide +kernel
theorem dL_isTold_22 : decode cL_isTold 22 = .ok (.imul, 1) := by decide +kernel
theorem dL_isTold_23 : decode cL_isTold 23 = .ok (.if_icmp .eq 5, 3) := by decide +kernel
theorem dL_isTold_26 : decode cL_isTold 26 = .ok (.iconst 0, 1) := by decide +kernel
theorem dL_isTold_27 : decode cL_isTold 27 = .ok (.ireturn, 1) := by decide +kernel
theorem dL_isTold_28 : decode cL_isTold 28 = .ok (.iconst 0, 1) := by decide +kernel
theorem dL_isTold_29 : decode cL_isTold 29 = .ok (.istore_n 3, 1) := by decide +kernel
theorem dL_isTold_30 : decode cL_isTold 30 = .ok (.iload_n 3, 1) := by decide +kernel
theorem dL_isTold_31 : decode cL_isTold 31 = .ok (.iload_n 2, 1) := by decide +kernel
theorem dL_isTold_32 : decode cL_isTold 32 = .ok (.if_icmp .ge 46, 3) := by decide +kernel
theorem dL_isTold_35 : decode cL_isTold 35 = .ok (.aload_n 0, 1) := by decide +kernel
theorem dL_isTold_36 : decode cL_isTold 36 = .ok (.getfield 10, 3) := by decide +kernel
theorem dL_isTold_39 : decode cL_isTold 39 = .ok (.aload_n 0, 1) := by decide +kernel
theorem dL_isTold_40 : decode cL_isTold 40 = .ok (.getfield 10, 3) := by decide +kernel
theorem dL_isTold_43 : decode cL_isTold 43 = .ok (.iload_n 3, 1) := by decide +kernel
theorem dL_isTold_44 : decode cL_isTold 44 = .ok (.invokevirtual 175, 3) := by decide +kernel
theorem dL_isTold_47 : decode cL_isTold 47 = .ok (.iload_n 3, 1) := by decide +kernel
theorem dL_isTold_48 : decode cL_isTold 48 = .ok (.iconst 4, 1) := by decide +kernel
theorem dL_isTold_49 : decode cL_isTold 49 = .ok (.irem, 1) := by decide +kernel
theorem dL_isTold_50 : decode cL_isTold 50 = .ok (.iconst 3, 1) := by decide +kernel
theorem dL_isTold_51 : decode cL_isTold 51 = .ok (.if_icmp .ne 8, 3) := by decide +kernel
theorem dL_isTold_54 : decode cL_isTold 54 = .ok (.bipush 32, 2) := by decide +kernel
theorem dL_isTold_56 : decode cL_isTold 56 = .ok (.goto 4, 3) := by decide +kernel
theorem dL_isTold_59 : decode cL_isTold 59 = .ok (.iconst 0, 1) := by decide +kernel
theorem dL_isTold_60 : decode cL_isTold 60 = .ok (.iconst 0, 1) := by decide +kernel
theorem dL_isTold_61 : decode cL_isTold 61 = .ok (.iconst 0, 1) := by decide +kernel
theorem dL_isTold_62 : decode cL_isTold 62 = .ok (.iconst 0, 1) := by decide +kernel
theorem dL_isTold_63 : decode cL_isTold 63 = .ok (.invokevirtual 179, 3) := by decide +kernel
theorem dL_isTold_66 : decode cL_isTold 66 = .ok (.iconst 1, 1) := by decide +kernel
theorem dL_isTold_67 : decode cL_isTold 67 = .ok (.if_icmp .ge 5, 3) := by decide +kernel
theorem dL_isTold_70 : decode cL_isTold 70 = .ok (.iconst 0, 1) := by decide +kernel
theorem dL_isTold_71 : decode cL_isTold 71 = .ok (.ireturn, 1) := by decide +kernel
theorem dL_isTold_72 : decode cL_isTold 72 = .ok (.iinc 3 1, 3) := by decide +kernel
theorem dL_isTold_75 : decode cL_isTold 75 = .ok (.goto (-45), 3) := by decide +kernel
theorem dL_isTold_78 : decode cL_isTold 78 = .ok (.aload_n 0, 1) := by decide +kernel
theorem dL_isTold_79 : decode cL_isTold 79 = .ok (.getfield 10, 3) := by decide +kernel
theorem dL_isTold_82 : decode cL_isTold 82 = .ok (.invokevirtual 183, 3) := by decide +kernel
theorem dL_isTold_85 : decode cL_isTold 85 = .ok (.aload_n 0, 1) := by decide +kernel
theorem dL_isTold_86 : decode cL_isTold 86 = .ok (.invokevirtual 141, 3) := by decide +kernel
theorem dL_isTold_89 : decode cL_isTold 89 = .ok (.if_icmp .ne 46, 3) := by decide +kernel
theorem dL_isTold_92 : decode cL_isTold 92 = .ok (.aload_n 0, 1) := by decide +kernel
theorem dL_isTold_93 : decode cL_isTold 93 = .ok (.getfield 10, 3) := by decide +kernel
theorem dL_isTold_96 : decode cL_isTold 96 = .ok (.invokevirtual 126, 3) := by decide +kernel
theorem dL_isTold_99 : decode cL_isTold 99 = .ok (.iload_n 1, 1) := by decide +kernel
theorem dL_isTold_100 : decode cL_isTold 100 = .ok (.if_icmp .ne 35, 3) := by decide +kernel
theorem dL_isTold_103 : decode cL_isTold 103 = .ok (.aload_n 0, 1) := by decide +kernel
theorem dL_isTold_104 : decode cL_isTold 104 = .ok (.getfield 10, 3) := by decide +kernel
theorem dL_isTold_107 : decode cL_isTold 107 = .ok (.invokevirtual 186, 3) := by decide +kernel
