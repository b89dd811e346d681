theorem dL_areChoices_122 : decode cL_areChoices 122 = .ok (.iconst 1, 1) := by decide +kernel
theorem dL_areChoices_123 : decode cL_areChoices 123 = .ok (.iload 4, 2) := by decide +kernel
theorem dL_areChoices_125 : decode cL_areChoices 125 = .ok (.invokevirtual 161, 3) := by decide +kernel
theorem dL_areChoices_128 : decode cL_areChoices 128 = .ok (.aload_n 0, 1) := by decide +kernel
theorem dL_areChoices_129 : decode cL_areChoices 129 = .ok (.iconst 1, 1) := by decide +kernel
theorem dL_areChoices_130 : decode cL_areChoices 130 = .ok (.iload 4, 2) := by decide +kernel
theorem dL_areChoices_132 : decode cL_areChoices 132 = .ok (.invokevirtual 110, 3) := by decide +kernel
theorem dL_areChoices_135 : decode cL_areChoices 135 = .ok (.if_icmp .eq 5, 3) := by decide +kernel
theorem dL_areChoices_138 : decode cL_areChoices 138 = .ok (.iconst 0, 1) := by decide +kernel
theorem dL_areChoices_139 : decode cL_areChoices 139 = .ok (.ireturn, 1) := by decide +kernel
theorem dL_areChoices_140 : decode cL_areChoices 140 = .ok (.iinc 4 1, 3) := by decide +kernel
theorem dL_areChoices_143 : decode cL_areChoices 143 = .ok (.goto (-32), 3) := by decide +kernel
theorem dL_areChoices_146 : decode cL_areChoices 146 = .ok (.iconst 0, 1) := by decide +kernel
theorem dL_areChoices_147 : decode cL_areChoices 147 = .ok (.istore 4, 2) := by decide +kernel
theorem dL_areChoices_149 : decode cL_areChoices 149 = .ok (.iload 4, 2) := by decide +kernel
theorem dL_areChoices_151 : decode cL_areChoices 151 = .ok (.bipush 20, 2) := by decide +kernel
theorem dL_areChoices_153 : decode cL_areChoices 153 = .ok (.if_icmp .ge 81, 3) := by decide +kernel
theorem dL_areChoices_156 : decode cL_areChoices 156 = .ok (.aload_n 0, 1) := by decide +kernel
theorem dL_areChoices_157 : decode cL_areChoices 157 = .ok (.getfield 10, 3) := by decide +kernel
theorem dL_areChoices_160 : decode cL_areChoices 160 = .ok (.iconst 0, 1) := by decide +kernel
theorem dL_areChoices_161 : decode cL_areChoices 161 = .ok (.aload_n 0, 1) := by decide +kernel
theorem dL_areChoices_162 : decode cL_areChoices 162 = .ok (.getfield 16, 3) := by decide +kernel
theorem dL_areChoices_165 : decode cL_areChoices 165 = .ok (.iload_n 1, 1) := by decide +kernel
theorem dL_areChoices_166 : decode cL_areChoices 166 = .ok (.iaload, 1) := by decide +kernel
theorem dL_areChoices_167 : decode cL_areChoices 167 = .ok (.iload 4, 2) := by decide +kernel
theorem dL_areChoices_169 : decode cL_areChoices 169 = .ok (.invokevirtual 162, 3) := by decide +kernel
theorem dL_areChoices_172 : decode cL_areChoices 172 = .ok (.istore 5, 2) := by decide +kernel
theorem dL_areChoices_174 : decode cL_areChoices 174 = .ok (.aload_n 0, 1) := by decide +kernel
theorem dL_areChoices_175 : decode cL_areChoices 175 = .ok (.iload_n 1, 1) := by decide +kernel
theorem dL_areChoices_176 : decode cL_areChoices 176 = .ok (.iload 4, 2) := by decide +kernel
theorem dL_areChoices_178 : decode cL_areChoices 178 = .ok (.invokevirtual 93, 3) := by decide +kernel
theorem dL_areChoices_181 : decode cL_areChoices 181 = .ok (.ifCond .eq 12, 3) := by decide +kernel
theorem dL_areChoices_184 : decode cL_areChoices 184 = .ok (.iload 5, 2) := by decide +kernel
theorem dL_areChoices_186 : decode cL_areChoices 186 = .ok (.iload_n 1, 1) := by decide +kernel
theorem dL_areChoices_187 : decode cL_areChoices 187 = .ok (.if_icmp .eq 41, 3) := by decide +kernel
theorem dL_areChoices_190 : decode cL_areChoices 190 = .ok (.goto 36, 3) := by decide +kernel
theorem dL_areChoices_193 : decode cL_areChoices 193 = .ok (.iload 5, 2) := by decide +kernel
theorem dL_areChoices_195 : decode cL_areChoices 195 = .ok (.iconst (-1), 1) := by decide +kernel
theorem dL_areChoices_196 : decode cL_areChoices 196 = .ok (.if_icmp .eq 32, 3) := by decide +kernel
theorem dL_areChoices_199 : decode cL_areChoices 199 = .ok (.aload_n 0, 1) := by decide +kernel
theorem dL_areChoices_200 : decode cL_areChoices 200 = .ok (.getfield 16, 3) := by decide +kernel
theorem dL_areChoices_203 : decode cL_areChoices 203 = .ok (.iload 5, 2) := by decide +kernel
theorem dL_areChoices_205 : decode cL_areChoices 205 = .ok (.iaload, 1) := by decide +kernel
theorem dL_areChoices_206 : decode cL_areChoices 206 = .ok (.aload_n 0, 1) := by decide +kernel
theorem dL_areChoices_207 : decode cL_areChoices 207 = .ok (.getfield 16, 3) := by decide +kernel
theorem dL_areChoices_210 : decode cL_areChoices 210 = .ok (.iload_n 1, 1) := by decide +kernel
theorem dL_areChoices_211 : decode cL_areChoices 211 = .ok (.iaload, 1) := by decide +kernel
theorem dL_areChoices_212 : decode cL_areChoices 212 = .ok (.if_icmp .ne 14, 3) := by decide +kernel
theorem dL_areChoices_215 : decode cL_areChoices 215 = .ok (.aload_n 0, 1) := by decide +kernel
theorem dL_areChoices_216 : decode cL_areChoices 216 = .ok (.iload 5, 2) := by decide +kernel
theorem dL_areChoices_218 : decode cL_areChoices 218 = .ok (.iload 4, 2) := by decide +kernel
theorem dL_areChoices_220 : decode cL_areChoices 220 = .ok (.invokevirtual 93, 3) := by decide +kernel
theorem dL_areChoices_223 : decode cL_areChoices 223 = .ok (.ifCond .ne 5, 3) := by decide +kernel
theorem dL_areChoices_226 : decode cL_areChoices 226 = .ok (.iconst 0, 1) := by decide +kernel
theorem dL_areChoices_227 : decode cL_areChoices 227 = .ok (.ireturn, 1) := by decide +kernel
theorem dL_areChoices_228 : decode cL_areChoices 228 = .ok (.iinc 4 1, 3) := by decide +kernel
theorem dL_areChoices_231 : decode cL_areChoices 231 = .ok (.goto (-82), 3) := by decide +kernel
theorem dL_areChoices_234 : decode cL_areChoices 234 = .ok (.aload_n 0, 1) := by decide +kernel
theorem dL_areChoices_235 : decode cL_areChoices 235 = .ok (.getfield 10, 3) := by decide +kernel
theorem dL_areChoices_238 : decode cL_areChoices 238 = .ok (.iload_n 1, 1) := by decide +kernel
theorem dL_areChoices_239 : decode cL_areChoices 239 = .ok (.invokevirtual 166, 3) := by decide +kernel
theorem dL_areChoices_242 : decode cL_areChoices 242 = .ok (.iload_n 3, 1) := by decide +kernel
theorem dL_areChoices_243 : decode cL_areChoices 243 = .ok (.if_icmp .ne 7, 3) := by decide +kernel
theorem dL_areChoices_246 : decode cL_areChoices 246 = .ok (.iconst 1, 1) := by decide +kernel
theorem dL_areChoices_247 : decode cL_areChoices 247 = .ok (.goto 4, 3) := by decide +kernel
theorem dL_areChoices_250 : decode cL_areChoices 250 = .ok (.iconst 0, 1) := by decide +kernel
theorem dL_areChoices_251 : decode cL_areChoices 251 = .ok (.ireturn, 1) := by decide +kernel
set_option maxRecDepth 20000 in
theorem ggL_isImproved_L_cost : GoodIn wsL_isImproved wsL_cost := goodIn_r _ [12, 13, 14, 15, 16, 17, 11, 18, 1, 19, 20, 3, 4, 5, 6, 21, 22, 23, 24, 2, 25, 26, 27, 28, 29, 30, 31, 32, 253, 254, 255, 256, 257, 258, 259, 260, 261, 262, 263, 264, 265, 266, 267, 268, 269] (by decide +kernel) (by decide +kernel)
set_option maxRecDepth 20000 in
theorem gL_isImproved_L_cost : GoodIn wsL_isImproved (wsV RL 141 RL yL_cost wsL_cost) := goodIn_app (goodIn_of _ (by decide +kernel)) ggL_isImproved_L_cost
set_option maxRecDepth 20000 in
theorem ggL_isImproved_L_isGood : GoodIn wsL_isImproved wsL_isGood := goodIn_r _ [36, 13, 14, 37, 38, 39, 11, 40, 1, 2, 25, 20, 19, 41, 42, 43, 21, 22, 23, 24, 26, 27, 28, 29, 30, 31, 32, 253, 254, 255, 256, 257, 258, 259, 260, 261, 262, 263, 264, 265, 266, 267, 268, 269] (by decide +kernel) (by decide +kernel)
set_option maxRecDepth 20000 in
theorem gL_isImproved_L_isGood : GoodIn wsL_isImproved (wsV RL 117 RL yL_isGood wsL_isGood) := goodIn_app (goodIn_of _ (by decide +kernel)) ggL_isImproved_L_isGood
set_option maxRecDepth 20000 in
theorem ggL_isImproved_X11_checksum : GoodIn wsL_isImproved wsX11_checksum := goodIn_r _ [48, 49, 50, 51, 52, 53, 54, 55, 56, 57, 58, 59, 60, 270, 271, 272, 273, 274, 275, 276, 277, 278, 279, 280, 281, 282] (by decide +kernel) (by decide +kernel)
set_option maxRecDepth 20000 in
theorem gL_isImproved_X11_checksum : GoodIn wsL_isImproved (wsV RL 126 RX11 yX11_checksum wsX11_checksum) := goodIn_app (goodIn_of _ (by decide +kernel)) ggL_isImproved_X11_checksum
set_option maxRecDepth 20000 in
theorem ggL_isImproved_X11_improve : GoodIn wsL_isImproved wsX11_improve := goodIn_ca (goodIn_r _ [64, 65, 49, 66, 67, 68, 69, 70, 47, 71, 72, 73, 51, 52, 53, 54, 55, 56, 74, 75, 76, 77, 78, 79, 80, 81, 82, 83, 84, 85, 86, 87, 88, 89, 90, 91, 92, 58, 59, 60, 93, 94, 95, 96, 97, 98, 99, 100, 101, 102, 103, 104, 105, 106, 107, 108, 109, 110, 111, 112, 113, 114, 115, 116, 117, 118, 119, 120, 121, 122, 123, 124, 125, 126, 127, 128, 129, 130, 131, 132, 133, 134, 135, 136, 137, 138, 139, 140, 141, 142, 143, 144, 145, 146, 147, 148, 149, 150, 151, 152, 153, 154, 155, 156, 157, 158, 159, 160, 161, 162, 163, 164, 165, 166, 167, 168, 169, 170, 171, 172, 173, 174, 175, 176, 177, 178, 179, 180, 181, 182, 183, 184, 185, 186, 187, 188, 189, 190, 191, 192, 193, 194, 195, 196, 197, 198, 199, 200, 201, 202, 203, 204, 205, 206, 207, 208, 209, 210, 211, 212, 213, 214, 215, 216, 217, 218, 219, 220, 221, 4, 5, 6, 222, 223, 224, 225, 226, 227, 228, 229, 230, 231, 232, 233, 270, 271, 272, 273, 274, 275, 276, 277, 278, 279, 280, 283, 284, 285, 281, 282, 286, 287, 288, 289, 290, 291, 292, 293, 294, 295, 296, 297, 298, 299, 300, 301, 302, 303, 304, 305, 306, 307, 308] (by decide +kernel) (by decide +kernel)) (goodIn_sub (fun _ h => List.mem_cons_of_mem _ (List.mem_append_left _ (List.mem_append_right _ h))) (by decide +kernel))
set_option maxRecDepth 20000 in
theorem gL_isImproved_X11_improve : GoodIn wsL_isImproved (wsV RL 169 RX11 yX11_improve wsX11_improve) := goodIn_app (goodIn_of _ (by decide +kernel)) ggL_isImproved_X11_improve
set_option maxRecDepth 20000 in
theorem ggL_isImproved_L_looks : GoodIn wsL_isImproved wsL_looks := goodIn_ca (goodIn_ca (goodIn_r _ [237, 1, 2, 7, 238, 239, 240, 47, 241, 49, 50, 242, 243, 244, 245, 246, 247, 57, 58, 59, 54, 60, 56, 68, 69, 70, 71, 72, 73, 51, 52, 53, 55, 253, 254, 255, 256, 257, 258, 259, 260, 261, 262, 263, 264, 265, 266, 267, 268, 269, 270, 271, 272, 273, 274, 275, 276, 277, 278, 279, 280, 281, 282] (by decide +kernel) (by decide +kernel)) (goodIn_sub (fun _ h => List.mem_cons_of_mem _ (List.mem_append_right _ h)) (by decide +kernel))) (goodIn_sub (fun _ h => List.mem_cons_of_mem _ (List.mem_append_left _ (List.mem_append_right _ h))) (by decide +kernel))
set_option maxRecDepth 20000 in
theorem gL_isImproved_L_looks : GoodIn wsL_isImproved (wsV RL 132 RL yL_looks wsL_looks) := goodIn_app (goodIn_of _ (by decide +kernel)) ggL_isImproved_L_looks
set_option maxRecDepth 20000 in
theorem ggL_isImproved_X11_cost : GoodIn wsL_isImproved wsX11_cost := goodIn_ca (goodIn_r _ [251, 66, 49, 50, 68, 69, 70, 47, 71, 72, 73, 51, 52, 53, 54, 55, 56, 252, 145, 146, 134, 147, 148, 149, 150, 151, 152, 58, 59, 60, 153, 128, 129, 130, 154, 155, 156, 157, 158, 159, 160, 161, 162, 163, 164, 165, 166, 167, 168, 169, 170, 171, 172, 173, 174, 175, 79, 80, 81, 176, 83, 84, 85, 177, 178, 179, 180, 82, 181, 270, 271, 272, 273, 274, 275, 276, 277, 278, 279, 280, 281, 282] (by decide +kernel) (by decide +kernel)) (goodIn_sub (fun _ h => List.mem_cons_of_mem _ (List.mem_append_left _ (List.mem_append_right _ h))) (by decide +kernel))
set_option maxRecDepth 20000 in
theorem gL_isImproved_X11_cost : GoodIn wsL_isImproved (wsV RL 138 RX11 yX11_cost wsX11_cost) := goodIn_app (goodIn_of _ (by decide +kernel)) ggL_isImproved_X11_cost
theorem dL_isImproved_0 : decode cL_isImproved 0 = .ok (.iconst 0, 1) := by decide +kernel
theorem dL_isImproved_1 : decode cL_isImproved 1 = .ok (.istore_n 1, 1) := by decide +kernel
theorem dL_isImproved_2 : decode cL_isImproved 2 = .ok (.iload_n 1, 1) := by decide +kernel
theorem dL_isImproved_3 : decode cL_isImproved 3 = .ok (.bipush 6, 2) := by decide +kernel
theorem dL_isImproved_5 : decode cL_isImproved 5 = .ok (.if_icmp .ge 253, 3) := by decide +kernel
theorem dL_isImproved_8 : decode cL_isImproved 8 = .ok (.aload_n 0, 1) := by decide +kernel
theorem dL_isImproved_9 : decode cL_isImproved 9 = .ok (.invokevirtual 141, 3) := by decide +kernel
theorem dL_isImproved_12 : decode cL_isImproved 12 = .ok (.istore_n 2, 1) := by decide +kernel
theorem dL_isImproved_13 : decode cL_isImproved 13 = .ok (.iload_n 2, 1) := by decide +kernel
theorem dL_isImproved_14 : decode cL_isImproved 14 = .ok (.istore_n 3, 1) := by decide +kernel
theorem dL_isImproved_15 : decode cL_isImproved 15 = .ok (.iconst 0, 1) := by decide +kernel
theorem dL_isImproved_16 : decode cL_isImproved 16 = .ok (.istore 4, 2) := by decide +kernel
theorem dL_isImproved_18 : decode cL_isImproved 18 = .ok (.iload 4, 2) := by decide +kernel
theorem dL_isImproved_20 : decode cL_isImproved 20 = .ok (.aload_n 0, 1) := by decide +kernel
theorem dL_isImproved_21 : decode cL_isImproved 21 = .ok (.getfield 66, 3) := by decide +kernel
theorem dL_isImproved_24 : decode cL_isImproved 24 = .ok (.if_icmp .ge 145, 3) := by decide +kernel
theorem dL_isImproved_27 : decode cL_isImproved 27 = .ok (.aload_n 0, 1) := by decide +kernel
theorem dL_isImproved_28 : decode cL_isImproved 28 = .ok (.getfield 32, 3) := by decide +kernel
theorem dL_isImproved_31 : decode cL_isImproved 31 = .ok (.iload 4, 2) := by decide +kernel
theorem dL_isImproved_33 : decode cL_isImproved 33 = .ok (.iaload, 1) := by decide +kernel
theorem dL_isImproved_34 : decode cL_isImproved 34 = .ok (.istore 5, 2) := by decide +kernel
theorem dL_isImproved_36 : decode cL_isImproved 36 = .ok (.iconst 0, 1) := by decide +kernel
theorem dL_isImproved_37 : decode cL_isImproved 37 = .ok (.istore 6, 2) := by decide +kernel
theorem dL_isImproved_39 : decode cL_isImproved 39 = .ok (.iload 6, 2) := by decide +kernel
theorem dL_isImproved_41 : decode cL_isImproved 41 = .ok (.bipush 20, 2) := by decide +kernel
theorem dL_isImproved_43 : decode cL_isImproved 43 = .ok (.if_icmp .ge 34, 3) := by decide +kernel
theorem dL_isImproved_46 : decode cL_isImproved 46 = .ok (.aload_n 0, 1) := by decide +kernel
theorem dL_isImproved_47 : decode cL_isImproved 47 = .ok (.getfield 32, 3) := by decide +kernel
theorem dL_isImproved_50 : decode cL_isImproved 50 = .ok (.iload 4, 2) := by decide +kernel
theorem dL_isImproved_52 : decode cL_isImproved 52 = .ok (.iload 6, 2) := by decide +kernel
theorem dL_isImproved_54 : decode cL_isImproved 54 = .ok (.iastore, 1) := by decide +kernel
theorem dL_isImproved_55 : decode cL_isImproved 55 = .ok (.aload_n 0, 1) := by decide +kernel
theorem dL_isImproved_56 : decode cL_isImproved 56 = .ok (.invokevirtual 117, 3) := by decide +kernel
theorem dL_isImproved_59 : decode cL_isImproved 59 = .ok (.ifCond .eq 12, 3) := by decide +kernel
theorem dL_isImproved_62 : decode cL_isImproved 62 = .ok (.iload_n 3, 1) := by decide +kernel
theorem dL_isImproved_63 : decode cL_isImproved 63 = .ok (.aload_n 0, 1) := by decide +kernel
theorem dL_isImproved_64 : decode cL_isImproved 64 = .ok (.invokevirtual 141, 3) := by decide +kernel
theorem dL_isImproved_67 : decode cL_isImproved 67 = .ok (.invokestatic 105, 3) := by decide +kernel
theorem dL_isImproved_70 : decode cL_isImproved 70 = .ok (.istore_n 3, 1) := by decide +kernel
theorem dL_isImproved_71 : decode cL_isImproved 71 = .ok (.iinc 6 1, 3) := by decide +kernel
theorem dL_isImproved_74 : decode cL_isImproved 74 = .ok (.goto (-35), 3) := by decide +kernel
theorem dL_isImproved_77 : decode cL_isImproved 77 = .ok (.aload_n 0, 1) := by decide +kernel
theorem dL_isImproved_78 : decode cL_isImproved 78 = .ok (.getfield 32, 3) := by decide +kernel
theorem dL_isImproved_81 : decode cL_isImproved 81 = .ok (.iload 4, 2) := by decide +kernel
theorem dL_isImproved_83 : decode cL_isImproved 83 = .ok (.iload 5, 2) := by decide +kernel
theorem dL_isImproved_85 : decode cL_isImproved 85 = .ok (.iastore, 1) := by decide +kernel
theorem dL_isImproved_86 : decode cL_isImproved 86 = .ok (.iconst 0, 1) := by decide +kernel
theorem dL_isImproved_87 : decode cL_isImproved 87 = .ok (.istore 6, 2) := by decide +kernel
theorem dL_isImproved_89 : decode cL_isImproved 89 = .ok (.iload 6, 2) := by decide +kernel
theorem dL_isImproved_91 : decode cL_isImproved 91 = .ok (.iload 4, 2) := by decide +kernel
theorem dL_isImproved_93 : decode cL_isImproved 93 = .ok (.if_icmp .ge 70, 3) := by decide +kernel
theorem dL_isImproved_96 : decode cL_isImproved 96 = .ok (.aload_n 0, 1) := by decide +kernel
theorem dL_isImproved_97 : decode cL_isImproved 97 = .ok (.getfield 32, 3) := by decide +kernel
theorem dL_isImproved_100 : decode cL_isImproved 100 = .ok (.iload 6, 2) := by decide +kernel
theorem dL_isImproved_102 : decode cL_isImproved 102 = .ok (.iaload, 1) := by decide +kernel
theorem dL_isImproved_103 : decode cL_isImproved 103 = .ok (.istore 7, 2) := by decide +kernel
theorem dL_isImproved_105 : decode cL_isImproved 105 = .ok (.aload_n 0, 1) := by decide +kernel
theorem dL_isImproved_106 : decode cL_isImproved 106 = .ok (.getfield 32, 3) := by decide +kernel
theorem dL_isImproved_109 : decode cL_isImproved 109 = .ok (.iload 6, 2) := by decide +kernel
theorem dL_isImproved_111 : decode cL_isImproved 111 = .ok (.iload 5, 2) := by decide +kernel
theorem dL_isImproved_113 : decode cL_isImproved 113 = .ok (.iastore, 1) := by decide +kernel
theorem dL_isImproved_114 : decode cL_isImproved 114 = .ok (.aload_n 0, 1) := by decide +kernel
theorem dL_isImproved_115 : decode cL_isImproved 115 = .ok (.getfield 32, 3) := by decide +kernel
theorem dL_isImproved_118 : decode cL_isImproved 118 = .ok (.iload 4, 2) := by decide +kernel
theorem dL_isImproved_120 : decode cL_isImproved 120 = .ok (.iload 7, 2) := by decide +kernel
theorem dL_isImproved_122 : decode cL_isImproved 122 = .ok (.iastore, 1) := by decide +kernel
theorem dL_isImproved_123 : decode cL_isImproved 123 = .ok (.aload_n 0, 1) := by decide +kernel
theorem dL_isImproved_124 : decode cL_isImproved 124 = .ok (.invokevirtual 117, 3) := by decide +kernel
theorem dL_isImproved_127 : decode cL_isImproved 127 = .ok (.ifCond .eq 12, 3) := by decide +kernel
theorem dL_isImproved_130 : decode cL_isImproved 130 = .ok (.iload_n 3, 1) := by decide +kernel
theorem dL_isImproved_131 : decode cL_isImproved 131 = .ok (.aload_n 0, 1) := by decide +kernel
theorem dL_isImproved_132 : decode cL_isImproved 132 = .ok (.invokevirtual 141, 3) := by decide +kernel
theorem dL_isImproved_135 : decode cL_isImproved 135 = .ok (.invokestatic 105, 3) := by decide +kernel
theorem dL_isImproved_138 : decode cL_isImproved 138 = .ok (.istore_n 3, 1) := by decide +kernel
theorem dL_isImproved_139 : decode cL_isImproved 139 = .ok (.aload_n 0, 1) := by decide +kernel
theorem dL_isImproved_140 : decode cL_isImproved 140 = .ok (.getfield 32, 3) := by decide +kernel
theorem dL_isImproved_143 : decode cL_isImproved 143 = .ok (.iload 6, 2) := by decide +kernel
theorem dL_isImproved_145 : decode cL_isImproved 145 = .ok (.iload 7, 2) := by decide +kernel
theorem dL_isImproved_147 : decode cL_isImproved 147 = .ok (.iastore, 1) := by decide +kernel
theorem dL_isImproved_148 : decode cL_isImproved 148 = .ok (.aload_n 0, 1) := by decide +kernel
theorem dL_isImproved_149 : decode cL_isImproved 149 = .ok (.getfield 32, 3) := by decide +kernel
theorem dL_isImproved_152 : decode cL_isImproved 152 = .ok (.iload 4, 2) := by decide +kernel
theorem dL_isImproved_154 : decode cL_isImproved 154 = .ok (.iload 5, 2) := by decide +kernel
theorem dL_isImproved_156 : decode cL_isImproved 156 = .ok (.iastore, 1) := by decide +kernel
theorem dL_isImproved_157 : decode cL_isImproved 157 = .ok (.iinc 6 1, 3) := by decide +kernel
theorem dL_isImproved_160 : decode cL_isImproved 160 = .ok (.goto (-71), 3) := by decide +kernel
theorem dL_isImproved_163 : decode cL_isImproved 163 = .ok (.iinc 4 1, 3) := by decide +kernel
theorem dL_isImproved_166 : decode cL_isImproved 166 = .ok (.goto (-148), 3) := by decide +kernel
theorem dL_isImproved_169 : decode cL_isImproved 169 = .ok (.aload_n 0, 1) := by decide +kernel
theorem dL_isImproved_170 : decode cL_isImproved 170 = .ok (.getfield 10, 3) := by decide +kernel
theorem dL_isImproved_173 : decode cL_isImproved 173 = .ok (.invokevirtual 126, 3) := by decide +kernel
theorem dL_isImproved_176 : decode cL_isImproved 176 = .ok (.istore 4, 2) := by decide +kernel
theorem dL_isImproved_178 : decode cL_isImproved 178 = .ok (.aload_n 0, 1) := by decide +kernel
theorem dL_isImproved_179 : decode cL_isImproved 179 = .ok (.getfield 10, 3) := by decide +kernel
theorem dL_isImproved_182 : decode cL_isImproved 182 = .ok (.invokevirtual 169, 3) := by decide +kernel
theorem dL_isImproved_185 : decode cL_isImproved 185 = .ok (.istore 5, 2) := by decide +kernel
theorem dL_isImproved_187 : decode cL_isImproved 187 = .ok (.iload 5, 2) := by decide +kernel
theorem dL_isImproved_189 : decode cL_isImproved 189 = .ok (.iload_n 2, 1) := by decide +kernel
theorem dL_isImproved_190 : decode cL_isImproved 190 = .ok (.iload_n 3, 1) := by decide +kernel
theorem dL_isImproved_191 : decode cL_isImproved 191 = .ok (.isub, 1) := by decide +kernel
theorem dL_isImproved_192 : decode cL_isImproved 192 = .ok (.if_icmp .eq 5, 3) := by decide +kernel
theorem dL_isImproved_195 : decode cL_isImproved 195 = .ok (.iconst 0, 1) := by decide +kernel
theorem dL_isImproved_196 : decode cL_isImproved 196 = .ok (.ireturn, 1) := by decide +kernel
theorem dL_isImproved_197 : decode cL_isImproved 197 = .ok (.aload_n 0, 1) := by decide +kernel
theorem dL_isImproved_198 : decode cL_isImproved 198 = .ok (.invokevirtual 132, 3) := by decide +kernel
theorem dL_isImproved_201 : decode cL_isImproved 201 = .ok (.aload_n 0, 1) := by decide +kernel
theorem dL_isImproved_202 : decode cL_isImproved 202 = .ok (.invokevirtual 117, 3) := by decide +kernel
theorem dL_isImproved_205 : decode cL_isImproved 205 = .ok (.ifCond .eq 22, 3) := by decide +kernel
theorem dL_isImproved_208 : decode cL_isImproved 208 = .ok (.aload_n 0, 1) := by decide +kernel
theorem dL_isImproved_209 : decode cL_isImproved 209 = .ok (.invokevirtual 141, 3) := by decide +kernel
theorem dL_isImproved_212 : decode cL_isImproved 212 = .ok (.iload_n 3, 1) := by decide +kernel
theorem dL_isImproved_213 : decode cL_isImproved 213 = .ok (.if_icmp .ne 14, 3) := by decide +kernel
theorem dL_isImproved_216 : decode cL_isImproved 216 = .ok (.aload_n 0, 1) := by decide +kernel
theorem dL_isImproved_217 : decode cL_isImproved 217 = .ok (.getfield 10, 3) := by decide +kernel
theorem dL_isImproved_220 : decode cL_isImproved 220 = .ok (.invokevirtual 138, 3) := by decide +kernel
theorem dL_isImproved_223 : decode cL_isImproved 223 = .ok (.iload_n 3, 1) := by decide +kernel
theorem dL_isImproved_224 : decode cL_isImproved 224 = .ok (.if_icmp .eq 5, 3) := by decide +kernel
theorem dL_isImproved_227 : decode cL_isImproved 227 = .ok (.iconst 0, 1) := by decide +kernel
theorem dL_isImproved_228 : decode cL_isImproved 228 = .ok (.ireturn, 1) := by decide +kernel
theorem dL_isImproved_229 : decode cL_isImproved 229 = .ok (.iload 5, 2) := by decide +kernel
theorem dL_isImproved_231 : decode cL_isImproved 231 = .ok (.ifCond .ne 21, 3) := by decide +kernel
theorem dL_isImproved_234 : decode cL_isImproved 234 = .ok (.aload_n 0, 1) := by decide +kernel
theorem dL_isImproved_235 : decode cL_isImproved 235 = .ok (.getfield 10, 3) := by decide +kernel
theorem dL_isImproved_238 : decode cL_isImproved 238 = .ok (.invokevirtual 126, 3) := by decide +kernel
theorem dL_isImproved_241 : decode cL_isImproved 241 = .ok (.iload 4, 2) := by decide +kernel
theorem dL_isImproved_243 : decode cL_isImproved 243 = .ok (.if_icmp .ne 7, 3) := by decide +kernel
theorem dL_isImproved_246 : decode cL_isImproved 246 = .ok (.iconst 1, 1) := by decide +kernel
theorem dL_isImproved_247 : decode cL_isImproved 247 = .ok (.goto 4, 3) := by decide +kernel
theorem dL_isImproved_250 : decode cL_isImproved 250 = .ok (.iconst 0, 1) := by decide +kernel
theorem dL_isImproved_251 : decode cL_isImproved 251 = .ok (.ireturn, 1) := by decide +kernel
theorem dL_isImproved_252 : decode cL_isImproved 252 = .ok (.iinc 1 1, 3) := by decide +kernel
theorem dL_isImproved_255 : decode cL_isImproved 255 = .ok (.goto (-253), 3) := by decide +kernel
theorem dL_isImproved_258 : decode cL_isImproved 258 = .ok (.iconst 1, 1) := by decide +kernel
theorem dL_isImproved_259 : decode cL_isImproved 259 = .ok (.ireturn, 1) := by decide +kernel
set_option maxRecDepth 20000 in
theorem ggL_isTold_X11_checksum : GoodIn wsL_isTold wsX11_checksum := goodIn_r _ [8, 9, 10, 11, 12, 13, 14, 15, 16, 17, 18, 19, 20, 447, 448, 449, 450, 451, 452, 453, 454, 455, 456, 457, 458, 459] (by decide +kernel) (by decide +kernel)
set_option maxRecDepth 20000 in
theorem gL_isTold_X11_checksum : GoodIn wsL_isTold (wsV RL 126 RX11 yX11_checksum wsX11_checksum) := goodIn_app (goodIn_of _ (by decide +kernel)) ggL_isTold_X11_checksum
set_option maxRecDepth 20000 in
theorem ggL_isTold_X11_write : GoodIn wsL_isTold wsX11_write := goodIn_ca (goodIn_r _ [24, 25, 9, 26, 27, 28, 7, 29, 30, 31, 11, 12, 13, 14, 15, 16, 32, 33, 34, 35, 36, 37, 38, 39, 40, 18, 19, 20, 41, 42, 43, 44, 45, 46, 47, 48, 49, 50, 51, 52, 53, 54, 55, 56, 57, 58, 59, 60, 61, 62, 63, 64, 65, 66, 67, 68, 69, 70, 71, 72, 73, 74, 75, 76, 77, 78, 79, 80, 81, 82, 83, 84, 85, 447, 448, 449, 450, 451, 452, 453, 454, 455, 456, 457, 458, 459, 460, 461, 462, 463, 464, 465, 466, 467] (by decide +kernel) (by decide +kernel)) (goodIn_sub (fun _ h => List.mem_cons_of_mem _ (List.mem_append_left _ (List.mem_append_left _ (List.mem_append_right _ h)))) (by decide +kernel))
set_option maxRecDepth 20000 in
theorem gL_isTold_X11_write : GoodIn wsL_isTold (wsV RL 172 RX11 yX11_write wsX11_write) := goodIn_app (goodIn_of _ (by decide +kernel)) ggL_isTold_X11_write
set_option maxRecDepth 20000 in
theorem ggL_isTold_X11_writtenAt : GoodIn wsL_isTold wsX11_writtenAt := goodIn_ca (goodIn_r _ [89, 90, 91, 25, 92, 93, 447, 448, 449, 450, 451, 452, 453, 454, 455, 456, 457, 460, 461, 462, 463, 464, 465, 466, 467] (by decide +kernel) (by decide +kernel)) (goodIn_sub (fun _ h => List.mem_cons_of_mem _ (List.mem_append_left _ (List.mem_append_right _ h))) (by decide +kernel))
set_option maxRecDepth 20000 in
theorem gL_isTold_X11_writtenAt : GoodIn wsL_isTold (wsV RL 175 RX11 yX11_writtenAt wsX11_writtenAt) := goodIn_app (goodIn_of _ (by decide +kernel)) ggL_isTold_X11_writtenAt
set_option maxRecDepth 20000 in
theorem ggL_isTold_X11_append : GoodIn wsL_isTold wsX11_append := goodIn_ca (goodIn_r _ [97, 30, 31, 25, 98, 99, 100, 101, 35, 102, 103, 104, 105, 106, 107, 108, 447, 448, 449, 450, 451, 452, 453, 454, 455, 456, 457, 460, 461, 462, 463, 464, 465, 466, 467] (by decide +kernel) (by decide +kernel)) (goodIn_sub (fun _ h => List.mem_cons_of_mem _ (List.mem_append_left _ (List.mem_append_left _ (List.mem_append_right _ h)))) (by decide +kernel))
set_option maxRecDepth 20000 in
theorem gL_isTold_X11_append : GoodIn wsL_isTold (wsV RL 179 RX11 yX11_append wsX11_append) := goodIn_app (goodIn_of _ (by decide +kernel)) ggL_isTold_X11_append
set_option maxRecDepth 20000 in
theorem ggL_isTold_X11_read : GoodIn wsL_isTold wsX11_read := goodIn_ca (goodIn_ca (goodIn_r _ [112, 113, 114, 30, 31, 25, 9, 115, 116, 117, 10, 118, 119, 120, 35, 121, 122, 123, 107, 108, 124, 125, 126, 127, 128, 129, 130, 131, 132, 40, 18, 19, 14, 20, 16, 133, 134, 135, 136, 137, 41, 42, 43, 44, 45, 46, 47, 48, 49, 50, 51, 52, 53, 54, 55, 56, 57, 58, 59, 60, 61, 62, 63, 64, 65, 66, 67, 68, 69, 70, 71, 72, 73, 74, 75, 76, 77, 78, 79, 80, 81, 82, 83, 84, 85, 138, 139, 140, 141, 142, 143, 144, 145, 146, 147, 148, 149, 150, 151, 152, 153, 154, 155, 156, 157, 158, 159, 160, 161, 162, 163, 164, 165, 166, 167, 168, 169, 170, 171, 172, 173, 174, 175, 176, 177, 178, 179, 180, 181, 182, 183, 184, 185, 186, 187, 188, 189, 190, 191, 192, 193, 194, 195, 196, 197, 198, 199, 200, 201, 202, 203, 204, 205, 206, 207, 208, 209, 210, 211, 212, 213, 214, 7, 215, 216, 217, 218, 219, 220, 221, 222, 223, 224, 225, 226, 227, 228, 229, 230, 231, 232, 233, 234, 235, 236, 237, 238, 239, 240, 241, 242, 243, 244, 245, 246, 247, 248, 249, 250, 251, 252, 253, 254, 255, 256, 257, 258, 259, 260, 261, 262, 263, 264, 265, 266, 267, 268, 269, 270, 271, 272, 273, 274, 275, 276, 277, 278, 279, 280, 281, 282, 283, 284, 285, 286, 447, 448, 449, 450, 451, 452, 453, 454, 455, 456, 457, 460, 461, 462, 463, 464, 465, 466, 467, 458, 459, 468, 469, 470, 471, 472, 473, 474, 475, 476, 477, 478, 479, 480, 481, 482, 483, 484, 485, 486, 487, 488, 489, 490] (by decide +kernel) (by decide +kernel)) (goodIn_sub (fun _ h => List.mem_cons_of_mem _ (List.mem_append_right _ h)) (by decide +kernel))) (goodIn_sub (fun _ h => List.mem_cons_of_mem _ (List.mem_append_left _ (List.mem_append_left _ (List.mem_append_right _ h)))) (by decide +kernel))
set_option maxRecDepth 20000 in
theorem gL_isTold_X11_read : GoodIn wsL_isTold (wsV RL 183 RX11 yX11_read wsX11_read) := goodIn_app (goodIn_of _ (by decide +kernel)) ggL_isTold_X11_read
set_option maxRecDepth 20000 in
theorem ggL_isTold_L_cost : GoodIn wsL_isTold wsL_cost := goodIn_r _ [291, 292, 293, 294, 295, 296, 290, 297, 2, 298, 299, 300, 233, 234, 235, 301, 302, 303, 304, 3, 305, 306, 307, 308, 309, 310, 311, 312, 430, 431, 432, 433, 434, 435, 436, 437, 438, 439, 440, 441, 442, 443, 444, 445, 446] (by decide +kernel) (by decide +kernel)
set_option maxRecDepth 20000 in
theorem gL_isTold_L_cost : GoodIn wsL_isTold (wsV RL 141 RL yL_cost wsL_cost) := goodIn_app (goodIn_of _ (by decide +kernel)) ggL_isTold_L_cost
set_option maxRecDepth 20000 in
theorem ggL_isTold_X11_errorPosition : GoodIn wsL_isTold wsX11_errorPosition := goodIn_r _ [316, 25, 317, 447, 448, 449, 450, 451, 452, 453, 454, 455, 456, 457, 460, 461, 462, 463, 464, 465, 466, 467] (by decide +kernel) (by decide +kernel)
set_option maxRecDepth 20000 in
theorem gL_isTold_X11_errorPosition : GoodIn wsL_isTold (wsV RL 186 RX11 yX11_errorPosition wsX11_errorPosition) := goodIn_app (goodIn_of _ (by decide +kernel)) ggL_isTold_X11_errorPosition
set_option maxRecDepth 20000 in
theorem ggL_isTold_X11_undo : GoodIn wsL_isTold wsX11_undo := goodIn_r _ [321, 216, 322, 217, 9, 236, 237, 238, 239, 240, 241, 323, 324, 325, 221, 326, 225, 231, 224, 223, 226, 227, 228, 229, 230, 447, 448, 449, 450, 451, 452, 453, 454, 455, 456, 457, 480, 481, 482, 483, 484, 485, 486, 487, 488, 489, 490, 458, 459] (by decide +kernel) (by decide +kernel)
set_option maxRecDepth 20000 in
theorem gL_isTold_X11_undo : GoodIn wsL_isTold (wsV RL 189 RX11 yX11_undo wsX11_undo) := goodIn_app (goodIn_of _ (by decide +kernel)) ggL_isTold_X11_undo
set_option maxRecDepth 20000 in
theorem ggL_isTold_L_areTaken : GoodIn wsL_isTold wsL_areTaken := goodIn_ca (goodIn_ca (goodIn_ca (goodIn_r _ [330, 331, 1, 2, 298, 332, 333, 334, 290, 335, 336, 337, 338, 339, 340, 7, 341, 9, 342, 343, 344, 345, 346, 347, 348, 349, 113, 114, 212, 213, 214, 215, 216, 217, 218, 219, 220, 221, 222, 223, 224, 225, 226, 227, 228, 229, 230, 231, 232, 233, 234, 235, 236, 237, 238, 239, 240, 241, 350, 351, 352, 14, 353, 354, 355, 356, 357, 16, 358, 359, 360, 361, 362, 363, 364, 365, 366, 367, 90, 91, 17, 18, 19, 20, 26, 27, 28, 29, 30, 31, 11, 12, 13, 15, 368, 369, 370, 371, 372, 373, 374, 375, 376, 377, 378, 379, 380, 381, 382, 383, 254, 255, 256, 257, 258, 201, 202, 203, 259, 260, 261, 262, 384, 385, 386, 387, 388, 389, 390, 143, 144, 145, 391, 392, 393, 394, 395, 396, 397, 398, 399, 400, 401, 402, 403, 404, 405, 406, 407, 408, 301, 302, 303, 304, 3, 305, 409, 410, 411, 412, 413, 414, 415, 416, 417, 418, 419, 420, 421, 422, 423, 424, 274, 275, 276, 277, 278, 279, 425, 426, 427, 428, 429, 430, 431, 432, 433, 434, 435, 436, 437, 438, 439, 440, 441, 442, 443, 444, 445, 446, 447, 448, 449, 450, 451, 452, 453, 454, 455, 456, 457, 458, 459, 480, 481, 482, 483, 484, 485, 486, 487, 488, 489, 490, 491, 492, 493, 494, 495] (by decide +kernel) (by decide +kernel)) (goodIn_sub (fun _ h => List.mem_cons_of_mem _ (List.mem_append_right _ h)) (by decide +kernel))) (goodIn_sub (fun _ h => List.mem_cons_of_mem _ (List.mem_append_left _ (List.mem_append_right _ h))) (by decide +kernel))) (goodIn_sub (fun _ h => List.mem_cons_of_mem _ (List.mem_append_left _ (List.mem_append_left _ (List.mem_append_right _ h)))) (by decide +kernel))
set_option maxRecDepth 20000 in
theorem gL_isTold_L_areTaken : GoodIn wsL_isTold (wsV RL 192 RL yL_areTaken wsL_areTaken) := goodIn_app (goodIn_of _ (by decide +kernel)) ggL_isTold_L_areTaken
theorem dL_isTold_0 : decode cL_isTold 0 = .ok (.aload_n 0, 1) := by decide +kernel
theorem dL_isTold_1 : decode cL_isTold 1 = .ok (.getfield 10, 3) := by decide +kernel
theorem dL_isTold_4 : decode cL_isTold 4 = .ok (.invokevirtual 126, 3) := by decide +kernel
theorem dL_isTold_7 : decode cL_isTold 7 = .ok (.istore_n 1, 1) := by decide +kernel
theorem dL_isTold_8 : decode cL_isTold 8 = .ok (.aload_n 0, 1) := by decide +kernel
theorem dL_isTold_9 : decode cL_isTold 9 = .ok (.getfield 10, 3) := by decide +kernel
theorem dL_isTold_12 : decode cL_isTold 12 = .ok (.invokevirtual 172, 3) := by decide +kernel
theorem dL_isTold_15 : decode cL_isTold 15 = .ok (.istore_n 2, 1) := by decide +kernel
theorem dL_isTold_16 : decode cL_isTold 16 = .ok (.iload_n 2, 1) := by decide +kernel
theorem dL_isTold_17 : decode cL_isTold 17 = .ok (.iconst 4, 1) := by decide +kernel
theorem dL_isTold_18 : decode cL_isTold 18 = .ok (.aload_n 0, 1) := by decide +kernel
theorem dL_isTold_19 : decode cL_isTold 19 = .ok (.getfield 66, 3) := by decide +kernel
theorem dL_isTold_22 : decode cL_isTold 22 = .ok (.imul, 1) := by decide +kernel
theorem dL_isTold_23 : decode cL_isTold 23 = .ok (.if_icmp .eq 5, 3) := by decide +kernel
theorem dL_isTold_26 : decode cL_isTold 26 = .ok (.iconst 0, 1) := by decide +kernel
theorem dL_isTold_27 : decode cL_isTold 27 = .ok (.ireturn, 1) := by decide +kernel
theorem dL_isTold_28 : decode cL_isTold 28 = .ok (.iconst 0, 1) := by decide +kernel
theorem dL_isTold_29 : decode cL_isTold 29 = .ok (.istore_n 3, 1) := by decide +kernel
theorem dL_isTold_30 : decode cL_isTold 30 = .ok (.iload_n 3, 1) := by decide +kernel
theorem dL_isTold_31 : decode cL_isTold 31 = .ok (.iload_n 2, 1) := by decide +kernel
theorem dL_isTold_32 : decode cL_isTold 32 = .ok (.if_icmp .ge 46, 3) := by decide +kernel
theorem dL_isTold_35 : decode cL_isTold 35 = .ok (.aload_n 0, 1) := by decide +kernel
theorem dL_isTold_36 : decode cL_isTold 36 = .ok (.getfield 10, 3) := by decide +kernel
theorem dL_isTold_39 : decode cL_isTold 39 = .ok (.aload_n 0, 1) := by decide +kernel
theorem dL_isTold_40 : decode cL_isTold 40 = .ok (.getfield 10, 3) := by decide +kernel
theorem dL_isTold_43 : decode cL_isTold 43 = .ok (.iload_n 3, 1) := by decide +kernel
theorem dL_isTold_44 : decode cL_isTold 44 = .ok (.invokevirtual 175, 3) := by decide +kernel
theorem dL_isTold_47 : decode cL_isTold 47 = .ok (.iload_n 3, 1) := by decide +kernel
theorem dL_isTold_48 : decode cL_isTold 48 = .ok (.iconst 4, 1) := by decide +kernel
theorem dL_isTold_49 : decode cL_isTold 49 = .ok (.irem, 1) := by decide +kernel
theorem dL_isTold_50 : decode cL_isTold 50 = .ok (.iconst 3, 1) := by decide +kernel
theorem dL_isTold_51 : decode cL_isTold 51 = .ok (.if_icmp .ne 8, 3) := by decide +kernel
theorem dL_isTold_54 : decode cL_isTold 54 = .ok (.bipush 32, 2) := by decide +kernel
theorem dL_isTold_56 : decode cL_isTold 56 = .ok (.goto 4, 3) := by decide +kernel
theorem dL_isTold_59 : decode cL_isTold 59 = .ok (.iconst 0, 1) := by decide +kernel
theorem dL_isTold_60 : decode cL_isTold 60 = .ok (.iconst 0, 1) := by decide +kernel
theorem dL_isTold_61 : decode cL_isTold 61 = .ok (.iconst 0, 1) := by decide +kernel
theorem dL_isTold_62 : decode cL_isTold 62 = .ok (.iconst 0, 1) := by decide +kernel
theorem dL_isTold_63 : decode cL_isTold 63 = .ok (.invokevirtual 179, 3) := by decide +kernel
theorem dL_isTold_66 : decode cL_isTold 66 = .ok (.iconst 1, 1) := by decide +kernel
theorem dL_isTold_67 : decode cL_isTold 67 = .ok (.if_icmp .ge 5, 3) := by decide +kernel
theorem dL_isTold_70 : decode cL_isTold 70 = .ok (.iconst 0, 1) := by decide +kernel
theorem dL_isTold_71 : decode cL_isTold 71 = .ok (.ireturn, 1) := by decide +kernel
theorem dL_isTold_72 : decode cL_isTold 72 = .ok (.iinc 3 1, 3) := by decide +kernel
theorem dL_isTold_75 : decode cL_isTold 75 = .ok (.goto (-45), 3) := by decide +kernel
theorem dL_isTold_78 : decode cL_isTold 78 = .ok (.aload_n 0, 1) := by decide +kernel
theorem dL_isTold_79 : decode cL_isTold 79 = .ok (.getfield 10, 3) := by decide +kernel
theorem dL_isTold_82 : decode cL_isTold 82 = .ok (.invokevirtual 183, 3) := by decide +kernel
theorem dL_isTold_85 : decode cL_isTold 85 = .ok (.aload_n 0, 1) := by decide +kernel
theorem dL_isTold_86 : decode cL_isTold 86 = .ok (.invokevirtual 141, 3) := by decide +kernel
theorem dL_isTold_89 : decode cL_isTold 89 = .ok (.if_icmp .ne 46, 3) := by decide +kernel
theorem dL_isTold_92 : decode cL_isTold 92 = .ok (.aload_n 0, 1) := by decide +kernel
theorem dL_isTold_93 : decode cL_isTold 93 = .ok (.getfield 10, 3) := by decide +kernel
theorem dL_isTold_96 : decode cL_isTold 96 = .ok (.invokevirtual 126, 3) := by decide +kernel
theorem dL_isTold_99 : decode cL_isTold 99 = .ok (.iload_n 1, 1) := by decide +kernel
theorem dL_isTold_100 : decode cL_isTold 100 = .ok (.if_icmp .ne 35, 3) := by decide +kernel
theorem dL_isTold_103 : decode cL_isTold 103 = .ok (.aload_n 0, 1) := by decide +kernel
theorem dL_isTold_104 : decode cL_isTold 104 = .ok (.getfield 10, 3) := by decide +kernel
theorem dL_isTold_107 : decode cL_isTold 107 = .ok (.invokevirtual 186, 3) := by decide +kernel
theorem dL_isTold_110 : decode cL_isTold 110 = .ok (.iconst (-1), 1) := by decide +kernel
theorem dL_isTold_111 : decode cL_isTold 111 = .ok (.if_icmp .ne 24, 3) := by decide +kernel
theorem dL_isTold_114 : decode cL_isTold 114 = .ok (.aload_n 0, 1) := by decide +kernel
theorem dL_isTold_115 : decode cL_isTold 115 = .ok (.getfield 10, 3) := by decide +kernel
theorem dL_isTold_118 : decode cL_isTold 118 = .ok (.invokevirtual 189, 3) := by decide +kernel
theorem dL_isTold_121 : decode cL_isTold 121 = .ok (.ifCond .lt 14, 3) := by decide +kernel
theorem dL_isTold_124 : decode cL_isTold 124 = .ok (.aload_n 0, 1) := by decide +kernel
theorem dL_isTold_125 : decode cL_isTold 125 = .ok (.getfield 10, 3) := by decide +kernel
theorem dL_isTold_128 : decode cL_isTold 128 = .ok (.invokevirtual 126, 3) := by decide +kernel
theorem dL_isTold_131 : decode cL_isTold 131 = .ok (.iload_n 1, 1) := by decide +kernel
theorem dL_isTold_132 : decode cL_isTold 132 = .ok (.if_icmp .eq 5, 3) := by decide +kernel
theorem dL_isTold_135 : decode cL_isTold 135 = .ok (.iconst 0, 1) := by decide +kernel
theorem dL_isTold_136 : decode cL_isTold 136 = .ok (.ireturn, 1) := by decide +kernel
theorem dL_isTold_137 : decode cL_isTold 137 = .ok (.bipush 17, 2) := by decide +kernel
theorem dL_isTold_139 : decode cL_isTold 139 = .ok (.istore_n 3, 1) := by decide +kernel
theorem dL_isTold_140 : decode cL_isTold 140 = .ok (.iconst 0, 1) := by decide +kernel
theorem dL_isTold_141 : decode cL_isTold 141 = .ok (.istore 4, 2) := by decide +kernel
theorem dL_isTold_143 : decode cL_isTold 143 = .ok (.iload 4, 2) := by decide +kernel
theorem dL_isTold_145 : decode cL_isTold 145 = .ok (.aload_n 0, 1) := by decide +kernel
theorem dL_isTold_146 : decode cL_isTold 146 = .ok (.getfield 66, 3) := by decide +kernel
theorem dL_isTold_149 : decode cL_isTold 149 = .ok (.if_icmp .ge 22, 3) := by decide +kernel
theorem dL_isTold_152 : decode cL_isTold 152 = .ok (.bipush 31, 2) := by decide +kernel
theorem dL_isTold_154 : decode cL_isTold 154 = .ok (.iload_n 3, 1) := by decide +kernel
theorem dL_isTold_155 : decode cL_isTold 155 = .ok (.imul, 1) := by decide +kernel
theorem dL_isTold_156 : decode cL_isTold 156 = .ok (.aload_n 0, 1) := by decide +kernel
theorem dL_isTold_157 : decode cL_isTold 157 = .ok (.getfield 32, 3) := by decide +kernel
theorem dL_isTold_160 : decode cL_isTold 160 = .ok (.iload 4, 2) := by decide +kernel
theorem dL_isTold_162 : decode cL_isTold 162 = .ok (.iaload, 1) := by decide +kernel
theorem dL_isTold_163 : decode cL_isTold 163 = .ok (.iadd, 1) := by decide +kernel
theorem dL_isTold_164 : decode cL_isTold 164 = .ok (.istore_n 3, 1) := by decide +kernel
theorem dL_isTold_165 : decode cL_isTold 165 = .ok (.iinc 4 1, 3) := by decide +kernel
theorem dL_isTold_168 : decode cL_isTold 168 = .ok (.goto (-25), 3) := by decide +kernel
theorem dL_isTold_171 : decode cL_isTold 171 = .ok (.iload_n 3, 1) := by decide +kernel
theorem dL_isTold_172 : decode cL_isTold 172 = .ok (.iload_n 1, 1) := by decide +kernel
theorem dL_isTold_173 : decode cL_isTold 173 = .ok (.if_icmp .ne 14, 3) := by decide +kernel
theorem dL_isTold_176 : decode cL_isTold 176 = .ok (.aload_n 0, 1) := by decide +kernel
theorem dL_isTold_177 : decode cL_isTold 177 = .ok (.invokevirtual 192, 3) := by decide +kernel
theorem dL_isTold_180 : decode cL_isTold 180 = .ok (.ifCond .eq 7, 3) := by decide +kernel
theorem dL_isTold_183 : decode cL_isTold 183 = .ok (.iconst 1, 1) := by decide +kernel
theorem dL_isTold_184 : decode cL_isTold 184 = .ok (.goto 4, 3) := by decide +kernel
theorem dL_isTold_187 : decode cL_isTold 187 = .ok (.iconst 0, 1) := by decide +kernel
theorem dL_isTold_188 : decode cL_isTold 188 = .ok (.ireturn, 1) := by decide +kernel
set_option maxRecDepth 20000 in
theorem ggL_canTake_L_isOn : GoodIn wsL_canTake wsL_isOn := goodIn_r _ [8, 9, 10, 11, 12, 13, 14, 15, 16, 17, 18, 19, 20, 21, 22, 23, 24, 25, 26, 27] (by decide +kernel) (by decide +kernel)
set_option maxRecDepth 20000 in
theorem gL_canTake_L_isOn : GoodIn wsL_canTake (wsV RL 93 RL yL_isOn wsL_isOn) := goodIn_app (goodIn_of _ (by decide +kernel)) ggL_canTake_L_isOn
theorem dL_canTake_0 : decode cL_canTake 0 = .ok (.aload_n 0, 1) := by decide +kernel
theorem dL_canTake_1 : decode cL_canTake 1 = .ok (.getfield 50, 3) := by decide +kernel
theorem dL_canTake_4 : decode cL_canTake 4 = .ok (.iconst 5, 1) := by decide +kernel
theorem dL_canTake_5 : decode cL_canTake 5 = .ok (.iload_n 1, 1) := by decide +kernel
theorem dL_canTake_6 : decode cL_canTake 6 = .ok (.imul, 1) := by decide +kernel
theorem dL_canTake_7 : decode cL_canTake 7 = .ok (.iload_n 2, 1) := by decide +kernel
theorem dL_canTake_8 : decode cL_canTake 8 = .ok (.iconst 4, 1) := by decide +kernel
theorem dL_canTake_9 : decode cL_canTake 9 = .ok (.idiv, 1) := by decide +kernel
theorem dL_canTake_10 : decode cL_canTake 10 = .ok (.iadd, 1) := by decide +kernel
theorem dL_canTake_11 : decode cL_canTake 11 = .ok (.baload, 1) := by decide +kernel
theorem dL_canTake_12 : decode cL_canTake 12 = .ok (.ifCond .eq 5, 3) := by decide +kernel
theorem dL_canTake_15 : decode cL_canTake 15 = .ok (.iconst 0, 1) := by decide +kernel
theorem dL_canTake_16 : decode cL_canTake 16 = .ok (.ireturn, 1) := by decide +kernel
theorem dL_canTake_17 : decode cL_canTake 17 = .ok (.iconst 0, 1) := by decide +kernel
theorem dL_canTake_18 : decode cL_canTake 18 = .ok (.istore_n 3, 1) := by decide +kernel
theorem dL_canTake_19 : decode cL_canTake 19 = .ok (.iload_n 3, 1) := by decide +kernel
theorem dL_canTake_20 : decode cL_canTake 20 = .ok (.aload_n 0, 1) := by decide +kernel
theorem dL_canTake_21 : decode cL_canTake 21 = .ok (.getfield 66, 3) := by decide +kernel
theorem dL_canTake_24 : decode cL_canTake 24 = .ok (.if_icmp .ge 30, 3) := by decide +kernel
theorem dL_canTake_27 : decode cL_canTake 27 = .ok (.aload_n 0, 1) := by decide +kernel
theorem dL_canTake_28 : decode cL_canTake 28 = .ok (.getfield 20, 3) := by decide +kernel
theorem dL_canTake_31 : decode cL_canTake 31 = .ok (.iload_n 3, 1) := by decide +kernel
theorem dL_canTake_32 : decode cL_canTake 32 = .ok (.iaload, 1) := by decide +kernel
theorem dL_canTake_33 : decode cL_canTake 33 = .ok (.iload_n 1, 1) := by decide +kernel
theorem dL_canTake_34 : decode cL_canTake 34 = .ok (.if_icmp .ne 14, 3) := by decide +kernel
theorem dL_canTake_37 : decode cL_canTake 37 = .ok (.aload_n 0, 1) := by decide +kernel
theorem dL_canTake_38 : decode cL_canTake 38 = .ok (.iload_n 3, 1) := by decide +kernel
theorem dL_canTake_39 : decode cL_canTake 39 = .ok (.iload_n 2, 1) := by decide +kernel
theorem dL_canTake_40 : decode cL_canTake 40 = .ok (.invokevirtual 93, 3) := by decide +kernel
theorem dL_canTake_43 : decode cL_canTake 43 = .ok (.ifCond .eq 5, 3) := by decide +kernel
theorem dL_canTake_46 : decode cL_canTake 46 = .ok (.iconst 0, 1) := by decide +kernel
theorem dL_canTake_47 : decode cL_canTake 47 = .ok (.ireturn, 1) := by decide +kernel
theorem dL_canTake_48 : decode cL_canTake 48 = .ok (.iinc 3 1, 3) := by decide +kernel
theorem dL_canTake_51 : decode cL_canTake 51 = .ok (.goto (-32), 3) := by decide +kernel
theorem dL_canTake_54 : decode cL_canTake 54 = .ok (.iconst 1, 1) := by decide +kernel
theorem dL_canTake_55 : decode cL_canTake 55 = .ok (.ireturn, 1) := by decide +kernel
set_option maxRecDepth 20000 in
theorem ggL_mostOf_L_mostOf : GoodIn wsL_mostOf wsL_mostOf := goodIn_r _ [0, 1, 2, 3, 4, 5, 6, 7, 8, 9, 10, 11, 12, 13, 14, 15, 16, 17, 18, 19, 20, 21, 22, 23, 24, 25, 26, 27, 28, 29, 30, 31, 32, 33, 34, 35, 36, 37, 38] (by decide +kernel) (by decide +kernel)
set_option maxRecDepth 20000 in
theorem gL_mostOf_L_mostOf : GoodIn wsL_mostOf (wsV RL 195 RL yL_mostOf wsL_mostOf) := goodIn_app (goodIn_of _ (by decide +kernel)) ggL_mostOf_L_mostOf
set_option maxRecDepth 20000 in
theorem ggL_mostOf_L_isOn : GoodIn wsL_mostOf wsL_isOn := goodIn_r _ [15, 16, 17, 22, 23, 24, 25, 26, 27, 28, 29, 30, 31, 32, 33, 34, 35, 36, 37, 38] (by decide +kernel) (by decide +kernel)
set_option maxRecDepth 20000 in
theorem gL_mostOf_L_isOn : GoodIn wsL_mostOf (wsV RL 93 RL yL_isOn wsL_isOn) := goodIn_app (goodIn_of _ (by decide +kernel)) ggL_mostOf_L_isOn
set_option maxRecDepth 20000 in
theorem ggL_mostOf_L_canTake : GoodIn wsL_mostOf wsL_canTake := goodIn_r _ [21, 2, 1, 3, 12, 13, 14, 11, 15, 16, 17, 22, 23, 24, 25, 26, 27, 28, 29, 30, 31, 32, 33, 34, 35, 36, 37, 38] (by decide +kernel) (by decide +kernel)
set_option maxRecDepth 20000 in
theorem gL_mostOf_L_canTake : GoodIn wsL_mostOf (wsV RL 199 RL yL_canTake wsL_canTake) := goodIn_app (goodIn_of _ (by decide +kernel)) ggL_mostOf_L_canTake
theorem dL_mostOf_0 : decode cL_mostOf 0 = .ok (.iload_n 2, 1) := by decide +kernel
theorem dL_mostOf_1 : decode cL_mostOf 1 = .ok (.aload_n 0, 1) := by decide +kernel
theorem dL_mostOf_2 : decode cL_mostOf 2 = .ok (.getfield 66, 3) := by decide +kernel
theorem dL_mostOf_5 : decode cL_mostOf 5 = .ok (.if_icmp .ne 5, 3) := by decide +kernel
theorem dL_mostOf_8 : decode cL_mostOf 8 = .ok (.iconst 0, 1) := by decide +kernel
theorem dL_mostOf_9 : decode cL_mostOf 9 = .ok (.ireturn, 1) := by decide +kernel
theorem dL_mostOf_10 : decode cL_mostOf 10 = .ok (.aload_n 0, 1) := by decide +kernel
theorem dL_mostOf_11 : decode cL_mostOf 11 = .ok (.iload_n 1, 1) := by decide +kernel
theorem dL_mostOf_12 : decode cL_mostOf 12 = .ok (.iload_n 2, 1) := by decide +kernel
theorem dL_mostOf_13 : decode cL_mostOf 13 = .ok (.iconst 1, 1) := by decide +kernel
theorem dL_mostOf_14 : decode cL_mostOf 14 = .ok (.iadd, 1) := by decide +kernel
theorem dL_mostOf_15 : decode cL_mostOf 15 = .ok (.iload_n 3, 1) := by decide +kernel
theorem dL_mostOf_16 : decode cL_mostOf 16 = .ok (.invokevirtual 195, 3) := by decide +kernel
theorem dL_mostOf_19 : decode cL_mostOf 19 = .ok (.istore 4, 2) := by decide +kernel
theorem dL_mostOf_21 : decode cL_mostOf 21 = .ok (.aload_n 0, 1) := by decide +kernel
theorem dL_mostOf_22 : decode cL_mostOf 22 = .ok (.iload_n 2, 1) := by decide +kernel
theorem dL_mostOf_23 : decode cL_mostOf 23 = .ok (.iload_n 1, 1) := by decide +kernel
theorem dL_mostOf_24 : decode cL_mostOf 24 = .ok (.invokevirtual 93, 3) := by decide +kernel
theorem dL_mostOf_27 : decode cL_mostOf 27 = .ok (.ifCond .eq 23, 3) := by decide +kernel
theorem dL_mostOf_30 : decode cL_mostOf 30 = .ok (.aload_n 0, 1) := by decide +kernel
theorem dL_mostOf_31 : decode cL_mostOf 31 = .ok (.getfield 50, 3) := by decide +kernel
theorem dL_mostOf_34 : decode cL_mostOf 34 = .ok (.iconst 5, 1) := by decide +kernel
theorem dL_mostOf_35 : decode cL_mostOf 35 = .ok (.aload_n 0, 1) := by decide +kernel
theorem dL_mostOf_36 : decode cL_mostOf 36 = .ok (.getfield 20, 3) := by decide +kernel
theorem dL_mostOf_39 : decode cL_mostOf 39 = .ok (.iload_n 2, 1) := by decide +kernel
theorem dL_mostOf_40 : decode cL_mostOf 40 = .ok (.iaload, 1) := by decide +kernel
theorem dL_mostOf_41 : decode cL_mostOf 41 = .ok (.imul, 1) := by decide +kernel
theorem dL_mostOf_42 : decode cL_mostOf 42 = .ok (.iload_n 1, 1) := by decide +kernel
theorem dL_mostOf_43 : decode cL_mostOf 43 = .ok (.iconst 4, 1) := by decide +kernel
theorem dL_mostOf_44 : decode cL_mostOf 44 = .ok (.idiv, 1) := by decide +kernel
theorem dL_mostOf_45 : decode cL_mostOf 45 = .ok (.iadd, 1) := by decide +kernel
theorem dL_mostOf_46 : decode cL_mostOf 46 = .ok (.baload, 1) := by decide +kernel
theorem dL_mostOf_47 : decode cL_mostOf 47 = .ok (.ifCond .ne 6, 3) := by decide +kernel
theorem dL_mostOf_50 : decode cL_mostOf 50 = .ok (.iload 4, 2) := by decide +kernel
theorem dL_mostOf_52 : decode cL_mostOf 52 = .ok (.ireturn, 1) := by decide +kernel
theorem dL_mostOf_53 : decode cL_mostOf 53 = .ok (.iconst 0, 1) := by decide +kernel
theorem dL_mostOf_54 : decode cL_mostOf 54 = .ok (.istore 5, 2) := by decide +kernel
theorem dL_mostOf_56 : decode cL_mostOf 56 = .ok (.iload 5, 2) := by decide +kernel
theorem dL_mostOf_58 : decode cL_mostOf 58 = .ok (.bipush 6, 2) := by decide +kernel
theorem dL_mostOf_60 : decode cL_mostOf 60 = .ok (.if_icmp .ge 51, 3) := by decide +kernel
theorem dL_mostOf_63 : decode cL_mostOf 63 = .ok (.iload_n 3, 1) := by decide +kernel
theorem dL_mostOf_64 : decode cL_mostOf 64 = .ok (.iload 5, 2) := by decide +kernel
theorem dL_mostOf_66 : decode cL_mostOf 66 = .ok (.ishr, 1) := by decide +kernel
theorem dL_mostOf_67 : decode cL_mostOf 67 = .ok (.iconst 1, 1) := by decide +kernel
theorem dL_mostOf_68 : decode cL_mostOf 68 = .ok (.iand, 1) := by decide +kernel
theorem dL_mostOf_69 : decode cL_mostOf 69 = .ok (.ifCond .ne 36, 3) := by decide +kernel
theorem dL_mostOf_72 : decode cL_mostOf 72 = .ok (.aload_n 0, 1) := by decide +kernel
theorem dL_mostOf_73 : decode cL_mostOf 73 = .ok (.iload 5, 2) := by decide +kernel
theorem dL_mostOf_75 : decode cL_mostOf 75 = .ok (.iload_n 1, 1) := by decide +kernel
theorem dL_mostOf_76 : decode cL_mostOf 76 = .ok (.invokevirtual 199, 3) := by decide +kernel
theorem dL_mostOf_79 : decode cL_mostOf 79 = .ok (.ifCond .eq 26, 3) := by decide +kernel
theorem dL_mostOf_82 : decode cL_mostOf 82 = .ok (.iload 4, 2) := by decide +kernel
theorem dL_mostOf_84 : decode cL_mostOf 84 = .ok (.iconst 1, 1) := by decide +kernel
theorem dL_mostOf_85 : decode cL_mostOf 85 = .ok (.aload_n 0, 1) := by decide +kernel
theorem dL_mostOf_86 : decode cL_mostOf 86 = .ok (.iload_n 1, 1) := by decide +kernel
theorem dL_mostOf_87 : decode cL_mostOf 87 = .ok (.iload_n 2, 1) := by decide +kernel
theorem dL_mostOf_88 : decode cL_mostOf 88 = .ok (.iconst 1, 1) := by decide +kernel
theorem dL_mostOf_89 : decode cL_mostOf 89 = .ok (.iadd, 1) := by decide +kernel
theorem dL_mostOf_90 : decode cL_mostOf 90 = .ok (.iload_n 3, 1) := by decide +kernel
theorem dL_mostOf_91 : decode cL_mostOf 91 = .ok (.iconst 1, 1) := by decide +kernel
theorem dL_mostOf_92 : decode cL_mostOf 92 = .ok (.iload 5, 2) := by decide +kernel
theorem dL_mostOf_94 : decode cL_mostOf 94 = .ok (.ishl, 1) := by decide +kernel
theorem dL_mostOf_95 : decode cL_mostOf 95 = .ok (.ior, 1) := by decide +kernel
theorem dL_mostOf_96 : decode cL_mostOf 96 = .ok (.invokevirtual 195, 3) := by decide +kernel
theorem dL_mostOf_99 : decode cL_mostOf 99 = .ok (.iadd, 1) := by decide +kernel
theorem dL_mostOf_100 : decode cL_mostOf 100 = .ok (.invokestatic 202, 3) := by decide +kernel
theorem dL_mostOf_103 : decode cL_mostOf 103 = .ok (.istore 4, 2) := by decide +kernel
theorem dL_mostOf_105 : decode cL_mostOf 105 = .ok (.iinc 5 1, 3) := by decide +kernel
theorem dL_mostOf_108 : decode cL_mostOf 108 = .ok (.goto (-52), 3) := by decide +kernel
theorem dL_mostOf_111 : decode cL_mostOf 111 = .ok (.iload 4, 2) := by decide +kernel
theorem dL_mostOf_113 : decode cL_mostOf 113 = .ok (.ireturn, 1) := by decide +kernel
set_option maxRecDepth 20000 in
theorem ggL_areTaken_L_next : GoodIn wsL_areTaken wsL_next := goodIn_r _ [9, 10, 11, 183, 184, 185, 186, 187, 188, 189, 190, 191, 192, 193, 194, 195, 196, 197, 198, 199] (by decide +kernel) (by decide +kernel)
set_option maxRecDepth 20000 in
theorem gL_areTaken_L_next : GoodIn wsL_areTaken (wsV RL 76 RL yL_next wsL_next) := goodIn_app (goodIn_of _ (by decide +kernel)) ggL_areTaken_L_next
set_option maxRecDepth 20000 in
theorem ggL_areTaken_X11_setIll : GoodIn wsL_areTaken wsX11_setIll := goodIn_ca (goodIn_r _ [16, 17, 18, 19, 20, 15, 21, 22, 23, 24, 25, 26, 27, 28, 29, 30, 31, 32, 33, 34, 35, 36, 37, 38, 39, 40, 41, 42, 43, 44, 45, 46, 47, 48, 49, 50, 51, 52, 53, 54, 55, 56, 57, 58, 59, 60, 61, 62, 63, 64, 65, 66, 67, 200, 201, 202, 203, 204, 205, 206, 207, 208, 209, 210, 211, 212, 213, 214, 215, 216, 217, 218, 219, 220, 221, 222, 223] (by decide +kernel) (by decide +kernel)) (goodIn_sub (fun _ h => List.mem_cons_of_mem _ (List.mem_append_left _ (List.mem_append_left _ (List.mem_append_right _ h)))) (by decide +kernel))
set_option maxRecDepth 20000 in
theorem gL_areTaken_X11_setIll : GoodIn wsL_areTaken (wsV RL 205 RX11 yX11_setIll wsX11_setIll) := goodIn_app (goodIn_of _ (by decide +kernel)) ggL_areTaken_X11_setIll
set_option maxRecDepth 20000 in
theorem ggL_areTaken_X11_substitute : GoodIn wsL_areTaken wsX11_substitute := goodIn_ca (goodIn_ca (goodIn_ca (goodIn_r _ [71, 72, 17, 73, 74, 75, 76, 15, 77, 78, 79, 80, 81, 82, 61, 83, 67, 18, 19, 20, 21, 22, 23, 24, 25, 26, 27, 84, 85, 86, 87, 88, 89, 90, 91, 92, 93, 94, 95, 96, 97, 98, 99, 100, 101, 102, 103, 104, 105, 106, 107, 108, 109, 110, 111, 112, 113, 114, 115, 116, 117, 118, 119, 120, 121, 122, 123, 124, 125, 126, 127, 128, 129, 130, 131, 132, 133, 134, 135, 136, 137, 138, 139, 140, 141, 142, 143, 144, 50, 145, 146, 147, 148, 149, 200, 201, 202, 203, 204, 205, 206, 207, 208, 209, 210, 224, 225, 226, 227, 228, 211, 212] (by decide +kernel) (by decide +kernel)) (goodIn_sub (fun _ h => List.mem_cons_of_mem _ (List.mem_append_left _ (List.mem_append_right _ h))) (by decide +kernel))) (goodIn_sub (fun _ h => List.mem_cons_of_mem _ (List.mem_append_left _ (List.mem_append_left _ (List.mem_append_right _ h)))) (by decide +kernel))) (goodIn_sub (fun _ h => List.mem_cons_of_mem _ (List.mem_append_right _ h)) (by decide +kernel))
set_option maxRecDepth 20000 in
theorem gL_areTaken_X11_substitute : GoodIn wsL_areTaken (wsV RL 209 RX11 yX11_substitute wsX11_substitute) := goodIn_app (goodIn_of _ (by decide +kernel)) ggL_areTaken_X11_substitute
set_option maxRecDepth 20000 in
theorem ggL_areTaken_L_isOn : GoodIn wsL_areTaken wsL_isOn := goodIn_r _ [153, 154, 155, 183, 184, 185, 186, 187, 188, 189, 190, 191, 192, 193, 194, 195, 196, 197, 198, 199] (by decide +kernel) (by decide +kernel)
set_option maxRecDepth 20000 in
theorem gL_areTaken_L_isOn : GoodIn wsL_areTaken (wsV RL 93 RL yL_isOn wsL_isOn) := goodIn_app (goodIn_of _ (by decide +kernel)) ggL_areTaken_L_isOn
set_option maxRecDepth 20000 in
theorem ggL_areTaken_L_canTake : GoodIn wsL_areTaken wsL_canTake := goodIn_r _ [159, 1, 3, 4, 150, 151, 152, 8, 153, 154, 155, 183, 184, 185, 186, 187, 188, 189, 190, 191, 192, 193, 194, 195, 196, 197, 198, 199] (by decide +kernel) (by decide +kernel)
set_option maxRecDepth 20000 in
theorem gL_areTaken_L_canTake : GoodIn wsL_areTaken (wsV RL 199 RL yL_canTake wsL_canTake) := goodIn_app (goodIn_of _ (by decide +kernel)) ggL_areTaken_L_canTake
set_option maxRecDepth 20000 in
theorem ggL_areTaken_L_mostOf : GoodIn wsL_areTaken wsL_mostOf := goodIn_r _ [163, 3, 1, 4, 164, 144, 50, 145, 160, 161, 162, 8, 150, 151, 152, 153, 154, 155, 156, 157, 158, 159, 183, 184, 185, 186, 187, 188, 189, 190, 191, 192, 193, 194, 195, 196, 197, 198, 199] (by decide +kernel) (by decide +kernel)
set_option maxRecDepth 20000 in
theorem gL_areTaken_L_mostOf : GoodIn wsL_areTaken (wsV RL 195 RL yL_mostOf wsL_mostOf) := goodIn_app (goodIn_of _ (by decide +kernel)) ggL_areTaken_L_mostOf
set_option maxRecDepth 20000 in
theorem ggL_areTaken_X11_ill : GoodIn wsL_areTaken wsX11_ill := goodIn_ca (goodIn_ca (goodIn_r _ [168, 72, 17, 169, 170, 18, 19, 20, 15, 21, 22, 23, 24, 25, 26, 27, 84, 85, 86, 87, 88, 89, 90, 91, 92, 61, 93, 67, 94, 95, 96, 97, 98, 99, 100, 101, 102, 103, 104, 105, 106, 107, 108, 109, 110, 111, 112, 113, 81, 82, 83, 114, 115, 116, 117, 118, 119, 120, 121, 122, 123, 124, 125, 126, 127, 128, 129, 130, 131, 132, 133, 134, 135, 136, 137, 138, 139, 140, 141, 142, 143, 144, 50, 145, 146, 147, 148, 149, 171, 172, 173, 174, 175, 176, 177, 200, 201, 202, 203, 204, 205, 206, 207, 208, 209, 210, 224, 225, 226, 227, 228, 211, 212] (by decide +kernel) (by decide +kernel)) (goodIn_sub (fun _ h => List.mem_cons_of_mem _ (List.mem_append_left _ (List.mem_append_left _ (List.mem_append_right _ h)))) (by decide +kernel))) (goodIn_sub (fun _ h => List.mem_cons_of_mem _ (List.mem_append_right _ h)) (by decide +kernel))
set_option maxRecDepth 20000 in
theorem gL_areTaken_X11_ill : GoodIn wsL_areTaken (wsV RL 212 RX11 yX11_ill wsX11_ill) := goodIn_app (goodIn_of _ (by decide +kernel)) ggL_areTaken_X11_ill
set_option maxRecDepth 20000 in
theorem ggL_areTaken_X11_takes : GoodIn wsL_areTaken wsX11_takes := goodIn_ca (goodIn_ca (goodIn_r _ [181, 72, 17, 182, 18, 19, 20, 15, 21, 22, 23, 24, 25, 26, 27, 84, 85, 86, 87, 88, 89, 90, 91, 92, 61, 93, 67, 94, 95, 96, 97, 98, 99, 100, 101, 102, 103, 104, 105, 106, 107, 108, 109, 110, 111, 112, 113, 81, 82, 83, 114, 115, 116, 117, 118, 119, 120, 121, 122, 123, 124, 125, 126, 127, 128, 129, 130, 131, 132, 133, 134, 135, 136, 137, 138, 139, 140, 141, 142, 143, 144, 50, 145, 146, 147, 148, 149, 200, 201, 202, 203, 204, 205, 206, 207, 208, 209, 210, 224, 225, 226, 227, 228, 211, 212] (by decide +kernel) (by decide +kernel)) (goodIn_sub (fun _ h => List.mem_cons_of_mem _ (List.mem_append_left _ (List.mem_append_left _ (List.mem_append_right _ h)))) (by decide +kernel))) (goodIn_sub (fun _ h => List.mem_cons_of_mem _ (List.mem_append_right _ h)) (by decide +kernel))
set_option maxRecDepth 20000 in
theorem gL_areTaken_X11_takes : GoodIn wsL_areTaken (wsV RL 216 RX11 yX11_takes wsX11_takes) := goodIn_app (goodIn_of _ (by decide +kernel)) ggL_areTaken_X11_takes
theorem dL_areTaken_0 : decode cL_areTaken 0 = .ok (.iconst 0, 1) := by decide +kernel
theorem dL_areTaken_1 : decode cL_areTaken 1 = .ok (.istore_n 1, 1) := by decide +kernel
theorem dL_areTaken_2 : decode cL_areTaken 2 = .ok (.iload_n 1, 1) := by decide +kernel
theorem dL_areTaken_3 : decode cL_areTaken 3 = .ok (.bipush 6, 2) := by decide +kernel
theorem dL_areTaken_5 : decode cL_areTaken 5 = .ok (.if_icmp .ge 69, 3) := by decide +kernel
theorem dL_areTaken_8 : decode cL_areTaken 8 = .ok (.iconst 0, 1) := by decide +kernel
theorem dL_areTaken_9 : decode cL_areTaken 9 = .ok (.istore_n 2, 1) := by decide +kernel
theorem dL_areTaken_10 : decode cL_areTaken 10 = .ok (.iload_n 2, 1) := by decide +kernel
theorem dL_areTaken_11 : decode cL_areTaken 11 = .ok (.iconst 5, 1) := by decide +kernel
theorem dL_areTaken_12 : decode cL_areTaken 12 = .ok (.if_icmp .ge 56, 3) := by decide +kernel
theorem dL_areTaken_15 : decode cL_areTaken 15 = .ok (.aload_n 0, 1) := by decide +kernel
theorem dL_areTaken_16 : decode cL_areTaken 16 = .ok (.getfield 50, 3) := by decide +kernel
theorem dL_areTaken_19 : decode cL_areTaken 19 = .ok (.iconst 5, 1) := by decide +kernel
theorem dL_areTaken_20 : decode cL_areTaken 20 = .ok (.iload_n 1, 1) := by decide +kernel
theorem dL_areTaken_21 : decode cL_areTaken 21 = .ok (.imul, 1) := by decide +kernel
theorem dL_areTaken_22 : decode cL_areTaken 22 = .ok (.iload_n 2, 1) := by decide +kernel
theorem dL_areTaken_23 : decode cL_areTaken 23 = .ok (.iadd, 1) := by decide +kernel
theorem dL_areTaken_24 : decode cL_areTaken 24 = .ok (.aload_n 0, 1) := by decide +kernel
theorem dL_areTaken_25 : decode cL_areTaken 25 = .ok (.iconst 3, 1) := by decide +kernel
theorem dL_areTaken_26 : decode cL_areTaken 26 = .ok (.invokevirtual 76, 3) := by decide +kernel
theorem dL_areTaken_29 : decode cL_areTaken 29 = .ok (.ifCond .ne 7, 3) := by decide +kernel
theorem dL_areTaken_32 : decode cL_areTaken 32 = .ok (.iconst 1, 1) := by decide +kernel
theorem dL_areTaken_33 : decode cL_areTaken 33 = .ok (.goto 4, 3) := by decide +kernel
theorem dL_areTaken_36 : decode cL_areTaken 36 = .ok (.iconst 0, 1) := by decide +kernel
theorem dL_areTaken_37 : decode cL_areTaken 37 = .ok (.bastore, 1) := by decide +kernel
theorem dL_areTaken_38 : decode cL_areTaken 38 = .ok (.aload_n 0, 1) := by decide +kernel
theorem dL_areTaken_39 : decode cL_areTaken 39 = .ok (.getfield 10, 3) := by decide +kernel
theorem dL_areTaken_42 : decode cL_areTaken 42 = .ok (.iload_n 1, 1) := by decide +kernel
theorem dL_areTaken_43 : decode cL_areTaken 43 = .ok (.iload_n 2, 1) := by decide +kernel
theorem dL_areTaken_44 : decode cL_areTaken 44 = .ok (.aload_n 0, 1) := by decide +kernel
theorem dL_areTaken_45 : decode cL_areTaken 45 = .ok (.getfield 50, 3) := by decide +kernel
theorem dL_areTaken_48 : decode cL_areTaken 48 = .ok (.iconst 5, 1) := by decide +kernel
theorem dL_areTaken_49 : decode cL_areTaken 49 = .ok (.iload_n 1, 1) := by decide +kernel
theorem dL_areTaken_50 : decode cL_areTaken 50 = .ok (.imul, 1) := by decide +kernel
theorem dL_areTaken_51 : decode cL_areTaken 51 = .ok (.iload_n 2, 1) := by decide +kernel
theorem dL_areTaken_52 : decode cL_areTaken 52 = .ok (.iadd, 1) := by decide +kernel
theorem dL_areTaken_53 : decode cL_areTaken 53 = .ok (.baload, 1) := by decide +kernel
theorem dL_areTaken_54 : decode cL_areTaken 54 = .ok (.invokevirtual 205, 3) := by decide +kernel
theorem dL_areTaken_57 : decode cL_areTaken 57 = .ok (.ifCond .eq 5, 3) := by decide +kernel
theorem dL_areTaken_60 : decode cL_areTaken 60 = .ok (.iconst 0, 1) := by decide +kernel
theorem dL_areTaken_61 : decode cL_areTaken 61 = .ok (.ireturn, 1) := by decide +kernel
theorem dL_areTaken_62 : decode cL_areTaken 62 = .ok (.iinc 2 1, 3) := by decide +kernel
theorem dL_areTaken_65 : decode cL_areTaken 65 = .ok (.goto (-55), 3) := by decide +kernel
theorem dL_areTaken_68 : decode cL_areTaken 68 = .ok (.iinc 1 1, 3) := by decide +kernel
theorem dL_areTaken_71 : decode cL_areTaken 71 = .ok (.goto (-69), 3) := by decide +kernel
theorem dL_areTaken_74 : decode cL_areTaken 74 = .ok (.iconst 0, 1) := by decide +kernel
theorem dL_areTaken_75 : decode cL_areTaken 75 = .ok (.istore_n 1, 1) := by decide +kernel
theorem dL_areTaken_76 : decode cL_areTaken 76 = .ok (.iconst 0, 1) := by decide +kernel
theorem dL_areTaken_77 : decode cL_areTaken 77 = .ok (.istore_n 2, 1) := by decide +kernel
theorem dL_areTaken_78 : decode cL_areTaken 78 = .ok (.iload_n 2, 1) := by decide +kernel
theorem dL_areTaken_79 : decode cL_areTaken 79 = .ok (.iconst 5, 1) := by decide +kernel
theorem dL_areTaken_80 : decode cL_areTaken 80 = .ok (.if_icmp .ge 242, 3) := by decide +kernel
theorem dL_areTaken_83 : decode cL_areTaken 83 = .ok (.iconst 0, 1) := by decide +kernel
theorem dL_areTaken_84 : decode cL_areTaken 84 = .ok (.istore_n 3, 1) := by decide +kernel
theorem dL_areTaken_85 : decode cL_areTaken 85 = .ok (.iconst 0, 1) := by decide +kernel
theorem dL_areTaken_86 : decode cL_areTaken 86 = .ok (.istore 4, 2) := by decide +kernel
theorem dL_areTaken_88 : decode cL_areTaken 88 = .ok (.iconst 4, 1) := by decide +kernel
theorem dL_areTaken_89 : decode cL_areTaken 89 = .ok (.iload_n 2, 1) := by decide +kernel
theorem dL_areTaken_90 : decode cL_areTaken 90 = .ok (.imul, 1) := by decide +kernel
theorem dL_areTaken_91 : decode cL_areTaken 91 = .ok (.istore 5, 2) := by decide +kernel
theorem dL_areTaken_93 : decode cL_areTaken 93 = .ok (.iload 5, 2) := by decide +kernel
theorem dL_areTaken_95 : decode cL_areTaken 95 = .ok (.iconst 4, 1) := by decide +kernel
theorem dL_areTaken_96 : decode cL_areTaken 96 = .ok (.iload_n 2, 1) := by decide +kernel
theorem dL_areTaken_97 : decode cL_areTaken 97 = .ok (.imul, 1) := by decide +kernel
theorem dL_areTaken_98 : decode cL_areTaken 98 = .ok (.iconst 4, 1) := by decide +kernel
theorem dL_areTaken_99 : decode cL_areTaken 99 = .ok (.iadd, 1) := by decide +kernel
theorem dL_areTaken_100 : decode cL_areTaken 100 = .ok (.if_icmp .ge 187, 3) := by decide +kernel
theorem dL_areTaken_103 : decode cL_areTaken 103 = .ok (.iconst 0, 1) := by decide +kernel
theorem dL_areTaken_104 : decode cL_areTaken 104 = .ok (.istore 6, 2) := by decide +kernel
theorem dL_areTaken_106 : decode cL_areTaken 106 = .ok (.iconst 0, 1) := by decide +kernel
theorem dL_areTaken_107 : decode cL_areTaken 107 = .ok (.istore 7, 2) := by decide +kernel
theorem dL_areTaken_109 : decode cL_areTaken 109 = .ok (.iconst 0, 1) := by decide +kernel
theorem dL_areTaken_110 : decode cL_areTaken 110 = .ok (.istore 8, 2) := by decide +kernel
theorem dL_areTaken_112 : decode cL_areTaken 112 = .ok (.iload 8, 2) := by decide +kernel
theorem dL_areTaken_114 : decode cL_areTaken 114 = .ok (.aload_n 0, 1) := by decide +kernel
theorem dL_areTaken_115 : decode cL_areTaken 115 = .ok (.getfield 66, 3) := by decide +kernel
theorem dL_areTaken_118 : decode cL_areTaken 118 = .ok (.if_icmp .ge 143, 3) := by decide +kernel
theorem dL_areTaken_121 : decode cL_areTaken 121 = .ok (.aload_n 0, 1) := by decide +kernel
theorem dL_areTaken_122 : decode cL_areTaken 122 = .ok (.getfield 10, 3) := by decide +kernel
theorem dL_areTaken_125 : decode cL_areTaken 125 = .ok (.iload 8, 2) := by decide +kernel
theorem dL_areTaken_127 : decode cL_areTaken 127 = .ok (.iload 5, 2) := by decide +kernel
theorem dL_areTaken_129 : decode cL_areTaken 129 = .ok (.invokevirtual 209, 3) := by decide +kernel
theorem dL_areTaken_132 : decode cL_areTaken 132 = .ok (.istore 9, 2) := by decide +kernel
theorem dL_areTaken_134 : decode cL_areTaken 134 = .ok (.aload_n 0, 1) := by decide +kernel
theorem dL_areTaken_135 : decode cL_areTaken 135 = .ok (.iload 8, 2) := by decide +kernel
theorem dL_areTaken_137 : decode cL_areTaken 137 = .ok (.iload 5, 2) := by decide +kernel
theorem dL_areTaken_139 : decode cL_areTaken 139 = .ok (.invokevirtual 93, 3) := by decide +kernel
theorem dL_areTaken_142 : decode cL_areTaken 142 = .ok (.ifCond .eq 26, 3) := by decide +kernel
theorem dL_areTaken_145 : decode cL_areTaken 145 = .ok (.aload_n 0, 1) := by decide +kernel
theorem dL_areTaken_146 : decode cL_areTaken 146 = .ok (.getfield 50, 3) := by decide +kernel
theorem dL_areTaken_149 : decode cL_areTaken 149 = .ok (.iconst 5, 1) := by decide +kernel
theorem dL_areTaken_150 : decode cL_areTaken 150 = .ok (.aload_n 0, 1) := by decide +kernel
theorem dL_areTaken_151 : decode cL_areTaken 151 = .ok (.getfield 20, 3) := by decide +kernel
theorem dL_areTaken_154 : decode cL_areTaken 154 = .ok (.iload 8, 2) := by decide +kernel
theorem dL_areTaken_156 : decode cL_areTaken 156 = .ok (.iaload, 1) := by decide +kernel
theorem dL_areTaken_157 : decode cL_areTaken 157 = .ok (.imul, 1) := by decide +kernel
theorem dL_areTaken_158 : decode cL_areTaken 158 = .ok (.iload_n 2, 1) := by decide +kernel
theorem dL_areTaken_159 : decode cL_areTaken 159 = .ok (.iadd, 1) := by decide +kernel
theorem dL_areTaken_160 : decode cL_areTaken 160 = .ok (.baload, 1) := by decide +kernel
theorem dL_areTaken_161 : decode cL_areTaken 161 = .ok (.ifCond .eq 7, 3) := by decide +kernel
theorem dL_areTaken_164 : decode cL_areTaken 164 = .ok (.iconst 1, 1) := by decide +kernel
theorem dL_areTaken_165 : decode cL_areTaken 165 = .ok (.goto 4, 3) := by decide +kernel
theorem dL_areTaken_168 : decode cL_areTaken 168 = .ok (.iconst 0, 1) := by decide +kernel
theorem dL_areTaken_169 : decode cL_areTaken 169 = .ok (.istore 10, 2) := by decide +kernel
theorem dL_areTaken_171 : decode cL_areTaken 171 = .ok (.iload_n 3, 1) := by decide +kernel
theorem dL_areTaken_172 : decode cL_areTaken 172 = .ok (.iload 10, 2) := by decide +kernel
theorem dL_areTaken_174 : decode cL_areTaken 174 = .ok (.ifCond .eq 7, 3) := by decide +kernel
theorem dL_areTaken_177 : decode cL_areTaken 177 = .ok (.iconst 1, 1) := by decide +kernel
theorem dL_areTaken_178 : decode cL_areTaken 178 = .ok (.goto 4, 3) := by decide +kernel
theorem dL_areTaken_181 : decode cL_areTaken 181 = .ok (.iconst 0, 1) := by decide +kernel
theorem dL_areTaken_182 : decode cL_areTaken 182 = .ok (.iadd, 1) := by decide +kernel
theorem dL_areTaken_183 : decode cL_areTaken 183 = .ok (.istore_n 3, 1) := by decide +kernel
theorem dL_areTaken_184 : decode cL_areTaken 184 = .ok (.iload 4, 2) := by decide +kernel
theorem dL_areTaken_186 : decode cL_areTaken 186 = .ok (.iload 10, 2) := by decide +kernel
theorem dL_areTaken_188 : decode cL_areTaken 188 = .ok (.ifCond .eq 13, 3) := by decide +kernel
theorem dL_areTaken_191 : decode cL_areTaken 191 = .ok (.iload 9, 2) := by decide +kernel
theorem dL_areTaken_193 : decode cL_areTaken 193 = .ok (.iconst (-1), 1) := by decide +kernel
theorem dL_areTaken_194 : decode cL_areTaken 194 = .ok (.if_icmp .ne 7, 3) := by decide +kernel
theorem dL_areTaken_197 : decode cL_areTaken 197 = .ok (.iconst 1, 1) := by decide +kernel
theorem dL_areTaken_198 : decode cL_areTaken 198 = .ok (.goto 4, 3) := by decide +kernel
theorem dL_areTaken_201 : decode cL_areTaken 201 = .ok (.iconst 0, 1) := by decide +kernel
theorem dL_areTaken_202 : decode cL_areTaken 202 = .ok (.iadd, 1) := by decide +kernel
theorem dL_areTaken_203 : decode cL_areTaken 203 = .ok (.istore 4, 2) := by decide +kernel
theorem dL_areTaken_205 : decode cL_areTaken 205 = .ok (.iload 9, 2) := by decide +kernel
theorem dL_areTaken_207 : decode cL_areTaken 207 = .ok (.iconst (-1), 1) := by decide +kernel
theorem dL_areTaken_208 : decode cL_areTaken 208 = .ok (.if_icmp .ne 6, 3) := by decide +kernel
theorem dL_areTaken_211 : decode cL_areTaken 211 = .ok (.goto 44, 3) := by decide +kernel
theorem dL_areTaken_214 : decode cL_areTaken 214 = .ok (.iload 10, 2) := by decide +kernel
theorem dL_areTaken_216 : decode cL_areTaken 216 = .ok (.ifCond .eq 25, 3) := by decide +kernel
theorem dL_areTaken_219 : decode cL_areTaken 219 = .ok (.aload_n 0, 1) := by decide +kernel
theorem dL_areTaken_220 : decode cL_areTaken 220 = .ok (.iload 9, 2) := by decide +kernel
theorem dL_areTaken_222 : decode cL_areTaken 222 = .ok (.iload 5, 2) := by decide +kernel
theorem dL_areTaken_224 : decode cL_areTaken 224 = .ok (.invokevirtual 199, 3) := by decide +kernel
theorem dL_areTaken_227 : decode cL_areTaken 227 = .ok (.ifCond .eq 14, 3) := by decide +kernel
theorem dL_areTaken_230 : decode cL_areTaken 230 = .ok (.iload 6, 2) := by decide +kernel
theorem dL_areTaken_232 : decode cL_areTaken 232 = .ok (.iload 9, 2) := by decide +kernel
theorem dL_areTaken_234 : decode cL_areTaken 234 = .ok (.ishr, 1) := by decide +kernel
theorem dL_areTaken_235 : decode cL_areTaken 235 = .ok (.iconst 1, 1) := by decide +kernel
theorem dL_areTaken_236 : decode cL_areTaken 236 = .ok (.iand, 1) := by decide +kernel
theorem dL_areTaken_237 : decode cL_areTaken 237 = .ok (.iconst 1, 1) := by decide +kernel
theorem dL_areTaken_238 : decode cL_areTaken 238 = .ok (.if_icmp .ne 5, 3) := by decide +kernel
theorem dL_areTaken_241 : decode cL_areTaken 241 = .ok (.iconst 0, 1) := by decide +kernel
theorem dL_areTaken_242 : decode cL_areTaken 242 = .ok (.ireturn, 1) := by decide +kernel
theorem dL_areTaken_243 : decode cL_areTaken 243 = .ok (.iload 6, 2) := by decide +kernel
theorem dL_areTaken_245 : decode cL_areTaken 245 = .ok (.iconst 1, 1) := by decide +kernel
theorem dL_areTaken_246 : decode cL_areTaken 246 = .ok (.iload 9, 2) := by decide +kernel
theorem dL_areTaken_248 : decode cL_areTaken 248 = .ok (.ishl, 1) := by decide +kernel
theorem dL_areTaken_249 : decode cL_areTaken 249 = .ok (.ior, 1) := by decide +kernel
theorem dL_areTaken_250 : decode cL_areTaken 250 = .ok (.istore 6, 2) := by decide +kernel
theorem dL_areTaken_252 : decode cL_areTaken 252 = .ok (.iinc 7 1, 3) := by decide +kernel
theorem dL_areTaken_255 : decode cL_areTaken 255 = .ok (.iinc 8 1, 3) := by decide +kernel
theorem dL_areTaken_258 : decode cL_areTaken 258 = .ok (.goto (-146), 3) := by decide +kernel
theorem dL_areTaken_261 : decode cL_areTaken 261 = .ok (.iload 7, 2) := by decide +kernel
theorem dL_areTaken_263 : decode cL_areTaken 263 = .ok (.aload_n 0, 1) := by decide +kernel
theorem dL_areTaken_264 : decode cL_areTaken 264 = .ok (.iload 5, 2) := by decide +kernel
theorem dL_areTaken_266 : decode cL_areTaken 266 = .ok (.iconst 0, 1) := by decide +kernel
theorem dL_areTaken_267 : decode cL_areTaken 267 = .ok (.iconst 0, 1) := by decide +kernel
theorem dL_areTaken_268 : decode cL_areTaken 268 = .ok (.invokevirtual 195, 3) := by decide +kernel
theorem dL_areTaken_271 : decode cL_areTaken 271 = .ok (.if_icmp .eq 5, 3) := by decide +kernel
theorem dL_areTaken_274 : decode cL_areTaken 274 = .ok (.iconst 0, 1) := by decide +kernel
theorem dL_areTaken_275 : decode cL_areTaken 275 = .ok (.ireturn, 1) := by decide +kernel
theorem dL_areTaken_276 : decode cL_areTaken 276 = .ok (.iload_n 1, 1) := by decide +kernel
theorem dL_areTaken_277 : decode cL_areTaken 277 = .ok (.iload 7, 2) := by decide +kernel
theorem dL_areTaken_279 : decode cL_areTaken 279 = .ok (.iadd, 1) := by decide +kernel
theorem dL_areTaken_280 : decode cL_areTaken 280 = .ok (.istore_n 1, 1) := by decide +kernel
theorem dL_areTaken_281 : decode cL_areTaken 281 = .ok (.iinc 5 1, 3) := by decide +kernel
theorem dL_areTaken_284 : decode cL_areTaken 284 = .ok (.goto (-191), 3) := by decide +kernel
theorem dL_areTaken_287 : decode cL_areTaken 287 = .ok (.aload_n 0, 1) := by decide +kernel
theorem dL_areTaken_288 : decode cL_areTaken 288 = .ok (.getfield 10, 3) := by decide +kernel
theorem dL_areTaken_291 : decode cL_areTaken 291 = .ok (.iload_n 2, 1) := by decide +kernel
theorem dL_areTaken_292 : decode cL_areTaken 292 = .ok (.iconst 0, 1) := by decide +kernel
theorem dL_areTaken_293 : decode cL_areTaken 293 = .ok (.invokevirtual 212, 3) := by decide +kernel
theorem dL_areTaken_296 : decode cL_areTaken 296 = .ok (.iload_n 3, 1) := by decide +kernel
theorem dL_areTaken_297 : decode cL_areTaken 297 = .ok (.if_icmp .ne 17, 3) := by decide +kernel
theorem dL_areTaken_300 : decode cL_areTaken 300 = .ok (.aload_n 0, 1) := by decide +kernel
theorem dL_areTaken_301 : decode cL_areTaken 301 = .ok (.getfield 10, 3) := by decide +kernel
theorem dL_areTaken_304 : decode cL_areTaken 304 = .ok (.iload_n 2, 1) := by decide +kernel
theorem dL_areTaken_305 : decode cL_areTaken 305 = .ok (.iconst 1, 1) := by decide +kernel
theorem dL_areTaken_306 : decode cL_areTaken 306 = .ok (.invokevirtual 212, 3) := by decide +kernel
theorem dL_areTaken_309 : decode cL_areTaken 309 = .ok (.iload 4, 2) := by decide +kernel
theorem dL_areTaken_311 : decode cL_areTaken 311 = .ok (.if_icmp .eq 5, 3) := by decide +kernel
theorem dL_areTaken_314 : decode cL_areTaken 314 = .ok (.iconst 0, 1) := by decide +kernel
theorem dL_areTaken_315 : decode cL_areTaken 315 = .ok (.ireturn, 1) := by decide +kernel
theorem dL_areTaken_316 : decode cL_areTaken 316 = .ok (.iinc 2 1, 3) := by decide +kernel
theorem dL_areTaken_319 : decode cL_areTaken 319 = .ok (.goto (-241), 3) := by decide +kernel
theorem dL_areTaken_322 : decode cL_areTaken 322 = .ok (.iconst 0, 1) := by decide +kernel
theorem dL_areTaken_323 : decode cL_areTaken 323 = .ok (.istore_n 2, 1) := by decide +kernel
theorem dL_areTaken_324 : decode cL_areTaken 324 = .ok (.iload_n 2, 1) := by decide +kernel
theorem dL_areTaken_325 : decode cL_areTaken 325 = .ok (.bipush 6, 2) := by decide +kernel
theorem dL_areTaken_327 : decode cL_areTaken 327 = .ok (.if_icmp .ge 20, 3) := by decide +kernel
theorem dL_areTaken_330 : decode cL_areTaken 330 = .ok (.iload_n 1, 1) := by decide +kernel
theorem dL_areTaken_331 : decode cL_areTaken 331 = .ok (.aload_n 0, 1) := by decide +kernel
theorem dL_areTaken_332 : decode cL_areTaken 332 = .ok (.getfield 10, 3) := by decide +kernel
theorem dL_areTaken_335 : decode cL_areTaken 335 = .ok (.iload_n 2, 1) := by decide +kernel
theorem dL_areTaken_336 : decode cL_areTaken 336 = .ok (.invokevirtual 216, 3) := by decide +kernel
theorem dL_areTaken_339 : decode cL_areTaken 339 = .ok (.isub, 1) := by decide +kernel
theorem dL_areTaken_340 : decode cL_areTaken 340 = .ok (.istore_n 1, 1) := by decide +kernel
theorem dL_areTaken_341 : decode cL_areTaken 341 = .ok (.iinc 2 1, 3) := by decide +kernel
theorem dL_areTaken_344 : decode cL_areTaken 344 = .ok (.goto (-20), 3) := by decide +kernel
theorem dL_areTaken_347 : decode cL_areTaken 347 = .ok (.iload_n 1, 1) := by decide +kernel
theorem dL_areTaken_348 : decode cL_areTaken 348 = .ok (.ifCond .ne 7, 3) := by decide +kernel
theorem dL_areTaken_351 : decode cL_areTaken 351 = .ok (.iconst 1, 1) := by decide +kernel
theorem dL_areTaken_352 : decode cL_areTaken 352 = .ok (.goto 4, 3) := by decide +kernel
theorem dL_areTaken_355 : decode cL_areTaken 355 = .ok (.iconst 0, 1) := by decide +kernel
theorem dL_areTaken_356 : decode cL_areTaken 356 = .ok (.ireturn, 1) := by decide +kernel
set_option maxRecDepth 20000 in
theorem ggL_areColours_X11_colour : GoodIn wsL_areColours wsX11_colour := goodIn_ca (goodIn_r _ [13, 14, 15, 16, 17, 18, 19, 12, 20, 21, 22, 23, 24, 25, 26, 27, 28, 29, 30, 31, 32, 33, 34, 35, 36, 37, 38, 39, 6, 7, 8, 40, 41, 42, 43, 44, 45, 46, 47, 48, 49, 50, 51, 52, 53, 54, 55, 56, 57, 58, 59, 60, 61, 62, 63, 64, 65, 66, 67, 68, 91, 92, 93, 94, 95, 96, 97, 98, 99, 100, 101, 102, 103, 104] (by decide +kernel) (by decide +kernel)) (goodIn_sub (fun _ h => List.mem_cons_of_mem _ (List.mem_append_right _ h)) (by decide +kernel))
set_option maxRecDepth 20000 in
theorem gL_areColours_X11_colour : GoodIn wsL_areColours (wsV RL 219 RX11 yX11_colour wsX11_colour) := goodIn_app (goodIn_of _ (by decide +kernel)) ggL_areColours_X11_colour
set_option maxRecDepth 20000 in
theorem ggL_areColours_X11_most : GoodIn wsL_areColours wsX11_most := goodIn_r _ [72, 14, 15, 73, 36, 37, 32, 38, 39, 6, 7, 8, 40, 41, 42, 43, 44, 24, 25, 26, 27, 28, 45, 46, 47, 48, 91, 92, 93, 94, 95, 96, 97, 98, 99, 100, 101, 103, 104] (by decide +kernel) (by decide +kernel)
set_option maxRecDepth 20000 in
theorem gL_areColours_X11_most : GoodIn wsL_areColours (wsV RL 222 RX11 yX11_most wsX11_most) := goodIn_app (goodIn_of _ (by decide +kernel)) ggL_areColours_X11_most
theorem dL_areColours_0 : decode cL_areColours 0 = .ok (.iconst 0, 1) := by decide +kernel
theorem dL_areColours_1 : decode cL_areColours 1 = .ok (.istore_n 1, 1) := by decide +kernel
theorem dL_areColours_2 : decode cL_areColours 2 = .ok (.iconst 0, 1) := by decide +kernel
theorem dL_areColours_3 : decode cL_areColours 3 = .ok (.istore_n 2, 1) := by decide +kernel
theorem dL_areColours_4 : decode cL_areColours 4 = .ok (.iload_n 2, 1) := by decide +kernel
theorem dL_areColours_5 : decode cL_areColours 5 = .ok (.aload_n 0, 1) := by decide +kernel
theorem dL_areColours_6 : decode cL_areColours 6 = .ok (.getfield 66, 3) := by decide +kernel
theorem dL_areColours_9 : decode cL_areColours 9 = .ok (.if_icmp .ge 153, 3) := by decide +kernel
theorem dL_areColours_12 : decode cL_areColours 12 = .ok (.iconst 0, 1) := by decide +kernel
theorem dL_areColours_13 : decode cL_areColours 13 = .ok (.istore_n 3, 1) := by decide +kernel
theorem dL_areColours_14 : decode cL_areColours 14 = .ok (.iconst 0, 1) := by decide +kernel
theorem dL_areColours_15 : decode cL_areColours 15 = .ok (.istore 4, 2) := by decide +kernel
theorem dL_areColours_17 : decode cL_areColours 17 = .ok (.iconst 0, 1) := by decide +kernel
theorem dL_areColours_18 : decode cL_areColours 18 = .ok (.istore 5, 2) := by decide +kernel
theorem dL_areColours_20 : decode cL_areColours 20 = .ok (.iload 5, 2) := by decide +kernel
theorem dL_areColours_22 : decode cL_areColours 22 = .ok (.aload_n 0, 1) := by decide +kernel
theorem dL_areColours_23 : decode cL_areColours 23 = .ok (.getfield 66, 3) := by decide +kernel
theorem dL_areColours_26 : decode cL_areColours 26 = .ok (.if_icmp .ge 119, 3) := by decide +kernel
theorem dL_areColours_29 : decode cL_areColours 29 = .ok (.iload_n 3, 1) := by decide +kernel
theorem dL_areColours_30 : decode cL_areColours 30 = .ok (.aload_n 0, 1) := by decide +kernel
theorem dL_areColours_31 : decode cL_areColours 31 = .ok (.getfield 16, 3) := by decide +kernel
theorem dL_areColours_34 : decode cL_areColours 34 = .ok (.iload 5, 2) := by decide +kernel
theorem dL_areColours_36 : decode cL_areColours 36 = .ok (.iaload, 1) := by decide +kernel
theorem dL_areColours_37 : decode cL_areColours 37 = .ok (.aload_n 0, 1) := by decide +kernel
theorem dL_areColours_38 : decode cL_areColours 38 = .ok (.getfield 16, 3) := by decide +kernel
theorem dL_areColours_41 : decode cL_areColours 41 = .ok (.iload_n 2, 1) := by decide +kernel
theorem dL_areColours_42 : decode cL_areColours 42 = .ok (.iaload, 1) := by decide +kernel
theorem dL_areColours_43 : decode cL_areColours 43 = .ok (.if_icmp .ne 7, 3) := by decide +kernel
theorem dL_areColours_46 : decode cL_areColours 46 = .ok (.iconst 1, 1) := by decide +kernel
theorem dL_areColours_47 : decode cL_areColours 47 = .ok (.goto 4, 3) := by decide +kernel
theorem dL_areColours_50 : decode cL_areColours 50 = .ok (.iconst 0, 1) := by decide +kernel
theorem dL_areColours_51 : decode cL_areColours 51 = .ok (.iadd, 1) := by decide +kernel
theorem dL_areColours_52 : decode cL_areColours 52 = .ok (.istore_n 3, 1) := by decide +kernel
theorem dL_areColours_53 : decode cL_areColours 53 = .ok (.iload 4, 2) := by decide +kernel
theorem dL_areColours_55 : decode cL_areColours 55 = .ok (.aload_n 0, 1) := by decide +kernel
theorem dL_areColours_56 : decode cL_areColours 56 = .ok (.getfield 20, 3) := by decide +kernel
theorem dL_areColours_59 : decode cL_areColours 59 = .ok (.iload 5, 2) := by decide +kernel
theorem dL_areColours_61 : decode cL_areColours 61 = .ok (.iaload, 1) := by decide +kernel
theorem dL_areColours_62 : decode cL_areColours 62 = .ok (.aload_n 0, 1) := by decide +kernel
theorem dL_areColours_63 : decode cL_areColours 63 = .ok (.getfield 20, 3) := by decide +kernel
theorem dL_areColours_66 : decode cL_areColours 66 = .ok (.iload_n 2, 1) := by decide +kernel
theorem dL_areColours_67 : decode cL_areColours 67 = .ok (.iaload, 1) := by decide +kernel
theorem dL_areColours_68 : decode cL_areColours 68 = .ok (.if_icmp .ne 7, 3) := by decide +kernel
theorem dL_areColours_71 : decode cL_areColours 71 = .ok (.iconst 1, 1) := by decide +kernel
theorem dL_areColours_72 : decode cL_areColours 72 = .ok (.goto 4, 3) := by decide +kernel
theorem dL_areColours_75 : decode cL_areColours 75 = .ok (.iconst 0, 1) := by decide +kernel
theorem dL_areColours_76 : decode cL_areColours 76 = .ok (.iadd, 1) := by decide +kernel
theorem dL_areColours_77 : decode cL_areColours 77 = .ok (.istore 4, 2) := by decide +kernel
theorem dL_areColours_79 : decode cL_areColours 79 = .ok (.iload 5, 2) := by decide +kernel
theorem dL_areColours_81 : decode cL_areColours 81 = .ok (.iload_n 2, 1) := by decide +kernel
theorem dL_areColours_82 : decode cL_areColours 82 = .ok (.if_icmp .ge 57, 3) := by decide +kernel
theorem dL_areColours_85 : decode cL_areColours 85 = .ok (.aload_n 0, 1) := by decide +kernel
theorem dL_areColours_86 : decode cL_areColours 86 = .ok (.getfield 16, 3) := by decide +kernel
theorem dL_areColours_89 : decode cL_areColours 89 = .ok (.iload 5, 2) := by decide +kernel
theorem dL_areColours_91 : decode cL_areColours 91 = .ok (.iaload, 1) := by decide +kernel
theorem dL_areColours_92 : decode cL_areColours 92 = .ok (.aload_n 0, 1) := by decide +kernel
theorem dL_areColours_93 : decode cL_areColours 93 = .ok (.getfield 16, 3) := by decide +kernel
theorem dL_areColours_96 : decode cL_areColours 96 = .ok (.iload_n 2, 1) := by decide +kernel
theorem dL_areColours_97 : decode cL_areColours 97 = .ok (.iaload, 1) := by decide +kernel
theorem dL_areColours_98 : decode cL_areColours 98 = .ok (.if_icmp .eq 19, 3) := by decide +kernel
theorem dL_areColours_101 : decode cL_areColours 101 = .ok (.aload_n 0, 1) := by decide +kernel
theorem dL_areColours_102 : decode cL_areColours 102 = .ok (.getfield 20, 3) := by decide +kernel
theorem dL_areColours_105 : decode cL_areColours 105 = .ok (.iload 5, 2) := by decide +kernel
theorem dL_areColours_107 : decode cL_areColours 107 = .ok (.iaload, 1) := by decide +kernel
theorem dL_areColours_108 : decode cL_areColours 108 = .ok (.aload_n 0, 1) := by decide +kernel
theorem dL_areColours_109 : decode cL_areColours 109 = .ok (.getfield 20, 3) := by decide +kernel
theorem dL_areColours_112 : decode cL_areColours 112 = .ok (.iload_n 2, 1) := by decide +kernel
theorem dL_areColours_113 : decode cL_areColours 113 = .ok (.iaload, 1) := by decide +kernel
theorem dL_areColours_114 : decode cL_areColours 114 = .ok (.if_icmp .ne 25, 3) := by decide +kernel
theorem dL_areColours_117 : decode cL_areColours 117 = .ok (.aload_n 0, 1) := by decide +kernel
theorem dL_areColours_118 : decode cL_areColours 118 = .ok (.getfield 10, 3) := by decide +kernel
theorem dL_areColours_121 : decode cL_areColours 121 = .ok (.iload 5, 2) := by decide +kernel
theorem dL_areColours_123 : decode cL_areColours 123 = .ok (.invokevirtual 219, 3) := by decide +kernel
theorem dL_areColours_126 : decode cL_areColours 126 = .ok (.aload_n 0, 1) := by decide +kernel
theorem dL_areColours_127 : decode cL_areColours 127 = .ok (.getfield 10, 3) := by decide +kernel
theorem dL_areColours_130 : decode cL_areColours 130 = .ok (.iload_n 2, 1) := by decide +kernel
theorem dL_areColours_131 : decode cL_areColours 131 = .ok (.invokevirtual 219, 3) := by decide +kernel
theorem dL_areColours_134 : decode cL_areColours 134 = .ok (.if_icmp .ne 5, 3) := by decide +kernel
theorem dL_areColours_137 : decode cL_areColours 137 = .ok (.iconst 0, 1) := by decide +kernel
theorem dL_areColours_138 : decode cL_areColours 138 = .ok (.ireturn, 1) := by decide +kernel
theorem dL_areColours_139 : decode cL_areColours 139 = .ok (.iinc 5 1, 3) := by decide +kernel
theorem dL_areColours_142 : decode cL_areColours 142 = .ok (.goto (-122), 3) := by decide +kernel
theorem dL_areColours_145 : decode cL_areColours 145 = .ok (.iload_n 1, 1) := by decide +kernel
theorem dL_areColours_146 : decode cL_areColours 146 = .ok (.iload_n 3, 1) := by decide +kernel
theorem dL_areColours_147 : decode cL_areColours 147 = .ok (.iload 4, 2) := by decide +kernel
theorem dL_areColours_149 : decode cL_areColours 149 = .ok (.invokestatic 202, 3) := by decide +kernel
theorem dL_areColours_152 : decode cL_areColours 152 = .ok (.invokestatic 202, 3) := by decide +kernel
theorem dL_areColours_155 : decode cL_areColours 155 = .ok (.istore_n 1, 1) := by decide +kernel
theorem dL_areColours_156 : decode cL_areColours 156 = .ok (.iinc 2 1, 3) := by decide +kernel
theorem dL_areColours_159 : decode cL_areColours 159 = .ok (.goto (-155), 3) := by decide +kernel
theorem dL_areColours_162 : decode cL_areColours 162 = .ok (.iconst 0, 1) := by decide +kernel
theorem dL_areColours_163 : decode cL_areColours 163 = .ok (.istore_n 2, 1) := by decide +kernel
theorem dL_areColours_164 : decode cL_areColours 164 = .ok (.iload_n 2, 1) := by decide +kernel
theorem dL_areColours_165 : decode cL_areColours 165 = .ok (.aload_n 0, 1) := by decide +kernel
theorem dL_areColours_166 : decode cL_areColours 166 = .ok (.getfield 66, 3) := by decide +kernel
theorem dL_areColours_169 : decode cL_areColours 169 = .ok (.if_icmp .ge 34, 3) := by decide +kernel
theorem dL_areColours_172 : decode cL_areColours 172 = .ok (.aload_n 0, 1) := by decide +kernel
theorem dL_areColours_173 : decode cL_areColours 173 = .ok (.getfield 10, 3) := by decide +kernel
theorem dL_areColours_176 : decode cL_areColours 176 = .ok (.iload_n 2, 1) := by decide +kernel
theorem dL_areColours_177 : decode cL_areColours 177 = .ok (.invokevirtual 219, 3) := by decide +kernel
theorem dL_areColours_180 : decode cL_areColours 180 = .ok (.ifCond .lt 15, 3) := by decide +kernel
theorem dL_areColours_183 : decode cL_areColours 183 = .ok (.aload_n 0, 1) := by decide +kernel
theorem dL_areColours_184 : decode cL_areColours 184 = .ok (.getfield 10, 3) := by decide +kernel
theorem dL_areColours_187 : decode cL_areColours 187 = .ok (.iload_n 2, 1) := by decide +kernel
theorem dL_areColours_188 : decode cL_areColours 188 = .ok (.invokevirtual 219, 3) := by decide +kernel
theorem dL_areColours_191 : decode cL_areColours 191 = .ok (.iload_n 1, 1) := by decide +kernel
theorem dL_areColours_192 : decode cL_areColours 192 = .ok (.if_icmp .lt 5, 3) := by decide +kernel
theorem dL_areColours_195 : decode cL_areColours 195 = .ok (.iconst 0, 1) := by decide +kernel
theorem dL_areColours_196 : decode cL_areColours 196 = .ok (.ireturn, 1) := by decide +kernel
theorem dL_areColours_197 : decode cL_areColours 197 = .ok (.iinc 2 1, 3) := by decide +kernel
theorem dL_areColours_200 : decode cL_areColours 200 = .ok (.goto (-36), 3) := by decide +kernel
theorem dL_areColours_203 : decode cL_areColours 203 = .ok (.aload_n 0, 1) := by decide +kernel
theorem dL_areColours_204 : decode cL_areColours 204 = .ok (.getfield 10, 3) := by decide +kernel
theorem dL_areColours_207 : decode cL_areColours 207 = .ok (.invokevirtual 222, 3) := by decide +kernel
theorem dL_areColours_210 : decode cL_areColours 210 = .ok (.iload_n 1, 1) := by decide +kernel
theorem dL_areColours_211 : decode cL_areColours 211 = .ok (.if_icmp .ne 7, 3) := by decide +kernel
theorem dL_areColours_214 : decode cL_areColours 214 = .ok (.iconst 1, 1) := by decide +kernel
theorem dL_areColours_215 : decode cL_areColours 215 = .ok (.goto 4, 3) := by decide +kernel
theorem dL_areColours_218 : decode cL_areColours 218 = .ok (.iconst 0, 1) := by decide +kernel
theorem dL_areColours_219 : decode cL_areColours 219 = .ok (.ireturn, 1) := by decide +kernel
set_option maxRecDepth 20000 in
theorem ggL_areExams_L_next : GoodIn wsL_areExams wsL_next := goodIn_r _ [7, 8, 9, 114, 115, 116, 117, 118, 119, 120, 121, 122, 123, 124, 125, 126, 127, 128, 129, 130] (by decide +kernel) (by decide +kernel)
set_option maxRecDepth 20000 in
theorem gL_areExams_L_next : GoodIn wsL_areExams (wsV RL 76 RL yL_next wsL_next) := goodIn_app (goodIn_of _ (by decide +kernel)) ggL_areExams_L_next
set_option maxRecDepth 20000 in
theorem ggL_areExams_X11_setApart : GoodIn wsL_areExams wsX11_setApart := goodIn_ca (goodIn_r _ [14, 15, 16, 17, 18, 19, 20, 13, 21, 22, 23, 24, 25, 26, 27, 28, 29, 30, 31, 32, 33, 34, 35, 36, 37, 38, 39, 40, 41, 42, 43, 44, 45, 46, 47, 48, 49, 50, 51, 52, 53, 54, 55, 56, 57, 58, 59, 60, 61, 62, 63, 64, 65, 131, 132, 133, 134, 135, 136, 137, 138, 139, 140, 141, 142, 143, 144, 145, 146, 147, 148, 149, 150, 151, 152, 153, 154] (by decide +kernel) (by decide +kernel)) (goodIn_sub (fun _ h => List.mem_cons_of_mem _ (List.mem_append_right _ h)) (by decide +kernel))
set_option maxRecDepth 20000 in
theorem gL_areExams_X11_setApart : GoodIn wsL_areExams (wsV RL 225 RX11 yX11_setApart wsX11_setApart) := goodIn_app (goodIn_of _ (by decide +kernel)) ggL_areExams_X11_setApart
set_option maxRecDepth 20000 in
theorem ggL_areExams_X11_daysNeeded : GoodIn wsL_areExams wsX11_daysNeeded := goodIn_r _ [69, 70, 17, 71, 72, 73, 74, 75, 76, 77, 78, 79, 80, 81, 48, 82, 83, 84, 85, 86, 87, 88, 59, 89, 65, 131, 132, 133, 134, 135, 136, 137, 138, 139, 140, 141, 155, 142, 143] (by decide +kernel) (by decide +kernel)
set_option maxRecDepth 20000 in
theorem gL_areExams_X11_daysNeeded : GoodIn wsL_areExams (wsV RL 228 RX11 yX11_daysNeeded wsX11_daysNeeded) := goodIn_app (goodIn_of _ (by decide +kernel)) ggL_areExams_X11_daysNeeded
set_option maxRecDepth 20000 in
theorem ggL_areExams_X11_examDay : GoodIn wsL_areExams wsX11_examDay := goodIn_ca (goodIn_r _ [93, 70, 17, 94, 18, 19, 20, 13, 21, 22, 23, 24, 25, 15, 16, 71, 72, 73, 74, 75, 76, 77, 78, 79, 80, 81, 48, 82, 83, 84, 85, 86, 87, 88, 59, 89, 65, 131, 132, 133, 134, 135, 136, 137, 138, 139, 140, 141, 155, 142, 143] (by decide +kernel) (by decide +kernel)) (goodIn_sub (fun _ h => List.mem_cons_of_mem _ (List.mem_append_right _ h)) (by decide +kernel))
set_option maxRecDepth 20000 in
theorem gL_areExams_X11_examDay : GoodIn wsL_areExams (wsV RL 231 RX11 yX11_examDay wsX11_examDay) := goodIn_app (goodIn_of _ (by decide +kernel)) ggL_areExams_X11_examDay
set_option maxRecDepth 20000 in
theorem ggL_areExams_X11_group : GoodIn wsL_areExams wsX11_group := goodIn_r _ [98, 70, 17, 99, 100, 101, 74, 102, 103, 104, 105, 106, 107, 108, 109, 110, 111, 112, 113, 86, 87, 88, 59, 89, 65, 131, 132, 133, 134, 135, 136, 137, 138, 139, 140, 141, 142, 143] (by decide +kernel) (by decide +kernel)
set_option maxRecDepth 20000 in
theorem gL_areExams_X11_group : GoodIn wsL_areExams (wsV RL 234 RX11 yX11_group wsX11_group) := goodIn_app (goodIn_of _ (by decide +kernel)) ggL_areExams_X11_group
theorem dL_areExams_0 : decode cL_areExams 0 = .ok (.aload_n 0, 1) := by decide +kernel
theorem dL_areExams_1 : decode cL_areExams 1 = .ok (.bipush 16, 2) := by decide +kernel
theorem dL_areExams_3 : decode cL_areExams 3 = .ok (.invokevirtual 76, 3) := by decide +kernel
theorem dL_areExams_6 : decode cL_areExams 6 = .ok (.istore_n 1, 1) := by decide +kernel
theorem dL_areExams_7 : decode cL_areExams 7 = .ok (.iload_n 1, 1) := by decide +kernel
theorem dL_areExams_8 : decode cL_areExams 8 = .ok (.ifCond .le 84, 3) := by decide +kernel
theorem dL_areExams_11 : decode cL_areExams 11 = .ok (.aload_n 0, 1) := by decide +kernel
theorem dL_areExams_12 : decode cL_areExams 12 = .ok (.bipush 8, 2) := by decide +kernel
theorem dL_areExams_14 : decode cL_areExams 14 = .ok (.invokevirtual 76, 3) := by decide +kernel
theorem dL_areExams_17 : decode cL_areExams 17 = .ok (.istore_n 2, 1) := by decide +kernel
theorem dL_areExams_18 : decode cL_areExams 18 = .ok (.iload_n 2, 1) := by decide +kernel
theorem dL_areExams_19 : decode cL_areExams 19 = .ok (.iconst 1, 1) := by decide +kernel
theorem dL_areExams_20 : decode cL_areExams 20 = .ok (.iadd, 1) := by decide +kernel
theorem dL_areExams_21 : decode cL_areExams 21 = .ok (.aload_n 0, 1) := by decide +kernel
theorem dL_areExams_22 : decode cL_areExams 22 = .ok (.bipush 7, 2) := by decide +kernel
theorem dL_areExams_24 : decode cL_areExams 24 = .ok (.invokevirtual 76, 3) := by decide +kernel
theorem dL_areExams_27 : decode cL_areExams 27 = .ok (.iadd, 1) := by decide +kernel
theorem dL_areExams_28 : decode cL_areExams 28 = .ok (.bipush 8, 2) := by decide +kernel
theorem dL_areExams_30 : decode cL_areExams 30 = .ok (.irem, 1) := by decide +kernel
theorem dL_areExams_31 : decode cL_areExams 31 = .ok (.istore_n 3, 1) := by decide +kernel
theorem dL_areExams_32 : decode cL_areExams 32 = .ok (.aload_n 0, 1) := by decide +kernel
theorem dL_areExams_33 : decode cL_areExams 33 = .ok (.getfield 54, 3) := by decide +kernel
theorem dL_areExams_36 : decode cL_areExams 36 = .ok (.bipush 8, 2) := by decide +kernel
theorem dL_areExams_38 : decode cL_areExams 38 = .ok (.iload_n 2, 1) := by decide +kernel
theorem dL_areExams_39 : decode cL_areExams 39 = .ok (.imul, 1) := by decide +kernel
theorem dL_areExams_40 : decode cL_areExams 40 = .ok (.iload_n 3, 1) := by decide +kernel
theorem dL_areExams_41 : decode cL_areExams 41 = .ok (.iadd, 1) := by decide +kernel
theorem dL_areExams_42 : decode cL_areExams 42 = .ok (.baload, 1) := by decide +kernel
theorem dL_areExams_43 : decode cL_areExams 43 = .ok (.istore 4, 2) := by decide +kernel
theorem dL_areExams_45 : decode cL_areExams 45 = .ok (.aload_n 0, 1) := by decide +kernel
theorem dL_areExams_46 : decode cL_areExams 46 = .ok (.getfield 10, 3) := by decide +kernel
theorem dL_areExams_49 : decode cL_areExams 49 = .ok (.iload_n 2, 1) := by decide +kernel
theorem dL_areExams_50 : decode cL_areExams 50 = .ok (.iload_n 3, 1) := by decide +kernel
theorem dL_areExams_51 : decode cL_areExams 51 = .ok (.iconst 1, 1) := by decide +kernel
theorem dL_areExams_52 : decode cL_areExams 52 = .ok (.invokevirtual 225, 3) := by decide +kernel
theorem dL_areExams_55 : decode cL_areExams 55 = .ok (.iload 4, 2) := by decide +kernel
theorem dL_areExams_57 : decode cL_areExams 57 = .ok (.if_icmp .eq 5, 3) := by decide +kernel
theorem dL_areExams_60 : decode cL_areExams 60 = .ok (.iconst 0, 1) := by decide +kernel
theorem dL_areExams_61 : decode cL_areExams 61 = .ok (.ireturn, 1) := by decide +kernel
theorem dL_areExams_62 : decode cL_areExams 62 = .ok (.aload_n 0, 1) := by decide +kernel
theorem dL_areExams_63 : decode cL_areExams 63 = .ok (.getfield 54, 3) := by decide +kernel
theorem dL_areExams_66 : decode cL_areExams 66 = .ok (.bipush 8, 2) := by decide +kernel
theorem dL_areExams_68 : decode cL_areExams 68 = .ok (.iload_n 2, 1) := by decide +kernel
theorem dL_areExams_69 : decode cL_areExams 69 = .ok (.imul, 1) := by decide +kernel
theorem dL_areExams_70 : decode cL_areExams 70 = .ok (.iload_n 3, 1) := by decide +kernel
theorem dL_areExams_71 : decode cL_areExams 71 = .ok (.iadd, 1) := by decide +kernel
theorem dL_areExams_72 : decode cL_areExams 72 = .ok (.iconst 1, 1) := by decide +kernel
theorem dL_areExams_73 : decode cL_areExams 73 = .ok (.bastore, 1) := by decide +kernel
theorem dL_areExams_74 : decode cL_areExams 74 = .ok (.aload_n 0, 1) := by decide +kernel
theorem dL_areExams_75 : decode cL_areExams 75 = .ok (.getfield 54, 3) := by decide +kernel
theorem dL_areExams_78 : decode cL_areExams 78 = .ok (.bipush 8, 2) := by decide +kernel
theorem dL_areExams_80 : decode cL_areExams 80 = .ok (.iload_n 3, 1) := by decide +kernel
theorem dL_areExams_81 : decode cL_areExams 81 = .ok (.imul, 1) := by decide +kernel
theorem dL_areExams_82 : decode cL_areExams 82 = .ok (.iload_n 2, 1) := by decide +kernel
theorem dL_areExams_83 : decode cL_areExams 83 = .ok (.iadd, 1) := by decide +kernel
theorem dL_areExams_84 : decode cL_areExams 84 = .ok (.iconst 1, 1) := by decide +kernel
theorem dL_areExams_85 : decode cL_areExams 85 = .ok (.bastore, 1) := by decide +kernel
theorem dL_areExams_86 : decode cL_areExams 86 = .ok (.iinc 1 (-1), 3) := by decide +kernel
theorem dL_areExams_89 : decode cL_areExams 89 = .ok (.goto (-82), 3) := by decide +kernel
theorem dL_areExams_92 : decode cL_areExams 92 = .ok (.aload_n 0, 1) := by decide +kernel
theorem dL_areExams_93 : decode cL_areExams 93 = .ok (.getfield 10, 3) := by decide +kernel
theorem dL_areExams_96 : decode cL_areExams 96 = .ok (.invokevirtual 228, 3) := by decide +kernel
theorem dL_areExams_99 : decode cL_areExams 99 = .ok (.istore_n 1, 1) := by decide +kernel
theorem dL_areExams_100 : decode cL_areExams 100 = .ok (.iconst 0, 1) := by decide +kernel
theorem dL_areExams_101 : decode cL_areExams 101 = .ok (.istore_n 2, 1) := by decide +kernel
theorem dL_areExams_102 : decode cL_areExams 102 = .ok (.iconst 0, 1) := by decide +kernel
theorem dL_areExams_103 : decode cL_areExams 103 = .ok (.istore_n 3, 1) := by decide +kernel
theorem dL_areExams_104 : decode cL_areExams 104 = .ok (.iload_n 3, 1) := by decide +kernel
theorem dL_areExams_105 : decode cL_areExams 105 = .ok (.bipush 8, 2) := by decide +kernel
theorem dL_areExams_107 : decode cL_areExams 107 = .ok (.if_icmp .ge 86, 3) := by decide +kernel
theorem dL_areExams_110 : decode cL_areExams 110 = .ok (.aload_n 0, 1) := by decide +kernel
theorem dL_areExams_111 : decode cL_areExams 111 = .ok (.getfield 10, 3) := by decide +kernel
theorem dL_areExams_114 : decode cL_areExams 114 = .ok (.iload_n 3, 1) := by decide +kernel
theorem dL_areExams_115 : decode cL_areExams 115 = .ok (.invokevirtual 231, 3) := by decide +kernel
theorem dL_areExams_118 : decode cL_areExams 118 = .ok (.ifCond .lt 15, 3) := by decide +kernel
theorem dL_areExams_121 : decode cL_areExams 121 = .ok (.aload_n 0, 1) := by decide +kernel
theorem dL_areExams_122 : decode cL_areExams 122 = .ok (.getfield 10, 3) := by decide +kernel
theorem dL_areExams_125 : decode cL_areExams 125 = .ok (.iload_n 3, 1) := by decide +kernel
theorem dL_areExams_126 : decode cL_areExams 126 = .ok (.invokevirtual 231, 3) := by decide +kernel
theorem dL_areExams_129 : decode cL_areExams 129 = .ok (.iload_n 1, 1) := by decide +kernel
theorem dL_areExams_130 : decode cL_areExams 130 = .ok (.if_icmp .lt 5, 3) := by decide +kernel
theorem dL_areExams_133 : decode cL_areExams 133 = .ok (.iconst 0, 1) := by decide +kernel
theorem dL_areExams_134 : decode cL_areExams 134 = .ok (.ireturn, 1) := by decide +kernel
theorem dL_areExams_135 : decode cL_areExams 135 = .ok (.iconst 0, 1) := by decide +kernel
theorem dL_areExams_136 : decode cL_areExams 136 = .ok (.istore 4, 2) := by decide +kernel
theorem dL_areExams_138 : decode cL_areExams 138 = .ok (.iload 4, 2) := by decide +kernel
theorem dL_areExams_140 : decode cL_areExams 140 = .ok (.iload_n 3, 1) := by decide +kernel
theorem dL_areExams_141 : decode cL_areExams 141 = .ok (.if_icmp .ge 46, 3) := by decide +kernel
theorem dL_areExams_144 : decode cL_areExams 144 = .ok (.aload_n 0, 1) := by decide +kernel
theorem dL_areExams_145 : decode cL_areExams 145 = .ok (.getfield 54, 3) := by decide +kernel
theorem dL_areExams_148 : decode cL_areExams 148 = .ok (.bipush 8, 2) := by decide +kernel
theorem dL_areExams_150 : decode cL_areExams 150 = .ok (.iload_n 3, 1) := by decide +kernel
theorem dL_areExams_151 : decode cL_areExams 151 = .ok (.imul, 1) := by decide +kernel
theorem dL_areExams_152 : decode cL_areExams 152 = .ok (.iload 4, 2) := by decide +kernel
theorem dL_areExams_154 : decode cL_areExams 154 = .ok (.iadd, 1) := by decide +kernel
theorem dL_areExams_155 : decode cL_areExams 155 = .ok (.baload, 1) := by decide +kernel
theorem dL_areExams_156 : decode cL_areExams 156 = .ok (.ifCond .eq 25, 3) := by decide +kernel
theorem dL_areExams_159 : decode cL_areExams 159 = .ok (.aload_n 0, 1) := by decide +kernel
theorem dL_areExams_160 : decode cL_areExams 160 = .ok (.getfield 10, 3) := by decide +kernel
theorem dL_areExams_163 : decode cL_areExams 163 = .ok (.iload 4, 2) := by decide +kernel
theorem dL_areExams_165 : decode cL_areExams 165 = .ok (.invokevirtual 231, 3) := by decide +kernel
theorem dL_areExams_168 : decode cL_areExams 168 = .ok (.aload_n 0, 1) := by decide +kernel
theorem dL_areExams_169 : decode cL_areExams 169 = .ok (.getfield 10, 3) := by decide +kernel
theorem dL_areExams_172 : decode cL_areExams 172 = .ok (.iload_n 3, 1) := by decide +kernel
theorem dL_areExams_173 : decode cL_areExams 173 = .ok (.invokevirtual 231, 3) := by decide +kernel
theorem dL_areExams_176 : decode cL_areExams 176 = .ok (.if_icmp .ne 5, 3) := by decide +kernel
theorem dL_areExams_179 : decode cL_areExams 179 = .ok (.iconst 0, 1) := by decide +kernel
theorem dL_areExams_180 : decode cL_areExams 180 = .ok (.ireturn, 1) := by decide +kernel
theorem dL_areExams_181 : decode cL_areExams 181 = .ok (.iinc 4 1, 3) := by decide +kernel
theorem dL_areExams_184 : decode cL_areExams 184 = .ok (.goto (-46), 3) := by decide +kernel
theorem dL_areExams_187 : decode cL_areExams 187 = .ok (.iinc 3 1, 3) := by decide +kernel
theorem dL_areExams_190 : decode cL_areExams 190 = .ok (.goto (-86), 3) := by decide +kernel
theorem dL_areExams_193 : decode cL_areExams 193 = .ok (.aload_n 0, 1) := by decide +kernel
theorem dL_areExams_194 : decode cL_areExams 194 = .ok (.getfield 10, 3) := by decide +kernel
theorem dL_areExams_197 : decode cL_areExams 197 = .ok (.invokevirtual 234, 3) := by decide +kernel
theorem dL_areExams_200 : decode cL_areExams 200 = .ok (.istore_n 3, 1) := by decide +kernel
theorem dL_areExams_201 : decode cL_areExams 201 = .ok (.iconst 0, 1) := by decide +kernel
theorem dL_areExams_202 : decode cL_areExams 202 = .ok (.istore 4, 2) := by decide +kernel
theorem dL_areExams_204 : decode cL_areExams 204 = .ok (.iload 4, 2) := by decide +kernel
theorem dL_areExams_206 : decode cL_areExams 206 = .ok (.bipush 8, 2) := by decide +kernel
theorem dL_areExams_208 : decode cL_areExams 208 = .ok (.if_icmp .ge 67, 3) := by decide +kernel
theorem dL_areExams_211 : decode cL_areExams 211 = .ok (.iload_n 2, 1) := by decide +kernel
theorem dL_areExams_212 : decode cL_areExams 212 = .ok (.iload_n 3, 1) := by decide +kernel
theorem dL_areExams_213 : decode cL_areExams 213 = .ok (.iload 4, 2) := by decide +kernel
theorem dL_areExams_215 : decode cL_areExams 215 = .ok (.ishr, 1) := by decide +kernel
theorem dL_areExams_216 : decode cL_areExams 216 = .ok (.iconst 1, 1) := by decide +kernel
theorem dL_areExams_217 : decode cL_areExams 217 = .ok (.iand, 1) := by decide +kernel
theorem dL_areExams_218 : decode cL_areExams 218 = .ok (.iadd, 1) := by decide +kernel
theorem dL_areExams_219 : decode cL_areExams 219 = .ok (.istore_n 2, 1) := by decide +kernel
theorem dL_areExams_220 : decode cL_areExams 220 = .ok (.iconst 0, 1) := by decide +kernel
theorem dL_areExams_221 : decode cL_areExams 221 = .ok (.istore 5, 2) := by decide +kernel
theorem dL_areExams_223 : decode cL_areExams 223 = .ok (.iload 5, 2) := by decide +kernel
theorem dL_areExams_225 : decode cL_areExams 225 = .ok (.iload 4, 2) := by decide +kernel
theorem dL_areExams_227 : decode cL_areExams 227 = .ok (.if_icmp .ge 42, 3) := by decide +kernel
theorem dL_areExams_230 : decode cL_areExams 230 = .ok (.iload_n 3, 1) := by decide +kernel
theorem dL_areExams_231 : decode cL_areExams 231 = .ok (.iload 4, 2) := by decide +kernel
theorem dL_areExams_233 : decode cL_areExams 233 = .ok (.ishr, 1) := by decide +kernel
theorem dL_areExams_234 : decode cL_areExams 234 = .ok (.iload_n 3, 1) := by decide +kernel
theorem dL_areExams_235 : decode cL_areExams 235 = .ok (.iload 5, 2) := by decide +kernel
theorem dL_areExams_237 : decode cL_areExams 237 = .ok (.ishr, 1) := by decide +kernel
theorem dL_areExams_238 : decode cL_areExams 238 = .ok (.iand, 1) := by decide +kernel
theorem dL_areExams_239 : decode cL_areExams 239 = .ok (.iconst 1, 1) := by decide +kernel
theorem dL_areExams_240 : decode cL_areExams 240 = .ok (.iand, 1) := by decide +kernel
theorem dL_areExams_241 : decode cL_areExams 241 = .ok (.iconst 1, 1) := by decide +kernel
theorem dL_areExams_242 : decode cL_areExams 242 = .ok (.if_icmp .ne 21, 3) := by decide +kernel
theorem dL_areExams_245 : decode cL_areExams 245 = .ok (.aload_n 0, 1) := by decide +kernel
theorem dL_areExams_246 : decode cL_areExams 246 = .ok (.getfield 54, 3) := by decide +kernel
theorem dL_areExams_249 : decode cL_areExams 249 = .ok (.bipush 8, 2) := by decide +kernel
theorem dL_areExams_251 : decode cL_areExams 251 = .ok (.iload 4, 2) := by decide +kernel
theorem dL_areExams_253 : decode cL_areExams 253 = .ok (.imul, 1) := by decide +kernel
theorem dL_areExams_254 : decode cL_areExams 254 = .ok (.iload 5, 2) := by decide +kernel
theorem dL_areExams_256 : decode cL_areExams 256 = .ok (.iadd, 1) := by decide +kernel
theorem dL_areExams_257 : decode cL_areExams 257 = .ok (.baload, 1) := by decide +kernel
theorem dL_areExams_258 : decode cL_areExams 258 = .ok (.ifCond .ne 5, 3) := by decide +kernel
theorem dL_areExams_261 : decode cL_areExams 261 = .ok (.iconst 0, 1) := by decide +kernel
theorem dL_areExams_262 : decode cL_areExams 262 = .ok (.ireturn, 1) := by decide +kernel
theorem dL_areExams_263 : decode cL_areExams 263 = .ok (.iinc 5 1, 3) := by decide +kernel
theorem dL_areExams_266 : decode cL_areExams 266 = .ok (.goto (-43), 3) := by decide +kernel
theorem dL_areExams_269 : decode cL_areExams 269 = .ok (.iinc 4 1, 3) := by decide +kernel
theorem dL_areExams_272 : decode cL_areExams 272 = .ok (.goto (-68), 3) := by decide +kernel
theorem dL_areExams_275 : decode cL_areExams 275 = .ok (.iload_n 2, 1) := by decide +kernel
theorem dL_areExams_276 : decode cL_areExams 276 = .ok (.ifCond .le 23, 3) := by decide +kernel
theorem dL_areExams_279 : decode cL_areExams 279 = .ok (.iload_n 2, 1) := by decide +kernel
theorem dL_areExams_280 : decode cL_areExams 280 = .ok (.iload_n 1, 1) := by decide +kernel
theorem dL_areExams_281 : decode cL_areExams 281 = .ok (.if_icmp .gt 18, 3) := by decide +kernel
theorem dL_areExams_284 : decode cL_areExams 284 = .ok (.aload_n 0, 1) := by decide +kernel
theorem dL_areExams_285 : decode cL_areExams 285 = .ok (.getfield 10, 3) := by decide +kernel
theorem dL_areExams_288 : decode cL_areExams 288 = .ok (.iconst 0, 1) := by decide +kernel
theorem dL_areExams_289 : decode cL_areExams 289 = .ok (.invokevirtual 231, 3) := by decide +kernel
theorem dL_areExams_292 : decode cL_areExams 292 = .ok (.ifCond .ne 7, 3) := by decide +kernel
theorem dL_areExams_295 : decode cL_areExams 295 = .ok (.iconst 1, 1) := by decide +kernel
theorem dL_areExams_296 : decode cL_areExams 296 = .ok (.goto 4, 3) := by decide +kernel
theorem dL_areExams_299 : decode cL_areExams 299 = .ok (.iconst 0, 1) := by decide +kernel
theorem dL_areExams_300 : decode cL_areExams 300 = .ok (.ireturn, 1) := by decide +kernel
set_option maxRecDepth 20000 in
theorem ggL_isYear_X11_dayOfWeek : GoodIn wsL_isYear wsX11_dayOfWeek := goodIn_ca (goodIn_r _ [8, 9, 10, 11, 12, 7, 13, 14, 15, 16, 17, 18, 19, 20, 21, 22, 23, 24, 25, 26, 27, 28, 29, 30, 31, 32, 33, 34, 35, 36, 37, 38, 150, 151, 152, 153, 154, 155, 156, 157, 158, 159, 160] (by decide +kernel) (by decide +kernel)) (goodIn_sub (fun _ h => List.mem_cons_of_mem _ (List.mem_append_left _ (List.mem_append_left _ (List.mem_append_right _ h)))) (by decide +kernel))
set_option maxRecDepth 20000 in
theorem gL_isYear_X11_dayOfWeek : GoodIn wsL_isYear (wsV RL 237 RX11 yX11_dayOfWeek wsX11_dayOfWeek) := goodIn_app (goodIn_of _ (by decide +kernel)) ggL_isYear_X11_dayOfWeek
set_option maxRecDepth 20000 in
theorem ggL_isYear_X11_setYear : GoodIn wsL_isYear wsX11_setYear := goodIn_ca (goodIn_r _ [42, 14, 15, 9, 10, 11, 12, 7, 13, 16, 17, 18, 19, 20, 21, 22, 23, 24, 25, 26, 27, 28, 29, 30, 31, 32, 33, 34, 35, 36, 37, 38, 43, 44, 45, 46, 47, 48, 49, 50, 51, 52, 53, 54, 55, 150, 151, 152, 153, 154, 155, 156, 157, 158, 159, 160, 161, 162, 163] (by decide +kernel) (by decide +kernel)) (goodIn_sub (fun _ h => List.mem_cons_of_mem _ (List.mem_append_left _ (List.mem_append_left _ (List.mem_append_right _ h)))) (by decide +kernel))
set_option maxRecDepth 20000 in
theorem gL_isYear_X11_setYear : GoodIn wsL_isYear (wsV RL 240 RX11 yX11_setYear wsX11_setYear) := goodIn_app (goodIn_of _ (by decide +kernel)) ggL_isYear_X11_setYear
set_option maxRecDepth 20000 in
theorem ggL_isYear_L_next : GoodIn wsL_isYear wsL_next := goodIn_r _ [60, 61, 62, 133, 134, 135, 136, 137, 138, 139, 140, 141, 142, 143, 144, 145, 146, 147, 148, 149] (by decide +kernel) (by decide +kernel)
set_option maxRecDepth 20000 in
theorem gL_isYear_L_next : GoodIn wsL_isYear (wsV RL 76 RL yL_next wsL_next) := goodIn_app (goodIn_of _ (by decide +kernel)) ggL_isYear_L_next
set_option maxRecDepth 20000 in
theorem ggL_isYear_X11_later : GoodIn wsL_isYear wsX11_later := goodIn_ca (goodIn_r _ [66, 9, 10, 11, 12, 7, 13, 14, 15, 16, 17, 18, 19, 20, 21, 22, 23, 24, 25, 26, 27, 28, 29, 30, 67, 68, 69, 70, 71, 51, 52, 53, 54, 55, 150, 151, 152, 153, 154, 155, 156, 157, 158, 159, 160] (by decide +kernel) (by decide +kernel)) (goodIn_sub (fun _ h => List.mem_cons_of_mem _ (List.mem_append_left _ (List.mem_append_left _ (List.mem_append_right _ h)))) (by decide +kernel))
set_option maxRecDepth 20000 in
theorem gL_isYear_X11_later : GoodIn wsL_isYear (wsV RL 244 RX11 yX11_later wsX11_later) := goodIn_app (goodIn_of _ (by decide +kernel)) ggL_isYear_X11_later
set_option maxRecDepth 20000 in
theorem ggL_isYear_X11_holiday : GoodIn wsL_isYear wsX11_holiday := goodIn_ca (goodIn_ca (goodIn_r _ [75, 14, 15, 76, 77, 9, 78, 10, 11, 12, 7, 13, 16, 17, 18, 19, 20, 21, 22, 23, 24, 25, 26, 27, 28, 29, 30, 79, 80, 81, 82, 47, 83, 84, 85, 86, 49, 48, 150, 151, 152, 153, 154, 155, 156, 157, 158, 159, 160, 161, 162, 163] (by decide +kernel) (by decide +kernel)) (goodIn_sub (fun _ h => List.mem_cons_of_mem _ (List.mem_append_left _ (List.mem_append_left _ (List.mem_append_right _ h)))) (by decide +kernel))) (goodIn_sub (fun _ h => List.mem_cons_of_mem _ (List.mem_append_left _ (List.mem_append_right _ h))) (by decide +kernel))
set_option maxRecDepth 20000 in
theorem gL_isYear_X11_holiday : GoodIn wsL_isYear (wsV RL 247 RX11 yX11_holiday wsX11_holiday) := goodIn_app (goodIn_of _ (by decide +kernel)) ggL_isYear_X11_holiday
set_option maxRecDepth 20000 in
theorem ggL_isYear_X11_schoolDays : GoodIn wsL_isYear wsX11_schoolDays := goodIn_r _ [90, 9, 91, 92, 93, 19, 94, 95, 96, 97, 98, 49, 150, 151, 152, 153, 154, 155, 156, 157, 158, 159, 160, 161, 162, 163] (by decide +kernel) (by decide +kernel)
set_option maxRecDepth 20000 in
theorem gL_isYear_X11_schoolDays : GoodIn wsL_isYear (wsV RL 250 RX11 yX11_schoolDays wsX11_schoolDays) := goodIn_app (goodIn_of _ (by decide +kernel)) ggL_isYear_X11_schoolDays
set_option maxRecDepth 20000 in
theorem ggL_isYear_X11_dateOf : GoodIn wsL_isYear wsX11_dateOf := goodIn_ca (goodIn_r _ [102, 103, 104, 9, 105, 106, 96, 97, 19, 98, 49, 71, 51, 52, 53, 30, 29, 54, 55, 150, 151, 152, 153, 154, 155, 156, 157, 158, 159, 160, 161, 162, 163] (by decide +kernel) (by decide +kernel)) (goodIn_sub (fun _ h => List.mem_cons_of_mem _ (List.mem_append_right _ h)) (by decide +kernel))
set_option maxRecDepth 20000 in
theorem gL_isYear_X11_dateOf : GoodIn wsL_isYear (wsV RL 253 RX11 yX11_dateOf wsX11_dateOf) := goodIn_app (goodIn_of _ (by decide +kernel)) ggL_isYear_X11_dateOf
set_option maxRecDepth 20000 in
theorem ggL_isYear_X11_numberOf : GoodIn wsL_isYear wsX11_numberOf := goodIn_ca (goodIn_r _ [110, 9, 105, 10, 11, 12, 7, 13, 14, 15, 16, 17, 18, 19, 20, 21, 22, 23, 24, 25, 26, 27, 28, 29, 30, 106, 96, 97, 98, 49, 91, 92, 93, 94, 95, 150, 151, 152, 153, 154, 155, 156, 157, 158, 159, 160, 161, 162, 163] (by decide +kernel) (by decide +kernel)) (goodIn_sub (fun _ h => List.mem_cons_of_mem _ (List.mem_append_left _ (List.mem_append_left _ (List.mem_append_right _ h)))) (by decide +kernel))
set_option maxRecDepth 20000 in
theorem gL_isYear_X11_numberOf : GoodIn wsL_isYear (wsV RL 256 RX11 yX11_numberOf wsX11_numberOf) := goodIn_app (goodIn_of _ (by decide +kernel)) ggL_isYear_X11_numberOf
set_option maxRecDepth 20000 in
theorem ggL_isYear_X11_weekOf : GoodIn wsL_isYear wsX11_weekOf := goodIn_ca (goodIn_r _ [114, 9, 105, 10, 11, 12, 7, 13, 14, 15, 16, 17, 18, 19, 20, 21, 22, 23, 24, 25, 26, 27, 28, 29, 30, 115, 116, 117, 118, 67, 68, 69, 70, 119, 120, 121, 122, 123, 124, 125, 126, 127, 92, 93, 94, 95, 96, 97, 98, 49, 91, 150, 151, 152, 153, 154, 155, 156, 157, 158, 159, 160, 161, 162, 163] (by decide +kernel) (by decide +kernel)) (goodIn_sub (fun _ h => List.mem_cons_of_mem _ (List.mem_append_left _ (List.mem_append_left _ (List.mem_append_right _ h)))) (by decide +kernel))
set_option maxRecDepth 20000 in
theorem gL_isYear_X11_weekOf : GoodIn wsL_isYear (wsV RL 259 RX11 yX11_weekOf wsX11_weekOf) := goodIn_app (goodIn_of _ (by decide +kernel)) ggL_isYear_X11_weekOf
set_option maxRecDepth 20000 in
theorem ggL_isYear_X11_nextDay : GoodIn wsL_isYear wsX11_nextDay := goodIn_ca (goodIn_r _ [131, 9, 105, 132, 84, 85, 86, 10, 11, 12, 7, 13, 14, 15, 16, 17, 18, 19, 20, 21, 22, 23, 24, 25, 26, 27, 28, 29, 30, 106, 96, 97, 98, 49, 71, 51, 52, 53, 54, 55, 150, 151, 152, 153, 154, 155, 156, 157, 158, 159, 160, 161, 162, 163] (by decide +kernel) (by decide +kernel)) (goodIn_sub (fun _ h => List.mem_cons_of_mem _ (List.mem_append_left _ (List.mem_append_left _ (List.mem_append_right _ h)))) (by decide +kernel))
set_option maxRecDepth 20000 in
theorem gL_isYear_X11_nextDay : GoodIn wsL_isYear (wsV RL 262 RX11 yX11_nextDay wsX11_nextDay) := goodIn_app (goodIn_of _ (by decide +kernel)) ggL_isYear_X11_nextDay
theorem dL_isYear_0 : decode cL_isYear 0 = .ok (.ldc 236, 2) := by decide +kernel
theorem dL_isYear_2 : decode cL_isYear 2 = .ok (.istore_n 1, 1) := by decide +kernel
theorem dL_isYear_3 : decode cL_isYear 3 = .ok (.aload_n 0, 1) := by decide +kernel
theorem dL_isYear_4 : decode cL_isYear 4 = .ok (.getfield 10, 3) := by decide +kernel
theorem dL_isYear_7 : decode cL_isYear 7 = .ok (.iload_n 1, 1) := by decide +kernel
theorem dL_isYear_8 : decode cL_isYear 8 = .ok (.invokevirtual 237, 3) := by decide +kernel
theorem dL_isYear_11 : decode cL_isYear 11 = .ok (.ifCond .ne 16, 3) := by decide +kernel
theorem dL_isYear_14 : decode cL_isYear 14 = .ok (.aload_n 0, 1) := by decide +kernel
theorem dL_isYear_15 : decode cL_isYear 15 = .ok (.getfield 10, 3) := by decide +kernel
theorem dL_isYear_18 : decode cL_isYear 18 = .ok (.iload_n 1, 1) := by decide +kernel
theorem dL_isYear_19 : decode cL_isYear 19 = .ok (.invokevirtual 240, 3) := by decide +kernel
theorem dL_isYear_22 : decode cL_isYear 22 = .ok (.ldc 243, 2) := by decide +kernel
theorem dL_isYear_24 : decode cL_isYear 24 = .ok (.if_icmp .eq 5, 3) := by decide +kernel
theorem dL_isYear_27 : decode cL_isYear 27 = .ok (.iconst 0, 1) := by decide +kernel
theorem dL_isYear_28 : decode cL_isYear 28 = .ok (.ireturn, 1) := by decide +kernel
theorem dL_isYear_29 : decode cL_isYear 29 = .ok (.aload_n 0, 1) := by decide +kernel
theorem dL_isYear_30 : decode cL_isYear 30 = .ok (.iconst 4, 1) := by decide +kernel
theorem dL_isYear_31 : decode cL_isYear 31 = .ok (.invokevirtual 76, 3) := by decide +kernel
theorem dL_isYear_34 : decode cL_isYear 34 = .ok (.istore_n 2, 1) := by decide +kernel
theorem dL_isYear_35 : decode cL_isYear 35 = .ok (.iload_n 2, 1) := by decide +kernel
theorem dL_isYear_36 : decode cL_isYear 36 = .ok (.ifCond .le 59, 3) := by decide +kernel
theorem dL_isYear_39 : decode cL_isYear 39 = .ok (.aload_n 0, 1) := by decide +kernel
theorem dL_isYear_40 : decode cL_isYear 40 = .ok (.getfield 10, 3) := by decide +kernel
theorem dL_isYear_43 : decode cL_isYear 43 = .ok (.iload_n 1, 1) := by decide +kernel
theorem dL_isYear_44 : decode cL_isYear 44 = .ok (.aload_n 0, 1) := by decide +kernel
theorem dL_isYear_45 : decode cL_isYear 45 = .ok (.sipush 300, 3) := by decide +kernel
theorem dL_isYear_48 : decode cL_isYear 48 = .ok (.invokevirtual 76, 3) := by decide +kernel
theorem dL_isYear_51 : decode cL_isYear 51 = .ok (.iconst 5, 1) := by decide +kernel
theorem dL_isYear_52 : decode cL_isYear 52 = .ok (.isub, 1) := by decide +kernel
theorem dL_isYear_53 : decode cL_isYear 53 = .ok (.invokevirtual 244, 3) := by decide +kernel
theorem dL_isYear_56 : decode cL_isYear 56 = .ok (.istore_n 3, 1) := by decide +kernel
theorem dL_isYear_57 : decode cL_isYear 57 = .ok (.aload_n 0, 1) := by decide +kernel
theorem dL_isYear_58 : decode cL_isYear 58 = .ok (.getfield 10, 3) := by decide +kernel
theorem dL_isYear_61 : decode cL_isYear 61 = .ok (.iload_n 3, 1) := by decide +kernel
theorem dL_isYear_62 : decode cL_isYear 62 = .ok (.aload_n 0, 1) := by decide +kernel
theorem dL_isYear_63 : decode cL_isYear 63 = .ok (.bipush 20, 2) := by decide +kernel
theorem dL_isYear_65 : decode cL_isYear 65 = .ok (.invokevirtual 76, 3) := by decide +kernel
theorem dL_isYear_68 : decode cL_isYear 68 = .ok (.invokevirtual 244, 3) := by decide +kernel
theorem dL_isYear_71 : decode cL_isYear 71 = .ok (.istore 4, 2) := by decide +kernel
theorem dL_isYear_73 : decode cL_isYear 73 = .ok (.aload_n 0, 1) := by decide +kernel
theorem dL_isYear_74 : decode cL_isYear 74 = .ok (.getfield 10, 3) := by decide +kernel
theorem dL_isYear_77 : decode cL_isYear 77 = .ok (.iload_n 3, 1) := by decide +kernel
theorem dL_isYear_78 : decode cL_isYear 78 = .ok (.iload 4, 2) := by decide +kernel
theorem dL_isYear_80 : decode cL_isYear 80 = .ok (.invokevirtual 247, 3) := by decide +kernel
theorem dL_isYear_83 : decode cL_isYear 83 = .ok (.iconst 1, 1) := by decide +kernel
theorem dL_isYear_84 : decode cL_isYear 84 = .ok (.if_icmp .ge 5, 3) := by decide +kernel
theorem dL_isYear_87 : decode cL_isYear 87 = .ok (.iconst 0, 1) := by decide +kernel
theorem dL_isYear_88 : decode cL_isYear 88 = .ok (.ireturn, 1) := by decide +kernel
theorem dL_isYear_89 : decode cL_isYear 89 = .ok (.iinc 2 (-1), 3) := by decide +kernel
theorem dL_isYear_92 : decode cL_isYear 92 = .ok (.goto (-57), 3) := by decide +kernel
theorem dL_isYear_95 : decode cL_isYear 95 = .ok (.aload_n 0, 1) := by decide +kernel
theorem dL_isYear_96 : decode cL_isYear 96 = .ok (.getfield 10, 3) := by decide +kernel
theorem dL_isYear_99 : decode cL_isYear 99 = .ok (.invokevirtual 250, 3) := by decide +kernel
theorem dL_isYear_102 : decode cL_isYear 102 = .ok (.istore_n 2, 1) := by decide +kernel
theorem dL_isYear_103 : decode cL_isYear 103 = .ok (.iconst 0, 1) := by decide +kernel
theorem dL_isYear_104 : decode cL_isYear 104 = .ok (.istore_n 3, 1) := by decide +kernel
theorem dL_isYear_105 : decode cL_isYear 105 = .ok (.iload_n 3, 1) := by decide +kernel
theorem dL_isYear_106 : decode cL_isYear 106 = .ok (.bipush 6, 2) := by decide +kernel
theorem dL_isYear_108 : decode cL_isYear 108 = .ok (.if_icmp .ge 133, 3) := by decide +kernel
theorem dL_isYear_111 : decode cL_isYear 111 = .ok (.iload_n 2, 1) := by decide +kernel
theorem dL_isYear_112 : decode cL_isYear 112 = .ok (.ifCond .le 129, 3) := by decide +kernel
theorem dL_isYear_115 : decode cL_isYear 115 = .ok (.aload_n 0, 1) := by decide +kernel
theorem dL_isYear_116 : decode cL_isYear 116 = .ok (.iload_n 2, 1) := by decide +kernel
theorem dL_isYear_117 : decode cL_isYear 117 = .ok (.invokevirtual 76, 3) := by decide +kernel
theorem dL_isYear_120 : decode cL_isYear 120 = .ok (.istore 4, 2) := by decide +kernel
theorem dL_isYear_122 : decode cL_isYear 122 = .ok (.aload_n 0, 1) := by decide +kernel
theorem dL_isYear_123 : decode cL_isYear 123 = .ok (.getfield 10, 3) := by decide +kernel
theorem dL_isYear_126 : decode cL_isYear 126 = .ok (.iload 4, 2) := by decide +kernel
theorem dL_isYear_128 : decode cL_isYear 128 = .ok (.invokevirtual 253, 3) := by decide +kernel
theorem dL_isYear_131 : decode cL_isYear 131 = .ok (.istore 5, 2) := by decide +kernel
theorem dL_isYear_133 : decode cL_isYear 133 = .ok (.aload_n 0, 1) := by decide +kernel
theorem dL_isYear_134 : decode cL_isYear 134 = .ok (.getfield 10, 3) := by decide +kernel
theorem dL_isYear_137 : decode cL_isYear 137 = .ok (.iload 5, 2) := by decide +kernel
theorem dL_isYear_139 : decode cL_isYear 139 = .ok (.invokevirtual 256, 3) := by decide +kernel
theorem dL_isYear_142 : decode cL_isYear 142 = .ok (.iload 4, 2) := by decide +kernel
theorem dL_isYear_144 : decode cL_isYear 144 = .ok (.if_icmp .ne 43, 3) := by decide +kernel
theorem dL_isYear_147 : decode cL_isYear 147 = .ok (.aload_n 0, 1) := by decide +kernel
theorem dL_isYear_148 : decode cL_isYear 148 = .ok (.getfield 10, 3) := by decide +kernel
theorem dL_isYear_151 : decode cL_isYear 151 = .ok (.iload 5, 2) := by decide +kernel
theorem dL_isYear_153 : decode cL_isYear 153 = .ok (.invokevirtual 237, 3) := by decide +kernel
theorem dL_isYear_156 : decode cL_isYear 156 = .ok (.iconst 4, 1) := by decide +kernel
theorem dL_isYear_157 : decode cL_isYear 157 = .ok (.if_icmp .gt 30, 3) := by decide +kernel
theorem dL_isYear_160 : decode cL_isYear 160 = .ok (.aload_n 0, 1) := by decide +kernel
theorem dL_isYear_161 : decode cL_isYear 161 = .ok (.getfield 10, 3) := by decide +kernel
theorem dL_isYear_164 : decode cL_isYear 164 = .ok (.iload 5, 2) := by decide +kernel
theorem dL_isYear_166 : decode cL_isYear 166 = .ok (.iconst 2, 1) := by decide +kernel
theorem dL_isYear_167 : decode cL_isYear 167 = .ok (.invokevirtual 259, 3) := by decide +kernel
theorem dL_isYear_170 : decode cL_isYear 170 = .ok (.iconst 1, 1) := by decide +kernel
theorem dL_isYear_171 : decode cL_isYear 171 = .ok (.if_icmp .lt 16, 3) := by decide +kernel
theorem dL_isYear_174 : decode cL_isYear 174 = .ok (.aload_n 0, 1) := by decide +kernel
theorem dL_isYear_175 : decode cL_isYear 175 = .ok (.getfield 10, 3) := by decide +kernel
theorem dL_isYear_178 : decode cL_isYear 178 = .ok (.iload 5, 2) := by decide +kernel
theorem dL_isYear_180 : decode cL_isYear 180 = .ok (.iconst 1, 1) := by decide +kernel
theorem dL_isYear_181 : decode cL_isYear 181 = .ok (.invokevirtual 259, 3) := by decide +kernel
theorem dL_isYear_184 : decode cL_isYear 184 = .ok (.ifCond .ge 5, 3) := by decide +kernel
theorem dL_isYear_187 : decode cL_isYear 187 = .ok (.iconst 0, 1) := by decide +kernel
theorem dL_isYear_188 : decode cL_isYear 188 = .ok (.ireturn, 1) := by decide +kernel
theorem dL_isYear_189 : decode cL_isYear 189 = .ok (.iload 4, 2) := by decide +kernel
theorem dL_isYear_191 : decode cL_isYear 191 = .ok (.ifCond .le 44, 3) := by decide +kernel
theorem dL_isYear_194 : decode cL_isYear 194 = .ok (.aload_n 0, 1) := by decide +kernel
theorem dL_isYear_195 : decode cL_isYear 195 = .ok (.getfield 10, 3) := by decide +kernel
theorem dL_isYear_198 : decode cL_isYear 198 = .ok (.iload 4, 2) := by decide +kernel
theorem dL_isYear_200 : decode cL_isYear 200 = .ok (.iconst 1, 1) := by decide +kernel
theorem dL_isYear_201 : decode cL_isYear 201 = .ok (.isub, 1) := by decide +kernel
theorem dL_isYear_202 : decode cL_isYear 202 = .ok (.invokevirtual 253, 3) := by decide +kernel
theorem dL_isYear_205 : decode cL_isYear 205 = .ok (.iload 5, 2) := by decide +kernel
theorem dL_isYear_207 : decode cL_isYear 207 = .ok (.if_icmp .ge 26, 3) := by decide +kernel
theorem dL_isYear_210 : decode cL_isYear 210 = .ok (.aload_n 0, 1) := by decide +kernel
theorem dL_isYear_211 : decode cL_isYear 211 = .ok (.getfield 10, 3) := by decide +kernel
theorem dL_isYear_214 : decode cL_isYear 214 = .ok (.aload_n 0, 1) := by decide +kernel
theorem dL_isYear_215 : decode cL_isYear 215 = .ok (.getfield 10, 3) := by decide +kernel
theorem dL_isYear_218 : decode cL_isYear 218 = .ok (.iload 4, 2) := by decide +kernel
theorem dL_isYear_220 : decode cL_isYear 220 = .ok (.iconst 1, 1) := by decide +kernel
theorem dL_isYear_221 : decode cL_isYear 221 = .ok (.isub, 1) := by decide +kernel
theorem dL_isYear_222 : decode cL_isYear 222 = .ok (.invokevirtual 253, 3) := by decide +kernel
theorem dL_isYear_225 : decode cL_isYear 225 = .ok (.invokevirtual 262, 3) := by decide +kernel
theorem dL_isYear_228 : decode cL_isYear 228 = .ok (.iload 5, 2) := by decide +kernel
theorem dL_isYear_230 : decode cL_isYear 230 = .ok (.if_icmp .eq 5, 3) := by decide +kernel
theorem dL_isYear_233 : decode cL_isYear 233 = .ok (.iconst 0, 1) := by decide +kernel
theorem dL_isYear_234 : decode cL_isYear 234 = .ok (.ireturn, 1) := by decide +kernel
theorem dL_isYear_235 : decode cL_isYear 235 = .ok (.iinc 3 1, 3) := by decide +kernel
theorem dL_isYear_238 : decode cL_isYear 238 = .ok (.goto (-133), 3) := by decide +kernel
theorem dL_isYear_241 : decode cL_isYear 241 = .ok (.iconst 0, 1) := by decide +kernel
theorem dL_isYear_242 : decode cL_isYear 242 = .ok (.istore_n 3, 1) := by decide +kernel
theorem dL_isYear_243 : decode cL_isYear 243 = .ok (.iconst 0, 1) := by decide +kernel
theorem dL_isYear_244 : decode cL_isYear 244 = .ok (.istore 4, 2) := by decide +kernel
theorem dL_isYear_246 : decode cL_isYear 246 = .ok (.iload 4, 2) := by decide +kernel
theorem dL_isYear_248 : decode cL_isYear 248 = .ok (.bipush 40, 2) := by decide +kernel
theorem dL_isYear_250 : decode cL_isYear 250 = .ok (.if_icmp .ge 78, 3) := by decide +kernel
theorem dL_isYear_253 : decode cL_isYear 253 = .ok (.aload_n 0, 1) := by decide +kernel
theorem dL_isYear_254 : decode cL_isYear 254 = .ok (.getfield 10, 3) := by decide +kernel
theorem dL_isYear_257 : decode cL_isYear 257 = .ok (.iload_n 1, 1) := by decide +kernel
theorem dL_isYear_258 : decode cL_isYear 258 = .ok (.bipush 7, 2) := by decide +kernel
theorem dL_isYear_260 : decode cL_isYear 260 = .ok (.iload 4, 2) := by decide +kernel
theorem dL_isYear_262 : decode cL_isYear 262 = .ok (.imul, 1) := by decide +kernel
theorem dL_isYear_263 : decode cL_isYear 263 = .ok (.invokevirtual 244, 3) := by decide +kernel
theorem dL_isYear_266 : decode cL_isYear 266 = .ok (.istore 5, 2) := by decide +kernel
theorem dL_isYear_268 : decode cL_isYear 268 = .ok (.aload_n 0, 1) := by decide +kernel
theorem dL_isYear_269 : decode cL_isYear 269 = .ok (.getfield 10, 3) := by decide +kernel
theorem dL_isYear_272 : decode cL_isYear 272 = .ok (.iload 5, 2) := by decide +kernel
theorem dL_isYear_274 : decode cL_isYear 274 = .ok (.iconst 0, 1) := by decide +kernel
theorem dL_isYear_275 : decode cL_isYear 275 = .ok (.invokevirtual 259, 3) := by decide +kernel
theorem dL_isYear_278 : decode cL_isYear 278 = .ok (.iload 4, 2) := by decide +kernel
theorem dL_isYear_280 : decode cL_isYear 280 = .ok (.if_icmp .ne 27, 3) := by decide +kernel
theorem dL_isYear_283 : decode cL_isYear 283 = .ok (.aload_n 0, 1) := by decide +kernel
theorem dL_isYear_284 : decode cL_isYear 284 = .ok (.getfield 10, 3) := by decide +kernel
theorem dL_isYear_287 : decode cL_isYear 287 = .ok (.aload_n 0, 1) := by decide +kernel
theorem dL_isYear_288 : decode cL_isYear 288 = .ok (.getfield 10, 3) := by decide +kernel
theorem dL_isYear_291 : decode cL_isYear 291 = .ok (.iload 5, 2) := by decide +kernel
theorem dL_isYear_293 : decode cL_isYear 293 = .ok (.bipush 6, 2) := by decide +kernel
theorem dL_isYear_295 : decode cL_isYear 295 = .ok (.invokevirtual 244, 3) := by decide +kernel
theorem dL_isYear_298 : decode cL_isYear 298 = .ok (.iconst 0, 1) := by decide +kernel
theorem dL_isYear_299 : decode cL_isYear 299 = .ok (.invokevirtual 259, 3) := by decide +kernel
theorem dL_isYear_302 : decode cL_isYear 302 = .ok (.iload 4, 2) := by decide +kernel
theorem dL_isYear_304 : decode cL_isYear 304 = .ok (.if_icmp .eq 5, 3) := by decide +kernel
theorem dL_isYear_307 : decode cL_isYear 307 = .ok (.iconst 0, 1) := by decide +kernel
theorem dL_isYear_308 : decode cL_isYear 308 = .ok (.ireturn, 1) := by decide +kernel
theorem dL_isYear_309 : decode cL_isYear 309 = .ok (.iload_n 3, 1) := by decide +kernel
theorem dL_isYear_310 : decode cL_isYear 310 = .ok (.aload_n 0, 1) := by decide +kernel
theorem dL_isYear_311 : decode cL_isYear 311 = .ok (.getfield 10, 3) := by decide +kernel
theorem dL_isYear_314 : decode cL_isYear 314 = .ok (.iload 5, 2) := by decide +kernel
theorem dL_isYear_316 : decode cL_isYear 316 = .ok (.iconst 2, 1) := by decide +kernel
theorem dL_isYear_317 : decode cL_isYear 317 = .ok (.invokevirtual 259, 3) := by decide +kernel
theorem dL_isYear_320 : decode cL_isYear 320 = .ok (.iadd, 1) := by decide +kernel
theorem dL_isYear_321 : decode cL_isYear 321 = .ok (.istore_n 3, 1) := by decide +kernel
theorem dL_isYear_322 : decode cL_isYear 322 = .ok (.iinc 4 1, 3) := by decide +kernel
theorem dL_isYear_325 : decode cL_isYear 325 = .ok (.goto (-79), 3) := by decide +kernel
theorem dL_isYear_328 : decode cL_isYear 328 = .ok (.aload_n 0, 1) := by decide +kernel
theorem dL_isYear_329 : decode cL_isYear 329 = .ok (.sipush 2001, 3) := by decide +kernel
theorem dL_isYear_332 : decode cL_isYear 332 = .ok (.invokevirtual 76, 3) := by decide +kernel
theorem dL_isYear_335 : decode cL_isYear 335 = .ok (.sipush 1000, 3) := by decide +kernel
theorem dL_isYear_338 : decode cL_isYear 338 = .ok (.isub, 1) := by decide +kernel
theorem dL_isYear_339 : decode cL_isYear 339 = .ok (.istore 4, 2) := by decide +kernel
theorem dL_isYear_341 : decode cL_isYear 341 = .ok (.iload_n 3, 1) := by decide +kernel
theorem dL_isYear_342 : decode cL_isYear 342 = .ok (.iload_n 2, 1) := by decide +kernel
theorem dL_isYear_343 : decode cL_isYear 343 = .ok (.if_icmp .ne 59, 3) := by decide +kernel
theorem dL_isYear_346 : decode cL_isYear 346 = .ok (.aload_n 0, 1) := by decide +kernel
theorem dL_isYear_347 : decode cL_isYear 347 = .ok (.getfield 10, 3) := by decide +kernel
theorem dL_isYear_350 : decode cL_isYear 350 = .ok (.aload_n 0, 1) := by decide +kernel
theorem dL_isYear_351 : decode cL_isYear 351 = .ok (.getfield 10, 3) := by decide +kernel
theorem dL_isYear_354 : decode cL_isYear 354 = .ok (.iload_n 1, 1) := by decide +kernel
theorem dL_isYear_355 : decode cL_isYear 355 = .ok (.sipush 280, 3) := by decide +kernel
theorem dL_isYear_358 : decode cL_isYear 358 = .ok (.invokevirtual 244, 3) := by decide +kernel
theorem dL_isYear_361 : decode cL_isYear 361 = .ok (.iconst 0, 1) := by decide +kernel
theorem dL_isYear_362 : decode cL_isYear 362 = .ok (.invokevirtual 259, 3) := by decide +kernel
theorem dL_isYear_365 : decode cL_isYear 365 = .ok (.iconst (-1), 1) := by decide +kernel
theorem dL_isYear_366 : decode cL_isYear 366 = .ok (.if_icmp .ne 36, 3) := by decide +kernel
theorem dL_isYear_369 : decode cL_isYear 369 = .ok (.iload 4, 2) := by decide +kernel
theorem dL_isYear_371 : decode cL_isYear 371 = .ok (.ifCond .lt 27, 3) := by decide +kernel
theorem dL_isYear_374 : decode cL_isYear 374 = .ok (.aload_n 0, 1) := by decide +kernel
theorem dL_isYear_375 : decode cL_isYear 375 = .ok (.getfield 10, 3) := by decide +kernel
theorem dL_isYear_378 : decode cL_isYear 378 = .ok (.aload_n 0, 1) := by decide +kernel
theorem dL_isYear_379 : decode cL_isYear 379 = .ok (.getfield 10, 3) := by decide +kernel
theorem dL_isYear_382 : decode cL_isYear 382 = .ok (.iload_n 1, 1) := by decide +kernel
theorem dL_isYear_383 : decode cL_isYear 383 = .ok (.iload 4, 2) := by decide +kernel
theorem dL_isYear_385 : decode cL_isYear 385 = .ok (.invokevirtual 244, 3) := by decide +kernel
theorem dL_isYear_388 : decode cL_isYear 388 = .ok (.iload 4, 2) := by decide +kernel
theorem dL_isYear_390 : decode cL_isYear 390 = .ok (.ineg, 1) := by decide +kernel
theorem dL_isYear_391 : decode cL_isYear 391 = .ok (.invokevirtual 244, 3) := by decide +kernel
theorem dL_isYear_394 : decode cL_isYear 394 = .ok (.iload_n 1, 1) := by decide +kernel
theorem dL_isYear_395 : decode cL_isYear 395 = .ok (.if_icmp .ne 7, 3) := by decide +kernel
theorem dL_isYear_398 : decode cL_isYear 398 = .ok (.iconst 1, 1) := by decide +kernel
theorem dL_isYear_399 : decode cL_isYear 399 = .ok (.goto 4, 3) := by decide +kernel
theorem dL_isYear_402 : decode cL_isYear 402 = .ok (.iconst 0, 1) := by decide +kernel
theorem dL_isYear_403 : decode cL_isYear 403 = .ok (.ireturn, 1) := by decide +kernel
set_option maxRecDepth 20000 in
theorem ggL_areBells_L_next : GoodIn wsL_areBells wsL_next := goodIn_r _ [6, 7, 8, 45, 46, 47, 48, 49, 50, 51, 52, 53, 54, 55, 56, 57, 58, 59, 60, 61] (by decide +kernel) (by decide +kernel)
set_option maxRecDepth 20000 in
theorem gL_areBells_L_next : GoodIn wsL_areBells (wsV RL 76 RL yL_next wsL_next) := goodIn_app (goodIn_of _ (by decide +kernel)) ggL_areBells_L_next
set_option maxRecDepth 20000 in
theorem ggL_areBells_X11_setBells : GoodIn wsL_areBells wsX11_setBells := goodIn_ca (goodIn_r _ [13, 14, 15, 16, 17, 12, 18, 19, 20, 21, 22, 23, 24, 25, 26, 27, 28, 29, 30, 31, 32, 33, 34, 35, 36, 62, 63, 64, 65, 66, 67, 68, 69, 70, 71, 72, 73, 74, 75] (by decide +kernel) (by decide +kernel)) (goodIn_sub (fun _ h => List.mem_cons_of_mem _ (List.mem_append_right _ h)) (by decide +kernel))
set_option maxRecDepth 20000 in
theorem gL_areBells_X11_setBells : GoodIn wsL_areBells (wsV RL 265 RX11 yX11_setBells wsX11_setBells) := goodIn_app (goodIn_of _ (by decide +kernel)) ggL_areBells_X11_setBells
set_option maxRecDepth 20000 in
theorem ggL_areBells_X11_bell : GoodIn wsL_areBells wsX11_bell := goodIn_ca (goodIn_r _ [40, 14, 15, 16, 17, 12, 18, 19, 20, 21, 22, 23, 24, 33, 34, 35, 28, 36, 30, 31, 32, 62, 63, 64, 65, 66, 67, 68, 69, 70, 71, 72, 73, 74, 75] (by decide +kernel) (by decide +kernel)) (goodIn_sub (fun _ h => List.mem_cons_of_mem _ (List.mem_append_right _ h)) (by decide +kernel))
set_option maxRecDepth 20000 in
theorem gL_areBells_X11_bell : GoodIn wsL_areBells (wsV RL 268 RX11 yX11_bell wsX11_bell) := goodIn_app (goodIn_of _ (by decide +kernel)) ggL_areBells_X11_bell
set_option maxRecDepth 20000 in
theorem ggL_areBells_X11_slotAt : GoodIn wsL_areBells wsX11_slotAt := goodIn_ca (goodIn_r _ [44, 14, 15, 16, 17, 12, 18, 19, 20, 21, 22, 23, 24, 33, 34, 35, 28, 36, 30, 31, 32, 62, 63, 64, 65, 66, 67, 68, 69, 70, 71, 72, 73, 74, 75] (by decide +kernel) (by decide +kernel)) (goodIn_sub (fun _ h => List.mem_cons_of_mem _ (List.mem_append_right _ h)) (by decide +kernel))
set_option maxRecDepth 20000 in
theorem gL_areBells_X11_slotAt : GoodIn wsL_areBells (wsV RL 271 RX11 yX11_slotAt wsX11_slotAt) := goodIn_app (goodIn_of _ (by decide +kernel)) ggL_areBells_X11_slotAt
theorem dL_areBells_0 : decode cL_areBells 0 = .ok (.aload_n 0, 1) := by decide +kernel
theorem dL_areBells_1 : decode cL_areBells 1 = .ok (.iconst 5, 1) := by decide +kernel
theorem dL_areBells_2 : decode cL_areBells 2 = .ok (.invokevirtual 76, 3) := by decide +kernel
theorem dL_areBells_5 : decode cL_areBells 5 = .ok (.istore_n 1, 1) := by decide +kernel
theorem dL_areBells_6 : decode cL_areBells 6 = .ok (.sipush 420, 3) := by decide +kernel
theorem dL_areBells_9 : decode cL_areBells 9 = .ok (.aload_n 0, 1) := by decide +kernel
theorem dL_areBells_10 : decode cL_areBells 10 = .ok (.sipush 181, 3) := by decide +kernel
theorem dL_areBells_13 : decode cL_areBells 13 = .ok (.invokevirtual 76, 3) := by decide +kernel
theorem dL_areBells_16 : decode cL_areBells 16 = .ok (.iadd, 1) := by decide +kernel
theorem dL_areBells_17 : decode cL_areBells 17 = .ok (.istore_n 2, 1) := by decide +kernel
theorem dL_areBells_18 : decode cL_areBells 18 = .ok (.bipush 30, 2) := by decide +kernel
theorem dL_areBells_20 : decode cL_areBells 20 = .ok (.aload_n 0, 1) := by decide +kernel
theorem dL_areBells_21 : decode cL_areBells 21 = .ok (.bipush 31, 2) := by decide +kernel
theorem dL_areBells_23 : decode cL_areBells 23 = .ok (.invokevirtual 76, 3) := by decide +kernel
theorem dL_areBells_26 : decode cL_areBells 26 = .ok (.iadd, 1) := by decide +kernel
theorem dL_areBells_27 : decode cL_areBells 27 = .ok (.istore_n 3, 1) := by decide +kernel
theorem dL_areBells_28 : decode cL_areBells 28 = .ok (.aload_n 0, 1) := by decide +kernel
theorem dL_areBells_29 : decode cL_areBells 29 = .ok (.bipush 31, 2) := by decide +kernel
theorem dL_areBells_31 : decode cL_areBells 31 = .ok (.invokevirtual 76, 3) := by decide +kernel
theorem dL_areBells_34 : decode cL_areBells 34 = .ok (.istore 4, 2) := by decide +kernel
theorem dL_areBells_36 : decode cL_areBells 36 = .ok (.aload_n 0, 1) := by decide +kernel
theorem dL_areBells_37 : decode cL_areBells 37 = .ok (.getfield 10, 3) := by decide +kernel
theorem dL_areBells_40 : decode cL_areBells 40 = .ok (.iload_n 1, 1) := by decide +kernel
theorem dL_areBells_41 : decode cL_areBells 41 = .ok (.iload_n 2, 1) := by decide +kernel
theorem dL_areBells_42 : decode cL_areBells 42 = .ok (.iload_n 3, 1) := by decide +kernel
theorem dL_areBells_43 : decode cL_areBells 43 = .ok (.iload 4, 2) := by decide +kernel
theorem dL_areBells_45 : decode cL_areBells 45 = .ok (.invokevirtual 265, 3) := by decide +kernel
theorem dL_areBells_48 : decode cL_areBells 48 = .ok (.istore 5, 2) := by decide +kernel
theorem dL_areBells_50 : decode cL_areBells 50 = .ok (.iconst 0, 1) := by decide +kernel
theorem dL_areBells_51 : decode cL_areBells 51 = .ok (.istore 6, 2) := by decide +kernel
theorem dL_areBells_53 : decode cL_areBells 53 = .ok (.iload 6, 2) := by decide +kernel
theorem dL_areBells_55 : decode cL_areBells 55 = .ok (.iconst 4, 1) := by decide +kernel
theorem dL_areBells_56 : decode cL_areBells 56 = .ok (.if_icmp .ge 132, 3) := by decide +kernel
theorem dL_areBells_59 : decode cL_areBells 59 = .ok (.iconst 4, 1) := by decide +kernel
theorem dL_areBells_60 : decode cL_areBells 60 = .ok (.iload_n 1, 1) := by decide +kernel
theorem dL_areBells_61 : decode cL_areBells 61 = .ok (.imul, 1) := by decide +kernel
theorem dL_areBells_62 : decode cL_areBells 62 = .ok (.iload 6, 2) := by decide +kernel
theorem dL_areBells_64 : decode cL_areBells 64 = .ok (.iadd, 1) := by decide +kernel
theorem dL_areBells_65 : decode cL_areBells 65 = .ok (.istore 7, 2) := by decide +kernel
theorem dL_areBells_67 : decode cL_areBells 67 = .ok (.aload_n 0, 1) := by decide +kernel
theorem dL_areBells_68 : decode cL_areBells 68 = .ok (.getfield 10, 3) := by decide +kernel
theorem dL_areBells_71 : decode cL_areBells 71 = .ok (.iload 7, 2) := by decide +kernel
theorem dL_areBells_73 : decode cL_areBells 73 = .ok (.iconst 0, 1) := by decide +kernel
theorem dL_areBells_74 : decode cL_areBells 74 = .ok (.invokevirtual 268, 3) := by decide +kernel
theorem dL_areBells_77 : decode cL_areBells 77 = .ok (.istore 8, 2) := by decide +kernel
theorem dL_areBells_79 : decode cL_areBells 79 = .ok (.aload_n 0, 1) := by decide +kernel
theorem dL_areBells_80 : decode cL_areBells 80 = .ok (.getfield 10, 3) := by decide +kernel
theorem dL_areBells_83 : decode cL_areBells 83 = .ok (.iload 7, 2) := by decide +kernel
theorem dL_areBells_85 : decode cL_areBells 85 = .ok (.iconst 1, 1) := by decide +kernel
theorem dL_areBells_86 : decode cL_areBells 86 = .ok (.invokevirtual 268, 3) := by decide +kernel
theorem dL_areBells_89 : decode cL_areBells 89 = .ok (.istore 9, 2) := by decide +kernel
theorem dL_areBells_91 : decode cL_areBells 91 = .ok (.iload 8, 2) := by decide +kernel
theorem dL_areBells_93 : decode cL_areBells 93 = .ok (.iload_n 2, 1) := by decide +kernel
theorem dL_areBells_94 : decode cL_areBells 94 = .ok (.iload 6, 2) := by decide +kernel
theorem dL_areBells_96 : decode cL_areBells 96 = .ok (.iload_n 3, 1) := by decide +kernel
theorem dL_areBells_97 : decode cL_areBells 97 = .ok (.iload 4, 2) := by decide +kernel
theorem dL_areBells_99 : decode cL_areBells 99 = .ok (.iadd, 1) := by decide +kernel
theorem dL_areBells_100 : decode cL_areBells 100 = .ok (.imul, 1) := by decide +kernel
theorem dL_areBells_101 : decode cL_areBells 101 = .ok (.iadd, 1) := by decide +kernel
theorem dL_areBells_102 : decode cL_areBells 102 = .ok (.if_icmp .ne 44, 3) := by decide +kernel
theorem dL_areBells_105 : decode cL_areBells 105 = .ok (.iload 9, 2) := by decide +kernel
theorem dL_areBells_107 : decode cL_areBells 107 = .ok (.iload 8, 2) := by decide +kernel
theorem dL_areBells_109 : decode cL_areBells 109 = .ok (.iload_n 3, 1) := by decide +kernel
theorem dL_areBells_110 : decode cL_areBells 110 = .ok (.iadd, 1) := by decide +kernel
theorem dL_areBells_111 : decode cL_areBells 111 = .ok (.if_icmp .ne 35, 3) := by decide +kernel
theorem dL_areBells_114 : decode cL_areBells 114 = .ok (.aload_n 0, 1) := by decide +kernel
theorem dL_areBells_115 : decode cL_areBells 115 = .ok (.getfield 10, 3) := by decide +kernel
theorem dL_areBells_118 : decode cL_areBells 118 = .ok (.iload_n 1, 1) := by decide +kernel
theorem dL_areBells_119 : decode cL_areBells 119 = .ok (.iload 8, 2) := by decide +kernel
theorem dL_areBells_121 : decode cL_areBells 121 = .ok (.invokevirtual 271, 3) := by decide +kernel
theorem dL_areBells_124 : decode cL_areBells 124 = .ok (.iload 7, 2) := by decide +kernel
theorem dL_areBells_126 : decode cL_areBells 126 = .ok (.if_icmp .ne 20, 3) := by decide +kernel
theorem dL_areBells_129 : decode cL_areBells 129 = .ok (.aload_n 0, 1) := by decide +kernel
theorem dL_areBells_130 : decode cL_areBells 130 = .ok (.getfield 10, 3) := by decide +kernel
theorem dL_areBells_133 : decode cL_areBells 133 = .ok (.iload_n 1, 1) := by decide +kernel
theorem dL_areBells_134 : decode cL_areBells 134 = .ok (.iload 9, 2) := by decide +kernel
theorem dL_areBells_136 : decode cL_areBells 136 = .ok (.iconst 1, 1) := by decide +kernel
theorem dL_areBells_137 : decode cL_areBells 137 = .ok (.isub, 1) := by decide +kernel
theorem dL_areBells_138 : decode cL_areBells 138 = .ok (.invokevirtual 271, 3) := by decide +kernel
theorem dL_areBells_141 : decode cL_areBells 141 = .ok (.iload 7, 2) := by decide +kernel
theorem dL_areBells_143 : decode cL_areBells 143 = .ok (.if_icmp .eq 5, 3) := by decide +kernel
theorem dL_areBells_146 : decode cL_areBells 146 = .ok (.iconst 0, 1) := by decide +kernel
theorem dL_areBells_147 : decode cL_areBells 147 = .ok (.ireturn, 1) := by decide +kernel
theorem dL_areBells_148 : decode cL_areBells 148 = .ok (.iload 4, 2) := by decide +kernel
theorem dL_areBells_150 : decode cL_areBells 150 = .ok (.ifCond .le 17, 3) := by decide +kernel
theorem dL_areBells_153 : decode cL_areBells 153 = .ok (.aload_n 0, 1) := by decide +kernel
theorem dL_areBells_154 : decode cL_areBells 154 = .ok (.getfield 10, 3) := by decide +kernel
theorem dL_areBells_157 : decode cL_areBells 157 = .ok (.iload_n 1, 1) := by decide +kernel
theorem dL_areBells_158 : decode cL_areBells 158 = .ok (.iload 9, 2) := by decide +kernel
theorem dL_areBells_160 : decode cL_areBells 160 = .ok (.invokevirtual 271, 3) := by decide +kernel
theorem dL_areBells_163 : decode cL_areBells 163 = .ok (.iconst (-1), 1) := by decide +kernel
theorem dL_areBells_164 : decode cL_areBells 164 = .ok (.if_icmp .ne 16, 3) := by decide +kernel
theorem dL_areBells_167 : decode cL_areBells 167 = .ok (.iload 6, 2) := by decide +kernel
theorem dL_areBells_169 : decode cL_areBells 169 = .ok (.iconst 3, 1) := by decide +kernel
theorem dL_areBells_170 : decode cL_areBells 170 = .ok (.if_icmp .ne 12, 3) := by decide +kernel
theorem dL_areBells_173 : decode cL_areBells 173 = .ok (.iload 9, 2) := by decide +kernel
theorem dL_areBells_175 : decode cL_areBells 175 = .ok (.iload 5, 2) := by decide +kernel
theorem dL_areBells_177 : decode cL_areBells 177 = .ok (.if_icmp .eq 5, 3) := by decide +kernel
theorem dL_areBells_180 : decode cL_areBells 180 = .ok (.iconst 0, 1) := by decide +kernel
theorem dL_areBells_181 : decode cL_areBells 181 = .ok (.ireturn, 1) := by decide +kernel
theorem dL_areBells_182 : decode cL_areBells 182 = .ok (.iinc 6 1, 3) := by decide +kernel
theorem dL_areBells_185 : decode cL_areBells 185 = .ok (.goto (-132), 3) := by decide +kernel
theorem dL_areBells_188 : decode cL_areBells 188 = .ok (.aload_n 0, 1) := by decide +kernel
theorem dL_areBells_189 : decode cL_areBells 189 = .ok (.getfield 10, 3) := by decide +kernel
theorem dL_areBells_192 : decode cL_areBells 192 = .ok (.iload_n 1, 1) := by decide +kernel
theorem dL_areBells_193 : decode cL_areBells 193 = .ok (.iload_n 2, 1) := by decide +kernel
theorem dL_areBells_194 : decode cL_areBells 194 = .ok (.iconst 1, 1) := by decide +kernel
theorem dL_areBells_195 : decode cL_areBells 195 = .ok (.isub, 1) := by decide +kernel
theorem dL_areBells_196 : decode cL_areBells 196 = .ok (.invokevirtual 271, 3) := by decide +kernel
theorem dL_areBells_199 : decode cL_areBells 199 = .ok (.iconst (-1), 1) := by decide +kernel
theorem dL_areBells_200 : decode cL_areBells 200 = .ok (.if_icmp .ne 7, 3) := by decide +kernel
theorem dL_areBells_203 : decode cL_areBells 203 = .ok (.iconst 1, 1) := by decide +kernel
theorem dL_areBells_204 : decode cL_areBells 204 = .ok (.goto 4, 3) := by decide +kernel
theorem dL_areBells_207 : decode cL_areBells 207 = .ok (.iconst 0, 1) := by decide +kernel
theorem dL_areBells_208 : decode cL_areBells 208 = .ok (.ireturn, 1) := by decide +kernel
theorem dL_stirred_0 : decode cL_stirred 0 = .ok (.ldc_w 274, 3) := by decide +kernel
theorem dL_stirred_3 : decode cL_stirred 3 = .ok (.istore_n 1, 1) := by decide +kernel
theorem dL_stirred_4 : decode cL_stirred 4 = .ok (.aload_n 0, 1) := by decide +kernel
theorem dL_stirred_5 : decode cL_stirred 5 = .ok (.astore_n 2, 1) := by decide +kernel
theorem dL_stirred_6 : decode cL_stirred 6 = .ok (.aload_n 2, 1) := by decide +kernel
theorem dL_stirred_7 : decode cL_stirred 7 = .ok (.arraylength, 1) := by decide +kernel
theorem dL_stirred_8 : decode cL_stirred 8 = .ok (.istore_n 3, 1) := by decide +kernel
theorem dL_stirred_9 : decode cL_stirred 9 = .ok (.iconst 0, 1) := by decide +kernel
theorem dL_stirred_10 : decode cL_stirred 10 = .ok (.istore 4, 2) := by decide +kernel
theorem dL_stirred_12 : decode cL_stirred 12 = .ok (.iload 4, 2) := by decide +kernel
theorem dL_stirred_14 : decode cL_stirred 14 = .ok (.iload_n 3, 1) := by decide +kernel
theorem dL_stirred_15 : decode cL_stirred 15 = .ok (.if_icmp .ge 34, 3) := by decide +kernel
theorem dL_stirred_18 : decode cL_stirred 18 = .ok (.aload_n 2, 1) := by decide +kernel
theorem dL_stirred_19 : decode cL_stirred 19 = .ok (.iload 4, 2) := by decide +kernel
theorem dL_stirred_21 : decode cL_stirred 21 = .ok (.iaload, 1) := by decide +kernel
theorem dL_stirred_22 : decode cL_stirred 22 = .ok (.istore 5, 2) := by decide +kernel
theorem dL_stirred_24 : decode cL_stirred 24 = .ok (.iload_n 1, 1) := by decide +kernel
theorem dL_stirred_25 : decode cL_stirred 25 = .ok (.iload 5, 2) := by decide +kernel
theorem dL_stirred_27 : decode cL_stirred 27 = .ok (.ixor, 1) := by decide +kernel
theorem dL_stirred_28 : decode cL_stirred 28 = .ok (.ldc 61, 2) := by decide +kernel
theorem dL_stirred_30 : decode cL_stirred 30 = .ok (.imul, 1) := by decide +kernel
theorem dL_stirred_31 : decode cL_stirred 31 = .ok (.sipush 12345, 3) := by decide +kernel
theorem dL_stirred_34 : decode cL_stirred 34 = .ok (.iadd, 1) := by decide +kernel
theorem dL_stirred_35 : decode cL_stirred 35 = .ok (.istore_n 1, 1) := by decide +kernel
theorem dL_stirred_36 : decode cL_stirred 36 = .ok (.iload_n 1, 1) := by decide +kernel
theorem dL_stirred_37 : decode cL_stirred 37 = .ok (.iload_n 1, 1) := by decide +kernel
theorem dL_stirred_38 : decode cL_stirred 38 = .ok (.bipush 15, 2) := by decide +kernel
theorem dL_stirred_40 : decode cL_stirred 40 = .ok (.iushr, 1) := by decide +kernel
theorem dL_stirred_41 : decode cL_stirred 41 = .ok (.ixor, 1) := by decide +kernel
theorem dL_stirred_42 : decode cL_stirred 42 = .ok (.istore_n 1, 1) := by decide +kernel
theorem dL_stirred_43 : decode cL_stirred 43 = .ok (.iinc 4 1, 3) := by decide +kernel
theorem dL_stirred_46 : decode cL_stirred 46 = .ok (.goto (-34), 3) := by decide +kernel
theorem dL_stirred_49 : decode cL_stirred 49 = .ok (.iload_n 1, 1) := by decide +kernel
theorem dL_stirred_50 : decode cL_stirred 50 = .ok (.ireturn, 1) := by decide +kernel
theorem dL_law_0 : decode cL_law 0 = .ok (.new 11, 3) := by decide +kernel
theorem dL_law_3 : decode cL_law 3 = .ok (.dup, 1) := by decide +kernel
theorem dL_law_4 : decode cL_law 4 = .ok (.invokespecial 275, 3) := by decide +kernel
theorem dL_law_7 : decode cL_law 7 = .ok (.astore_n 1, 1) := by decide +kernel
theorem dL_law_8 : decode cL_law 8 = .ok (.aload_n 1, 1) := by decide +kernel
theorem dL_law_9 : decode cL_law 9 = .ok (.aload_n 0, 1) := by decide +kernel
theorem dL_law_10 : decode cL_law 10 = .ok (.invokestatic 276, 3) := by decide +kernel
theorem dL_law_13 : decode cL_law 13 = .ok (.putfield 57, 3) := by decide +kernel
theorem dL_law_16 : decode cL_law 16 = .ok (.aload_n 1, 1) := by decide +kernel
theorem dL_law_17 : decode cL_law 17 = .ok (.invokevirtual 280, 3) := by decide +kernel
theorem dL_law_20 : decode cL_law 20 = .ok (.ifCond .eq 52, 3) := by decide +kernel
theorem dL_law_23 : decode cL_law 23 = .ok (.aload_n 1, 1) := by decide +kernel
theorem dL_law_24 : decode cL_law 24 = .ok (.invokevirtual 283, 3) := by decide +kernel
theorem dL_law_27 : decode cL_law 27 = .ok (.ifCond .eq 45, 3) := by decide +kernel
theorem dL_law_30 : decode cL_law 30 = .ok (.aload_n 1, 1) := by decide +kernel
theorem dL_law_31 : decode cL_law 31 = .ok (.invokevirtual 286, 3) := by decide +kernel
theorem dL_law_34 : decode cL_law 34 = .ok (.ifCond .eq 38, 3) := by decide +kernel
theorem dL_law_37 : decode cL_law 37 = .ok (.aload_n 1, 1) := by decide +kernel
theorem dL_law_38 : decode cL_law 38 = .ok (.invokevirtual 289, 3) := by decide +kernel
theorem dL_law_41 : decode cL_law 41 = .ok (.ifCond .eq 31, 3) := by decide +kernel
theorem dL_law_44 : decode cL_law 44 = .ok (.aload_n 1, 1) := by decide +kernel
theorem dL_law_45 : decode cL_law 45 = .ok (.invokevirtual 292, 3) := by decide +kernel
theorem dL_law_48 : decode cL_law 48 = .ok (.ifCond .eq 24, 3) := by decide +kernel
theorem dL_law_51 : decode cL_law 51 = .ok (.aload_n 1, 1) := by decide +kernel
theorem dL_law_52 : decode cL_law 52 = .ok (.invokevirtual 295, 3) := by decide +kernel
theorem dL_law_55 : decode cL_law 55 = .ok (.ifCond .eq 17, 3) := by decide +kernel
theorem dL_law_58 : decode cL_law 58 = .ok (.aload_n 1, 1) := by decide +kernel
theorem dL_law_59 : decode cL_law 59 = .ok (.getfield 10, 3) := by decide +kernel
theorem dL_law_62 : decode cL_law 62 = .ok (.invokevirtual 298, 3) := by decide +kernel
theorem dL_law_65 : decode cL_law 65 = .ok (.ifCond .ne 7, 3) := by decide +kernel
theorem dL_law_68 : decode cL_law 68 = .ok (.iconst 1, 1) := by decide +kernel
theorem dL_law_69 : decode cL_law 69 = .ok (.goto 4, 3) := by decide +kernel
theorem dL_law_72 : decode cL_law 72 = .ok (.iconst 0, 1) := by decide +kernel
theorem dL_law_73 : decode cL_law 73 = .ok (.ireturn, 1) := by decide +kernel
