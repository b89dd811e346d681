theorem dL_holds_102 : decode cL_holds 102 = .ok (.if_icmp .ge 5, 3) := by decide +kernel
theorem dL_holds_105 : decode cL_holds 105 = .ok (.iconst 1, 1) := by decide +kernel
theorem dL_holds_106 : decode cL_holds 106 = .ok (.ireturn, 1) := by decide +kernel
theorem dL_holds_107 : decode cL_holds 107 = .ok (.aload_n 0, 1) := by decide +kernel
theorem dL_holds_108 : decode cL_holds 108 = .ok (.getfield 35, 3) := by decide +kernel
theorem dL_holds_111 : decode cL_holds 111 = .ok (.iload_n 1, 1) := by decide +kernel
theorem dL_holds_112 : decode cL_holds 112 = .ok (.iaload, 1) := by decide +kernel
theorem dL_holds_113 : decode cL_holds 113 = .ok (.iconst 2, 1) := by decide +kernel
theorem dL_holds_114 : decode cL_holds 114 = .ok (.if_icmp .ne 21, 3) := by decide +kernel
theorem dL_holds_117 : decode cL_holds 117 = .ok (.aload_n 0, 1) := by decide +kernel
theorem dL_holds_118 : decode cL_holds 118 = .ok (.getfield 32, 3) := by decide +kernel
theorem dL_holds_121 : decode cL_holds 121 = .ok (.iload_n 2, 1) := by decide +kernel
theorem dL_holds_122 : decode cL_holds 122 = .ok (.iaload, 1) := by decide +kernel
theorem dL_holds_123 : decode cL_holds 123 = .ok (.iconst 4, 1) := by decide +kernel
theorem dL_holds_124 : decode cL_holds 124 = .ok (.idiv, 1) := by decide +kernel
theorem dL_holds_125 : decode cL_holds 125 = .ok (.iload_n 3, 1) := by decide +kernel
theorem dL_holds_126 : decode cL_holds 126 = .ok (.if_icmp .eq 7, 3) := by decide +kernel
theorem dL_holds_129 : decode cL_holds 129 = .ok (.iconst 1, 1) := by decide +kernel
theorem dL_holds_130 : decode cL_holds 130 = .ok (.goto 4, 3) := by decide +kernel
theorem dL_holds_133 : decode cL_holds 133 = .ok (.iconst 0, 1) := by decide +kernel
theorem dL_holds_134 : decode cL_holds 134 = .ok (.ireturn, 1) := by decide +kernel
theorem dL_holds_135 : decode cL_holds 135 = .ok (.aload_n 0, 1) := by decide +kernel
theorem dL_holds_136 : decode cL_holds 136 = .ok (.getfield 35, 3) := by decide +kernel
theorem dL_holds_139 : decode cL_holds 139 = .ok (.iload_n 1, 1) := by decide +kernel
theorem dL_holds_140 : decode cL_holds 140 = .ok (.iaload, 1) := by decide +kernel
theorem dL_holds_141 : decode cL_holds 141 = .ok (.iconst 3, 1) := by decide +kernel
theorem dL_holds_142 : decode cL_holds 142 = .ok (.if_icmp .ne 19, 3) := by decide +kernel
theorem dL_holds_145 : decode cL_holds 145 = .ok (.aload_n 0, 1) := by decide +kernel
theorem dL_holds_146 : decode cL_holds 146 = .ok (.getfield 32, 3) := by decide +kernel
theorem dL_holds_149 : decode cL_holds 149 = .ok (.iload_n 2, 1) := by decide +kernel
theorem dL_holds_150 : decode cL_holds 150 = .ok (.iaload, 1) := by decide +kernel
theorem dL_holds_151 : decode cL_holds 151 = .ok (.iload_n 3, 1) := by decide +kernel
theorem dL_holds_152 : decode cL_holds 152 = .ok (.if_icmp .ne 7, 3) := by decide +kernel
theorem dL_holds_155 : decode cL_holds 155 = .ok (.iconst 1, 1) := by decide +kernel
theorem dL_holds_156 : decode cL_holds 156 = .ok (.goto 4, 3) := by decide +kernel
theorem dL_holds_159 : decode cL_holds 159 = .ok (.iconst 0, 1) := by decide +kernel
theorem dL_holds_160 : decode cL_holds 160 = .ok (.ireturn, 1) := by decide +kernel
theorem dL_holds_161 : decode cL_holds 161 = .ok (.aload_n 0, 1) := by decide +kernel
theorem dL_holds_162 : decode cL_holds 162 = .ok (.getfield 35, 3) := by decide +kernel
theorem dL_holds_165 : decode cL_holds 165 = .ok (.iload_n 1, 1) := by decide +kernel
theorem dL_holds_166 : decode cL_holds 166 = .ok (.iaload, 1) := by decide +kernel
theorem dL_holds_167 : decode cL_holds 167 = .ok (.iconst 4, 1) := by decide +kernel
theorem dL_holds_168 : decode cL_holds 168 = .ok (.if_icmp .ne 30, 3) := by decide +kernel
theorem dL_holds_171 : decode cL_holds 171 = .ok (.aload_n 0, 1) := by decide +kernel
theorem dL_holds_172 : decode cL_holds 172 = .ok (.getfield 32, 3) := by decide +kernel
theorem dL_holds_175 : decode cL_holds 175 = .ok (.iload_n 2, 1) := by decide +kernel
theorem dL_holds_176 : decode cL_holds 176 = .ok (.iaload, 1) := by decide +kernel
theorem dL_holds_177 : decode cL_holds 177 = .ok (.iconst 4, 1) := by decide +kernel
theorem dL_holds_178 : decode cL_holds 178 = .ok (.idiv, 1) := by decide +kernel
theorem dL_holds_179 : decode cL_holds 179 = .ok (.aload_n 0, 1) := by decide +kernel
theorem dL_holds_180 : decode cL_holds 180 = .ok (.getfield 32, 3) := by decide +kernel
theorem dL_holds_183 : decode cL_holds 183 = .ok (.iload_n 3, 1) := by decide +kernel
theorem dL_holds_184 : decode cL_holds 184 = .ok (.iaload, 1) := by decide +kernel
theorem dL_holds_185 : decode cL_holds 185 = .ok (.iconst 4, 1) := by decide +kernel
theorem dL_holds_186 : decode cL_holds 186 = .ok (.idiv, 1) := by decide +kernel
theorem dL_holds_187 : decode cL_holds 187 = .ok (.if_icmp .ne 7, 3) := by decide +kernel
theorem dL_holds_190 : decode cL_holds 190 = .ok (.iconst 1, 1) := by decide +kernel
theorem dL_holds_191 : decode cL_holds 191 = .ok (.goto 64, 3) := by decide +kernel
theorem dL_holds_194 : decode cL_holds 194 = .ok (.iconst 0, 1) := by decide +kernel
theorem dL_holds_195 : decode cL_holds 195 = .ok (.goto 60, 3) := by decide +kernel
theorem dL_holds_198 : decode cL_holds 198 = .ok (.aload_n 0, 1) := by decide +kernel
theorem dL_holds_199 : decode cL_holds 199 = .ok (.getfield 35, 3) := by decide +kernel
theorem dL_holds_202 : decode cL_holds 202 = .ok (.iload_n 1, 1) := by decide +kernel
theorem dL_holds_203 : decode cL_holds 203 = .ok (.iaload, 1) := by decide +kernel
theorem dL_holds_204 : decode cL_holds 204 = .ok (.iconst 5, 1) := by decide +kernel
theorem dL_holds_205 : decode cL_holds 205 = .ok (.if_icmp .ne 30, 3) := by decide +kernel
theorem dL_holds_208 : decode cL_holds 208 = .ok (.aload_n 0, 1) := by decide +kernel
theorem dL_holds_209 : decode cL_holds 209 = .ok (.getfield 32, 3) := by decide +kernel
theorem dL_holds_212 : decode cL_holds 212 = .ok (.iload_n 2, 1) := by decide +kernel
theorem dL_holds_213 : decode cL_holds 213 = .ok (.iaload, 1) := by decide +kernel
theorem dL_holds_214 : decode cL_holds 214 = .ok (.iconst 4, 1) := by decide +kernel
theorem dL_holds_215 : decode cL_holds 215 = .ok (.idiv, 1) := by decide +kernel
theorem dL_holds_216 : decode cL_holds 216 = .ok (.aload_n 0, 1) := by decide +kernel
theorem dL_holds_217 : decode cL_holds 217 = .ok (.getfield 32, 3) := by decide +kernel
theorem dL_holds_220 : decode cL_holds 220 = .ok (.iload_n 3, 1) := by decide +kernel
theorem dL_holds_221 : decode cL_holds 221 = .ok (.iaload, 1) := by decide +kernel
theorem dL_holds_222 : decode cL_holds 222 = .ok (.iconst 4, 1) := by decide +kernel
theorem dL_holds_223 : decode cL_holds 223 = .ok (.idiv, 1) := by decide +kernel
theorem dL_holds_224 : decode cL_holds 224 = .ok (.if_icmp .eq 7, 3) := by decide +kernel
theorem dL_holds_227 : decode cL_holds 227 = .ok (.iconst 1, 1) := by decide +kernel
theorem dL_holds_228 : decode cL_holds 228 = .ok (.goto 27, 3) := by decide +kernel
theorem dL_holds_231 : decode cL_holds 231 = .ok (.iconst 0, 1) := by decide +kernel
theorem dL_holds_232 : decode cL_holds 232 = .ok (.goto 23, 3) := by decide +kernel
theorem dL_holds_235 : decode cL_holds 235 = .ok (.aload_n 0, 1) := by decide +kernel
theorem dL_holds_236 : decode cL_holds 236 = .ok (.getfield 32, 3) := by decide +kernel
theorem dL_holds_239 : decode cL_holds 239 = .ok (.iload_n 2, 1) := by decide +kernel
theorem dL_holds_240 : decode cL_holds 240 = .ok (.iaload, 1) := by decide +kernel
theorem dL_holds_241 : decode cL_holds 241 = .ok (.aload_n 0, 1) := by decide +kernel
theorem dL_holds_242 : decode cL_holds 242 = .ok (.getfield 32, 3) := by decide +kernel
theorem dL_holds_245 : decode cL_holds 245 = .ok (.iload_n 3, 1) := by decide +kernel
theorem dL_holds_246 : decode cL_holds 246 = .ok (.iaload, 1) := by decide +kernel
theorem dL_holds_247 : decode cL_holds 247 = .ok (.if_icmp .ge 7, 3) := by decide +kernel
theorem dL_holds_250 : decode cL_holds 250 = .ok (.iconst 1, 1) := by decide +kernel
theorem dL_holds_251 : decode cL_holds 251 = .ok (.goto 4, 3) := by decide +kernel
theorem dL_holds_254 : decode cL_holds 254 = .ok (.iconst 0, 1) := by decide +kernel
theorem dL_holds_255 : decode cL_holds 255 = .ok (.ireturn, 1) := by decide +kernel
set_option maxRecDepth 20000 in
theorem ggL_isRight_L_isOn : GoodIn wsL_isRight wsL_isOn := goodIn_r _ [13, 2, 3, 14, 15, 16, 17, 18, 19, 20, 21, 22, 23, 24, 25, 26, 27, 28, 29, 30] (by decide +kernel) (by decide +kernel)
set_option maxRecDepth 20000 in
theorem gL_isRight_L_isOn : GoodIn wsL_isRight (wsV RL 93 RL yL_isOn wsL_isOn) := goodIn_app (goodIn_of _ (by decide +kernel)) ggL_isRight_L_isOn
theorem dL_isRight_0 : decode cL_isRight 0 = .ok (.iconst 0, 1) := by decide +kernel
theorem dL_isRight_1 : decode cL_isRight 1 = .ok (.istore_n 1, 1) := by decide +kernel
theorem dL_isRight_2 : decode cL_isRight 2 = .ok (.iload_n 1, 1) := by decide +kernel
theorem dL_isRight_3 : decode cL_isRight 3 = .ok (.aload_n 0, 1) := by decide +kernel
theorem dL_isRight_4 : decode cL_isRight 4 = .ok (.getfield 66, 3) := by decide +kernel
theorem dL_isRight_7 : decode cL_isRight 7 = .ok (.if_icmp .ge 180, 3) := by decide +kernel
theorem dL_isRight_10 : decode cL_isRight 10 = .ok (.aload_n 0, 1) := by decide +kernel
theorem dL_isRight_11 : decode cL_isRight 11 = .ok (.getfield 32, 3) := by decide +kernel
theorem dL_isRight_14 : decode cL_isRight 14 = .ok (.iload_n 1, 1) := by decide +kernel
theorem dL_isRight_15 : decode cL_isRight 15 = .ok (.iaload, 1) := by decide +kernel
theorem dL_isRight_16 : decode cL_isRight 16 = .ok (.iconst 4, 1) := by decide +kernel
theorem dL_isRight_17 : decode cL_isRight 17 = .ok (.irem, 1) := by decide +kernel
theorem dL_isRight_18 : decode cL_isRight 18 = .ok (.aload_n 0, 1) := by decide +kernel
theorem dL_isRight_19 : decode cL_isRight 19 = .ok (.getfield 29, 3) := by decide +kernel
theorem dL_isRight_22 : decode cL_isRight 22 = .ok (.iload_n 1, 1) := by decide +kernel
theorem dL_isRight_23 : decode cL_isRight 23 = .ok (.iaload, 1) := by decide +kernel
theorem dL_isRight_24 : decode cL_isRight 24 = .ok (.iadd, 1) := by decide +kernel
theorem dL_isRight_25 : decode cL_isRight 25 = .ok (.iconst 4, 1) := by decide +kernel
theorem dL_isRight_26 : decode cL_isRight 26 = .ok (.if_icmp .le 5, 3) := by decide +kernel
theorem dL_isRight_29 : decode cL_isRight 29 = .ok (.iconst 0, 1) := by decide +kernel
theorem dL_isRight_30 : decode cL_isRight 30 = .ok (.ireturn, 1) := by decide +kernel
theorem dL_isRight_31 : decode cL_isRight 31 = .ok (.iconst 0, 1) := by decide +kernel
theorem dL_isRight_32 : decode cL_isRight 32 = .ok (.istore_n 2, 1) := by decide +kernel
theorem dL_isRight_33 : decode cL_isRight 33 = .ok (.iload_n 2, 1) := by decide +kernel
theorem dL_isRight_34 : decode cL_isRight 34 = .ok (.iload_n 1, 1) := by decide +kernel
theorem dL_isRight_35 : decode cL_isRight 35 = .ok (.if_icmp .ge 146, 3) := by decide +kernel
theorem dL_isRight_38 : decode cL_isRight 38 = .ok (.aload_n 0, 1) := by decide +kernel
theorem dL_isRight_39 : decode cL_isRight 39 = .ok (.getfield 32, 3) := by decide +kernel
theorem dL_isRight_42 : decode cL_isRight 42 = .ok (.iload_n 1, 1) := by decide +kernel
theorem dL_isRight_43 : decode cL_isRight 43 = .ok (.iaload, 1) := by decide +kernel
theorem dL_isRight_44 : decode cL_isRight 44 = .ok (.aload_n 0, 1) := by decide +kernel
theorem dL_isRight_45 : decode cL_isRight 45 = .ok (.getfield 32, 3) := by decide +kernel
theorem dL_isRight_48 : decode cL_isRight 48 = .ok (.iload_n 2, 1) := by decide +kernel
theorem dL_isRight_49 : decode cL_isRight 49 = .ok (.iaload, 1) := by decide +kernel
theorem dL_isRight_50 : decode cL_isRight 50 = .ok (.aload_n 0, 1) := by decide +kernel
theorem dL_isRight_51 : decode cL_isRight 51 = .ok (.getfield 29, 3) := by decide +kernel
theorem dL_isRight_54 : decode cL_isRight 54 = .ok (.iload_n 2, 1) := by decide +kernel
theorem dL_isRight_55 : decode cL_isRight 55 = .ok (.iaload, 1) := by decide +kernel
theorem dL_isRight_56 : decode cL_isRight 56 = .ok (.iadd, 1) := by decide +kernel
theorem dL_isRight_57 : decode cL_isRight 57 = .ok (.if_icmp .ge 29, 3) := by decide +kernel
theorem dL_isRight_60 : decode cL_isRight 60 = .ok (.aload_n 0, 1) := by decide +kernel
theorem dL_isRight_61 : decode cL_isRight 61 = .ok (.getfield 32, 3) := by decide +kernel
theorem dL_isRight_64 : decode cL_isRight 64 = .ok (.iload_n 2, 1) := by decide +kernel
theorem dL_isRight_65 : decode cL_isRight 65 = .ok (.iaload, 1) := by decide +kernel
theorem dL_isRight_66 : decode cL_isRight 66 = .ok (.aload_n 0, 1) := by decide +kernel
theorem dL_isRight_67 : decode cL_isRight 67 = .ok (.getfield 32, 3) := by decide +kernel
theorem dL_isRight_70 : decode cL_isRight 70 = .ok (.iload_n 1, 1) := by decide +kernel
theorem dL_isRight_71 : decode cL_isRight 71 = .ok (.iaload, 1) := by decide +kernel
theorem dL_isRight_72 : decode cL_isRight 72 = .ok (.aload_n 0, 1) := by decide +kernel
theorem dL_isRight_73 : decode cL_isRight 73 = .ok (.getfield 29, 3) := by decide +kernel
theorem dL_isRight_76 : decode cL_isRight 76 = .ok (.iload_n 1, 1) := by decide +kernel
theorem dL_isRight_77 : decode cL_isRight 77 = .ok (.iaload, 1) := by decide +kernel
theorem dL_isRight_78 : decode cL_isRight 78 = .ok (.iadd, 1) := by decide +kernel
theorem dL_isRight_79 : decode cL_isRight 79 = .ok (.if_icmp .ge 7, 3) := by decide +kernel
theorem dL_isRight_82 : decode cL_isRight 82 = .ok (.iconst 1, 1) := by decide +kernel
theorem dL_isRight_83 : decode cL_isRight 83 = .ok (.goto 4, 3) := by decide +kernel
theorem dL_isRight_86 : decode cL_isRight 86 = .ok (.iconst 0, 1) := by decide +kernel
theorem dL_isRight_87 : decode cL_isRight 87 = .ok (.istore_n 3, 1) := by decide +kernel
theorem dL_isRight_88 : decode cL_isRight 88 = .ok (.aload_n 0, 1) := by decide +kernel
theorem dL_isRight_89 : decode cL_isRight 89 = .ok (.getfield 16, 3) := by decide +kernel
theorem dL_isRight_92 : decode cL_isRight 92 = .ok (.iload_n 1, 1) := by decide +kernel
theorem dL_isRight_93 : decode cL_isRight 93 = .ok (.iaload, 1) := by decide +kernel
theorem dL_isRight_94 : decode cL_isRight 94 = .ok (.aload_n 0, 1) := by decide +kernel
theorem dL_isRight_95 : decode cL_isRight 95 = .ok (.getfield 16, 3) := by decide +kernel
theorem dL_isRight_98 : decode cL_isRight 98 = .ok (.iload_n 2, 1) := by decide +kernel
theorem dL_isRight_99 : decode cL_isRight 99 = .ok (.iaload, 1) := by decide +kernel
theorem dL_isRight_100 : decode cL_isRight 100 = .ok (.if_icmp .ne 7, 3) := by decide +kernel
theorem dL_isRight_103 : decode cL_isRight 103 = .ok (.iconst 1, 1) := by decide +kernel
theorem dL_isRight_104 : decode cL_isRight 104 = .ok (.goto 4, 3) := by decide +kernel
theorem dL_isRight_107 : decode cL_isRight 107 = .ok (.iconst 0, 1) := by decide +kernel
theorem dL_isRight_108 : decode cL_isRight 108 = .ok (.istore 4, 2) := by decide +kernel
theorem dL_isRight_110 : decode cL_isRight 110 = .ok (.iload_n 3, 1) := by decide +kernel
theorem dL_isRight_111 : decode cL_isRight 111 = .ok (.ifCond .eq 23, 3) := by decide +kernel
theorem dL_isRight_114 : decode cL_isRight 114 = .ok (.iload 4, 2) := by decide +kernel
theorem dL_isRight_116 : decode cL_isRight 116 = .ok (.ifCond .ne 57, 3) := by decide +kernel
theorem dL_isRight_119 : decode cL_isRight 119 = .ok (.aload_n 0, 1) := by decide +kernel
theorem dL_isRight_120 : decode cL_isRight 120 = .ok (.getfield 20, 3) := by decide +kernel
theorem dL_isRight_123 : decode cL_isRight 123 = .ok (.iload_n 1, 1) := by decide +kernel
theorem dL_isRight_124 : decode cL_isRight 124 = .ok (.iaload, 1) := by decide +kernel
theorem dL_isRight_125 : decode cL_isRight 125 = .ok (.aload_n 0, 1) := by decide +kernel
theorem dL_isRight_126 : decode cL_isRight 126 = .ok (.getfield 20, 3) := by decide +kernel
theorem dL_isRight_129 : decode cL_isRight 129 = .ok (.iload_n 2, 1) := by decide +kernel
theorem dL_isRight_130 : decode cL_isRight 130 = .ok (.iaload, 1) := by decide +kernel
theorem dL_isRight_131 : decode cL_isRight 131 = .ok (.if_icmp .eq 42, 3) := by decide +kernel
theorem dL_isRight_134 : decode cL_isRight 134 = .ok (.iload 4, 2) := by decide +kernel
theorem dL_isRight_136 : decode cL_isRight 136 = .ok (.ifCond .eq 39, 3) := by decide +kernel
theorem dL_isRight_139 : decode cL_isRight 139 = .ok (.aload_n 0, 1) := by decide +kernel
theorem dL_isRight_140 : decode cL_isRight 140 = .ok (.getfield 23, 3) := by decide +kernel
theorem dL_isRight_143 : decode cL_isRight 143 = .ok (.iload_n 1, 1) := by decide +kernel
theorem dL_isRight_144 : decode cL_isRight 144 = .ok (.iaload, 1) := by decide +kernel
theorem dL_isRight_145 : decode cL_isRight 145 = .ok (.aload_n 0, 1) := by decide +kernel
theorem dL_isRight_146 : decode cL_isRight 146 = .ok (.getfield 23, 3) := by decide +kernel
theorem dL_isRight_149 : decode cL_isRight 149 = .ok (.iload_n 2, 1) := by decide +kernel
theorem dL_isRight_150 : decode cL_isRight 150 = .ok (.iaload, 1) := by decide +kernel
theorem dL_isRight_151 : decode cL_isRight 151 = .ok (.if_icmp .ne 24, 3) := by decide +kernel
theorem dL_isRight_154 : decode cL_isRight 154 = .ok (.aload_n 0, 1) := by decide +kernel
theorem dL_isRight_155 : decode cL_isRight 155 = .ok (.getfield 32, 3) := by decide +kernel
theorem dL_isRight_158 : decode cL_isRight 158 = .ok (.iload_n 1, 1) := by decide +kernel
theorem dL_isRight_159 : decode cL_isRight 159 = .ok (.iaload, 1) := by decide +kernel
theorem dL_isRight_160 : decode cL_isRight 160 = .ok (.iconst 4, 1) := by decide +kernel
theorem dL_isRight_161 : decode cL_isRight 161 = .ok (.idiv, 1) := by decide +kernel
theorem dL_isRight_162 : decode cL_isRight 162 = .ok (.aload_n 0, 1) := by decide +kernel
theorem dL_isRight_163 : decode cL_isRight 163 = .ok (.getfield 32, 3) := by decide +kernel
theorem dL_isRight_166 : decode cL_isRight 166 = .ok (.iload_n 2, 1) := by decide +kernel
theorem dL_isRight_167 : decode cL_isRight 167 = .ok (.iaload, 1) := by decide +kernel
theorem dL_isRight_168 : decode cL_isRight 168 = .ok (.iconst 4, 1) := by decide +kernel
theorem dL_isRight_169 : decode cL_isRight 169 = .ok (.idiv, 1) := by decide +kernel
theorem dL_isRight_170 : decode cL_isRight 170 = .ok (.if_icmp .ne 5, 3) := by decide +kernel
theorem dL_isRight_173 : decode cL_isRight 173 = .ok (.iconst 0, 1) := by decide +kernel
theorem dL_isRight_174 : decode cL_isRight 174 = .ok (.ireturn, 1) := by decide +kernel
theorem dL_isRight_175 : decode cL_isRight 175 = .ok (.iinc 2 1, 3) := by decide +kernel
theorem dL_isRight_178 : decode cL_isRight 178 = .ok (.goto (-145), 3) := by decide +kernel
theorem dL_isRight_181 : decode cL_isRight 181 = .ok (.iinc 1 1, 3) := by decide +kernel
theorem dL_isRight_184 : decode cL_isRight 184 = .ok (.goto (-182), 3) := by decide +kernel
theorem dL_isRight_187 : decode cL_isRight 187 = .ok (.iconst 0, 1) := by decide +kernel
theorem dL_isRight_188 : decode cL_isRight 188 = .ok (.istore_n 1, 1) := by decide +kernel
theorem dL_isRight_189 : decode cL_isRight 189 = .ok (.iload_n 1, 1) := by decide +kernel
theorem dL_isRight_190 : decode cL_isRight 190 = .ok (.bipush 20, 2) := by decide +kernel
theorem dL_isRight_192 : decode cL_isRight 192 = .ok (.if_icmp .ge 83, 3) := by decide +kernel
theorem dL_isRight_195 : decode cL_isRight 195 = .ok (.iconst 0, 1) := by decide +kernel
theorem dL_isRight_196 : decode cL_isRight 196 = .ok (.istore_n 2, 1) := by decide +kernel
theorem dL_isRight_197 : decode cL_isRight 197 = .ok (.iload_n 2, 1) := by decide +kernel
theorem dL_isRight_198 : decode cL_isRight 198 = .ok (.iconst 3, 1) := by decide +kernel
theorem dL_isRight_199 : decode cL_isRight 199 = .ok (.if_icmp .ge 70, 3) := by decide +kernel
theorem dL_isRight_202 : decode cL_isRight 202 = .ok (.iconst 0, 1) := by decide +kernel
theorem dL_isRight_203 : decode cL_isRight 203 = .ok (.istore_n 3, 1) := by decide +kernel
theorem dL_isRight_204 : decode cL_isRight 204 = .ok (.iconst 0, 1) := by decide +kernel
theorem dL_isRight_205 : decode cL_isRight 205 = .ok (.istore 4, 2) := by decide +kernel
theorem dL_isRight_207 : decode cL_isRight 207 = .ok (.iload 4, 2) := by decide +kernel
theorem dL_isRight_209 : decode cL_isRight 209 = .ok (.aload_n 0, 1) := by decide +kernel
theorem dL_isRight_210 : decode cL_isRight 210 = .ok (.getfield 66, 3) := by decide +kernel
theorem dL_isRight_213 : decode cL_isRight 213 = .ok (.if_icmp .ge 38, 3) := by decide +kernel
theorem dL_isRight_216 : decode cL_isRight 216 = .ok (.iload_n 3, 1) := by decide +kernel
theorem dL_isRight_217 : decode cL_isRight 217 = .ok (.aload_n 0, 1) := by decide +kernel
theorem dL_isRight_218 : decode cL_isRight 218 = .ok (.getfield 26, 3) := by decide +kernel
theorem dL_isRight_221 : decode cL_isRight 221 = .ok (.iload 4, 2) := by decide +kernel
theorem dL_isRight_223 : decode cL_isRight 223 = .ok (.iaload, 1) := by decide +kernel
theorem dL_isRight_224 : decode cL_isRight 224 = .ok (.iload_n 2, 1) := by decide +kernel
theorem dL_isRight_225 : decode cL_isRight 225 = .ok (.if_icmp .ne 17, 3) := by decide +kernel
theorem dL_isRight_228 : decode cL_isRight 228 = .ok (.aload_n 0, 1) := by decide +kernel
theorem dL_isRight_229 : decode cL_isRight 229 = .ok (.iload 4, 2) := by decide +kernel
theorem dL_isRight_231 : decode cL_isRight 231 = .ok (.iload_n 1, 1) := by decide +kernel
theorem dL_isRight_232 : decode cL_isRight 232 = .ok (.invokevirtual 93, 3) := by decide +kernel
theorem dL_isRight_235 : decode cL_isRight 235 = .ok (.ifCond .eq 7, 3) := by decide +kernel
theorem dL_isRight_238 : decode cL_isRight 238 = .ok (.iconst 1, 1) := by decide +kernel
theorem dL_isRight_239 : decode cL_isRight 239 = .ok (.goto 4, 3) := by decide +kernel
theorem dL_isRight_242 : decode cL_isRight 242 = .ok (.iconst 0, 1) := by decide +kernel
theorem dL_isRight_243 : decode cL_isRight 243 = .ok (.iadd, 1) := by decide +kernel
theorem dL_isRight_244 : decode cL_isRight 244 = .ok (.istore_n 3, 1) := by decide +kernel
theorem dL_isRight_245 : decode cL_isRight 245 = .ok (.iinc 4 1, 3) := by decide +kernel
theorem dL_isRight_248 : decode cL_isRight 248 = .ok (.goto (-41), 3) := by decide +kernel
theorem dL_isRight_251 : decode cL_isRight 251 = .ok (.iload_n 3, 1) := by decide +kernel
theorem dL_isRight_252 : decode cL_isRight 252 = .ok (.aload_n 0, 1) := by decide +kernel
theorem dL_isRight_253 : decode cL_isRight 253 = .ok (.getfield 47, 3) := by decide +kernel
theorem dL_isRight_256 : decode cL_isRight 256 = .ok (.iload_n 2, 1) := by decide +kernel
theorem dL_isRight_257 : decode cL_isRight 257 = .ok (.iaload, 1) := by decide +kernel
theorem dL_isRight_258 : decode cL_isRight 258 = .ok (.if_icmp .le 5, 3) := by decide +kernel
theorem dL_isRight_261 : decode cL_isRight 261 = .ok (.iconst 0, 1) := by decide +kernel
theorem dL_isRight_262 : decode cL_isRight 262 = .ok (.ireturn, 1) := by decide +kernel
theorem dL_isRight_263 : decode cL_isRight 263 = .ok (.iinc 2 1, 3) := by decide +kernel
