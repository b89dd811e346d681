theorem dL_areTaken_97 : decode cL_areTaken 97 = .ok (.imul, 1) := by decide +kernel
theorem dL_areTaken_98 : decode cL_areTaken 98 = .ok (.iconst 4, 1) := by decide +kernel
theorem dL_areTaken_99 : decode cL_areTaken 99 = .ok (.iadd, 1) := by decide +kernel
theorem dL_areTaken_100 : decode cL_areTaken 100 = .ok (.if_icmp .ge 187, 3) := by decide +kernel
theorem dL_areTaken_103 : decode cL_areTaken 103 = .ok (.iconst 0, 1) := by decide +kernel
theorem dL_areTaken_104 : decode cL_areTaken 104 = .ok (.istore 6, 2) := by decide +kernel
theorem dL_areTaken_106 : decode cL_areTaken 106 = .ok (.iconst 0, 1) := by decide +kernel
theorem dL_areTaken_107 : decode cL_areTaken 107 = .ok (.istore 7, 2) := by decide +kernel
theorem dL_areTaken_109 : decode cL_areTaken 109 = .ok (.iconst 0, 1) := by decide +kernel
theorem dL_areTaken_110 : decode cL_areTaken 110 = .ok (.istore 8, 2) := by decide +kernel
theorem dL_areTaken_112 : decode cL_areTaken 112 = .ok (.iload 8, 2) := by decide +kernel
theorem dL_areTaken_114 : decode cL_areTaken 114 = .ok (.aload_n 0, 1) := by decide +kernel
theorem dL_areTaken_115 : decode cL_areTaken 115 = .ok (.getfield 66, 3) := by decide +kernel
theorem dL_areTaken_118 : decode cL_areTaken 118 = .ok (.if_icmp .ge 143, 3) := by decide +kernel
theorem dL_areTaken_121 : decode cL_areTaken 121 = .ok (.aload_n 0, 1) := by decide +kernel
theorem dL_areTaken_122 : decode cL_areTaken 122 = .ok (.getfield 10, 3) := by decide +kernel
theorem dL_areTaken_125 : decode cL_areTaken 125 = .ok (.iload 8, 2) := by decide +kernel
theorem dL_areTaken_127 : decode cL_areTaken 127 = .ok (.iload 5, 2) := by decide +kernel
theorem dL_areTaken_129 : decode cL_areTaken 129 = .ok (.invokevirtual 209, 3) := by decide +kernel
theorem dL_areTaken_132 : decode cL_areTaken 132 = .ok (.istore 9, 2) := by decide +kernel
theorem dL_areTaken_134 : decode cL_areTaken 134 = .ok (.aload_n 0, 1) := by decide +kernel
theorem dL_areTaken_135 : decode cL_areTaken 135 = .ok (.iload 8, 2) := by decide +kernel
theorem dL_areTaken_137 : decode cL_areTaken 137 = .ok (.iload 5, 2) := by decide +kernel
theorem dL_areTaken_139 : decode cL_areTaken 139 = .ok (.invokevirtual 93, 3) := by decide +kernel
theorem dL_areTaken_142 : decode cL_areTaken 142 = .ok (.ifCond .eq 26, 3) := by decide +kernel
theorem dL_areTaken_145 : decode cL_areTaken 145 = .ok (.aload_n 0, 1) := by decide +kernel
theorem dL_areTaken_146 : decode cL_areTaken 146 = .ok (.getfield 50, 3) := by decide +kernel
theorem dL_areTaken_149 : decode cL_areTaken 149 = .ok (.iconst 5, 1) := by decide +kernel
theorem dL_areTaken_150 : decode cL_areTaken 150 = .ok (.aload_n 0, 1) := by decide +kernel
theorem dL_areTaken_151 : decode cL_areTaken 151 = .ok (.getfield 20, 3) := by decide +kernel
theorem dL_areTaken_154 : decode cL_areTaken 154 = .ok (.iload 8, 2) := by decide +kernel
theorem dL_areTaken_156 : decode cL_areTaken 156 = .ok (.iaload, 1) := by decide +kernel
theorem dL_areTaken_157 : decode cL_areTaken 157 = .ok (.imul, 1) := by decide +kernel
theorem dL_areTaken_158 : decode cL_areTaken 158 = .ok (.iload_n 2, 1) := by decide +kernel
theorem dL_areTaken_159 : decode cL_areTaken 159 = .ok (.iadd, 1) := by decide +kernel
theorem dL_areTaken_160 : decode cL_areTaken 160 = .ok (.baload, 1) := by decide +kernel
theorem dL_areTaken_161 : decode cL_areTaken 161 = .ok (.ifCond .eq 7, 3) := by decide +kernel
theorem dL_areTaken_164 : decode cL_areTaken 164 = .ok (.iconst 1, 1) := by decide +kernel
theorem dL_areTaken_165 : decode cL_areTaken 165 = .ok (.goto 4, 3) := by decide +kernel
theorem dL_areTaken_168 : decode cL_areTaken 168 = .ok (.iconst 0, 1) := by decide +kernel
theorem dL_areTaken_169 : decode cL_areTaken 169 = .ok (.istore 10, 2) := by decide +kernel
theorem dL_areTaken_171 : decode cL_areTaken 171 = .ok (.iload_n 3, 1) := by decide +kernel
theorem dL_areTaken_172 : decode cL_areTaken 172 = .ok (.iload 10, 2) := by decide +kernel
theorem dL_areTaken_174 : decode cL_areTaken 174 = .ok (.ifCond .eq 7, 3) := by decide +kernel
theorem dL_areTaken_177 : decode cL_areTaken 177 = .ok (.iconst 1, 1) := by decide +kernel
theorem dL_areTaken_178 : decode cL_areTaken 178 = .ok (.goto 4, 3) := by decide +kernel
theorem dL_areTaken_181 : decode cL_areTaken 181 = .ok (.iconst 0, 1) := by decide +kernel
theorem dL_areTaken_182 : decode cL_areTaken 182 = .ok (.iadd, 1) := by decide +kernel
theorem dL_areTaken_183 : decode cL_areTaken 183 = .ok (.istore_n 3, 1) := by decide +kernel
theorem dL_areTaken_184 : decode cL_areTaken 184 = .ok (.iload 4, 2) := by decide +kernel
theorem dL_areTaken_186 : decode cL_areTaken 186 = .ok (.iload 10, 2) := by decide +kernel
theorem dL_areTaken_188 : decode cL_areTaken 188 = .ok (.ifCond .eq 13, 3) := by decide +kernel
theorem dL_areTaken_191 : decode cL_areTaken 191 = .ok (.iload 9, 2) := by decide +kernel
theorem dL_areTaken_193 : decode cL_areTaken 193 = .ok (.iconst (-1), 1) := by decide +kernel
theorem dL_areTaken_194 : decode cL_areTaken 194 = .ok (.if_icmp .ne 7, 3) := by decide +kernel
theorem dL_areTaken_197 : decode cL_areTaken 197 = .ok (.iconst 1, 1) := by decide +kernel
theorem dL_areTaken_198 : decode cL_areTaken 198 = .ok (.goto 4, 3) := by decide +kernel
theorem dL_areTaken_201 : decode cL_areTaken 201 = .ok (.iconst 0, 1) := by decide +kernel
theorem dL_areTaken_202 : decode cL_areTaken 202 = .ok (.iadd, 1) := by decide +kernel
theorem dL_areTaken_203 : decode cL_areTaken 203 = .ok (.istore 4, 2) := by decide +kernel
theorem dL_areTaken_205 : decode cL_areTaken 205 = .ok (.iload 9, 2) := by decide +kernel
theorem dL_areTaken_207 : decode cL_areTaken 207 = .ok (.iconst (-1), 1) := by decide +kernel
theorem dL_areTaken_208 : decode cL_areTaken 208 = .ok (.if_icmp .ne 6, 3) := by decide +kernel
theorem dL_areTaken_211 : decode cL_areTaken 211 = .ok (.goto 44, 3) := by decide +kernel
theorem dL_areTaken_214 : decode cL_areTaken 214 = .ok (.iload 10, 2) := by decide +kernel
theorem dL_areTaken_216 : decode cL_areTaken 216 = .ok (.ifCond .eq 25, 3) := by decide +kernel
theorem dL_areTaken_219 : decode cL_areTaken 219 = .ok (.aload_n 0, 1) := by decide +kernel
theorem dL_areTaken_220 : decode cL_areTaken 220 = .ok (.iload 9, 2) := by decide +kernel
theorem dL_areTaken_222 : decode cL_areTaken 222 = .ok (.iload 5, 2) := by decide +kernel
theorem dL_areTaken_224 : decode cL_areTaken 224 = .ok (.invokevirtual 199, 3) := by decide +kernel
theorem dL_areTaken_227 : decode cL_areTaken 227 = .ok (.ifCond .eq 14, 3) := by decide +kernel
theorem dL_areTaken_230 : decode cL_areTaken 230 = .ok (.iload 6, 2) := by decide +kernel
theorem dL_areTaken_232 : decode cL_areTaken 232 = .ok (.iload 9, 2) := by decide +kernel
theorem dL_areTaken_234 : decode cL_areTaken 234 = .ok (.ishr, 1) := by decide +kernel
theorem dL_areTaken_235 : decode cL_areTaken 235 = .ok (.iconst 1, 1) := by decide +kernel
theorem dL_areTaken_236 : decode cL_areTaken 236 = .ok (.iand, 1) := by decide +kernel
theorem dL_areTaken_237 : decode cL_areTaken 237 = .ok (.iconst 1, 1) := by decide +kernel
theorem dL_areTaken_238 : decode cL_areTaken 238 = .ok (.if_icmp .ne 5, 3) := by decide +kernel
theorem dL_areTaken_241 : decode cL_areTaken 241 = .ok (.iconst 0, 1) := by decide +kernel
theorem dL_areTaken_242 : decode cL_areTaken 242 = .ok (.ireturn, 1) := by decide +kernel
theorem dL_areTaken_243 : decode cL_areTaken 243 = .ok (.iload 6, 2) := by decide +kernel
theorem dL_areTaken_245 : decode cL_areTaken 245 = .ok (.iconst 1, 1) := by decide +kernel
theorem dL_areTaken_246 : decode cL_areTaken 246 = .ok (.iload 9, 2) := by decide +kernel
theorem dL_areTaken_248 : decode cL_areTaken 248 = .ok (.ishl, 1) := by decide +kernel
theorem dL_areTaken_249 : decode cL_areTaken 249 = .ok (.ior, 1) := by decide +kernel
theorem dL_areTaken_250 : decode cL_areTaken 250 = .ok (.istore 6, 2) := by decide +kernel
theorem dL_areTaken_252 : decode cL_areTaken 252 = .ok (.iinc 7 1, 3) := by decide +kernel
theorem dL_areTaken_255 : decode cL_areTaken 255 = .ok (.iinc 8 1, 3) := by decide +kernel
theorem dL_areTaken_258 : decode cL_areTaken 258 = .ok (.goto (-146), 3) := by decide +kernel
theorem dL_areTaken_261 : decode cL_areTaken 261 = .ok (.iload 7, 2) := by decide +kernel
theorem dL_areTaken_263 : decode cL_areTaken 263 = .ok (.aload_n 0, 1) := by decide +kernel
theorem dL_areTaken_264 : decode cL_areTaken 264 = .ok (.iload 5, 2) := by decide +kernel
theorem dL_areTaken_266 : decode cL_areTaken 266 = .ok (.iconst 0, 1) := by decide +kernel
theorem dL_areTaken_267 : decode cL_areTaken 267 = .ok (.iconst 0, 1) := by decide +kernel
theorem dL_areTaken_268 : decode cL_areTaken 268 = .ok (.invokevirtual 195, 3) := by decide +kernel
theorem dL_areTaken_271 : decode cL_areTaken 271 = .ok (.if_icmp .eq 5, 3) := by decide +kernel
theorem dL_areTaken_274 : decode cL_areTaken 274 = .ok (.iconst 0, 1) := by decide +kernel
theorem dL_areTaken_275 : decode cL_areTaken 275 = .ok (.ireturn, 1) := by decide +kernel
theorem dL_areTaken_276 : decode cL_areTaken 276 = .ok (.iload_n 1, 1) := by decide +kernel
theorem dL_areTaken_277 : decode cL_areTaken 277 = .ok (.iload 7, 2) := by decide +kernel
theorem dL_areTaken_279 : decode cL_areTaken 279 = .ok (.iadd, 1) := by decide +kernel
theorem dL_areTaken_280 : decode cL_areTaken 280 = .ok (.istore_n 1, 1) := by decide +kernel
theorem dL_areTaken_281 : decode cL_areTaken 281 = .ok (.iinc 5 1, 3) := by decide +kernel
theorem dL_areTaken_284 : decode cL_areTaken 284 = .ok (.goto (-191), 3) := by decide +kernel
theorem dL_areTaken_287 : decode cL_areTaken 287 = .ok (.aload_n 0, 1) := by decide +kernel
theorem dL_areTaken_288 : decode cL_areTaken 288 = .ok (.getfield 10, 3) := by decide +kernel
theorem dL_areTaken_291 : decode cL_areTaken 291 = .ok (.iload_n 2, 1) := by decide +kernel
theorem dL_areTaken_292 : decode cL_areTaken 292 = .ok (.iconst 0, 1) := by decide +kernel
theorem dL_areTaken_293 : decode cL_areTaken 293 = .ok (.invokevirtual 212, 3) := by decide +kernel
theorem dL_areTaken_296 : decode cL_areTaken 296 = .ok (.iload_n 3, 1) := by decide +kernel
theorem dL_areTaken_297 : decode cL_areTaken 297 = .ok (.if_icmp .ne 17, 3) := by decide +kernel
theorem dL_areTaken_300 : decode cL_areTaken 300 = .ok (.aload_n 0, 1) := by decide +kernel
theorem dL_areTaken_301 : decode cL_areTaken 301 = .ok (.getfield 10, 3) := by decide +kernel
theorem dL_areTaken_304 : decode cL_areTaken 304 = .ok (.iload_n 2, 1) := by decide +kernel
theorem dL_areTaken_305 : decode cL_areTaken 305 = .ok (.iconst 1, 1) := by decide +kernel
theorem dL_areTaken_306 : decode cL_areTaken 306 = .ok (.invokevirtual 212, 3) := by decide +kernel
theorem dL_areTaken_309 : decode cL_areTaken 309 = .ok (.iload 4, 2) := by decide +kernel
theorem dL_areTaken_311 : decode cL_areTaken 311 = .ok (.if_icmp .eq 5, 3) := by decide +kernel
theorem dL_areTaken_314 : decode cL_areTaken 314 = .ok (.iconst 0, 1) := by decide +kernel
theorem dL_areTaken_315 : decode cL_areTaken 315 = .ok (.ireturn, 1) := by decide +kernel
theorem dL_areTaken_316 : decode cL_areTaken 316 = .ok (.iinc 2 1, 3) := by decide +kernel
theorem dL_areTaken_319 : decode cL_areTaken 319 = .ok (.goto (-241), 3) := by decide +kernel
theorem dL_areTaken_322 : decode cL_areTaken 322 = .ok (.iconst 0, 1) := by decide +kernel
theorem dL_areTaken_323 : decode cL_areTaken 323 = .ok (.istore_n 2, 1) := by decide +kernel
theorem dL_areTaken_324 : decode cL_areTaken 324 = .ok (.iload_n 2, 1) := by decide +kernel
theorem dL_areTaken_325 : decode cL_areTaken 325 = .ok (.bipush 6, 2) := by decide +kernel
theorem dL_areTaken_327 : decode cL_areTaken 327 = .ok (.if_icmp .ge 20, 3) := by decide +kernel
theorem dL_areTaken_330 : decode cL_areTaken 330 = .ok (.iload_n 1, 1) := by decide +kernel
theorem dL_areTaken_331 : decode cL_areTaken 331 = .ok (.aload_n 0, 1) := by decide +kernel
theorem dL_areTaken_332 : decode cL_areTaken 332 = .ok (.getfield 10, 3) := by decide +kernel
theorem dL_areTaken_335 : decode cL_areTaken 335 = .ok (.iload_n 2, 1) := by decide +kernel
theorem dL_areTaken_336 : decode cL_areTaken 336 = .ok (.invokevirtual 216, 3) := by decide +kernel
theorem dL_areTaken_339 : decode cL_areTaken 339 = .ok (.isub, 1) := by decide +kernel
theorem dL_areTaken_340 : decode cL_areTaken 340 = .ok (.istore_n 1, 1) := by decide +kernel
theorem dL_areTaken_341 : decode cL_areTaken 341 = .ok (.iinc 2 1, 3) := by decide +kernel
theorem dL_areTaken_344 : decode cL_areTaken 344 = .ok (.goto (-20), 3) := by decide +kernel
theorem dL_areTaken_347 : decode cL_areTaken 347 = .ok (.iload_n 1, 1) := by decide +kernel
theorem dL_areTaken_348 : decode cL_areTaken 348 = .ok (.ifCond .ne 7, 3) := by decide +kernel
theorem dL_areTaken_351 : decode cL_areTaken 351 = .ok (.iconst 1, 1) := by decide +kernel
theorem dL_areTaken_352 : decode cL_areTaken 352 = .ok (.goto 4, 3) := by decide +kernel
theorem dL_areTaken_355 : decode cL_areTaken 355 = .ok (.iconst 0, 1) := by decide +kernel
theorem dL_areTaken_356 : decode cL_areTaken 356 = .ok (.ireturn, 1) := by decide +kernel
set_option maxRecDepth 20000 in
theorem ggL_areColours_X11_colour : GoodIn wsL_areColours wsX11_colour := goodIn_ca (goodIn_2 lwk_L_areColours_in _ [(1, 12), (1, 13), (1, 14), (1, 15), (1, 16), (1, 17), (1, 18), (1, 11), (1, 19), (1, 20), (1, 21), (1, 22), (1, 23), (2, 0), (2, 1), (2, 2), (2, 3), (2, 4), (2, 5), (2, 6), (2, 7), (2, 8), (2, 9), (2, 10), (2, 11), (2, 12), (2, 13), (2, 14), (1, 5), (1, 6), (1, 7), (2, 15), (2, 16), (2, 17), (2, 18), (2, 19), (2, 20), (2, 21), (2, 22), (2, 23), (3, 0), (3, 1), (3, 2), (3, 3), (3, 4), (3, 5), (3, 6), (3, 7), (3, 8), (3, 9), (3, 10), (3, 11), (3, 12), (3, 13), (3, 14), (3, 15), (3, 16), (3, 17), (3, 18), (3, 19), (6, 0), (6, 1), (6, 2), (6, 3), (6, 4), (6, 5), (6, 6), (6, 7), (6, 8), (6, 9), (6, 10), (7, 0), (8, 0), (8, 1)] (by decide +kernel) (by decide +kernel)) (goodIn_sub (fun _ h => List.mem_cons_of_mem _ (List.mem_append_right _ h)) (by decide +kernel))
set_option maxRecDepth 20000 in
theorem gL_areColours_X11_colour : GoodIn wsL_areColours (wsV RL 219 RX11 yX11_colour wsX11_colour) := goodIn_app (goodIn_2 lwk_L_areColours_in _ [(1, 8), (1, 9), (1, 10), (1, 11)] (by decide +kernel) (by decide +kernel)) ggL_areColours_X11_colour
set_option maxRecDepth 20000 in
theorem ggL_areColours_X11_most : GoodIn wsL_areColours wsX11_most := goodIn_2 lwk_L_areColours_in _ [(3, 23), (1, 13), (1, 14), (4, 0), (2, 11), (2, 12), (2, 7), (2, 13), (2, 14), (1, 5), (1, 6), (1, 7), (2, 15), (2, 16), (2, 17), (2, 18), (2, 19), (1, 23), (2, 0), (2, 1), (2, 2), (2, 3), (2, 20), (2, 21), (2, 22), (2, 23), (6, 0), (6, 1), (6, 2), (6, 3), (6, 4), (6, 5), (6, 6), (6, 7), (6, 8), (6, 9), (6, 10), (8, 0), (8, 1)] (by decide +kernel) (by decide +kernel)
set_option maxRecDepth 20000 in
theorem gL_areColours_X11_most : GoodIn wsL_areColours (wsV RL 222 RX11 yX11_most wsX11_most) := goodIn_app (goodIn_2 lwk_L_areColours_in _ [(3, 20), (3, 21), (3, 22), (1, 11)] (by decide +kernel) (by decide +kernel)) ggL_areColours_X11_most
theorem dL_areColours_0 : decode cL_areColours 0 = .ok (.iconst 0, 1) := by decide +kernel
theorem dL_areColours_1 : decode cL_areColours 1 = .ok (.istore_n 1, 1) := by decide +kernel
theorem dL_areColours_2 : decode cL_areColours 2 = .ok (.iconst 0, 1) := by decide +kernel
theorem dL_areColours_3 : decode cL_areColours 3 = .ok (.istore_n 2, 1) := by decide +kernel
theorem dL_areColours_4 : decode cL_areColours 4 = .ok (.iload_n 2, 1) := by decide +kernel
theorem dL_areColours_5 : decode cL_areColours 5 = .ok (.aload_n 0, 1) := by decide +kernel
theorem dL_areColours_6 : decode cL_areColours 6 = .ok (.getfield 66, 3) := by decide +kernel
theorem dL_areColours_9 : decode cL_areColours 9 = .ok (.if_icmp .ge 153, 3) := by decide +kernel
theorem dL_areColours_12 : decode cL_areColours 12 = .ok (.iconst 0, 1) := by decide +kernel
theorem dL_areColours_13 : decode cL_areColours 13 = .ok (.istore_n 3, 1) := by decide +kernel
theorem dL_areColours_14 : decode cL_areColours 14 = .ok (.iconst 0, 1) := by decide +kernel
theorem dL_areColours_15 : decode cL_areColours 15 = .ok (.istore 4, 2) := by decide +kernel
theorem dL_areColours_17 : decode cL_areColours 17 = .ok (.iconst 0, 1) := by decide +kernel
theorem dL_areColours_18 : decode cL_areColours 18 = .ok (.istore 5, 2) := by decide +kernel
theorem dL_areColours_20 : decode cL_areColours 20 = .ok (.iload 5, 2) := by decide +kernel
theorem dL_areColours_22 : decode cL_areColours 22 = .ok (.aload_n 0, 1) := by decide +kernel
theorem dL_areColours_23 : decode cL_areColours 23 = .ok (.getfield 66, 3) := by decide +kernel
theorem dL_areColours_26 : decode cL_areColours 26 = .ok (.if_icmp .ge 119, 3) := by decide +kernel
theorem dL_areColours_29 : decode cL_areColours 29 = .ok (.iload_n 3, 1) := by decide +kernel
theorem dL_areColours_30 : decode cL_areColours 30 = .ok (.aload_n 0, 1) := by decide +kernel
theorem dL_areColours_31 : decode cL_areColours 31 = .ok (.getfield 16, 3) := by decide +kernel
theorem dL_areColours_34 : decode cL_areColours 34 = .ok (.iload 5, 2) := by decide +kernel
theorem dL_areColours_36 : decode cL_areColours 36 = .ok (.iaload, 1) := by decide +kernel
theorem dL_areColours_37 : decode cL_areColours 37 = .ok (.aload_n 0, 1) := by decide +kernel
theorem dL_areColours_38 : decode cL_areColours 38 = .ok (.getfield 16, 3) := by decide +kernel
theorem dL_areColours_41 : decode cL_areColours 41 = .ok (.iload_n 2, 1) := by decide +kernel
theorem dL_areColours_42 : decode cL_areColours 42 = .ok (.iaload, 1) := by decide +kernel
theorem dL_areColours_43 : decode cL_areColours 43 = .ok (.if_icmp .ne 7, 3) := by decide +kernel
theorem dL_areColours_46 : decode cL_areColours 46 = .ok (.iconst 1, 1) := by decide +kernel
theorem dL_areColours_47 : decode cL_areColours 47 = .ok (.goto 4, 3) := by decide +kernel
theorem dL_areColours_50 : decode cL_areColours 50 = .ok (.iconst 0, 1) := by decide +kernel
theorem dL_areColours_51 : decode cL_areColours 51 = .ok (.iadd, 1) := by decide +kernel
theorem dL_areColours_52 : decode cL_areColours 52 = .ok (.istore_n 3, 1) := by decide +kernel
theorem dL_areColours_53 : decode cL_areColours 53 = .ok (.iload 4, 2) := by decide +kernel
theorem dL_areColours_55 : decode cL_areColours 55 = .ok (.aload_n 0, 1) := by decide +kernel
theorem dL_areColours_56 : decode cL_areColours 56 = .ok (.getfield 20, 3) := by decide +kernel
theorem dL_areColours_59 : decode cL_areColours 59 = .ok (.iload 5, 2) := by decide +kernel
theorem dL_areColours_61 : decode cL_areColours 61 = .ok (.iaload, 1) := by decide +kernel
theorem dL_areColours_62 : decode cL_areColours 62 = .ok (.aload_n 0, 1) := by decide +kernel
theorem dL_areColours_63 : decode cL_areColours 63 = .ok (.getfield 20, 3) := by decide +kernel
theorem dL_areColours_66 : decode cL_areColours 66 = .ok (.iload_n 2, 1) := by decide +kernel
theorem dL_areColours_67 : decode cL_areColours 67 = .ok (.iaload, 1) := by decide +kernel
theorem dL_areColours_68 : decode cL_areColours 68 = .ok (.if_icmp .ne 7, 3) := by decide +kernel
theorem dL_areColours_71 : decode cL_areColours 71 = .ok (.iconst 1, 1) := by decide +kernel
theorem dL_areColours_72 : decode cL_areColours 72 = .ok (.goto 4, 3) := by decide +kernel
theorem dL_areColours_75 : decode cL_areColours 75 = .ok (.iconst 0, 1) := by decide +kernel
theorem dL_areColours_76 : decode cL_areColours 76 = .ok (.iadd, 1) := by decide +kernel
theorem dL_areColours_77 : decode cL_areColours 77 = .ok (.istore 4, 2) := by decide +kernel
theorem dL_areColours_79 : decode cL_areColours 79 = .ok (.iload 5, 2) := by decide +kernel
theorem dL_areColours_81 : decode cL_areColours 81 = .ok (.iload_n 2, 1) := by decide +kernel
theorem dL_areColours_82 : decode cL_areColours 82 = .ok (.if_icmp .ge 57, 3) := by decide +kernel
theorem dL_areColours_85 : decode cL_areColours 85 = .ok (.aload_n 0, 1) := by decide +kernel
theorem dL_areColours_86 : decode cL_areColours 86 = .ok (.getfield 16, 3) := by decide +kernel
theorem dL_areColours_89 : decode cL_areColours 89 = .ok (.iload 5, 2) := by decide +kernel
theorem dL_areColours_91 : decode cL_areColours 91 = .ok (.iaload, 1) := by decide +kernel
theorem dL_areColours_92 : decode cL_areColours 92 = .ok (.aload_n 0, 1) := by decide +kernel
theorem dL_areColours_93 : decode cL_areColours 93 = .ok (.getfield 16, 3) := by decide +kernel
theorem dL_areColours_96 : decode cL_areColours 96 = .ok (.iload_n 2, 1) := by decide +kernel
theorem dL_areColours_97 : decode cL_areColours 97 = .ok (.iaload, 1) := by decide +kernel
theorem dL_areColours_98 : decode cL_areColours 98 = .ok (.if_icmp .eq 19, 3) := by decide +kernel
theorem dL_areColours_101 : decode cL_areColours 101 = .ok (.aload_n 0, 1) := by decide +kernel
theorem dL_areColours_102 : decode cL_areColours 102 = .ok (.getfield 20, 3) := by decide +kernel
theorem dL_areColours_105 : decode cL_areColours 105 = .ok (.iload 5, 2) := by decide +kernel
theorem dL_areColours_107 : decode cL_areColours 107 = .ok (.iaload, 1) := by decide +kernel
theorem dL_areColours_108 : decode cL_areColours 108 = .ok (.aload_n 0, 1) := by decide +kernel
theorem dL_areColours_109 : decode cL_areColours 109 = .ok (.getfield 20, 3) := by decide +kernel
theorem dL_areColours_112 : decode cL_areColours 112 = .ok (.iload_n 2, 1) := by decide +kernel
theorem dL_areColours_113 : decode cL_areColours 113 = .ok (.iaload, 1) := by decide +kernel
theorem dL_areColours_114 : decode cL_areColours 114 = .ok (.if_icmp .ne 25, 3) := by decide +kernel
theorem dL_areColours_117 : decode cL_areColours 117 = .ok (.aload_n 0, 1) := by decide +kernel
theorem dL_areColours_118 : decode cL_areColours 118 = .ok (.getfield 10, 3) := by decide +kernel
theorem dL_areColours_121 : decode cL_areColours 121 = .ok (.iload 5, 2) := by decide +kernel
theorem dL_areColours_123 : decode cL_areColours 123 = .ok (.invokevirtual 219, 3) := by decide +kernel
theorem dL_areColours_126 : decode cL_areColours 126 = .ok (.aload_n 0, 1) := by decide +kernel
theorem dL_areColours_127 : decode cL_areColours 127 = .ok (.getfield 10, 3) := by decide +kernel
theorem dL_areColours_130 : decode cL_areColours 130 = .ok (.iload_n 2, 1) := by decide +kernel
theorem dL_areColours_131 : decode cL_areColours 131 = .ok (.invokevirtual 219, 3) := by decide +kernel
theorem dL_areColours_134 : decode cL_areColours 134 = .ok (.if_icmp .ne 5, 3) := by decide +kernel
theorem dL_areColours_137 : decode cL_areColours 137 = .ok (.iconst 0, 1) := by decide +kernel
theorem dL_areColours_138 : decode cL_areColours 138 = .ok (.ireturn, 1) := by decide +kernel
theorem dL_areColours_139 : decode cL_areColours 139 = .ok (.iinc 5 1, 3) := by decide +kernel
theorem dL_areColours_142 : decode cL_areColours 142 = .ok (.goto (-122), 3) := by decide +kernel
theorem dL_areColours_145 : decode cL_areColours 145 = .ok (.iload_n 1, 1) := by decide +kernel
theorem dL_areColours_146 : decode cL_areColours 146 = .ok (.iload_n 3, 1) := by decide +kernel
theorem dL_areColours_147 : decode cL_areColours 147 = .ok (.iload 4, 2) := by decide +kernel
theorem dL_areColours_149 : decode cL_areColours 149 = .ok (.invokestatic 202, 3) := by decide +kernel
theorem dL_areColours_152 : decode cL_areColours 152 = .ok (.invokestatic 202, 3) := by decide +kernel
theorem dL_areColours_155 : decode cL_areColours 155 = .ok (.istore_n 1, 1) := by decide +kernel
theorem dL_areColours_156 : decode cL_areColours 156 = .ok (.iinc 2 1, 3) := by decide +kernel
theorem dL_areColours_159 : decode cL_areColours 159 = .ok (.goto (-155), 3) := by decide +kernel
theorem dL_areColours_162 : decode cL_areColours 162 = .ok (.iconst 0, 1) := by decide +kernel
theorem dL_areColours_163 : decode cL_areColours 163 = .ok (.istore_n 2, 1) := by decide +kernel
theorem dL_areColours_164 : decode cL_areColours 164 = .ok (.iload_n 2, 1) := by decide +kernel
theorem dL_areColours_165 : decode cL_areColours 165 = .ok (.aload_n 0, 1) := by decide +kernel
theorem dL_areColours_166 : decode cL_areColours 166 = .ok (.getfield 66, 3) := by decide +kernel
theorem dL_areColours_169 : decode cL_areColours 169 = .ok (.if_icmp .ge 34, 3) := by decide +kernel
theorem dL_areColours_172 : decode cL_areColours 172 = .ok (.aload_n 0, 1) := by decide +kernel
theorem dL_areColours_173 : decode cL_areColours 173 = .ok (.getfield 10, 3) := by decide +kernel
theorem dL_areColours_176 : decode cL_areColours 176 = .ok (.iload_n 2, 1) := by decide +kernel
theorem dL_areColours_177 : decode cL_areColours 177 = .ok (.invokevirtual 219, 3) := by decide +kernel
theorem dL_areColours_180 : decode cL_areColours 180 = .ok (.ifCond .lt 15, 3) := by decide +kernel
theorem dL_areColours_183 : decode cL_areColours 183 = .ok (.aload_n 0, 1) := by decide +kernel
theorem dL_areColours_184 : decode cL_areColours 184 = .ok (.getfield 10, 3) := by decide +kernel
theorem dL_areColours_187 : decode cL_areColours 187 = .ok (.iload_n 2, 1) := by decide +kernel
theorem dL_areColours_188 : decode cL_areColours 188 = .ok (.invokevirtual 219, 3) := by decide +kernel
theorem dL_areColours_191 : decode cL_areColours 191 = .ok (.iload_n 1, 1) := by decide +kernel
theorem dL_areColours_192 : decode cL_areColours 192 = .ok (.if_icmp .lt 5, 3) := by decide +kernel
theorem dL_areColours_195 : decode cL_areColours 195 = .ok (.iconst 0, 1) := by decide +kernel
theorem dL_areColours_196 : decode cL_areColours 196 = .ok (.ireturn, 1) := by decide +kernel
theorem dL_areColours_197 : decode cL_areColours 197 = .ok (.iinc 2 1, 3) := by decide +kernel
