theorem dL_isYear_30 : decode cL_isYear 30 = .ok (.iconst 4, 1) := by decide +kernel
theorem dL_isYear_31 : decode cL_isYear 31 = .ok (.invokevirtual 76, 3) := by decide +kernel
theorem dL_isYear_34 : decode cL_isYear 34 = .ok (.istore_n 2, 1) := by decide +kernel
theorem dL_isYear_35 : decode cL_isYear 35 = .ok (.iload_n 2, 1) := by decide +kernel
theorem dL_isYear_36 : decode cL_isYear 36 = .ok (.ifCond .le 59, 3) := by decide +kernel
theorem dL_isYear_39 : decode cL_isYear 39 = .ok (.aload_n 0, 1) := by decide +kernel
theorem dL_isYear_40 : decode cL_isYear 40 = .ok (.getfield 10, 3) := by decide +kernel
theorem dL_isYear_43 : decode cL_isYear 43 = .ok (.iload_n 1, 1) := by decide +kernel
theorem dL_isYear_44 : decode cL_isYear 44 = .ok (.aload_n 0, 1) := by decide +kernel
theorem dL_isYear_45 : decode cL_isYear 45 = .ok (.sipush 300, 3) := by decide +kernel
theorem dL_isYear_48 : decode cL_isYear 48 = .ok (.invokevirtual 76, 3) := by decide +kernel
theorem dL_isYear_51 : decode cL_isYear 51 = .ok (.iconst 5, 1) := by decide +kernel
theorem dL_isYear_52 : decode cL_isYear 52 = .ok (.isub, 1) := by decide +kernel
theorem dL_isYear_53 : decode cL_isYear 53 = .ok (.invokevirtual 244, 3) := by decide +kernel
theorem dL_isYear_56 : decode cL_isYear 56 = .ok (.istore_n 3, 1) := by decide +kernel
theorem dL_isYear_57 : decode cL_isYear 57 = .ok (.aload_n 0, 1) := by decide +kernel
theorem dL_isYear_58 : decode cL_isYear 58 = .ok (.getfield 10, 3) := by decide +kernel
theorem dL_isYear_61 : decode cL_isYear 61 = .ok (.iload_n 3, 1) := by decide +kernel
theorem dL_isYear_62 : decode cL_isYear 62 = .ok (.aload_n 0, 1) := by decide +kernel
theorem dL_isYear_63 : decode cL_isYear 63 = .ok (.bipush 20, 2) := by decide +kernel
theorem dL_isYear_65 : decode cL_isYear 65 = .ok (.invokevirtual 76, 3) := by decide +kernel
theorem dL_isYear_68 : decode cL_isYear 68 = .ok (.invokevirtual 244, 3) := by decide +kernel
theorem dL_isYear_71 : decode cL_isYear 71 = .ok (.istore 4, 2) := by decide +kernel
theorem dL_isYear_73 : decode cL_isYear 73 = .ok (.aload_n 0, 1) := by decide +kernel
theorem dL_isYear_74 : decode cL_isYear 74 = .ok (.getfield 10, 3) := by decide +kernel
theorem dL_isYear_77 : decode cL_isYear 77 = .ok (.iload_n 3, 1) := by decide +kernel
theorem dL_isYear_78 : decode cL_isYear 78 = .ok (.iload 4, 2) := by decide +kernel
theorem dL_isYear_80 : decode cL_isYear 80 = .ok (.invokevirtual 247, 3) := by decide +kernel
theorem dL_isYear_83 : decode cL_isYear 83 = .ok (.iconst 1, 1) := by decide +kernel
theorem dL_isYear_84 : decode cL_isYear 84 = .ok (.if_icmp .ge 5, 3) := by decide +kernel
theorem dL_isYear_87 : decode cL_isYear 87 = .ok (.iconst 0, 1) := by decide +kernel
theorem dL_isYear_88 : decode cL_isYear 88 = .ok (.ireturn, 1) := by decide +kernel
theorem dL_isYear_89 : decode cL_isYear 89 = .ok (.iinc 2 (-1), 3) := by decide +kernel
theorem dL_isYear_92 : decode cL_isYear 92 = .ok (.goto (-57), 3) := by decide +kernel
theorem dL_isYear_95 : decode cL_isYear 95 = .ok (.aload_n 0, 1) := by decide +kernel
theorem dL_isYear_96 : decode cL_isYear 96 = .ok (.getfield 10, 3) := by decide +kernel
theorem dL_isYear_99 : decode cL_isYear 99 = .ok (.invokevirtual 250, 3) := by decide +kernel
theorem dL_isYear_102 : decode cL_isYear 102 = .ok (.istore_n 2, 1) := by decide +kernel
theorem dL_isYear_103 : decode cL_isYear 103 = .ok (.iconst 0, 1) := by decide +kernel
theorem dL_isYear_104 : decode cL_isYear 104 = .ok (.istore_n 3, 1) := by decide +kernel
theorem dL_isYear_105 : decode cL_isYear 105 = .ok (.iload_n 3, 1) := by decide +kernel
theorem dL_isYear_106 : decode cL_isYear 106 = .ok (.bipush 6, 2) := by decide +kernel
theorem dL_isYear_108 : decode cL_isYear 108 = .ok (.if_icmp .ge 133, 3) := by decide +kernel
theorem dL_isYear_111 : decode cL_isYear 111 = .ok (.iload_n 2, 1) := by decide +kernel
theorem dL_isYear_112 : decode cL_isYear 112 = .ok (.ifCond .le 129, 3) := by decide +kernel
theorem dL_isYear_115 : decode cL_isYear 115 = .ok (.aload_n 0, 1) := by decide +kernel
theorem dL_isYear_116 : decode cL_isYear 116 = .ok (.iload_n 2, 1) := by decide +kernel
theorem dL_isYear_117 : decode cL_isYear 117 = .ok (.invokevirtual 76, 3) := by decide +kernel
theorem dL_isYear_120 : decode cL_isYear 120 = .ok (.istore 4, 2) := by decide +kernel
theorem dL_isYear_122 : decode cL_isYear 122 = .ok (.aload_n 0, 1) := by decide +kernel
theorem dL_isYear_123 : decode cL_isYear 123 = .ok (.getfield 10, 3) := by decide +kernel
theorem dL_isYear_126 : decode cL_isYear 126 = .ok (.iload 4, 2) := by decide +kernel
theorem dL_isYear_128 : decode cL_isYear 128 = .ok (.invokevirtual 253, 3) := by decide +kernel
theorem dL_isYear_131 : decode cL_isYear 131 = .ok (.istore 5, 2) := by decide +kernel
theorem dL_isYear_133 : decode cL_isYear 133 = .ok (.aload_n 0, 1) := by decide +kernel
theorem dL_isYear_134 : decode cL_isYear 134 = .ok (.getfield 10, 3) := by decide +kernel
theorem dL_isYear_137 : decode cL_isYear 137 = .ok (.iload 5, 2) := by decide +kernel
theorem dL_isYear_139 : decode cL_isYear 139 = .ok (.invokevirtual 256, 3) := by decide +kernel
theorem dL_isYear_142 : decode cL_isYear 142 = .ok (.iload 4, 2) := by decide +kernel
theorem dL_isYear_144 : decode cL_isYear 144 = .ok (.if_icmp .ne 43, 3) := by decide +kernel
theorem dL_isYear_147 : decode cL_isYear 147 = .ok (.aload_n 0, 1) := by decide +kernel
theorem dL_isYear_148 : decode cL_isYear 148 = .ok (.getfield 10, 3) := by decide +kernel
theorem dL_isYear_151 : decode cL_isYear 151 = .ok (.iload 5, 2) := by decide +kernel
theorem dL_isYear_153 : decode cL_isYear 153 = .ok (.invokevirtual 237, 3) := by decide +kernel
theorem dL_isYear_156 : decode cL_isYear 156 = .ok (.iconst 4, 1) := by decide +kernel
theorem dL_isYear_157 : decode cL_isYear 157 = .ok (.if_icmp .gt 30, 3) := by decide +kernel
theorem dL_isYear_160 : decode cL_isYear 160 = .ok (.aload_n 0, 1) := by decide +kernel
theorem dL_isYear_161 : decode cL_isYear 161 = .ok (.getfield 10, 3) := by decide +kernel
theorem dL_isYear_164 : decode cL_isYear 164 = .ok (.iload 5, 2) := by decide +kernel
theorem dL_isYear_166 : decode cL_isYear 166 = .ok (.iconst 2, 1) := by decide +kernel
theorem dL_isYear_167 : decode cL_isYear 167 = .ok (.invokevirtual 259, 3) := by decide +kernel
theorem dL_isYear_170 : decode cL_isYear 170 = .ok (.iconst 1, 1) := by decide +kernel
theorem dL_isYear_171 : decode cL_isYear 171 = .ok (.if_icmp .lt 16, 3) := by decide +kernel
theorem dL_isYear_174 : decode cL_isYear 174 = .ok (.aload_n 0, 1) := by decide +kernel
theorem dL_isYear_175 : decode cL_isYear 175 = .ok (.getfield 10, 3) := by decide +kernel
theorem dL_isYear_178 : decode cL_isYear 178 = .ok (.iload 5, 2) := by decide +kernel
theorem dL_isYear_180 : decode cL_isYear 180 = .ok (.iconst 1, 1) := by decide +kernel
theorem dL_isYear_181 : decode cL_isYear 181 = .ok (.invokevirtual 259, 3) := by decide +kernel
theorem dL_isYear_184 : decode cL_isYear 184 = .ok (.ifCond .ge 5, 3) := by decide +kernel
theorem dL_isYear_187 : decode cL_isYear 187 = .ok (.iconst 0, 1) := by decide +kernel
theorem dL_isYear_188 : decode cL_isYear 188 = .ok (.ireturn, 1) := by decide +kernel
theorem dL_isYear_189 : decode cL_isYear 189 = .ok (.iload 4, 2) := by decide +kernel
theorem dL_isYear_191 : decode cL_isYear 191 = .ok (.ifCond .le 44, 3) := by decide +kernel
theorem dL_isYear_194 : decode cL_isYear 194 = .ok (.aload_n 0, 1) := by decide +kernel
theorem dL_isYear_195 : decode cL_isYear 195 = .ok (.getfield 10, 3) := by decide +kernel
theorem dL_isYear_198 : decode cL_isYear 198 = .ok (.iload 4, 2) := by decide +kernel
theorem dL_isYear_200 : decode cL_isYear 200 = .ok (.iconst 1, 1) := by decide +kernel
theorem dL_isYear_201 : decode cL_isYear 201 = .ok (.isub, 1) := by decide +kernel
theorem dL_isYear_202 : decode cL_isYear 202 = .ok (.invokevirtual 253, 3) := by decide +kernel
theorem dL_isYear_205 : decode cL_isYear 205 = .ok (.iload 5, 2) := by decide +kernel
theorem dL_isYear_207 : decode cL_isYear 207 = .ok (.if_icmp .ge 26, 3) := by decide +kernel
theorem dL_isYear_210 : decode cL_isYear 210 = .ok (.aload_n 0, 1) := by decide +kernel
theorem dL_isYear_211 : decode cL_isYear 211 = .ok (.getfield 10, 3) := by decide +kernel
theorem dL_isYear_214 : decode cL_isYear 214 = .ok (.aload_n 0, 1) := by decide +kernel
theorem dL_isYear_215 : decode cL_isYear 215 = .ok (.getfield 10, 3) := by decide +kernel
theorem dL_isYear_218 : decode cL_isYear 218 = .ok (.iload 4, 2) := by decide +kernel
theorem dL_isYear_220 : decode cL_isYear 220 = .ok (.iconst 1, 1) := by decide +kernel
theorem dL_isYear_221 : decode cL_isYear 221 = .ok (.isub, 1) := by decide +kernel
theorem dL_isYear_222 : decode cL_isYear 222 = .ok (.invokevirtual 253, 3) := by decide +kernel
theorem dL_isYear_225 : decode cL_isYear 225 = .ok (.invokevirtual 262, 3) := by decide +kernel
theorem dL_isYear_228 : decode cL_isYear 228 = .ok (.iload 5, 2) := by decide +kernel
theorem dL_isYear_230 : decode cL_isYear 230 = .ok (.if_icmp .eq 5, 3) := by decide +kernel
theorem dL_isYear_233 : decode cL_isYear 233 = .ok (.iconst 0, 1) := by decide +kernel
theorem dL_isYear_234 : decode cL_isYear 234 = .ok (.ireturn, 1) := by decide +kernel
theorem dL_isYear_235 : decode cL_isYear 235 = .ok (.iinc 3 1, 3) := by decide +kernel
theorem dL_isYear_238 : decode cL_isYear 238 = .ok (.goto (-133), 3) := by decide +kernel
theorem dL_isYear_241 : decode cL_isYear 241 = .ok (.iconst 0, 1) := by decide +kernel
theorem dL_isYear_242 : decode cL_isYear 242 = .ok (.istore_n 3, 1) := by decide +kernel
theorem dL_isYear_243 : decode cL_isYear 243 = .ok (.iconst 0, 1) := by decide +kernel
theorem dL_isYear_244 : decode cL_isYear 244 = .ok (.istore 4, 2) := by decide +kernel
theorem dL_isYear_246 : decode cL_isYear 246 = .ok (.iload 4, 2) := by decide +kernel
theorem dL_isYear_248 : decode cL_isYear 248 = .ok (.bipush 40, 2) := by decide +kernel
theorem dL_isYear_250 : decode cL_isYear 250 = .ok (.if_icmp .ge 78, 3) := by decide +kernel
theorem dL_isYear_253 : decode cL_isYear 253 = .ok (.aload_n 0, 1) := by decide +kernel
theorem dL_isYear_254 : decode cL_isYear 254 = .ok (.getfield 10, 3) := by decide +kernel
theorem dL_isYear_257 : decode cL_isYear 257 = .ok (.iload_n 1, 1) := by decide +kernel
theorem dL_isYear_258 : decode cL_isYear 258 = .ok (.bipush 7, 2) := by decide +kernel
theorem dL_isYear_260 : decode cL_isYear 260 = .ok (.iload 4, 2) := by decide +kernel
theorem dL_isYear_262 : decode cL_isYear 262 = .ok (.imul, 1) := by decide +kernel
theorem dL_isYear_263 : decode cL_isYear 263 = .ok (.invokevirtual 244, 3) := by decide +kernel
theorem dL_isYear_266 : decode cL_isYear 266 = .ok (.istore 5, 2) := by decide +kernel
theorem dL_isYear_268 : decode cL_isYear 268 = .ok (.aload_n 0, 1) := by decide +kernel
theorem dL_isYear_269 : decode cL_isYear 269 = .ok (.getfield 10, 3) := by decide +kernel
theorem dL_isYear_272 : decode cL_isYear 272 = .ok (.iload 5, 2) := by decide +kernel
theorem dL_isYear_274 : decode cL_isYear 274 = .ok (.iconst 0, 1) := by decide +kernel
theorem dL_isYear_275 : decode cL_isYear 275 = .ok (.invokevirtual 259, 3) := by decide +kernel
theorem dL_isYear_278 : decode cL_isYear 278 = .ok (.iload 4, 2) := by decide +kernel
theorem dL_isYear_280 : decode cL_isYear 280 = .ok (.if_icmp .ne 27, 3) := by decide +kernel
theorem dL_isYear_283 : decode cL_isYear 283 = .ok (.aload_n 0, 1) := by decide +kernel
theorem dL_isYear_284 : decode cL_isYear 284 = .ok (.getfield 10, 3) := by decide +kernel
theorem dL_isYear_287 : decode cL_isYear 287 = .ok (.aload_n 0, 1) := by decide +kernel
theorem dL_isYear_288 : decode cL_isYear 288 = .ok (.getfield 10, 3) := by decide +kernel
theorem dL_isYear_291 : decode cL_isYear 291 = .ok (.iload 5, 2) := by decide +kernel
theorem dL_isYear_293 : decode cL_isYear 293 = .ok (.bipush 6, 2) := by decide +kernel
theorem dL_isYear_295 : decode cL_isYear 295 = .ok (.invokevirtual 244, 3) := by decide +kernel
theorem dL_isYear_298 : decode cL_isYear 298 = .ok (.iconst 0, 1) := by decide +kernel
theorem dL_isYear_299 : decode cL_isYear 299 = .ok (.invokevirtual 259, 3) := by decide +kernel
theorem dL_isYear_302 : decode cL_isYear 302 = .ok (.iload 4, 2) := by decide +kernel
theorem dL_isYear_304 : decode cL_isYear 304 = .ok (.if_icmp .eq 5, 3) := by decide +kernel
theorem dL_isYear_307 : decode cL_isYear 307 = .ok (.iconst 0, 1) := by decide +kernel
theorem dL_isYear_308 : decode cL_isYear 308 = .ok (.ireturn, 1) := by decide +kernel
theorem dL_isYear_309 : decode cL_isYear 309 = .ok (.iload_n 3, 1) := by decide +kernel
theorem dL_isYear_310 : decode cL_isYear 310 = .ok (.aload_n 0, 1) := by decide +kernel
theorem dL_isYear_311 : decode cL_isYear 311 = .ok (.getfield 10, 3) := by decide +kernel
theorem dL_isYear_314 : decode cL_isYear 314 = .ok (.iload 5, 2) := by decide +kernel
theorem dL_isYear_316 : decode cL_isYear 316 = .ok (.iconst 2, 1) := by decide +kernel
theorem dL_isYear_317 : decode cL_isYear 317 = .ok (.invokevirtual 259, 3) := by decide +kernel
theorem dL_isYear_320 : decode cL_isYear 320 = .ok (.iadd, 1) := by decide +kernel
theorem dL_isYear_321 : decode cL_isYear 321 = .ok (.istore_n 3, 1) := by decide +kernel
theorem dL_isYear_322 : decode cL_isYear 322 = .ok (.iinc 4 1, 3) := by decide +kernel
theorem dL_isYear_325 : decode cL_isYear 325 = .ok (.goto (-79), 3) := by decide +kernel
theorem dL_isYear_328 : decode cL_isYear 328 = .ok (.aload_n 0, 1) := by decide +kernel
theorem dL_isYear_329 : decode cL_isYear 329 = .ok (.sipush 2001, 3) := by decide +kernel
theorem dL_isYear_332 : decode cL_isYear 332 = .ok (.invokevirtual 76, 3) := by decide +kernel
theorem dL_isYear_335 : decode cL_isYear 335 = .ok (.sipush 1000, 3) := by decide +kernel
theorem dL_isYear_338 : decode cL_isYear 338 = .ok (.isub, 1) := by decide +kernel
theorem dL_isYear_339 : decode cL_isYear 339 = .ok (.istore 4, 2) := by decide +kernel
theorem dL_isYear_341 : decode cL_isYear 341 = .ok (.iload_n 3, 1) := by decide +kernel
theorem dL_isYear_342 : decode cL_isYear 342 = .ok (.iload_n 2, 1) := by decide +kernel
theorem dL_isYear_343 : decode cL_isYear 343 = .ok (.if_icmp .ne 59, 3) := by decide +kernel
theorem dL_isYear_346 : decode cL_isYear 346 = .ok (.aload_n 0, 1) := by decide +kernel
theorem dL_isYear_347 : decode cL_isYear 347 = .ok (.getfield 10, 3) := by decide +kernel
theorem dL_isYear_350 : decode cL_isYear 350 = .ok (.aload_n 0, 1) := by decide +kernel
theorem dL_isYear_351 : decode cL_isYear 351 = .ok (.getfield 10, 3) := by decide +kernel
theorem dL_isYear_354 : decode cL_isYear 354 = .ok (.iload_n 1, 1) := by decide +kernel
theorem dL_isYear_355 : decode cL_isYear 355 = .ok (.sipush 280, 3) := by decide +kernel
theorem dL_isYear_358 : decode cL_isYear 358 = .ok (.invokevirtual 244, 3) := by decide +kernel
theorem dL_isYear_361 : decode cL_isYear 361 = .ok (.iconst 0, 1) := by decide +kernel
theorem dL_isYear_362 : decode cL_isYear 362 = .ok (.invokevirtual 259, 3) := by decide +kernel
theorem dL_isYear_365 : decode cL_isYear 365 = .ok (.iconst (-1), 1) := by decide +kernel
theorem dL_isYear_366 : decode cL_isYear 366 = .ok (.if_icmp .ne 36, 3) := by decide +kernel
theorem dL_isYear_369 : decode cL_isYear 369 = .ok (.iload 4, 2) := by decide +kernel
theorem dL_isYear_371 : decode cL_isYear 371 = .ok (.ifCond .lt 27, 3) := by decide +kernel
theorem dL_isYear_374 : decode cL_isYear 374 = .ok (.aload_n 0, 1) := by decide +kernel
theorem dL_isYear_375 : decode cL_isYear 375 = .ok (.getfield 10, 3) := by decide +kernel
theorem dL_isYear_378 : decode cL_isYear 378 = .ok (.aload_n 0, 1) := by decide +kernel
theorem dL_isYear_379 : decode cL_isYear 379 = .ok (.getfield 10, 3) := by decide +kernel
theorem dL_isYear_382 : decode cL_isYear 382 = .ok (.iload_n 1, 1) := by decide +kernel
theorem dL_isYear_383 : decode cL_isYear 383 = .ok (.iload 4, 2) := by decide +kernel
theorem dL_isYear_385 : decode cL_isYear 385 = .ok (.invokevirtual 244, 3) := by decide +kernel
theorem dL_isYear_388 : decode cL_isYear 388 = .ok (.iload 4, 2) := by decide +kernel
theorem dL_isYear_390 : decode cL_isYear 390 = .ok (.ineg, 1) := by decide +kernel
theorem dL_isYear_391 : decode cL_isYear 391 = .ok (.invokevirtual 244, 3) := by decide +kernel
theorem dL_isYear_394 : decode cL_isYear 394 = .ok (.iload_n 1, 1) := by decide +kernel
theorem dL_isYear_395 : decode cL_isYear 395 = .ok (.if_icmp .ne 7, 3) := by decide +kernel
theorem dL_isYear_398 : decode cL_isYear 398 = .ok (.iconst 1, 1) := by decide +kernel
theorem dL_isYear_399 : decode cL_isYear 399 = .ok (.goto 4, 3) := by decide +kernel
theorem dL_isYear_402 : decode cL_isYear 402 = .ok (.iconst 0, 1) := by decide +kernel
theorem dL_isYear_403 : decode cL_isYear 403 = .ok (.ireturn, 1) := by decide +kernel
set_option maxRecDepth 20000 in
theorem ggL_areBells_L_next : GoodIn wsL_areBells wsL_next := goodIn_2 lwk_L_areBells_in _ [(1, 5), (1, 6), (1, 7), (3, 0), (3, 1), (3, 2), (3, 3), (3, 4), (3, 5), (3, 6), (3, 7), (3, 8), (3, 9), (3, 10), (3, 11), (3, 12), (3, 13), (3, 14), (3, 15), (3, 16)] (by decide +kernel) (by decide +kernel)
set_option maxRecDepth 20000 in
theorem gL_areBells_L_next : GoodIn wsL_areBells (wsV RL 76 RL yL_next wsL_next) := goodIn_app (goodIn_2 lwk_L_areBells_in _ [(1, 1), (1, 2), (1, 3), (1, 4)] (by decide +kernel) (by decide +kernel)) ggL_areBells_L_next
set_option maxRecDepth 20000 in
theorem ggL_areBells_X11_setBells : GoodIn wsL_areBells wsX11_setBells := goodIn_ca (goodIn_2 lwk_L_areBells_in _ [(1, 12), (1, 13), (1, 14), (1, 15), (1, 16), (1, 11), (1, 17), (1, 18), (1, 19), (1, 20), (1, 21), (1, 22), (1, 23), (2, 0), (2, 1), (2, 2), (2, 3), (2, 4), (2, 5), (2, 6), (2, 7), (2, 8), (2, 9), (2, 10), (2, 11), (4, 0), (4, 1), (4, 2), (4, 3), (4, 4), (4, 5), (4, 6), (4, 7), (4, 8), (4, 9), (4, 10), (5, 0), (5, 1), (5, 2)] (by decide +kernel) (by decide +kernel)) (goodIn_sub (fun _ h => List.mem_cons_of_mem _ (List.mem_append_right _ h)) (by decide +kernel))
set_option maxRecDepth 20000 in
theorem gL_areBells_X11_setBells : GoodIn wsL_areBells (wsV RL 265 RX11 yX11_setBells wsX11_setBells) := goodIn_app (goodIn_2 lwk_L_areBells_in _ [(1, 8), (1, 9), (1, 10), (1, 11)] (by decide +kernel) (by decide +kernel)) ggL_areBells_X11_setBells
set_option maxRecDepth 20000 in
theorem ggL_areBells_X11_bell : GoodIn wsL_areBells wsX11_bell := goodIn_ca (goodIn_2 lwk_L_areBells_in _ [(2, 15), (1, 13), (1, 14), (1, 15), (1, 16), (1, 11), (1, 17), (1, 18), (1, 19), (1, 20), (1, 21), (1, 22), (1, 23), (2, 8), (2, 9), (2, 10), (2, 3), (2, 11), (2, 5), (2, 6), (2, 7), (4, 0), (4, 1), (4, 2), (4, 3), (4, 4), (4, 5), (4, 6), (4, 7), (4, 8), (4, 9), (4, 10), (5, 0), (5, 1), (5, 2)] (by decide +kernel) (by decide +kernel)) (goodIn_sub (fun _ h => List.mem_cons_of_mem _ (List.mem_append_right _ h)) (by decide +kernel))
set_option maxRecDepth 20000 in
theorem gL_areBells_X11_bell : GoodIn wsL_areBells (wsV RL 268 RX11 yX11_bell wsX11_bell) := goodIn_app (goodIn_2 lwk_L_areBells_in _ [(2, 12), (2, 13), (2, 14), (1, 11)] (by decide +kernel) (by decide +kernel)) ggL_areBells_X11_bell
set_option maxRecDepth 20000 in
theorem ggL_areBells_X11_slotAt : GoodIn wsL_areBells wsX11_slotAt := goodIn_ca (goodIn_2 lwk_L_areBells_in _ [(2, 19), (1, 13), (1, 14), (1, 15), (1, 16), (1, 11), (1, 17), (1, 18), (1, 19), (1, 20), (1, 21), (1, 22), (1, 23), (2, 8), (2, 9), (2, 10), (2, 3), (2, 11), (2, 5), (2, 6), (2, 7), (4, 0), (4, 1), (4, 2), (4, 3), (4, 4), (4, 5), (4, 6), (4, 7), (4, 8), (4, 9), (4, 10), (5, 0), (5, 1), (5, 2)] (by decide +kernel) (by decide +kernel)) (goodIn_sub (fun _ h => List.mem_cons_of_mem _ (List.mem_append_right _ h)) (by decide +kernel))
set_option maxRecDepth 20000 in
theorem gL_areBells_X11_slotAt : GoodIn wsL_areBells (wsV RL 271 RX11 yX11_slotAt wsX11_slotAt) := goodIn_app (goodIn_2 lwk_L_areBells_in _ [(2, 16), (2, 17), (2, 18), (1, 11)] (by decide +kernel) (by decide +kernel)) ggL_areBells_X11_slotAt
theorem dL_areBells_0 : decode cL_areBells 0 = .ok (.aload_n 0, 1) := by decide +kernel
theorem dL_areBells_1 : decode cL_areBells 1 = .ok (.iconst 5, 1) := by decide +kernel
theorem dL_areBells_2 : decode cL_areBells 2 = .ok (.invokevirtual 76, 3) := by decide +kernel
theorem dL_areBells_5 : decode cL_areBells 5 = .ok (.istore_n 1, 1) := by decide +kernel
theorem dL_areBells_6 : decode cL_areBells 6 = .ok (.sipush 420, 3) := by decide +kernel
theorem dL_areBells_9 : decode cL_areBells 9 = .ok (.aload_n 0, 1) := by decide +kernel
theorem dL_areBells_10 : decode cL_areBells 10 = .ok (.sipush 181, 3) := by decide +kernel
theorem dL_areBells_13 : decode cL_areBells 13 = .ok (.invokevirtual 76, 3) := by decide +kernel
theorem dL_areBells_16 : decode cL_areBells 16 = .ok (.iadd, 1) := by decide +kernel
theorem dL_areBells_17 : decode cL_areBells 17 = .ok (.istore_n 2, 1) := by decide +kernel
theorem dL_areBells_18 : decode cL_areBells 18 = .ok (.bipush 30, 2) := by decide +kernel
theorem dL_areBells_20 : decode cL_areBells 20 = .ok (.aload_n 0, 1) := by decide +kernel
theorem dL_areBells_21 : decode cL_areBells 21 = .ok (.bipush 31, 2) := by decide +kernel
theorem dL_areBells_23 : decode cL_areBells 23 = .ok (.invokevirtual 76, 3) := by decide +kernel
theorem dL_areBells_26 : decode cL_areBells 26 = .ok (.iadd, 1) := by decide +kernel
theorem dL_areBells_27 : decode cL_areBells 27 = .ok (.istore_n 3, 1) := by decide +kernel
theorem dL_areBells_28 : decode cL_areBells 28 = .ok (.aload_n 0, 1) := by decide +kernel
theorem dL_areBells_29 : decode cL_areBells 29 = .ok (.bipush 31, 2) := by decide +kernel
theorem dL_areBells_31 : decode cL_areBells 31 = .ok (.invokevirtual 76, 3) := by decide +kernel
theorem dL_areBells_34 : decode cL_areBells 34 = .ok (.istore 4, 2) := by decide +kernel
theorem dL_areBells_36 : decode cL_areBells 36 = .ok (.aload_n 0, 1) := by decide +kernel
theorem dL_areBells_37 : decode cL_areBells 37 = .ok (.getfield 10, 3) := by decide +kernel
theorem dL_areBells_40 : decode cL_areBells 40 = .ok (.iload_n 1, 1) := by decide +kernel
theorem dL_areBells_41 : decode cL_areBells 41 = .ok (.iload_n 2, 1) := by decide +kernel
theorem dL_areBells_42 : decode cL_areBells 42 = .ok (.iload_n 3, 1) := by decide +kernel
theorem dL_areBells_43 : decode cL_areBells 43 = .ok (.iload 4, 2) := by decide +kernel
theorem dL_areBells_45 : decode cL_areBells 45 = .ok (.invokevirtual 265, 3) := by decide +kernel
theorem dL_areBells_48 : decode cL_areBells 48 = .ok (.istore 5, 2) := by decide +kernel
theorem dL_areBells_50 : decode cL_areBells 50 = .ok (.iconst 0, 1) := by decide +kernel
theorem dL_areBells_51 : decode cL_areBells 51 = .ok (.istore 6, 2) := by decide +kernel
theorem dL_areBells_53 : decode cL_areBells 53 = .ok (.iload 6, 2) := by decide +kernel
theorem dL_areBells_55 : decode cL_areBells 55 = .ok (.iconst 4, 1) := by decide +kernel
theorem dL_areBells_56 : decode cL_areBells 56 = .ok (.if_icmp .ge 132, 3) := by decide +kernel
theorem dL_areBells_59 : decode cL_areBells 59 = .ok (.iconst 4, 1) := by decide +kernel
theorem dL_areBells_60 : decode cL_areBells 60 = .ok (.iload_n 1, 1) := by decide +kernel
theorem dL_areBells_61 : decode cL_areBells 61 = .ok (.imul, 1) := by decide +kernel
theorem dL_areBells_62 : decode cL_areBells 62 = .ok (.iload 6, 2) := by decide +kernel
theorem dL_areBells_64 : decode cL_areBells 64 = .ok (.iadd, 1) := by decide +kernel
theorem dL_areBells_65 : decode cL_areBells 65 = .ok (.istore 7, 2) := by decide +kernel
theorem dL_areBells_67 : decode cL_areBells 67 = .ok (.aload_n 0, 1) := by decide +kernel
theorem dL_areBells_68 : decode cL_areBells 68 = .ok (.getfield 10, 3) := by decide +kernel
theorem dL_areBells_71 : decode cL_areBells 71 = .ok (.iload 7, 2) := by decide +kernel
theorem dL_areBells_73 : decode cL_areBells 73 = .ok (.iconst 0, 1) := by decide +kernel
theorem dL_areBells_74 : decode cL_areBells 74 = .ok (.invokevirtual 268, 3) := by decide +kernel
theorem dL_areBells_77 : decode cL_areBells 77 = .ok (.istore 8, 2) := by decide +kernel
theorem dL_areBells_79 : decode cL_areBells 79 = .ok (.aload_n 0, 1) := by decide +kernel
theorem dL_areBells_80 : decode cL_areBells 80 = .ok (.getfield 10, 3) := by decide +kernel
theorem dL_areBells_83 : decode cL_areBells 83 = .ok (.iload 7, 2) := by decide +kernel
theorem dL_areBells_85 : decode cL_areBells 85 = .ok (.iconst 1, 1) := by decide +kernel
theorem dL_areBells_86 : decode cL_areBells 86 = .ok (.invokevirtual 268, 3) := by decide +kernel
theorem dL_areBells_89 : decode cL_areBells 89 = .ok (.istore 9, 2) := by decide +kernel
theorem dL_areBells_91 : decode cL_areBells 91 = .ok (.iload 8, 2) := by decide +kernel
theorem dL_areBells_93 : decode cL_areBells 93 = .ok (.iload_n 2, 1) := by decide +kernel
theorem dL_areBells_94 : decode cL_areBells 94 = .ok (.iload 6, 2) := by decide +kernel
theorem dL_areBells_96 : decode cL_areBells 96 = .ok (.iload_n 3, 1) := by decide +kernel
