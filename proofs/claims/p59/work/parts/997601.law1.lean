theorem dL_isDrawn_142 : decode cL_isDrawn 142 = .ok (.aload_n 0, 1) := by decide +kernel
theorem dL_isDrawn_143 : decode cL_isDrawn 143 = .ok (.getfield 26, 3) := by decide +kernel
theorem dL_isDrawn_146 : decode cL_isDrawn 146 = .ok (.iload_n 3, 1) := by decide +kernel
theorem dL_isDrawn_147 : decode cL_isDrawn 147 = .ok (.iaload, 1) := by decide +kernel
theorem dL_isDrawn_148 : decode cL_isDrawn 148 = .ok (.ifCond .ge 10, 3) := by decide +kernel
theorem dL_isDrawn_151 : decode cL_isDrawn 151 = .ok (.aload_n 0, 1) := by decide +kernel
theorem dL_isDrawn_152 : decode cL_isDrawn 152 = .ok (.getfield 26, 3) := by decide +kernel
theorem dL_isDrawn_155 : decode cL_isDrawn 155 = .ok (.iload_n 3, 1) := by decide +kernel
theorem dL_isDrawn_156 : decode cL_isDrawn 156 = .ok (.iconst (-1), 1) := by decide +kernel
theorem dL_isDrawn_157 : decode cL_isDrawn 157 = .ok (.iastore, 1) := by decide +kernel
theorem dL_isDrawn_158 : decode cL_isDrawn 158 = .ok (.aload_n 0, 1) := by decide +kernel
theorem dL_isDrawn_159 : decode cL_isDrawn 159 = .ok (.getfield 29, 3) := by decide +kernel
theorem dL_isDrawn_162 : decode cL_isDrawn 162 = .ok (.iload_n 3, 1) := by decide +kernel
theorem dL_isDrawn_163 : decode cL_isDrawn 163 = .ok (.aload_n 0, 1) := by decide +kernel
theorem dL_isDrawn_164 : decode cL_isDrawn 164 = .ok (.iconst 3, 1) := by decide +kernel
theorem dL_isDrawn_165 : decode cL_isDrawn 165 = .ok (.invokevirtual 76, 3) := by decide +kernel
theorem dL_isDrawn_168 : decode cL_isDrawn 168 = .ok (.ifCond .ne 7, 3) := by decide +kernel
theorem dL_isDrawn_171 : decode cL_isDrawn 171 = .ok (.iconst 2, 1) := by decide +kernel
theorem dL_isDrawn_172 : decode cL_isDrawn 172 = .ok (.goto 4, 3) := by decide +kernel
theorem dL_isDrawn_175 : decode cL_isDrawn 175 = .ok (.iconst 1, 1) := by decide +kernel
theorem dL_isDrawn_176 : decode cL_isDrawn 176 = .ok (.iastore, 1) := by decide +kernel
theorem dL_isDrawn_177 : decode cL_isDrawn 177 = .ok (.iinc 3 1, 3) := by decide +kernel
theorem dL_isDrawn_180 : decode cL_isDrawn 180 = .ok (.goto (-93), 3) := by decide +kernel
theorem dL_isDrawn_183 : decode cL_isDrawn 183 = .ok (.aload_n 0, 1) := by decide +kernel
theorem dL_isDrawn_184 : decode cL_isDrawn 184 = .ok (.aload_n 0, 1) := by decide +kernel
theorem dL_isDrawn_185 : decode cL_isDrawn 185 = .ok (.getfield 10, 3) := by decide +kernel
theorem dL_isDrawn_188 : decode cL_isDrawn 188 = .ok (.invokevirtual 80, 3) := by decide +kernel
theorem dL_isDrawn_191 : decode cL_isDrawn 191 = .ok (.ifCond .ne 5, 3) := by decide +kernel
theorem dL_isDrawn_194 : decode cL_isDrawn 194 = .ok (.iconst 0, 1) := by decide +kernel
theorem dL_isDrawn_195 : decode cL_isDrawn 195 = .ok (.ireturn, 1) := by decide +kernel
theorem dL_isDrawn_196 : decode cL_isDrawn 196 = .ok (.aload_n 0, 1) := by decide +kernel
theorem dL_isDrawn_197 : decode cL_isDrawn 197 = .ok (.aload_n 0, 1) := by decide +kernel
theorem dL_isDrawn_198 : decode cL_isDrawn 198 = .ok (.bipush 12, 2) := by decide +kernel
theorem dL_isDrawn_200 : decode cL_isDrawn 200 = .ok (.invokevirtual 76, 3) := by decide +kernel
theorem dL_isDrawn_203 : decode cL_isDrawn 203 = .ok (.putfield 84, 3) := by decide +kernel
theorem dL_isDrawn_206 : decode cL_isDrawn 206 = .ok (.iconst 0, 1) := by decide +kernel
theorem dL_isDrawn_207 : decode cL_isDrawn 207 = .ok (.istore_n 3, 1) := by decide +kernel
theorem dL_isDrawn_208 : decode cL_isDrawn 208 = .ok (.iload_n 3, 1) := by decide +kernel
theorem dL_isDrawn_209 : decode cL_isDrawn 209 = .ok (.aload_n 0, 1) := by decide +kernel
theorem dL_isDrawn_210 : decode cL_isDrawn 210 = .ok (.getfield 84, 3) := by decide +kernel
theorem dL_isDrawn_213 : decode cL_isDrawn 213 = .ok (.if_icmp .ge 225, 3) := by decide +kernel
theorem dL_isDrawn_216 : decode cL_isDrawn 216 = .ok (.aload_n 0, 1) := by decide +kernel
theorem dL_isDrawn_217 : decode cL_isDrawn 217 = .ok (.getfield 35, 3) := by decide +kernel
theorem dL_isDrawn_220 : decode cL_isDrawn 220 = .ok (.iload_n 3, 1) := by decide +kernel
theorem dL_isDrawn_221 : decode cL_isDrawn 221 = .ok (.aload_n 0, 1) := by decide +kernel
theorem dL_isDrawn_222 : decode cL_isDrawn 222 = .ok (.aload_n 0, 1) := by decide +kernel
theorem dL_isDrawn_223 : decode cL_isDrawn 223 = .ok (.getfield 66, 3) := by decide +kernel
theorem dL_isDrawn_226 : decode cL_isDrawn 226 = .ok (.iconst 1, 1) := by decide +kernel
theorem dL_isDrawn_227 : decode cL_isDrawn 227 = .ok (.if_icmp .le 8, 3) := by decide +kernel
theorem dL_isDrawn_230 : decode cL_isDrawn 230 = .ok (.bipush 7, 2) := by decide +kernel
theorem dL_isDrawn_232 : decode cL_isDrawn 232 = .ok (.goto 4, 3) := by decide +kernel
theorem dL_isDrawn_235 : decode cL_isDrawn 235 = .ok (.iconst 4, 1) := by decide +kernel
theorem dL_isDrawn_236 : decode cL_isDrawn 236 = .ok (.invokevirtual 76, 3) := by decide +kernel
theorem dL_isDrawn_239 : decode cL_isDrawn 239 = .ok (.iastore, 1) := by decide +kernel
theorem dL_isDrawn_240 : decode cL_isDrawn 240 = .ok (.aload_n 0, 1) := by decide +kernel
theorem dL_isDrawn_241 : decode cL_isDrawn 241 = .ok (.getfield 38, 3) := by decide +kernel
theorem dL_isDrawn_244 : decode cL_isDrawn 244 = .ok (.iload_n 3, 1) := by decide +kernel
theorem dL_isDrawn_245 : decode cL_isDrawn 245 = .ok (.aload_n 0, 1) := by decide +kernel
theorem dL_isDrawn_246 : decode cL_isDrawn 246 = .ok (.getfield 35, 3) := by decide +kernel
theorem dL_isDrawn_249 : decode cL_isDrawn 249 = .ok (.iload_n 3, 1) := by decide +kernel
theorem dL_isDrawn_250 : decode cL_isDrawn 250 = .ok (.iaload, 1) := by decide +kernel
theorem dL_isDrawn_251 : decode cL_isDrawn 251 = .ok (.ifCond .ne 11, 3) := by decide +kernel
theorem dL_isDrawn_254 : decode cL_isDrawn 254 = .ok (.aload_n 0, 1) := by decide +kernel
theorem dL_isDrawn_255 : decode cL_isDrawn 255 = .ok (.iload_n 2, 1) := by decide +kernel
theorem dL_isDrawn_256 : decode cL_isDrawn 256 = .ok (.invokevirtual 76, 3) := by decide +kernel
theorem dL_isDrawn_259 : decode cL_isDrawn 259 = .ok (.goto 29, 3) := by decide +kernel
theorem dL_isDrawn_262 : decode cL_isDrawn 262 = .ok (.aload_n 0, 1) := by decide +kernel
theorem dL_isDrawn_263 : decode cL_isDrawn 263 = .ok (.getfield 35, 3) := by decide +kernel
theorem dL_isDrawn_266 : decode cL_isDrawn 266 = .ok (.iload_n 3, 1) := by decide +kernel
theorem dL_isDrawn_267 : decode cL_isDrawn 267 = .ok (.iaload, 1) := by decide +kernel
theorem dL_isDrawn_268 : decode cL_isDrawn 268 = .ok (.iconst 1, 1) := by decide +kernel
theorem dL_isDrawn_269 : decode cL_isDrawn 269 = .ok (.if_icmp .ne 11, 3) := by decide +kernel
theorem dL_isDrawn_272 : decode cL_isDrawn 272 = .ok (.aload_n 0, 1) := by decide +kernel
theorem dL_isDrawn_273 : decode cL_isDrawn 273 = .ok (.iload_n 1, 1) := by decide +kernel
theorem dL_isDrawn_274 : decode cL_isDrawn 274 = .ok (.invokevirtual 76, 3) := by decide +kernel
theorem dL_isDrawn_277 : decode cL_isDrawn 277 = .ok (.goto 11, 3) := by decide +kernel
theorem dL_isDrawn_280 : decode cL_isDrawn 280 = .ok (.aload_n 0, 1) := by decide +kernel
theorem dL_isDrawn_281 : decode cL_isDrawn 281 = .ok (.aload_n 0, 1) := by decide +kernel
theorem dL_isDrawn_282 : decode cL_isDrawn 282 = .ok (.getfield 66, 3) := by decide +kernel
theorem dL_isDrawn_285 : decode cL_isDrawn 285 = .ok (.invokevirtual 76, 3) := by decide +kernel
theorem dL_isDrawn_288 : decode cL_isDrawn 288 = .ok (.iastore, 1) := by decide +kernel
theorem dL_isDrawn_289 : decode cL_isDrawn 289 = .ok (.aload_n 0, 1) := by decide +kernel
theorem dL_isDrawn_290 : decode cL_isDrawn 290 = .ok (.getfield 41, 3) := by decide +kernel
theorem dL_isDrawn_293 : decode cL_isDrawn 293 = .ok (.iload_n 3, 1) := by decide +kernel
theorem dL_isDrawn_294 : decode cL_isDrawn 294 = .ok (.aload_n 0, 1) := by decide +kernel
theorem dL_isDrawn_295 : decode cL_isDrawn 295 = .ok (.getfield 35, 3) := by decide +kernel
theorem dL_isDrawn_298 : decode cL_isDrawn 298 = .ok (.iload_n 3, 1) := by decide +kernel
theorem dL_isDrawn_299 : decode cL_isDrawn 299 = .ok (.iaload, 1) := by decide +kernel
theorem dL_isDrawn_300 : decode cL_isDrawn 300 = .ok (.iconst 2, 1) := by decide +kernel
theorem dL_isDrawn_301 : decode cL_isDrawn 301 = .ok (.if_icmp .ne 11, 3) := by decide +kernel
theorem dL_isDrawn_304 : decode cL_isDrawn 304 = .ok (.aload_n 0, 1) := by decide +kernel
theorem dL_isDrawn_305 : decode cL_isDrawn 305 = .ok (.iconst 3, 1) := by decide +kernel
theorem dL_isDrawn_306 : decode cL_isDrawn 306 = .ok (.invokevirtual 76, 3) := by decide +kernel
theorem dL_isDrawn_309 : decode cL_isDrawn 309 = .ok (.goto 59, 3) := by decide +kernel
theorem dL_isDrawn_312 : decode cL_isDrawn 312 = .ok (.aload_n 0, 1) := by decide +kernel
theorem dL_isDrawn_313 : decode cL_isDrawn 313 = .ok (.getfield 35, 3) := by decide +kernel
theorem dL_isDrawn_316 : decode cL_isDrawn 316 = .ok (.iload_n 3, 1) := by decide +kernel
theorem dL_isDrawn_317 : decode cL_isDrawn 317 = .ok (.iaload, 1) := by decide +kernel
theorem dL_isDrawn_318 : decode cL_isDrawn 318 = .ok (.iconst 3, 1) := by decide +kernel
theorem dL_isDrawn_319 : decode cL_isDrawn 319 = .ok (.if_icmp .le 30, 3) := by decide +kernel
theorem dL_isDrawn_322 : decode cL_isDrawn 322 = .ok (.aload_n 0, 1) := by decide +kernel
theorem dL_isDrawn_323 : decode cL_isDrawn 323 = .ok (.getfield 38, 3) := by decide +kernel
theorem dL_isDrawn_326 : decode cL_isDrawn 326 = .ok (.iload_n 3, 1) := by decide +kernel
theorem dL_isDrawn_327 : decode cL_isDrawn 327 = .ok (.iaload, 1) := by decide +kernel
theorem dL_isDrawn_328 : decode cL_isDrawn 328 = .ok (.iconst 1, 1) := by decide +kernel
theorem dL_isDrawn_329 : decode cL_isDrawn 329 = .ok (.iadd, 1) := by decide +kernel
theorem dL_isDrawn_330 : decode cL_isDrawn 330 = .ok (.aload_n 0, 1) := by decide +kernel
theorem dL_isDrawn_331 : decode cL_isDrawn 331 = .ok (.aload_n 0, 1) := by decide +kernel
theorem dL_isDrawn_332 : decode cL_isDrawn 332 = .ok (.getfield 66, 3) := by decide +kernel
theorem dL_isDrawn_335 : decode cL_isDrawn 335 = .ok (.iconst 1, 1) := by decide +kernel
theorem dL_isDrawn_336 : decode cL_isDrawn 336 = .ok (.isub, 1) := by decide +kernel
theorem dL_isDrawn_337 : decode cL_isDrawn 337 = .ok (.invokevirtual 76, 3) := by decide +kernel
theorem dL_isDrawn_340 : decode cL_isDrawn 340 = .ok (.iadd, 1) := by decide +kernel
theorem dL_isDrawn_341 : decode cL_isDrawn 341 = .ok (.aload_n 0, 1) := by decide +kernel
theorem dL_isDrawn_342 : decode cL_isDrawn 342 = .ok (.getfield 66, 3) := by decide +kernel
theorem dL_isDrawn_345 : decode cL_isDrawn 345 = .ok (.irem, 1) := by decide +kernel
theorem dL_isDrawn_346 : decode cL_isDrawn 346 = .ok (.goto 22, 3) := by decide +kernel
theorem dL_isDrawn_349 : decode cL_isDrawn 349 = .ok (.aload_n 0, 1) := by decide +kernel
theorem dL_isDrawn_350 : decode cL_isDrawn 350 = .ok (.aload_n 0, 1) := by decide +kernel
theorem dL_isDrawn_351 : decode cL_isDrawn 351 = .ok (.iconst 2, 1) := by decide +kernel
theorem dL_isDrawn_352 : decode cL_isDrawn 352 = .ok (.invokevirtual 76, 3) := by decide +kernel
theorem dL_isDrawn_355 : decode cL_isDrawn 355 = .ok (.ifCond .ne 8, 3) := by decide +kernel
theorem dL_isDrawn_358 : decode cL_isDrawn 358 = .ok (.bipush 6, 2) := by decide +kernel
theorem dL_isDrawn_360 : decode cL_isDrawn 360 = .ok (.goto 5, 3) := by decide +kernel
theorem dL_isDrawn_363 : decode cL_isDrawn 363 = .ok (.bipush 20, 2) := by decide +kernel
theorem dL_isDrawn_365 : decode cL_isDrawn 365 = .ok (.invokevirtual 76, 3) := by decide +kernel
theorem dL_isDrawn_368 : decode cL_isDrawn 368 = .ok (.iastore, 1) := by decide +kernel
theorem dL_isDrawn_369 : decode cL_isDrawn 369 = .ok (.aload_n 0, 1) := by decide +kernel
theorem dL_isDrawn_370 : decode cL_isDrawn 370 = .ok (.getfield 44, 3) := by decide +kernel
theorem dL_isDrawn_373 : decode cL_isDrawn 373 = .ok (.iload_n 3, 1) := by decide +kernel
theorem dL_isDrawn_374 : decode cL_isDrawn 374 = .ok (.aload_n 0, 1) := by decide +kernel
theorem dL_isDrawn_375 : decode cL_isDrawn 375 = .ok (.iconst 2, 1) := by decide +kernel
theorem dL_isDrawn_376 : decode cL_isDrawn 376 = .ok (.invokevirtual 76, 3) := by decide +kernel
theorem dL_isDrawn_379 : decode cL_isDrawn 379 = .ok (.ifCond .ne 7, 3) := by decide +kernel
theorem dL_isDrawn_382 : decode cL_isDrawn 382 = .ok (.iconst 0, 1) := by decide +kernel
theorem dL_isDrawn_383 : decode cL_isDrawn 383 = .ok (.goto 11, 3) := by decide +kernel
theorem dL_isDrawn_386 : decode cL_isDrawn 386 = .ok (.iconst 1, 1) := by decide +kernel
theorem dL_isDrawn_387 : decode cL_isDrawn 387 = .ok (.aload_n 0, 1) := by decide +kernel
theorem dL_isDrawn_388 : decode cL_isDrawn 388 = .ok (.bipush 9, 2) := by decide +kernel
theorem dL_isDrawn_390 : decode cL_isDrawn 390 = .ok (.invokevirtual 76, 3) := by decide +kernel
theorem dL_isDrawn_393 : decode cL_isDrawn 393 = .ok (.iadd, 1) := by decide +kernel
theorem dL_isDrawn_394 : decode cL_isDrawn 394 = .ok (.iastore, 1) := by decide +kernel
theorem dL_isDrawn_395 : decode cL_isDrawn 395 = .ok (.aload_n 0, 1) := by decide +kernel
theorem dL_isDrawn_396 : decode cL_isDrawn 396 = .ok (.getfield 10, 3) := by decide +kernel
theorem dL_isDrawn_399 : decode cL_isDrawn 399 = .ok (.aload_n 0, 1) := by decide +kernel
theorem dL_isDrawn_400 : decode cL_isDrawn 400 = .ok (.getfield 35, 3) := by decide +kernel
theorem dL_isDrawn_403 : decode cL_isDrawn 403 = .ok (.iload_n 3, 1) := by decide +kernel
theorem dL_isDrawn_404 : decode cL_isDrawn 404 = .ok (.iaload, 1) := by decide +kernel
theorem dL_isDrawn_405 : decode cL_isDrawn 405 = .ok (.aload_n 0, 1) := by decide +kernel
theorem dL_isDrawn_406 : decode cL_isDrawn 406 = .ok (.getfield 38, 3) := by decide +kernel
theorem dL_isDrawn_409 : decode cL_isDrawn 409 = .ok (.iload_n 3, 1) := by decide +kernel
theorem dL_isDrawn_410 : decode cL_isDrawn 410 = .ok (.iaload, 1) := by decide +kernel
theorem dL_isDrawn_411 : decode cL_isDrawn 411 = .ok (.aload_n 0, 1) := by decide +kernel
theorem dL_isDrawn_412 : decode cL_isDrawn 412 = .ok (.getfield 41, 3) := by decide +kernel
theorem dL_isDrawn_415 : decode cL_isDrawn 415 = .ok (.iload_n 3, 1) := by decide +kernel
theorem dL_isDrawn_416 : decode cL_isDrawn 416 = .ok (.iaload, 1) := by decide +kernel
theorem dL_isDrawn_417 : decode cL_isDrawn 417 = .ok (.aload_n 0, 1) := by decide +kernel
theorem dL_isDrawn_418 : decode cL_isDrawn 418 = .ok (.getfield 44, 3) := by decide +kernel
theorem dL_isDrawn_421 : decode cL_isDrawn 421 = .ok (.iload_n 3, 1) := by decide +kernel
theorem dL_isDrawn_422 : decode cL_isDrawn 422 = .ok (.iaload, 1) := by decide +kernel
theorem dL_isDrawn_423 : decode cL_isDrawn 423 = .ok (.invokevirtual 87, 3) := by decide +kernel
theorem dL_isDrawn_426 : decode cL_isDrawn 426 = .ok (.iload_n 3, 1) := by decide +kernel
theorem dL_isDrawn_427 : decode cL_isDrawn 427 = .ok (.if_icmp .eq 5, 3) := by decide +kernel
theorem dL_isDrawn_430 : decode cL_isDrawn 430 = .ok (.iconst 0, 1) := by decide +kernel
theorem dL_isDrawn_431 : decode cL_isDrawn 431 = .ok (.ireturn, 1) := by decide +kernel
theorem dL_isDrawn_432 : decode cL_isDrawn 432 = .ok (.iinc 3 1, 3) := by decide +kernel
theorem dL_isDrawn_435 : decode cL_isDrawn 435 = .ok (.goto (-227), 3) := by decide +kernel
theorem dL_isDrawn_438 : decode cL_isDrawn 438 = .ok (.aload_n 0, 1) := by decide +kernel
theorem dL_isDrawn_439 : decode cL_isDrawn 439 = .ok (.getfield 10, 3) := by decide +kernel
theorem dL_isDrawn_442 : decode cL_isDrawn 442 = .ok (.invokevirtual 91, 3) := by decide +kernel
theorem dL_isDrawn_445 : decode cL_isDrawn 445 = .ok (.aload_n 0, 1) := by decide +kernel
theorem dL_isDrawn_446 : decode cL_isDrawn 446 = .ok (.getfield 84, 3) := by decide +kernel
theorem dL_isDrawn_449 : decode cL_isDrawn 449 = .ok (.if_icmp .ne 7, 3) := by decide +kernel
theorem dL_isDrawn_452 : decode cL_isDrawn 452 = .ok (.iconst 1, 1) := by decide +kernel
theorem dL_isDrawn_453 : decode cL_isDrawn 453 = .ok (.goto 4, 3) := by decide +kernel
theorem dL_isDrawn_456 : decode cL_isDrawn 456 = .ok (.iconst 0, 1) := by decide +kernel
theorem dL_isDrawn_457 : decode cL_isDrawn 457 = .ok (.ireturn, 1) := by decide +kernel
theorem dL_isOn_0 : decode cL_isOn 0 = .ok (.iload_n 2, 1) := by decide +kernel
theorem dL_isOn_1 : decode cL_isOn 1 = .ok (.aload_n 0, 1) := by decide +kernel
theorem dL_isOn_2 : decode cL_isOn 2 = .ok (.getfield 32, 3) := by decide +kernel
theorem dL_isOn_5 : decode cL_isOn 5 = .ok (.iload_n 1, 1) := by decide +kernel
theorem dL_isOn_6 : decode cL_isOn 6 = .ok (.iaload, 1) := by decide +kernel
theorem dL_isOn_7 : decode cL_isOn 7 = .ok (.if_icmp .lt 24, 3) := by decide +kernel
theorem dL_isOn_10 : decode cL_isOn 10 = .ok (.iload_n 2, 1) := by decide +kernel
theorem dL_isOn_11 : decode cL_isOn 11 = .ok (.aload_n 0, 1) := by decide +kernel
theorem dL_isOn_12 : decode cL_isOn 12 = .ok (.getfield 32, 3) := by decide +kernel
theorem dL_isOn_15 : decode cL_isOn 15 = .ok (.iload_n 1, 1) := by decide +kernel
theorem dL_isOn_16 : decode cL_isOn 16 = .ok (.iaload, 1) := by decide +kernel
theorem dL_isOn_17 : decode cL_isOn 17 = .ok (.aload_n 0, 1) := by decide +kernel
theorem dL_isOn_18 : decode cL_isOn 18 = .ok (.getfield 29, 3) := by decide +kernel
theorem dL_isOn_21 : decode cL_isOn 21 = .ok (.iload_n 1, 1) := by decide +kernel
theorem dL_isOn_22 : decode cL_isOn 22 = .ok (.iaload, 1) := by decide +kernel
theorem dL_isOn_23 : decode cL_isOn 23 = .ok (.iadd, 1) := by decide +kernel
theorem dL_isOn_24 : decode cL_isOn 24 = .ok (.if_icmp .ge 7, 3) := by decide +kernel
theorem dL_isOn_27 : decode cL_isOn 27 = .ok (.iconst 1, 1) := by decide +kernel
theorem dL_isOn_28 : decode cL_isOn 28 = .ok (.goto 4, 3) := by decide +kernel
theorem dL_isOn_31 : decode cL_isOn 31 = .ok (.iconst 0, 1) := by decide +kernel
theorem dL_isOn_32 : decode cL_isOn 32 = .ok (.ireturn, 1) := by decide +kernel
set_option maxRecDepth 20000 in
theorem ggL_holds_L_isOn : GoodIn wsL_holds wsL_isOn := goodIn_r _ [12, 7, 13, 14, 15, 16, 17, 18, 19, 20, 21, 22, 23, 24, 25, 26, 27, 28, 29, 30] (by decide +kernel) (by decide +kernel)
set_option maxRecDepth 20000 in
theorem gL_holds_L_isOn : GoodIn wsL_holds (wsV RL 93 RL yL_isOn wsL_isOn) := goodIn_app (goodIn_of _ (by decide +kernel)) ggL_holds_L_isOn
theorem dL_holds_0 : decode cL_holds 0 = .ok (.aload_n 0, 1) := by decide +kernel
theorem dL_holds_1 : decode cL_holds 1 = .ok (.getfield 38, 3) := by decide +kernel
theorem dL_holds_4 : decode cL_holds 4 = .ok (.iload_n 1, 1) := by decide +kernel
theorem dL_holds_5 : decode cL_holds 5 = .ok (.iaload, 1) := by decide +kernel
theorem dL_holds_6 : decode cL_holds 6 = .ok (.istore_n 2, 1) := by decide +kernel
theorem dL_holds_7 : decode cL_holds 7 = .ok (.aload_n 0, 1) := by decide +kernel
theorem dL_holds_8 : decode cL_holds 8 = .ok (.getfield 41, 3) := by decide +kernel
theorem dL_holds_11 : decode cL_holds 11 = .ok (.iload_n 1, 1) := by decide +kernel
theorem dL_holds_12 : decode cL_holds 12 = .ok (.iaload, 1) := by decide +kernel
theorem dL_holds_13 : decode cL_holds 13 = .ok (.istore_n 3, 1) := by decide +kernel
theorem dL_holds_14 : decode cL_holds 14 = .ok (.iconst 0, 1) := by decide +kernel
theorem dL_holds_15 : decode cL_holds 15 = .ok (.istore 4, 2) := by decide +kernel
theorem dL_holds_17 : decode cL_holds 17 = .ok (.iload 4, 2) := by decide +kernel
theorem dL_holds_19 : decode cL_holds 19 = .ok (.aload_n 0, 1) := by decide +kernel
theorem dL_holds_20 : decode cL_holds 20 = .ok (.getfield 66, 3) := by decide +kernel
theorem dL_holds_23 : decode cL_holds 23 = .ok (.if_icmp .ge 72, 3) := by decide +kernel
theorem dL_holds_26 : decode cL_holds 26 = .ok (.aload_n 0, 1) := by decide +kernel
theorem dL_holds_27 : decode cL_holds 27 = .ok (.getfield 35, 3) := by decide +kernel
theorem dL_holds_30 : decode cL_holds 30 = .ok (.iload_n 1, 1) := by decide +kernel
theorem dL_holds_31 : decode cL_holds 31 = .ok (.iaload, 1) := by decide +kernel
theorem dL_holds_32 : decode cL_holds 32 = .ok (.ifCond .ne 24, 3) := by decide +kernel
theorem dL_holds_35 : decode cL_holds 35 = .ok (.aload_n 0, 1) := by decide +kernel
theorem dL_holds_36 : decode cL_holds 36 = .ok (.getfield 20, 3) := by decide +kernel
theorem dL_holds_39 : decode cL_holds 39 = .ok (.iload 4, 2) := by decide +kernel
theorem dL_holds_41 : decode cL_holds 41 = .ok (.iaload, 1) := by decide +kernel
theorem dL_holds_42 : decode cL_holds 42 = .ok (.iload_n 2, 1) := by decide +kernel
theorem dL_holds_43 : decode cL_holds 43 = .ok (.if_icmp .ne 13, 3) := by decide +kernel
theorem dL_holds_46 : decode cL_holds 46 = .ok (.aload_n 0, 1) := by decide +kernel
theorem dL_holds_47 : decode cL_holds 47 = .ok (.iload 4, 2) := by decide +kernel
theorem dL_holds_49 : decode cL_holds 49 = .ok (.iload_n 3, 1) := by decide +kernel
theorem dL_holds_50 : decode cL_holds 50 = .ok (.invokevirtual 93, 3) := by decide +kernel
theorem dL_holds_53 : decode cL_holds 53 = .ok (.ifCond .ne 34, 3) := by decide +kernel
theorem dL_holds_56 : decode cL_holds 56 = .ok (.aload_n 0, 1) := by decide +kernel
theorem dL_holds_57 : decode cL_holds 57 = .ok (.getfield 35, 3) := by decide +kernel
theorem dL_holds_60 : decode cL_holds 60 = .ok (.iload_n 1, 1) := by decide +kernel
theorem dL_holds_61 : decode cL_holds 61 = .ok (.iaload, 1) := by decide +kernel
theorem dL_holds_62 : decode cL_holds 62 = .ok (.iconst 1, 1) := by decide +kernel
theorem dL_holds_63 : decode cL_holds 63 = .ok (.if_icmp .ne 26, 3) := by decide +kernel
theorem dL_holds_66 : decode cL_holds 66 = .ok (.aload_n 0, 1) := by decide +kernel
theorem dL_holds_67 : decode cL_holds 67 = .ok (.getfield 16, 3) := by decide +kernel
theorem dL_holds_70 : decode cL_holds 70 = .ok (.iload 4, 2) := by decide +kernel
theorem dL_holds_72 : decode cL_holds 72 = .ok (.iaload, 1) := by decide +kernel
theorem dL_holds_73 : decode cL_holds 73 = .ok (.iload_n 2, 1) := by decide +kernel
theorem dL_holds_74 : decode cL_holds 74 = .ok (.if_icmp .ne 15, 3) := by decide +kernel
theorem dL_holds_77 : decode cL_holds 77 = .ok (.aload_n 0, 1) := by decide +kernel
theorem dL_holds_78 : decode cL_holds 78 = .ok (.iload 4, 2) := by decide +kernel
theorem dL_holds_80 : decode cL_holds 80 = .ok (.iload_n 3, 1) := by decide +kernel
theorem dL_holds_81 : decode cL_holds 81 = .ok (.invokevirtual 93, 3) := by decide +kernel
theorem dL_holds_84 : decode cL_holds 84 = .ok (.ifCond .eq 5, 3) := by decide +kernel
theorem dL_holds_87 : decode cL_holds 87 = .ok (.iconst 0, 1) := by decide +kernel
theorem dL_holds_88 : decode cL_holds 88 = .ok (.ireturn, 1) := by decide +kernel
theorem dL_holds_89 : decode cL_holds 89 = .ok (.iinc 4 1, 3) := by decide +kernel
theorem dL_holds_92 : decode cL_holds 92 = .ok (.goto (-75), 3) := by decide +kernel
theorem dL_holds_95 : decode cL_holds 95 = .ok (.aload_n 0, 1) := by decide +kernel
theorem dL_holds_96 : decode cL_holds 96 = .ok (.getfield 35, 3) := by decide +kernel
theorem dL_holds_99 : decode cL_holds 99 = .ok (.iload_n 1, 1) := by decide +kernel
theorem dL_holds_100 : decode cL_holds 100 = .ok (.iaload, 1) := by decide +kernel
theorem dL_holds_101 : decode cL_holds 101 = .ok (.iconst 2, 1) := by decide +kernel
