theorem dL_law_3247 : decode cL_law 3247 = .ok (.aload 4, 2) := by decide +kernel
theorem dL_law_3249 : decode cL_law 3249 = .ok (.iconst 0, 1) := by decide +kernel
theorem dL_law_3250 : decode cL_law 3250 = .ok (.daload, 1) := by decide +kernel
theorem dL_law_3251 : decode cL_law 3251 = .ok (.dload 7, 2) := by decide +kernel
theorem dL_law_3253 : decode cL_law 3253 = .ok (.dcmp .l, 1) := by decide +kernel
theorem dL_law_3254 : decode cL_law 3254 = .ok (.ifCond .eq 25, 3) := by decide +kernel
theorem dL_law_3257 : decode cL_law 3257 = .ok (.aload 4, 2) := by decide +kernel
theorem dL_law_3259 : decode cL_law 3259 = .ok (.iconst 0, 1) := by decide +kernel
theorem dL_law_3260 : decode cL_law 3260 = .ok (.daload, 1) := by decide +kernel
theorem dL_law_3261 : decode cL_law 3261 = .ok (.aload 4, 2) := by decide +kernel
theorem dL_law_3263 : decode cL_law 3263 = .ok (.iconst 0, 1) := by decide +kernel
theorem dL_law_3264 : decode cL_law 3264 = .ok (.daload, 1) := by decide +kernel
theorem dL_law_3265 : decode cL_law 3265 = .ok (.dcmp .l, 1) := by decide +kernel
theorem dL_law_3266 : decode cL_law 3266 = .ok (.ifCond .eq 11, 3) := by decide +kernel
theorem dL_law_3269 : decode cL_law 3269 = .ok (.dload 7, 2) := by decide +kernel
theorem dL_law_3271 : decode cL_law 3271 = .ok (.dload 7, 2) := by decide +kernel
theorem dL_law_3273 : decode cL_law 3273 = .ok (.dcmp .l, 1) := by decide +kernel
theorem dL_law_3274 : decode cL_law 3274 = .ok (.ifCond .ne 5, 3) := by decide +kernel
theorem dL_law_3277 : decode cL_law 3277 = .ok (.iconst 0, 1) := by decide +kernel
theorem dL_law_3278 : decode cL_law 3278 = .ok (.ireturn, 1) := by decide +kernel
theorem dL_law_3279 : decode cL_law 3279 = .ok (.goto 82, 3) := by decide +kernel
theorem dL_law_3282 : decode cL_law 3282 = .ok (.aload_n 1, 1) := by decide +kernel
theorem dL_law_3283 : decode cL_law 3283 = .ok (.aload 4, 2) := by decide +kernel
theorem dL_law_3285 : decode cL_law 3285 = .ok (.invokestatic 353, 3) := by decide +kernel
theorem dL_law_3288 : decode cL_law 3288 = .ok (.istore 6, 2) := by decide +kernel
theorem dL_law_3290 : decode cL_law 3290 = .ok (.aload_n 2, 1) := by decide +kernel
theorem dL_law_3291 : decode cL_law 3291 = .ok (.invokevirtual 355, 3) := by decide +kernel
theorem dL_law_3294 : decode cL_law 3294 = .ok (.fstore 7, 2) := by decide +kernel
theorem dL_law_3296 : decode cL_law 3296 = .ok (.aload_n 2, 1) := by decide +kernel
theorem dL_law_3297 : decode cL_law 3297 = .ok (.invokevirtual 168, 3) := by decide +kernel
theorem dL_law_3300 : decode cL_law 3300 = .ok (.iload 6, 2) := by decide +kernel
theorem dL_law_3302 : decode cL_law 3302 = .ok (.if_icmp .eq 5, 3) := by decide +kernel
theorem dL_law_3305 : decode cL_law 3305 = .ok (.iconst 0, 1) := by decide +kernel
theorem dL_law_3306 : decode cL_law 3306 = .ok (.ireturn, 1) := by decide +kernel
theorem dL_law_3307 : decode cL_law 3307 = .ok (.iload 6, 2) := by decide +kernel
theorem dL_law_3309 : decode cL_law 3309 = .ok (.ifCond .ne 36, 3) := by decide +kernel
theorem dL_law_3312 : decode cL_law 3312 = .ok (.aload 4, 2) := by decide +kernel
theorem dL_law_3314 : decode cL_law 3314 = .ok (.iconst 0, 1) := by decide +kernel
theorem dL_law_3315 : decode cL_law 3315 = .ok (.daload, 1) := by decide +kernel
theorem dL_law_3316 : decode cL_law 3316 = .ok (.fload 7, 2) := by decide +kernel
theorem dL_law_3318 : decode cL_law 3318 = .ok (.f2d, 1) := by decide +kernel
theorem dL_law_3319 : decode cL_law 3319 = .ok (.dcmp .l, 1) := by decide +kernel
theorem dL_law_3320 : decode cL_law 3320 = .ok (.ifCond .eq 25, 3) := by decide +kernel
theorem dL_law_3323 : decode cL_law 3323 = .ok (.aload 4, 2) := by decide +kernel
theorem dL_law_3325 : decode cL_law 3325 = .ok (.iconst 0, 1) := by decide +kernel
theorem dL_law_3326 : decode cL_law 3326 = .ok (.daload, 1) := by decide +kernel
theorem dL_law_3327 : decode cL_law 3327 = .ok (.aload 4, 2) := by decide +kernel
theorem dL_law_3329 : decode cL_law 3329 = .ok (.iconst 0, 1) := by decide +kernel
theorem dL_law_3330 : decode cL_law 3330 = .ok (.daload, 1) := by decide +kernel
theorem dL_law_3331 : decode cL_law 3331 = .ok (.dcmp .l, 1) := by decide +kernel
theorem dL_law_3332 : decode cL_law 3332 = .ok (.ifCond .eq 11, 3) := by decide +kernel
theorem dL_law_3335 : decode cL_law 3335 = .ok (.fload 7, 2) := by decide +kernel
theorem dL_law_3337 : decode cL_law 3337 = .ok (.fload 7, 2) := by decide +kernel
theorem dL_law_3339 : decode cL_law 3339 = .ok (.fcmp .l, 1) := by decide +kernel
theorem dL_law_3340 : decode cL_law 3340 = .ok (.ifCond .ne 5, 3) := by decide +kernel
theorem dL_law_3343 : decode cL_law 3343 = .ok (.iconst 0, 1) := by decide +kernel
theorem dL_law_3344 : decode cL_law 3344 = .ok (.ireturn, 1) := by decide +kernel
theorem dL_law_3345 : decode cL_law 3345 = .ok (.goto 16, 3) := by decide +kernel
theorem dL_law_3348 : decode cL_law 3348 = .ok (.aload_n 1, 1) := by decide +kernel
theorem dL_law_3349 : decode cL_law 3349 = .ok (.invokevirtual 356, 3) := by decide +kernel
theorem dL_law_3352 : decode cL_law 3352 = .ok (.aload_n 2, 1) := by decide +kernel
theorem dL_law_3353 : decode cL_law 3353 = .ok (.invokevirtual 359, 3) := by decide +kernel
theorem dL_law_3356 : decode cL_law 3356 = .ok (.if_icmp .eq 5, 3) := by decide +kernel
theorem dL_law_3359 : decode cL_law 3359 = .ok (.iconst 0, 1) := by decide +kernel
theorem dL_law_3360 : decode cL_law 3360 = .ok (.ireturn, 1) := by decide +kernel
theorem dL_law_3361 : decode cL_law 3361 = .ok (.iinc 5 6, 3) := by decide +kernel
theorem dL_law_3364 : decode cL_law 3364 = .ok (.goto (-3336), 3) := by decide +kernel
theorem dL_law_3367 : decode cL_law 3367 = .ok (.iconst 1, 1) := by decide +kernel
theorem dL_law_3368 : decode cL_law 3368 = .ok (.ireturn, 1) := by decide +kernel
