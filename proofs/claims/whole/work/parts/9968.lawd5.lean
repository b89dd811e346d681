theorem dL_law_2190 : decode cL_law 2190 = .ok (.iconst 0, 1) := by decide +kernel
theorem dL_law_2191 : decode cL_law 2191 = .ok (.ireturn, 1) := by decide +kernel
theorem dL_law_2192 : decode cL_law 2192 = .ok (.iload 6, 2) := by decide +kernel
theorem dL_law_2194 : decode cL_law 2194 = .ok (.ifCond .ne 15, 3) := by decide +kernel
theorem dL_law_2197 : decode cL_law 2197 = .ok (.aload_n 3, 1) := by decide +kernel
theorem dL_law_2198 : decode cL_law 2198 = .ok (.iconst 0, 1) := by decide +kernel
theorem dL_law_2199 : decode cL_law 2199 = .ok (.laload, 1) := by decide +kernel
theorem dL_law_2200 : decode cL_law 2200 = .ok (.iload 7, 2) := by decide +kernel
theorem dL_law_2202 : decode cL_law 2202 = .ok (.i2l, 1) := by decide +kernel
theorem dL_law_2203 : decode cL_law 2203 = .ok (.lcmp, 1) := by decide +kernel
theorem dL_law_2204 : decode cL_law 2204 = .ok (.ifCond .eq 5, 3) := by decide +kernel
theorem dL_law_2207 : decode cL_law 2207 = .ok (.iconst 0, 1) := by decide +kernel
theorem dL_law_2208 : decode cL_law 2208 = .ok (.ireturn, 1) := by decide +kernel
theorem dL_law_2209 : decode cL_law 2209 = .ok (.goto 1152, 3) := by decide +kernel
theorem dL_law_2212 : decode cL_law 2212 = .ok (.aload_n 1, 1) := by decide +kernel
theorem dL_law_2213 : decode cL_law 2213 = .ok (.aload_n 0, 1) := by decide +kernel
theorem dL_law_2214 : decode cL_law 2214 = .ok (.iload 5, 2) := by decide +kernel
theorem dL_law_2216 : decode cL_law 2216 = .ok (.iconst 1, 1) := by decide +kernel
theorem dL_law_2217 : decode cL_law 2217 = .ok (.iadd, 1) := by decide +kernel
theorem dL_law_2218 : decode cL_law 2218 = .ok (.iaload, 1) := by decide +kernel
theorem dL_law_2219 : decode cL_law 2219 = .ok (.aload_n 0, 1) := by decide +kernel
theorem dL_law_2220 : decode cL_law 2220 = .ok (.iload 5, 2) := by decide +kernel
theorem dL_law_2222 : decode cL_law 2222 = .ok (.iconst 2, 1) := by decide +kernel
theorem dL_law_2223 : decode cL_law 2223 = .ok (.iadd, 1) := by decide +kernel
theorem dL_law_2224 : decode cL_law 2224 = .ok (.iaload, 1) := by decide +kernel
theorem dL_law_2225 : decode cL_law 2225 = .ok (.ifCond .eq 7, 3) := by decide +kernel
theorem dL_law_2228 : decode cL_law 2228 = .ok (.iconst 1, 1) := by decide +kernel
theorem dL_law_2229 : decode cL_law 2229 = .ok (.goto 4, 3) := by decide +kernel
theorem dL_law_2232 : decode cL_law 2232 = .ok (.iconst 0, 1) := by decide +kernel
theorem dL_law_2233 : decode cL_law 2233 = .ok (.aload_n 3, 1) := by decide +kernel
theorem dL_law_2234 : decode cL_law 2234 = .ok (.invokestatic 283, 3) := by decide +kernel
theorem dL_law_2237 : decode cL_law 2237 = .ok (.istore 6, 2) := by decide +kernel
theorem dL_law_2239 : decode cL_law 2239 = .ok (.aload_n 2, 1) := by decide +kernel
theorem dL_law_2240 : decode cL_law 2240 = .ok (.aload_n 0, 1) := by decide +kernel
theorem dL_law_2241 : decode cL_law 2241 = .ok (.iload 5, 2) := by decide +kernel
theorem dL_law_2243 : decode cL_law 2243 = .ok (.iconst 1, 1) := by decide +kernel
theorem dL_law_2244 : decode cL_law 2244 = .ok (.iadd, 1) := by decide +kernel
theorem dL_law_2245 : decode cL_law 2245 = .ok (.iaload, 1) := by decide +kernel
theorem dL_law_2246 : decode cL_law 2246 = .ok (.aload_n 0, 1) := by decide +kernel
theorem dL_law_2247 : decode cL_law 2247 = .ok (.iload 5, 2) := by decide +kernel
theorem dL_law_2249 : decode cL_law 2249 = .ok (.iconst 2, 1) := by decide +kernel
theorem dL_law_2250 : decode cL_law 2250 = .ok (.iadd, 1) := by decide +kernel
theorem dL_law_2251 : decode cL_law 2251 = .ok (.iaload, 1) := by decide +kernel
theorem dL_law_2252 : decode cL_law 2252 = .ok (.ifCond .eq 7, 3) := by decide +kernel
theorem dL_law_2255 : decode cL_law 2255 = .ok (.iconst 1, 1) := by decide +kernel
theorem dL_law_2256 : decode cL_law 2256 = .ok (.goto 4, 3) := by decide +kernel
theorem dL_law_2259 : decode cL_law 2259 = .ok (.iconst 0, 1) := by decide +kernel
theorem dL_law_2260 : decode cL_law 2260 = .ok (.invokevirtual 285, 3) := by decide +kernel
theorem dL_law_2263 : decode cL_law 2263 = .ok (.istore 7, 2) := by decide +kernel
theorem dL_law_2265 : decode cL_law 2265 = .ok (.aload_n 2, 1) := by decide +kernel
theorem dL_law_2266 : decode cL_law 2266 = .ok (.invokevirtual 168, 3) := by decide +kernel
theorem dL_law_2269 : decode cL_law 2269 = .ok (.iload 6, 2) := by decide +kernel
theorem dL_law_2271 : decode cL_law 2271 = .ok (.if_icmp .eq 5, 3) := by decide +kernel
theorem dL_law_2274 : decode cL_law 2274 = .ok (.iconst 0, 1) := by decide +kernel
theorem dL_law_2275 : decode cL_law 2275 = .ok (.ireturn, 1) := by decide +kernel
theorem dL_law_2276 : decode cL_law 2276 = .ok (.iload 6, 2) := by decide +kernel
theorem dL_law_2278 : decode cL_law 2278 = .ok (.ifCond .ne 15, 3) := by decide +kernel
theorem dL_law_2281 : decode cL_law 2281 = .ok (.aload_n 3, 1) := by decide +kernel
theorem dL_law_2282 : decode cL_law 2282 = .ok (.iconst 0, 1) := by decide +kernel
theorem dL_law_2283 : decode cL_law 2283 = .ok (.laload, 1) := by decide +kernel
theorem dL_law_2284 : decode cL_law 2284 = .ok (.iload 7, 2) := by decide +kernel
theorem dL_law_2286 : decode cL_law 2286 = .ok (.i2l, 1) := by decide +kernel
theorem dL_law_2287 : decode cL_law 2287 = .ok (.lcmp, 1) := by decide +kernel
theorem dL_law_2288 : decode cL_law 2288 = .ok (.ifCond .eq 5, 3) := by decide +kernel
theorem dL_law_2291 : decode cL_law 2291 = .ok (.iconst 0, 1) := by decide +kernel
theorem dL_law_2292 : decode cL_law 2292 = .ok (.ireturn, 1) := by decide +kernel
theorem dL_law_2293 : decode cL_law 2293 = .ok (.goto 1068, 3) := by decide +kernel
theorem dL_law_2296 : decode cL_law 2296 = .ok (.aload_n 1, 1) := by decide +kernel
theorem dL_law_2297 : decode cL_law 2297 = .ok (.aload_n 0, 1) := by decide +kernel
theorem dL_law_2298 : decode cL_law 2298 = .ok (.iload 5, 2) := by decide +kernel
theorem dL_law_2300 : decode cL_law 2300 = .ok (.iconst 1, 1) := by decide +kernel
theorem dL_law_2301 : decode cL_law 2301 = .ok (.iadd, 1) := by decide +kernel
theorem dL_law_2302 : decode cL_law 2302 = .ok (.iaload, 1) := by decide +kernel
theorem dL_law_2303 : decode cL_law 2303 = .ok (.aload_n 0, 1) := by decide +kernel
theorem dL_law_2304 : decode cL_law 2304 = .ok (.iload 5, 2) := by decide +kernel
theorem dL_law_2306 : decode cL_law 2306 = .ok (.iconst 2, 1) := by decide +kernel
theorem dL_law_2307 : decode cL_law 2307 = .ok (.iadd, 1) := by decide +kernel
theorem dL_law_2308 : decode cL_law 2308 = .ok (.iaload, 1) := by decide +kernel
theorem dL_law_2309 : decode cL_law 2309 = .ok (.aload_n 3, 1) := by decide +kernel
theorem dL_law_2310 : decode cL_law 2310 = .ok (.invokestatic 286, 3) := by decide +kernel
theorem dL_law_2313 : decode cL_law 2313 = .ok (.istore 6, 2) := by decide +kernel
theorem dL_law_2315 : decode cL_law 2315 = .ok (.aload_n 2, 1) := by decide +kernel
theorem dL_law_2316 : decode cL_law 2316 = .ok (.aload_n 0, 1) := by decide +kernel
theorem dL_law_2317 : decode cL_law 2317 = .ok (.iload 5, 2) := by decide +kernel
theorem dL_law_2319 : decode cL_law 2319 = .ok (.iconst 1, 1) := by decide +kernel
theorem dL_law_2320 : decode cL_law 2320 = .ok (.iadd, 1) := by decide +kernel
theorem dL_law_2321 : decode cL_law 2321 = .ok (.iaload, 1) := by decide +kernel
theorem dL_law_2322 : decode cL_law 2322 = .ok (.aload_n 0, 1) := by decide +kernel
theorem dL_law_2323 : decode cL_law 2323 = .ok (.iload 5, 2) := by decide +kernel
theorem dL_law_2325 : decode cL_law 2325 = .ok (.iconst 2, 1) := by decide +kernel
theorem dL_law_2326 : decode cL_law 2326 = .ok (.iadd, 1) := by decide +kernel
theorem dL_law_2327 : decode cL_law 2327 = .ok (.iaload, 1) := by decide +kernel
theorem dL_law_2328 : decode cL_law 2328 = .ok (.invokevirtual 288, 3) := by decide +kernel
theorem dL_law_2331 : decode cL_law 2331 = .ok (.istore 7, 2) := by decide +kernel
theorem dL_law_2333 : decode cL_law 2333 = .ok (.aload_n 2, 1) := by decide +kernel
theorem dL_law_2334 : decode cL_law 2334 = .ok (.invokevirtual 168, 3) := by decide +kernel
theorem dL_law_2337 : decode cL_law 2337 = .ok (.iload 6, 2) := by decide +kernel
theorem dL_law_2339 : decode cL_law 2339 = .ok (.if_icmp .eq 5, 3) := by decide +kernel
theorem dL_law_2342 : decode cL_law 2342 = .ok (.iconst 0, 1) := by decide +kernel
theorem dL_law_2343 : decode cL_law 2343 = .ok (.ireturn, 1) := by decide +kernel
theorem dL_law_2344 : decode cL_law 2344 = .ok (.iload 6, 2) := by decide +kernel
theorem dL_law_2346 : decode cL_law 2346 = .ok (.ifCond .ne 15, 3) := by decide +kernel
theorem dL_law_2349 : decode cL_law 2349 = .ok (.aload_n 3, 1) := by decide +kernel
theorem dL_law_2350 : decode cL_law 2350 = .ok (.iconst 0, 1) := by decide +kernel
theorem dL_law_2351 : decode cL_law 2351 = .ok (.laload, 1) := by decide +kernel
theorem dL_law_2352 : decode cL_law 2352 = .ok (.iload 7, 2) := by decide +kernel
theorem dL_law_2354 : decode cL_law 2354 = .ok (.i2l, 1) := by decide +kernel
theorem dL_law_2355 : decode cL_law 2355 = .ok (.lcmp, 1) := by decide +kernel
theorem dL_law_2356 : decode cL_law 2356 = .ok (.ifCond .eq 5, 3) := by decide +kernel
theorem dL_law_2359 : decode cL_law 2359 = .ok (.iconst 0, 1) := by decide +kernel
theorem dL_law_2360 : decode cL_law 2360 = .ok (.ireturn, 1) := by decide +kernel
theorem dL_law_2361 : decode cL_law 2361 = .ok (.goto 1000, 3) := by decide +kernel
theorem dL_law_2364 : decode cL_law 2364 = .ok (.aload_n 1, 1) := by decide +kernel
theorem dL_law_2365 : decode cL_law 2365 = .ok (.aload_n 0, 1) := by decide +kernel
theorem dL_law_2366 : decode cL_law 2366 = .ok (.iload 5, 2) := by decide +kernel
theorem dL_law_2368 : decode cL_law 2368 = .ok (.iconst 1, 1) := by decide +kernel
theorem dL_law_2369 : decode cL_law 2369 = .ok (.iadd, 1) := by decide +kernel
theorem dL_law_2370 : decode cL_law 2370 = .ok (.iaload, 1) := by decide +kernel
theorem dL_law_2371 : decode cL_law 2371 = .ok (.aload_n 3, 1) := by decide +kernel
theorem dL_law_2372 : decode cL_law 2372 = .ok (.invokestatic 289, 3) := by decide +kernel
theorem dL_law_2375 : decode cL_law 2375 = .ok (.istore 6, 2) := by decide +kernel
theorem dL_law_2377 : decode cL_law 2377 = .ok (.aload_n 2, 1) := by decide +kernel
theorem dL_law_2378 : decode cL_law 2378 = .ok (.aload_n 0, 1) := by decide +kernel
theorem dL_law_2379 : decode cL_law 2379 = .ok (.iload 5, 2) := by decide +kernel
theorem dL_law_2381 : decode cL_law 2381 = .ok (.iconst 1, 1) := by decide +kernel
theorem dL_law_2382 : decode cL_law 2382 = .ok (.iadd, 1) := by decide +kernel
theorem dL_law_2383 : decode cL_law 2383 = .ok (.iaload, 1) := by decide +kernel
theorem dL_law_2384 : decode cL_law 2384 = .ok (.invokevirtual 291, 3) := by decide +kernel
theorem dL_law_2387 : decode cL_law 2387 = .ok (.istore 7, 2) := by decide +kernel
theorem dL_law_2389 : decode cL_law 2389 = .ok (.aload_n 2, 1) := by decide +kernel
theorem dL_law_2390 : decode cL_law 2390 = .ok (.invokevirtual 168, 3) := by decide +kernel
theorem dL_law_2393 : decode cL_law 2393 = .ok (.iload 6, 2) := by decide +kernel
theorem dL_law_2395 : decode cL_law 2395 = .ok (.if_icmp .eq 5, 3) := by decide +kernel
theorem dL_law_2398 : decode cL_law 2398 = .ok (.iconst 0, 1) := by decide +kernel
theorem dL_law_2399 : decode cL_law 2399 = .ok (.ireturn, 1) := by decide +kernel
theorem dL_law_2400 : decode cL_law 2400 = .ok (.iload 6, 2) := by decide +kernel
theorem dL_law_2402 : decode cL_law 2402 = .ok (.ifCond .ne 15, 3) := by decide +kernel
theorem dL_law_2405 : decode cL_law 2405 = .ok (.aload_n 3, 1) := by decide +kernel
theorem dL_law_2406 : decode cL_law 2406 = .ok (.iconst 0, 1) := by decide +kernel
theorem dL_law_2407 : decode cL_law 2407 = .ok (.laload, 1) := by decide +kernel
theorem dL_law_2408 : decode cL_law 2408 = .ok (.iload 7, 2) := by decide +kernel
theorem dL_law_2410 : decode cL_law 2410 = .ok (.i2l, 1) := by decide +kernel
theorem dL_law_2411 : decode cL_law 2411 = .ok (.lcmp, 1) := by decide +kernel
theorem dL_law_2412 : decode cL_law 2412 = .ok (.ifCond .eq 5, 3) := by decide +kernel
theorem dL_law_2415 : decode cL_law 2415 = .ok (.iconst 0, 1) := by decide +kernel
theorem dL_law_2416 : decode cL_law 2416 = .ok (.ireturn, 1) := by decide +kernel
theorem dL_law_2417 : decode cL_law 2417 = .ok (.goto 944, 3) := by decide +kernel
theorem dL_law_2420 : decode cL_law 2420 = .ok (.aload_n 1, 1) := by decide +kernel
theorem dL_law_2421 : decode cL_law 2421 = .ok (.aload_n 0, 1) := by decide +kernel
theorem dL_law_2422 : decode cL_law 2422 = .ok (.iload 5, 2) := by decide +kernel
theorem dL_law_2424 : decode cL_law 2424 = .ok (.iconst 1, 1) := by decide +kernel
theorem dL_law_2425 : decode cL_law 2425 = .ok (.iadd, 1) := by decide +kernel
theorem dL_law_2426 : decode cL_law 2426 = .ok (.iaload, 1) := by decide +kernel
theorem dL_law_2427 : decode cL_law 2427 = .ok (.aload_n 0, 1) := by decide +kernel
theorem dL_law_2428 : decode cL_law 2428 = .ok (.iload 5, 2) := by decide +kernel
theorem dL_law_2430 : decode cL_law 2430 = .ok (.iconst 2, 1) := by decide +kernel
theorem dL_law_2431 : decode cL_law 2431 = .ok (.iadd, 1) := by decide +kernel
theorem dL_law_2432 : decode cL_law 2432 = .ok (.iaload, 1) := by decide +kernel
theorem dL_law_2433 : decode cL_law 2433 = .ok (.aload_n 3, 1) := by decide +kernel
theorem dL_law_2434 : decode cL_law 2434 = .ok (.invokestatic 292, 3) := by decide +kernel
theorem dL_law_2437 : decode cL_law 2437 = .ok (.istore 6, 2) := by decide +kernel
theorem dL_law_2439 : decode cL_law 2439 = .ok (.aload_n 2, 1) := by decide +kernel
theorem dL_law_2440 : decode cL_law 2440 = .ok (.aload_n 0, 1) := by decide +kernel
theorem dL_law_2441 : decode cL_law 2441 = .ok (.iload 5, 2) := by decide +kernel
theorem dL_law_2443 : decode cL_law 2443 = .ok (.iconst 1, 1) := by decide +kernel
theorem dL_law_2444 : decode cL_law 2444 = .ok (.iadd, 1) := by decide +kernel
theorem dL_law_2445 : decode cL_law 2445 = .ok (.iaload, 1) := by decide +kernel
theorem dL_law_2446 : decode cL_law 2446 = .ok (.aload_n 0, 1) := by decide +kernel
theorem dL_law_2447 : decode cL_law 2447 = .ok (.iload 5, 2) := by decide +kernel
theorem dL_law_2449 : decode cL_law 2449 = .ok (.iconst 2, 1) := by decide +kernel
theorem dL_law_2450 : decode cL_law 2450 = .ok (.iadd, 1) := by decide +kernel
theorem dL_law_2451 : decode cL_law 2451 = .ok (.iaload, 1) := by decide +kernel
theorem dL_law_2452 : decode cL_law 2452 = .ok (.invokevirtual 294, 3) := by decide +kernel
theorem dL_law_2455 : decode cL_law 2455 = .ok (.istore 7, 2) := by decide +kernel
theorem dL_law_2457 : decode cL_law 2457 = .ok (.aload_n 2, 1) := by decide +kernel
theorem dL_law_2458 : decode cL_law 2458 = .ok (.invokevirtual 168, 3) := by decide +kernel
theorem dL_law_2461 : decode cL_law 2461 = .ok (.iload 6, 2) := by decide +kernel
theorem dL_law_2463 : decode cL_law 2463 = .ok (.if_icmp .eq 5, 3) := by decide +kernel
theorem dL_law_2466 : decode cL_law 2466 = .ok (.iconst 0, 1) := by decide +kernel
theorem dL_law_2467 : decode cL_law 2467 = .ok (.ireturn, 1) := by decide +kernel
theorem dL_law_2468 : decode cL_law 2468 = .ok (.iload 6, 2) := by decide +kernel
theorem dL_law_2470 : decode cL_law 2470 = .ok (.ifCond .ne 15, 3) := by decide +kernel
theorem dL_law_2473 : decode cL_law 2473 = .ok (.aload_n 3, 1) := by decide +kernel
theorem dL_law_2474 : decode cL_law 2474 = .ok (.iconst 0, 1) := by decide +kernel
theorem dL_law_2475 : decode cL_law 2475 = .ok (.laload, 1) := by decide +kernel
theorem dL_law_2476 : decode cL_law 2476 = .ok (.iload 7, 2) := by decide +kernel
theorem dL_law_2478 : decode cL_law 2478 = .ok (.i2l, 1) := by decide +kernel
theorem dL_law_2479 : decode cL_law 2479 = .ok (.lcmp, 1) := by decide +kernel
theorem dL_law_2480 : decode cL_law 2480 = .ok (.ifCond .eq 5, 3) := by decide +kernel
theorem dL_law_2483 : decode cL_law 2483 = .ok (.iconst 0, 1) := by decide +kernel
theorem dL_law_2484 : decode cL_law 2484 = .ok (.ireturn, 1) := by decide +kernel
theorem dL_law_2485 : decode cL_law 2485 = .ok (.goto 876, 3) := by decide +kernel
theorem dL_law_2488 : decode cL_law 2488 = .ok (.aload_n 1, 1) := by decide +kernel
theorem dL_law_2489 : decode cL_law 2489 = .ok (.invokevirtual 295, 3) := by decide +kernel
theorem dL_law_2492 : decode cL_law 2492 = .ok (.aload_n 2, 1) := by decide +kernel
theorem dL_law_2493 : decode cL_law 2493 = .ok (.invokevirtual 298, 3) := by decide +kernel
theorem dL_law_2496 : decode cL_law 2496 = .ok (.if_icmp .eq 865, 3) := by decide +kernel
theorem dL_law_2499 : decode cL_law 2499 = .ok (.iconst 0, 1) := by decide +kernel
theorem dL_law_2500 : decode cL_law 2500 = .ok (.ireturn, 1) := by decide +kernel
theorem dL_law_2501 : decode cL_law 2501 = .ok (.aload_n 1, 1) := by decide +kernel
theorem dL_law_2502 : decode cL_law 2502 = .ok (.aload_n 0, 1) := by decide +kernel
theorem dL_law_2503 : decode cL_law 2503 = .ok (.iload 5, 2) := by decide +kernel
theorem dL_law_2505 : decode cL_law 2505 = .ok (.iconst 1, 1) := by decide +kernel
theorem dL_law_2506 : decode cL_law 2506 = .ok (.iadd, 1) := by decide +kernel
theorem dL_law_2507 : decode cL_law 2507 = .ok (.iaload, 1) := by decide +kernel
theorem dL_law_2508 : decode cL_law 2508 = .ok (.aload_n 3, 1) := by decide +kernel
theorem dL_law_2509 : decode cL_law 2509 = .ok (.invokestatic 299, 3) := by decide +kernel
theorem dL_law_2512 : decode cL_law 2512 = .ok (.istore 6, 2) := by decide +kernel
theorem dL_law_2514 : decode cL_law 2514 = .ok (.aload_n 2, 1) := by decide +kernel
theorem dL_law_2515 : decode cL_law 2515 = .ok (.aload_n 0, 1) := by decide +kernel
theorem dL_law_2516 : decode cL_law 2516 = .ok (.iload 5, 2) := by decide +kernel
theorem dL_law_2518 : decode cL_law 2518 = .ok (.iconst 1, 1) := by decide +kernel
theorem dL_law_2519 : decode cL_law 2519 = .ok (.iadd, 1) := by decide +kernel
theorem dL_law_2520 : decode cL_law 2520 = .ok (.iaload, 1) := by decide +kernel
theorem dL_law_2521 : decode cL_law 2521 = .ok (.invokevirtual 301, 3) := by decide +kernel
theorem dL_law_2524 : decode cL_law 2524 = .ok (.istore 7, 2) := by decide +kernel
theorem dL_law_2526 : decode cL_law 2526 = .ok (.aload_n 2, 1) := by decide +kernel
theorem dL_law_2527 : decode cL_law 2527 = .ok (.invokevirtual 168, 3) := by decide +kernel
theorem dL_law_2530 : decode cL_law 2530 = .ok (.iload 6, 2) := by decide +kernel
theorem dL_law_2532 : decode cL_law 2532 = .ok (.if_icmp .eq 5, 3) := by decide +kernel
theorem dL_law_2535 : decode cL_law 2535 = .ok (.iconst 0, 1) := by decide +kernel
theorem dL_law_2536 : decode cL_law 2536 = .ok (.ireturn, 1) := by decide +kernel
theorem dL_law_2537 : decode cL_law 2537 = .ok (.iload 6, 2) := by decide +kernel
theorem dL_law_2539 : decode cL_law 2539 = .ok (.ifCond .ne 15, 3) := by decide +kernel
theorem dL_law_2542 : decode cL_law 2542 = .ok (.aload_n 3, 1) := by decide +kernel
theorem dL_law_2543 : decode cL_law 2543 = .ok (.iconst 0, 1) := by decide +kernel
theorem dL_law_2544 : decode cL_law 2544 = .ok (.laload, 1) := by decide +kernel
theorem dL_law_2545 : decode cL_law 2545 = .ok (.iload 7, 2) := by decide +kernel
theorem dL_law_2547 : decode cL_law 2547 = .ok (.i2l, 1) := by decide +kernel
theorem dL_law_2548 : decode cL_law 2548 = .ok (.lcmp, 1) := by decide +kernel
theorem dL_law_2549 : decode cL_law 2549 = .ok (.ifCond .eq 5, 3) := by decide +kernel
theorem dL_law_2552 : decode cL_law 2552 = .ok (.iconst 0, 1) := by decide +kernel
theorem dL_law_2553 : decode cL_law 2553 = .ok (.ireturn, 1) := by decide +kernel
theorem dL_law_2554 : decode cL_law 2554 = .ok (.goto 807, 3) := by decide +kernel
theorem dL_law_2557 : decode cL_law 2557 = .ok (.aload_n 1, 1) := by decide +kernel
theorem dL_law_2558 : decode cL_law 2558 = .ok (.aload_n 0, 1) := by decide +kernel
theorem dL_law_2559 : decode cL_law 2559 = .ok (.iload 5, 2) := by decide +kernel
theorem dL_law_2561 : decode cL_law 2561 = .ok (.iconst 1, 1) := by decide +kernel
theorem dL_law_2562 : decode cL_law 2562 = .ok (.iadd, 1) := by decide +kernel
theorem dL_law_2563 : decode cL_law 2563 = .ok (.iaload, 1) := by decide +kernel
theorem dL_law_2564 : decode cL_law 2564 = .ok (.aload_n 3, 1) := by decide +kernel
theorem dL_law_2565 : decode cL_law 2565 = .ok (.invokestatic 302, 3) := by decide +kernel
theorem dL_law_2568 : decode cL_law 2568 = .ok (.istore 6, 2) := by decide +kernel
theorem dL_law_2570 : decode cL_law 2570 = .ok (.aload_n 2, 1) := by decide +kernel
theorem dL_law_2571 : decode cL_law 2571 = .ok (.aload_n 0, 1) := by decide +kernel
theorem dL_law_2572 : decode cL_law 2572 = .ok (.iload 5, 2) := by decide +kernel
theorem dL_law_2574 : decode cL_law 2574 = .ok (.iconst 1, 1) := by decide +kernel
theorem dL_law_2575 : decode cL_law 2575 = .ok (.iadd, 1) := by decide +kernel
theorem dL_law_2576 : decode cL_law 2576 = .ok (.iaload, 1) := by decide +kernel
theorem dL_law_2577 : decode cL_law 2577 = .ok (.invokevirtual 304, 3) := by decide +kernel
