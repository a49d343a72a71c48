theorem dL_law__2272 : decode cL_law_ 2272 = .ok (.aload_n 1, 1) := by decide +kernel
theorem dL_law__2273 : decode cL_law_ 2273 = .ok (.aload_n 0, 1) := by decide +kernel
theorem dL_law__2274 : decode cL_law_ 2274 = .ok (.iload 4, 2) := by decide +kernel
theorem dL_law__2276 : decode cL_law_ 2276 = .ok (.iconst 1, 1) := by decide +kernel
theorem dL_law__2277 : decode cL_law_ 2277 = .ok (.iadd, 1) := by decide +kernel
theorem dL_law__2278 : decode cL_law_ 2278 = .ok (.iaload, 1) := by decide +kernel
theorem dL_law__2279 : decode cL_law_ 2279 = .ok (.aload_n 3, 1) := by decide +kernel
theorem zw_968 : Cond.methodLink RL 256 yL_write ∈ zT := zT_of 1334 (by decide +kernel) (by decide +kernel)
theorem zw_969 : Cond.static yL_write ∈ zT := zT_of 1335 (by decide +kernel) (by decide +kernel)
theorem zw_970 : Cond.codeWith yL_write cL_write 4 (some .int) [(0, 9, 12, 21), (0, 9, 15, 15)] ∈ zT := zT_of 1336 (by decide +kernel) (by decide +kernel)
theorem dL_law__2280 : decode cL_law_ 2280 = .ok (.invokestatic 256, 3) := by decide +kernel
theorem dL_law__2283 : decode cL_law_ 2283 = .ok (.istore 5, 2) := by decide +kernel
theorem dL_law__2285 : decode cL_law_ 2285 = .ok (.aload_n 2, 1) := by decide +kernel
theorem dL_law__2286 : decode cL_law_ 2286 = .ok (.aload_n 0, 1) := by decide +kernel
theorem dL_law__2287 : decode cL_law_ 2287 = .ok (.iload 4, 2) := by decide +kernel
theorem dL_law__2289 : decode cL_law_ 2289 = .ok (.iconst 1, 1) := by decide +kernel
theorem dL_law__2290 : decode cL_law_ 2290 = .ok (.iadd, 1) := by decide +kernel
theorem dL_law__2291 : decode cL_law_ 2291 = .ok (.iaload, 1) := by decide +kernel
theorem zw_971 : Cond.methodLink RL 258 yX12_write ∈ zT := zT_of 1951 (by decide +kernel) (by decide +kernel)
theorem zw_972 : Cond.instanceMethod yX12_write ∈ zT := zT_of 1952 (by decide +kernel) (by decide +kernel)
theorem zw_973 : Cond.selects RX12 yX12_write yX12_write ∈ zT := zT_of 1953 (by decide +kernel) (by decide +kernel)
theorem zw_974 : Cond.code yX12_write cX12_write 3 (some .int) ∈ zT := zT_of 1954 (by decide +kernel) (by decide +kernel)
theorem dL_law__2292 : decode cL_law_ 2292 = .ok (.invokevirtual 258, 3) := by decide +kernel
theorem dL_law__2295 : decode cL_law_ 2295 = .ok (.istore 6, 2) := by decide +kernel
theorem dL_law__2297 : decode cL_law_ 2297 = .ok (.aload_n 2, 1) := by decide +kernel
theorem dL_law__2298 : decode cL_law_ 2298 = .ok (.invokevirtual 161, 3) := by decide +kernel
theorem dL_law__2301 : decode cL_law_ 2301 = .ok (.iload 5, 2) := by decide +kernel
theorem dL_law__2303 : decode cL_law_ 2303 = .ok (.if_icmp .eq 5, 3) := by decide +kernel
theorem dL_law__2308 : decode cL_law_ 2308 = .ok (.iload 5, 2) := by decide +kernel
theorem dL_law__2310 : decode cL_law_ 2310 = .ok (.ifCond .ne 15, 3) := by decide +kernel
theorem dL_law__2325 : decode cL_law_ 2325 = .ok (.goto 1108, 3) := by decide +kernel
theorem dL_law__2313 : decode cL_law_ 2313 = .ok (.aload_n 3, 1) := by decide +kernel
theorem dL_law__2314 : decode cL_law_ 2314 = .ok (.iconst 0, 1) := by decide +kernel
theorem dL_law__2315 : decode cL_law_ 2315 = .ok (.laload, 1) := by decide +kernel
theorem dL_law__2316 : decode cL_law_ 2316 = .ok (.iload 6, 2) := by decide +kernel
theorem dL_law__2318 : decode cL_law_ 2318 = .ok (.i2l, 1) := by decide +kernel
theorem dL_law__2319 : decode cL_law_ 2319 = .ok (.lcmp, 1) := by decide +kernel
theorem dL_law__2320 : decode cL_law_ 2320 = .ok (.ifCond .eq 5, 3) := by decide +kernel
theorem dL_law__2328 : decode cL_law_ 2328 = .ok (.aload_n 1, 1) := by decide +kernel
theorem dL_law__2329 : decode cL_law_ 2329 = .ok (.aload_n 0, 1) := by decide +kernel
theorem dL_law__2330 : decode cL_law_ 2330 = .ok (.iload 4, 2) := by decide +kernel
theorem dL_law__2332 : decode cL_law_ 2332 = .ok (.iconst 1, 1) := by decide +kernel
theorem dL_law__2333 : decode cL_law_ 2333 = .ok (.iadd, 1) := by decide +kernel
theorem dL_law__2334 : decode cL_law_ 2334 = .ok (.iaload, 1) := by decide +kernel
theorem dL_law__2335 : decode cL_law_ 2335 = .ok (.aload_n 3, 1) := by decide +kernel
theorem zw_975 : Cond.methodLink RL 259 yL_writeLaw ∈ zT := zT_of 1352 (by decide +kernel) (by decide +kernel)
theorem zw_976 : Cond.static yL_writeLaw ∈ zT := zT_of 1353 (by decide +kernel) (by decide +kernel)
theorem zw_977 : Cond.codeWith yL_writeLaw cL_writeLaw 4 (some .int) [(0, 9, 12, 41)] ∈ zT := zT_of 1354 (by decide +kernel) (by decide +kernel)
theorem dL_law__2336 : decode cL_law_ 2336 = .ok (.invokestatic 259, 3) := by decide +kernel
theorem dL_law__2339 : decode cL_law_ 2339 = .ok (.istore 5, 2) := by decide +kernel
theorem dL_law__2341 : decode cL_law_ 2341 = .ok (.aload_n 2, 1) := by decide +kernel
theorem dL_law__2342 : decode cL_law_ 2342 = .ok (.aload_n 0, 1) := by decide +kernel
theorem dL_law__2343 : decode cL_law_ 2343 = .ok (.iload 4, 2) := by decide +kernel
theorem dL_law__2345 : decode cL_law_ 2345 = .ok (.iconst 1, 1) := by decide +kernel
theorem dL_law__2346 : decode cL_law_ 2346 = .ok (.iadd, 1) := by decide +kernel
theorem dL_law__2347 : decode cL_law_ 2347 = .ok (.iaload, 1) := by decide +kernel
theorem zw_978 : Cond.methodLink RL 261 yX12_writeLaw ∈ zT := zT_of 1963 (by decide +kernel) (by decide +kernel)
theorem zw_979 : Cond.instanceMethod yX12_writeLaw ∈ zT := zT_of 1964 (by decide +kernel) (by decide +kernel)
theorem zw_980 : Cond.selects RX12 yX12_writeLaw yX12_writeLaw ∈ zT := zT_of 1965 (by decide +kernel) (by decide +kernel)
theorem zw_981 : Cond.code yX12_writeLaw cX12_writeLaw 4 (some .int) ∈ zT := zT_of 1966 (by decide +kernel) (by decide +kernel)
theorem dL_law__2348 : decode cL_law_ 2348 = .ok (.invokevirtual 261, 3) := by decide +kernel
theorem dL_law__2351 : decode cL_law_ 2351 = .ok (.istore 6, 2) := by decide +kernel
theorem dL_law__2353 : decode cL_law_ 2353 = .ok (.aload_n 2, 1) := by decide +kernel
theorem dL_law__2354 : decode cL_law_ 2354 = .ok (.invokevirtual 161, 3) := by decide +kernel
theorem dL_law__2357 : decode cL_law_ 2357 = .ok (.iload 5, 2) := by decide +kernel
theorem dL_law__2359 : decode cL_law_ 2359 = .ok (.if_icmp .eq 5, 3) := by decide +kernel
theorem dL_law__2364 : decode cL_law_ 2364 = .ok (.iload 5, 2) := by decide +kernel
theorem dL_law__2366 : decode cL_law_ 2366 = .ok (.ifCond .ne 15, 3) := by decide +kernel
theorem dL_law__2381 : decode cL_law_ 2381 = .ok (.goto 1052, 3) := by decide +kernel
theorem dL_law__2369 : decode cL_law_ 2369 = .ok (.aload_n 3, 1) := by decide +kernel
theorem dL_law__2370 : decode cL_law_ 2370 = .ok (.iconst 0, 1) := by decide +kernel
theorem dL_law__2371 : decode cL_law_ 2371 = .ok (.laload, 1) := by decide +kernel
theorem dL_law__2372 : decode cL_law_ 2372 = .ok (.iload 6, 2) := by decide +kernel
theorem dL_law__2374 : decode cL_law_ 2374 = .ok (.i2l, 1) := by decide +kernel
theorem dL_law__2375 : decode cL_law_ 2375 = .ok (.lcmp, 1) := by decide +kernel
theorem dL_law__2376 : decode cL_law_ 2376 = .ok (.ifCond .eq 5, 3) := by decide +kernel
theorem dL_law__2384 : decode cL_law_ 2384 = .ok (.aload_n 1, 1) := by decide +kernel
theorem dL_law__2385 : decode cL_law_ 2385 = .ok (.aload_n 0, 1) := by decide +kernel
theorem dL_law__2386 : decode cL_law_ 2386 = .ok (.iload 4, 2) := by decide +kernel
theorem dL_law__2388 : decode cL_law_ 2388 = .ok (.iconst 1, 1) := by decide +kernel
theorem dL_law__2389 : decode cL_law_ 2389 = .ok (.iadd, 1) := by decide +kernel
theorem dL_law__2390 : decode cL_law_ 2390 = .ok (.iaload, 1) := by decide +kernel
theorem dL_law__2391 : decode cL_law_ 2391 = .ok (.aload_n 3, 1) := by decide +kernel
theorem zw_982 : Cond.methodLink RL 262 yL_outputAt ∈ zT := zT_of 1365 (by decide +kernel) (by decide +kernel)
theorem zw_983 : Cond.static yL_outputAt ∈ zT := zT_of 1366 (by decide +kernel) (by decide +kernel)
theorem zw_984 : Cond.codeWith yL_outputAt cL_outputAt 4 (some .int) [(0, 9, 12, 41)] ∈ zT := zT_of 1367 (by decide +kernel) (by decide +kernel)
theorem dL_law__2392 : decode cL_law_ 2392 = .ok (.invokestatic 262, 3) := by decide +kernel
theorem dL_law__2395 : decode cL_law_ 2395 = .ok (.istore 5, 2) := by decide +kernel
theorem dL_law__2397 : decode cL_law_ 2397 = .ok (.aload_n 2, 1) := by decide +kernel
theorem dL_law__2398 : decode cL_law_ 2398 = .ok (.aload_n 0, 1) := by decide +kernel
theorem dL_law__2399 : decode cL_law_ 2399 = .ok (.iload 4, 2) := by decide +kernel
theorem dL_law__2401 : decode cL_law_ 2401 = .ok (.iconst 1, 1) := by decide +kernel
theorem dL_law__2402 : decode cL_law_ 2402 = .ok (.iadd, 1) := by decide +kernel
theorem dL_law__2403 : decode cL_law_ 2403 = .ok (.iaload, 1) := by decide +kernel
theorem zw_985 : Cond.methodLink RL 264 yX12_outputAt ∈ zT := zT_of 1967 (by decide +kernel) (by decide +kernel)
theorem zw_986 : Cond.instanceMethod yX12_outputAt ∈ zT := zT_of 1968 (by decide +kernel) (by decide +kernel)
theorem zw_987 : Cond.selects RX12 yX12_outputAt yX12_outputAt ∈ zT := zT_of 1969 (by decide +kernel) (by decide +kernel)
theorem zw_988 : Cond.code yX12_outputAt cX12_outputAt 2 (some .int) ∈ zT := zT_of 1970 (by decide +kernel) (by decide +kernel)
theorem dL_law__2404 : decode cL_law_ 2404 = .ok (.invokevirtual 264, 3) := by decide +kernel
theorem dL_law__2407 : decode cL_law_ 2407 = .ok (.istore 6, 2) := by decide +kernel
theorem dL_law__2409 : decode cL_law_ 2409 = .ok (.aload_n 2, 1) := by decide +kernel
theorem dL_law__2410 : decode cL_law_ 2410 = .ok (.invokevirtual 161, 3) := by decide +kernel
theorem dL_law__2413 : decode cL_law_ 2413 = .ok (.iload 5, 2) := by decide +kernel
theorem dL_law__2415 : decode cL_law_ 2415 = .ok (.if_icmp .eq 5, 3) := by decide +kernel
theorem dL_law__2420 : decode cL_law_ 2420 = .ok (.iload 5, 2) := by decide +kernel
theorem dL_law__2422 : decode cL_law_ 2422 = .ok (.ifCond .ne 15, 3) := by decide +kernel
theorem dL_law__2437 : decode cL_law_ 2437 = .ok (.goto 996, 3) := by decide +kernel
theorem dL_law__2425 : decode cL_law_ 2425 = .ok (.aload_n 3, 1) := by decide +kernel
theorem dL_law__2426 : decode cL_law_ 2426 = .ok (.iconst 0, 1) := by decide +kernel
theorem dL_law__2427 : decode cL_law_ 2427 = .ok (.laload, 1) := by decide +kernel
theorem dL_law__2428 : decode cL_law_ 2428 = .ok (.iload 6, 2) := by decide +kernel
theorem dL_law__2430 : decode cL_law_ 2430 = .ok (.i2l, 1) := by decide +kernel
theorem dL_law__2431 : decode cL_law_ 2431 = .ok (.lcmp, 1) := by decide +kernel
theorem dL_law__2432 : decode cL_law_ 2432 = .ok (.ifCond .eq 5, 3) := by decide +kernel
theorem dL_law__2440 : decode cL_law_ 2440 = .ok (.aload_n 1, 1) := by decide +kernel
theorem zw_989 : Cond.methodLink RL 265 yX11_signs ∈ zT := zT_of 451 (by decide +kernel) (by decide +kernel)
theorem zw_990 : Cond.instanceMethod yX11_signs ∈ zT := zT_of 452 (by decide +kernel) (by decide +kernel)
theorem zw_991 : Cond.selects RX11 yX11_signs yX11_signs ∈ zT := zT_of 453 (by decide +kernel) (by decide +kernel)
theorem zw_992 : Cond.code yX11_signs cX11_signs 1 (some .int) ∈ zT := zT_of 454 (by decide +kernel) (by decide +kernel)
theorem dL_law__2441 : decode cL_law_ 2441 = .ok (.invokevirtual 265, 3) := by decide +kernel
theorem dL_law__2444 : decode cL_law_ 2444 = .ok (.aload_n 2, 1) := by decide +kernel
theorem zw_993 : Cond.methodLink RL 268 yX12_signs ∈ zT := zT_of 1971 (by decide +kernel) (by decide +kernel)
theorem zw_994 : Cond.instanceMethod yX12_signs ∈ zT := zT_of 1972 (by decide +kernel) (by decide +kernel)
theorem zw_995 : Cond.selects RX12 yX12_signs yX12_signs ∈ zT := zT_of 1973 (by decide +kernel) (by decide +kernel)
theorem zw_996 : Cond.code yX12_signs cX12_signs 1 (some .int) ∈ zT := zT_of 1974 (by decide +kernel) (by decide +kernel)
theorem dL_law__2445 : decode cL_law_ 2445 = .ok (.invokevirtual 268, 3) := by decide +kernel
theorem dL_law__2448 : decode cL_law_ 2448 = .ok (.if_icmp .eq 985, 3) := by decide +kernel
theorem dL_law__2453 : decode cL_law_ 2453 = .ok (.aload_n 1, 1) := by decide +kernel
theorem dL_law__2454 : decode cL_law_ 2454 = .ok (.aload_n 0, 1) := by decide +kernel
theorem dL_law__2455 : decode cL_law_ 2455 = .ok (.iload 4, 2) := by decide +kernel
theorem dL_law__2457 : decode cL_law_ 2457 = .ok (.iconst 1, 1) := by decide +kernel
theorem dL_law__2458 : decode cL_law_ 2458 = .ok (.iadd, 1) := by decide +kernel
theorem dL_law__2459 : decode cL_law_ 2459 = .ok (.iaload, 1) := by decide +kernel
theorem dL_law__2460 : decode cL_law_ 2460 = .ok (.aload_n 0, 1) := by decide +kernel
theorem dL_law__2461 : decode cL_law_ 2461 = .ok (.iload 4, 2) := by decide +kernel
theorem dL_law__2463 : decode cL_law_ 2463 = .ok (.iconst 2, 1) := by decide +kernel
theorem dL_law__2464 : decode cL_law_ 2464 = .ok (.iadd, 1) := by decide +kernel
theorem dL_law__2465 : decode cL_law_ 2465 = .ok (.iaload, 1) := by decide +kernel
theorem dL_law__2466 : decode cL_law_ 2466 = .ok (.aload_n 3, 1) := by decide +kernel
theorem zw_997 : Cond.methodLink RL 269 yL_termAt ∈ zT := zT_of 1373 (by decide +kernel) (by decide +kernel)
theorem zw_998 : Cond.static yL_termAt ∈ zT := zT_of 1374 (by decide +kernel) (by decide +kernel)
theorem zw_999 : Cond.codeWith yL_termAt cL_termAt 5 (some .int) [(0, 10, 13, 21), (0, 10, 17, 13)] ∈ zT := zT_of 1375 (by decide +kernel) (by decide +kernel)
theorem dL_law__2467 : decode cL_law_ 2467 = .ok (.invokestatic 269, 3) := by decide +kernel
theorem dL_law__2470 : decode cL_law_ 2470 = .ok (.istore 5, 2) := by decide +kernel
theorem dL_law__2472 : decode cL_law_ 2472 = .ok (.aload_n 2, 1) := by decide +kernel
theorem dL_law__2473 : decode cL_law_ 2473 = .ok (.aload_n 0, 1) := by decide +kernel
theorem dL_law__2474 : decode cL_law_ 2474 = .ok (.iload 4, 2) := by decide +kernel
theorem dL_law__2476 : decode cL_law_ 2476 = .ok (.iconst 1, 1) := by decide +kernel
theorem dL_law__2477 : decode cL_law_ 2477 = .ok (.iadd, 1) := by decide +kernel
theorem dL_law__2478 : decode cL_law_ 2478 = .ok (.iaload, 1) := by decide +kernel
theorem dL_law__2479 : decode cL_law_ 2479 = .ok (.aload_n 0, 1) := by decide +kernel
theorem dL_law__2480 : decode cL_law_ 2480 = .ok (.iload 4, 2) := by decide +kernel
theorem dL_law__2482 : decode cL_law_ 2482 = .ok (.iconst 2, 1) := by decide +kernel
theorem dL_law__2483 : decode cL_law_ 2483 = .ok (.iadd, 1) := by decide +kernel
theorem dL_law__2484 : decode cL_law_ 2484 = .ok (.iaload, 1) := by decide +kernel
theorem zw_1000 : Cond.methodLink RL 271 yX12_termAt ∈ zT := zT_of 1975 (by decide +kernel) (by decide +kernel)
theorem zw_1001 : Cond.instanceMethod yX12_termAt ∈ zT := zT_of 1976 (by decide +kernel) (by decide +kernel)
theorem zw_1002 : Cond.selects RX12 yX12_termAt yX12_termAt ∈ zT := zT_of 1977 (by decide +kernel) (by decide +kernel)
theorem zw_1003 : Cond.code yX12_termAt cX12_termAt 4 (some .int) ∈ zT := zT_of 1978 (by decide +kernel) (by decide +kernel)
theorem dL_law__2485 : decode cL_law_ 2485 = .ok (.invokevirtual 271, 3) := by decide +kernel
theorem dL_law__2488 : decode cL_law_ 2488 = .ok (.istore 6, 2) := by decide +kernel
theorem dL_law__2490 : decode cL_law_ 2490 = .ok (.aload_n 2, 1) := by decide +kernel
theorem dL_law__2491 : decode cL_law_ 2491 = .ok (.invokevirtual 161, 3) := by decide +kernel
theorem dL_law__2494 : decode cL_law_ 2494 = .ok (.iload 5, 2) := by decide +kernel
theorem dL_law__2496 : decode cL_law_ 2496 = .ok (.if_icmp .eq 5, 3) := by decide +kernel
theorem dL_law__2501 : decode cL_law_ 2501 = .ok (.iload 5, 2) := by decide +kernel
theorem dL_law__2503 : decode cL_law_ 2503 = .ok (.ifCond .ne 15, 3) := by decide +kernel
theorem dL_law__2518 : decode cL_law_ 2518 = .ok (.goto 915, 3) := by decide +kernel
theorem dL_law__2506 : decode cL_law_ 2506 = .ok (.aload_n 3, 1) := by decide +kernel
theorem dL_law__2507 : decode cL_law_ 2507 = .ok (.iconst 0, 1) := by decide +kernel
theorem dL_law__2508 : decode cL_law_ 2508 = .ok (.laload, 1) := by decide +kernel
theorem dL_law__2509 : decode cL_law_ 2509 = .ok (.iload 6, 2) := by decide +kernel
theorem dL_law__2511 : decode cL_law_ 2511 = .ok (.i2l, 1) := by decide +kernel
theorem dL_law__2512 : decode cL_law_ 2512 = .ok (.lcmp, 1) := by decide +kernel
theorem dL_law__2513 : decode cL_law_ 2513 = .ok (.ifCond .eq 5, 3) := by decide +kernel
theorem dL_law__2521 : decode cL_law_ 2521 = .ok (.aload_n 1, 1) := by decide +kernel
theorem dL_law__2522 : decode cL_law_ 2522 = .ok (.aload_n 0, 1) := by decide +kernel
theorem dL_law__2523 : decode cL_law_ 2523 = .ok (.iload 4, 2) := by decide +kernel
theorem dL_law__2525 : decode cL_law_ 2525 = .ok (.iconst 1, 1) := by decide +kernel
theorem dL_law__2526 : decode cL_law_ 2526 = .ok (.iadd, 1) := by decide +kernel
theorem dL_law__2527 : decode cL_law_ 2527 = .ok (.iaload, 1) := by decide +kernel
theorem dL_law__2528 : decode cL_law_ 2528 = .ok (.aload_n 0, 1) := by decide +kernel
theorem dL_law__2529 : decode cL_law_ 2529 = .ok (.iload 4, 2) := by decide +kernel
theorem dL_law__2531 : decode cL_law_ 2531 = .ok (.iconst 2, 1) := by decide +kernel
theorem dL_law__2532 : decode cL_law_ 2532 = .ok (.iadd, 1) := by decide +kernel
theorem dL_law__2533 : decode cL_law_ 2533 = .ok (.iaload, 1) := by decide +kernel
theorem dL_law__2534 : decode cL_law_ 2534 = .ok (.aload_n 3, 1) := by decide +kernel
theorem zw_1004 : Cond.methodLink RL 272 yL_areSame ∈ zT := zT_of 1386 (by decide +kernel) (by decide +kernel)
theorem zw_1005 : Cond.static yL_areSame ∈ zT := zT_of 1387 (by decide +kernel) (by decide +kernel)
theorem zw_1006 : Cond.codeWith yL_areSame cL_areSame 5 (some .int) [(0, 17, 20, 21)] ∈ zT := zT_of 1388 (by decide +kernel) (by decide +kernel)
theorem dL_law__2535 : decode cL_law_ 2535 = .ok (.invokestatic 272, 3) := by decide +kernel
theorem dL_law__2538 : decode cL_law_ 2538 = .ok (.istore 5, 2) := by decide +kernel
theorem dL_law__2540 : decode cL_law_ 2540 = .ok (.aload_n 2, 1) := by decide +kernel
theorem dL_law__2541 : decode cL_law_ 2541 = .ok (.aload_n 0, 1) := by decide +kernel
theorem dL_law__2542 : decode cL_law_ 2542 = .ok (.iload 4, 2) := by decide +kernel
theorem dL_law__2544 : decode cL_law_ 2544 = .ok (.iconst 1, 1) := by decide +kernel
theorem dL_law__2545 : decode cL_law_ 2545 = .ok (.iadd, 1) := by decide +kernel
theorem dL_law__2546 : decode cL_law_ 2546 = .ok (.iaload, 1) := by decide +kernel
theorem dL_law__2547 : decode cL_law_ 2547 = .ok (.aload_n 0, 1) := by decide +kernel
theorem dL_law__2548 : decode cL_law_ 2548 = .ok (.iload 4, 2) := by decide +kernel
theorem dL_law__2550 : decode cL_law_ 2550 = .ok (.iconst 2, 1) := by decide +kernel
theorem dL_law__2551 : decode cL_law_ 2551 = .ok (.iadd, 1) := by decide +kernel
theorem dL_law__2552 : decode cL_law_ 2552 = .ok (.iaload, 1) := by decide +kernel
theorem zw_1007 : Cond.methodLink RL 274 yX12_areSame ∈ zT := zT_of 1984 (by decide +kernel) (by decide +kernel)
theorem zw_1008 : Cond.instanceMethod yX12_areSame ∈ zT := zT_of 1985 (by decide +kernel) (by decide +kernel)
theorem zw_1009 : Cond.selects RX12 yX12_areSame yX12_areSame ∈ zT := zT_of 1986 (by decide +kernel) (by decide +kernel)
theorem zw_1010 : Cond.code yX12_areSame cX12_areSame 3 (some .boolean) ∈ zT := zT_of 1987 (by decide +kernel) (by decide +kernel)
theorem dL_law__2553 : decode cL_law_ 2553 = .ok (.invokevirtual 274, 3) := by decide +kernel
theorem dL_law__2556 : decode cL_law_ 2556 = .ok (.istore 6, 2) := by decide +kernel
theorem dL_law__2558 : decode cL_law_ 2558 = .ok (.aload_n 2, 1) := by decide +kernel
theorem dL_law__2559 : decode cL_law_ 2559 = .ok (.invokevirtual 161, 3) := by decide +kernel
theorem dL_law__2562 : decode cL_law_ 2562 = .ok (.iload 5, 2) := by decide +kernel
theorem dL_law__2564 : decode cL_law_ 2564 = .ok (.if_icmp .eq 5, 3) := by decide +kernel
theorem dL_law__2569 : decode cL_law_ 2569 = .ok (.iload 5, 2) := by decide +kernel
theorem dL_law__2571 : decode cL_law_ 2571 = .ok (.ifCond .ne 22, 3) := by decide +kernel
theorem dL_law__2593 : decode cL_law_ 2593 = .ok (.goto 840, 3) := by decide +kernel
theorem dL_law__2574 : decode cL_law_ 2574 = .ok (.aload_n 3, 1) := by decide +kernel
theorem dL_law__2575 : decode cL_law_ 2575 = .ok (.iconst 0, 1) := by decide +kernel
theorem dL_law__2576 : decode cL_law_ 2576 = .ok (.laload, 1) := by decide +kernel
theorem dL_law__2577 : decode cL_law_ 2577 = .ok (.iload 6, 2) := by decide +kernel
theorem dL_law__2579 : decode cL_law_ 2579 = .ok (.ifCond .eq 7, 3) := by decide +kernel
theorem dL_law__2586 : decode cL_law_ 2586 = .ok (.lconst 0, 1) := by decide +kernel
theorem dL_law__2587 : decode cL_law_ 2587 = .ok (.lcmp, 1) := by decide +kernel
theorem dL_law__2588 : decode cL_law_ 2588 = .ok (.ifCond .eq 5, 3) := by decide +kernel
theorem dL_law__2582 : decode cL_law_ 2582 = .ok (.lconst 1, 1) := by decide +kernel
theorem dL_law__2583 : decode cL_law_ 2583 = .ok (.goto 4, 3) := by decide +kernel
theorem dL_law__2596 : decode cL_law_ 2596 = .ok (.aload_n 1, 1) := by decide +kernel
theorem dL_law__2597 : decode cL_law_ 2597 = .ok (.aload_n 0, 1) := by decide +kernel
theorem dL_law__2598 : decode cL_law_ 2598 = .ok (.iload 4, 2) := by decide +kernel
theorem dL_law__2600 : decode cL_law_ 2600 = .ok (.iconst 1, 1) := by decide +kernel
theorem dL_law__2601 : decode cL_law_ 2601 = .ok (.iadd, 1) := by decide +kernel
theorem dL_law__2602 : decode cL_law_ 2602 = .ok (.iaload, 1) := by decide +kernel
theorem dL_law__2603 : decode cL_law_ 2603 = .ok (.aload_n 0, 1) := by decide +kernel
theorem dL_law__2604 : decode cL_law_ 2604 = .ok (.iload 4, 2) := by decide +kernel
theorem dL_law__2606 : decode cL_law_ 2606 = .ok (.iconst 2, 1) := by decide +kernel
theorem dL_law__2607 : decode cL_law_ 2607 = .ok (.iadd, 1) := by decide +kernel
theorem dL_law__2608 : decode cL_law_ 2608 = .ok (.iaload, 1) := by decide +kernel
theorem dL_law__2609 : decode cL_law_ 2609 = .ok (.aload_n 3, 1) := by decide +kernel
theorem zw_1011 : Cond.methodLink RL 275 yL_direction ∈ zT := zT_of 1393 (by decide +kernel) (by decide +kernel)
theorem zw_1012 : Cond.static yL_direction ∈ zT := zT_of 1394 (by decide +kernel) (by decide +kernel)
theorem zw_1013 : Cond.codeWith yL_direction cL_direction 5 (some .int) [(0, 10, 13, 21), (0, 10, 17, 15)] ∈ zT := zT_of 1395 (by decide +kernel) (by decide +kernel)
theorem dL_law__2610 : decode cL_law_ 2610 = .ok (.invokestatic 275, 3) := by decide +kernel
theorem dL_law__2613 : decode cL_law_ 2613 = .ok (.istore 5, 2) := by decide +kernel
theorem dL_law__2615 : decode cL_law_ 2615 = .ok (.aload_n 2, 1) := by decide +kernel
theorem dL_law__2616 : decode cL_law_ 2616 = .ok (.aload_n 0, 1) := by decide +kernel
theorem dL_law__2617 : decode cL_law_ 2617 = .ok (.iload 4, 2) := by decide +kernel
theorem dL_law__2619 : decode cL_law_ 2619 = .ok (.iconst 1, 1) := by decide +kernel
theorem dL_law__2620 : decode cL_law_ 2620 = .ok (.iadd, 1) := by decide +kernel
theorem dL_law__2621 : decode cL_law_ 2621 = .ok (.iaload, 1) := by decide +kernel
theorem dL_law__2622 : decode cL_law_ 2622 = .ok (.aload_n 0, 1) := by decide +kernel
theorem dL_law__2623 : decode cL_law_ 2623 = .ok (.iload 4, 2) := by decide +kernel
theorem dL_law__2625 : decode cL_law_ 2625 = .ok (.iconst 2, 1) := by decide +kernel
theorem dL_law__2626 : decode cL_law_ 2626 = .ok (.iadd, 1) := by decide +kernel
theorem dL_law__2627 : decode cL_law_ 2627 = .ok (.iaload, 1) := by decide +kernel
theorem zw_1014 : Cond.methodLink RL 277 yX12_direction ∈ zT := zT_of 1988 (by decide +kernel) (by decide +kernel)
theorem zw_1015 : Cond.instanceMethod yX12_direction ∈ zT := zT_of 1989 (by decide +kernel) (by decide +kernel)
theorem zw_1016 : Cond.selects RX12 yX12_direction yX12_direction ∈ zT := zT_of 1990 (by decide +kernel) (by decide +kernel)
theorem zw_1017 : Cond.code yX12_direction cX12_direction 3 (some .int) ∈ zT := zT_of 1991 (by decide +kernel) (by decide +kernel)
theorem dL_law__2628 : decode cL_law_ 2628 = .ok (.invokevirtual 277, 3) := by decide +kernel
theorem dL_law__2631 : decode cL_law_ 2631 = .ok (.istore 6, 2) := by decide +kernel
theorem dL_law__2633 : decode cL_law_ 2633 = .ok (.aload_n 2, 1) := by decide +kernel
theorem dL_law__2634 : decode cL_law_ 2634 = .ok (.invokevirtual 161, 3) := by decide +kernel
theorem dL_law__2637 : decode cL_law_ 2637 = .ok (.iload 5, 2) := by decide +kernel
theorem dL_law__2639 : decode cL_law_ 2639 = .ok (.if_icmp .eq 5, 3) := by decide +kernel
theorem dL_law__2644 : decode cL_law_ 2644 = .ok (.iload 5, 2) := by decide +kernel
theorem dL_law__2646 : decode cL_law_ 2646 = .ok (.ifCond .ne 15, 3) := by decide +kernel
theorem dL_law__2661 : decode cL_law_ 2661 = .ok (.goto 772, 3) := by decide +kernel
theorem dL_law__2649 : decode cL_law_ 2649 = .ok (.aload_n 3, 1) := by decide +kernel
theorem dL_law__2650 : decode cL_law_ 2650 = .ok (.iconst 0, 1) := by decide +kernel
theorem dL_law__2651 : decode cL_law_ 2651 = .ok (.laload, 1) := by decide +kernel
theorem dL_law__2652 : decode cL_law_ 2652 = .ok (.iload 6, 2) := by decide +kernel
theorem dL_law__2654 : decode cL_law_ 2654 = .ok (.i2l, 1) := by decide +kernel
theorem dL_law__2655 : decode cL_law_ 2655 = .ok (.lcmp, 1) := by decide +kernel
theorem dL_law__2656 : decode cL_law_ 2656 = .ok (.ifCond .eq 5, 3) := by decide +kernel
set_option maxHeartbeats 4000000 in
set_option maxRecDepth 100000 in
theorem zcase_write {p : Program} {l : Launch} {e : Env} {s : State} {m : MethodId} {below : List Frame} {meth : Method} {c : Code} {b L : Nat} {xs : Nat → Int32} {A : Nat → Prop} (D : va_G) (h cs : Nat → Nat) (o : Nat) (cL : ClassId) (a : Nat → Nat) (cI : ClassId) (hx : p.tables.exec = Jvm.exec) (hb : c.code = code) (hml : c.maxLocals = 9) (hr : meth.sig.returnType = ret) (hown : s.vm.findClass RL = some m.cls) (ht : ∀ w ∈ zT, w.before #[Value.ref b] s = true) (hlocks : meth.locks = false) (hX : va_X b L xs s s.heap) (hbl : b < s.heap.size) (hL : L = 6) (hAe : ∀ q : Nat, A q ↔ s.heap.size ≤ q) (hl0 : l.stackTraces = false) (hEx : zEx A s) (hNc : zNc s) {H : Heap} {locs : List Loc} {ls : Array Slot} (hK : va_K D vwCl [((cs 9), .object RX9), (cL, .long), (cI, .int)] s) (hP : va_P D vwCl [((h 0), .inr (11, [.ref (h 1), .ref (h 9), .int 0, .int 0, .ref (h 20), .ref (h 37), .int 0, .ref (h 38), .ref (h 42), .ref (h 43), .ref (h 44), .ref (h 45), .ref (h 46), .ref (h 47), .ref (h 48)])), ((h 1), .inr (8, [.ref (h 2), .int 0, .ref (h 3), .ref (h 4), .int 0, .ref (h 5), .int 0, .ref (h 6), .int 0, .ref (h 7), .int 0])), ((h 3), .inl ((cs 9), 10, .inr (.inr (.inr (.inr (fun _ => none)))))), (o, .inl (cL, 1, .inr (.inl (fun _ => 0)))), ((a 0), .inr (12, zMo a zI0)), ((a 1), .inl (cI, 6792, .inl zI0))] H) (hD : va_D A [((h 0), .inr (11, [.ref (h 1), .ref (h 9), .int 0, .int 0, .ref (h 20), .ref (h 37), .int 0, .ref (h 38), .ref (h 42), .ref (h 43), .ref (h 44), .ref (h 45), .ref (h 46), .ref (h 47), .ref (h 48)])), ((h 1), .inr (8, [.ref (h 2), .int 0, .ref (h 3), .ref (h 4), .int 0, .ref (h 5), .int 0, .ref (h 6), .int 0, .ref (h 7), .int 0])), ((h 3), .inl ((cs 9), 10, .inr (.inr (.inr (.inr (fun _ => none)))))), (o, .inl (cL, 1, .inr (.inl (fun _ => 0)))), ((a 0), .inr (12, zMo a zI0)), ((a 1), .inl (cI, 6792, .inl zI0))]) (hS : va_S A s.heap H locs) (hl : lv_has ls 9 [(0, .ref b), (1, .ref (h 0)), (2, .ref (a 0)), (3, .ref o), (4, .int 0)]) : W p l e room_1 s m #[Value.ref b] below meth c H locs 1192 188302 (lw_Z below #[Value.ref b] s) (F0 m 2272 ls []) := by
  have hbA : ¬ A b := fun h => Nat.not_le.mpr hbl ((hAe b).mp h)
  have hA : ∀ q : Nat, s.heap.size ≤ q → A q := fun q h => (hAe q).mpr h
  refine lv_aload_n hx hb dL_law__2272 rfl (lv_at hl 1 rfl) ?_
  refine lv_aload_n hx hb dL_law__2273 rfl (lv_at hl 0 rfl) ?_
  refine lv_iload hx hb dL_law__2274 (lv_at hl 4 rfl) ?_
  refine lv_iconst (v := 1) hx hb dL_law__2276 (by decide) ?_
  refine lv_iadd hx hb dL_law__2277 ?_
  refine lv_topi (fun x_1 e_1 => ?_)
  obtain rfl : x_1 = 1 := e_1.trans (by decide)
  refine va_sld hx hb hX hbl hbA hS (by rw [hL]; exact vp_in_iff.mpr (by decide)) dL_law__2278 ?_
  refine W.eq (g2 := F0 m 2279 ls (.int (xs 1) :: .ref (h 0) :: [])) rfl ?_
  refine lv_aload_n hx hb dL_law__2279 rfl (lv_at hl 3 rfl) ?_
  have hPc := hP.sub (ws' := [((h 0), .inr (11, [.ref (h 1), .ref (h 9), .int 0, .int 0, .ref (h 20), .ref (h 37), .int 0, .ref (h 38), .ref (h 42), .ref (h 43), .ref (h 44), .ref (h 45), .ref (h 46), .ref (h 47), .ref (h 48)])), ((h 1), .inr (8, [.ref (h 2), .int 0, .ref (h 3), .ref (h 4), .int 0, .ref (h 5), .int 0, .ref (h 6), .int 0, .ref (h 7), .int 0])), ((h 3), .inl ((cs 9), 10, .inr (.inr (.inr (.inr (fun _ => none)))))), (o, .inl (cL, 1, .inr (.inl (fun _ => 0))))]) [0, 1, 2, 3] rfl
  have hDc := hD.sub (ws' := [((h 0), .inr (11, [.ref (h 1), .ref (h 9), .int 0, .int 0, .ref (h 20), .ref (h 37), .int 0, .ref (h 38), .ref (h 42), .ref (h 43), .ref (h 44), .ref (h 45), .ref (h 46), .ref (h 47), .ref (h 48)])), ((h 1), .inr (8, [.ref (h 2), .int 0, .ref (h 3), .ref (h 4), .int 0, .ref (h 5), .int 0, .ref (h 6), .int 0, .ref (h 7), .int 0])), ((h 3), .inl ((cs 9), 10, .inr (.inr (.inr (.inr (fun _ => none)))))), (o, .inl (cL, 1, .inr (.inl (fun _ => 0))))]) [0, 1, 2, 3] (by decide) rfl
  have hKc := hK.sub (tys' := [((cs 9), .object RX9), (cL, .long)]) [0, 1] rfl
  have hFc := va_free (wc := [((h 0), .inr (11, [.ref (h 1), .ref (h 9), .int 0, .int 0, .ref (h 20), .ref (h 37), .int 0, .ref (h 38), .ref (h 42), .ref (h 43), .ref (h 44), .ref (h 45), .ref (h 46), .ref (h 47), .ref (h 48)])), ((h 1), .inr (8, [.ref (h 2), .int 0, .ref (h 3), .ref (h 4), .int 0, .ref (h 5), .int 0, .ref (h 6), .int 0, .ref (h 7), .int 0])), ((h 3), .inl ((cs 9), 10, .inr (.inr (.inr (.inr (fun _ => none)))))), (o, .inl (cL, 1, .inr (.inl (fun _ => 0))))]) hD hS hA [0, 1, 2, 3] rfl
  refine va_calli (vx_runSW (As := [.ref (h 0), .int (xs 1), .ref o]) (rest := []) ⟨hx, hb, hml, hown, ht⟩ (k_L_write l hl0 _ D h cs (xs 1) o cL) (vx_cwSW 3 ht (zG_S zw_968 zw_969 zw_773 zw_970) rfl rfl rfl (by decide +kernel) ⟨Nat.le_of_ble_eq_true rfl, Nat.le_of_ble_eq_true rfl⟩) (zY_S hNc hEx hS hFc hPc hKc hDc) rfl rfl hl.1 rfl (lv_room (Nat.le_of_ble_eq_true rfl)) dL_law__2280 ⟨Nat.le_of_ble_eq_true rfl, Nat.le_of_ble_eq_true rfl⟩) hS (fun q _ h => hFc q h) hFc (fun r_2 u_2 t H1 locs ht0 hvm hw_2 hB hz1 hk1 hS => ?_)
  obtain ⟨g_2, hg_2, hB⟩ := hB
  obtain ⟨hP1, hK1, hD1⟩ := hB
  rw [ht0] at hP1
  have hK1 := va_K.moved hvm.symm hK1
  obtain ⟨hP, hD⟩ := va_join (wr := [((a 0), .inr (12, zMo a zI0)), ((a 1), .inl (cI, 6792, .inl zI0))]) (w1 := [(o, .inl (cL, 1, .inr (.inl g_2)))]) hP hD [0, 1, 2, 3] [4, 5] rfl rfl (by decide) (by decide) hk1 hFc hP1 hD1
  generalize H1 = H at hP hS ⊢
  have hP : va_P D vwCl [((a 0), .inr (12, zMo a zI0)), ((a 1), .inl (cI, 6792, .inl zI0)), (o, .inl (cL, 1, .inr (.inl g_2)))] H := hP
  have hD : va_D A [((a 0), .inr (12, zMo a zI0)), ((a 1), .inl (cI, 6792, .inl zI0)), (o, .inl (cL, 1, .inr (.inl g_2)))] := hD
  refine W.widen (k := 1194) (n := 188314) (Nat.le_of_ble_eq_true rfl) (Nat.le_of_ble_eq_true rfl) ?_
  refine lv_istore (lv' := [(5, .int r_2), (0, .ref b), (1, .ref (h 0)), (2, .ref (a 0)), (3, .ref o), (4, .int 0)]) hx hb dL_law__2283 hl (by decide) rfl (fun ls hl => ?_)
  refine lv_aload_n hx hb dL_law__2285 rfl (lv_at hl 3 rfl) ?_
  refine lv_aload_n hx hb dL_law__2286 rfl (lv_at hl 1 rfl) ?_
  refine lv_iload hx hb dL_law__2287 (lv_at hl 5 rfl) ?_
  refine lv_iconst (v := 1) hx hb dL_law__2289 (by decide) ?_
  refine lv_iadd hx hb dL_law__2290 ?_
  refine lv_topi (fun x_3 e_3 => ?_)
  obtain rfl : x_3 = 1 := e_3.trans (by decide)
  refine va_sld hx hb hX hbl hbA hS (by rw [hL]; exact vp_in_iff.mpr (by decide)) dL_law__2291 ?_
  refine W.eq (g2 := F0 m 2292 ls (.int (xs 1) :: .ref (a 0) :: [])) rfl ?_
  have hPc := hP.sub (ws' := [((a 0), .inr (12, zMo a zI0)), ((a 1), .inl (cI, 6792, .inl zI0))]) [0, 1] rfl
  have hDc := hD.sub (ws' := [((a 0), .inr (12, zMo a zI0)), ((a 1), .inl (cI, 6792, .inl zI0))]) [0, 1] (by decide) rfl
  have hKc := hK.sub (tys' := [(cI, .int)]) [2] rfl
  have hFc := va_free (wc := [((a 0), .inr (12, zMo a zI0)), ((a 1), .inl (cI, 6792, .inl zI0))]) hD hS hA [0, 1] rfl
  refine va_calli (va_runV (As := [.int (xs 1)]) (rest := []) ⟨hx, hb, hml, hown, ht⟩ (k_X12_write l _ D a cI (xs 1)) (cwV 1 ht (zG_V zw_971 zw_972 zw_973 zw_2 zw_974) rfl rfl rfl (by decide +kernel) ⟨Nat.le_of_ble_eq_true rfl, Nat.le_of_ble_eq_true rfl⟩) (zM_V (va_recv hK hP (ci := 12) (q0 := 0) rfl rfl) hPc hKc hDc) rfl rfl hl.1 rfl (lv_room (Nat.le_of_ble_eq_true rfl)) dL_law__2292 ⟨Nat.le_of_ble_eq_true rfl, Nat.le_of_ble_eq_true rfl⟩) hS (fun q _ h => hFc q h) hFc (fun r_4 u_4 t H1 locs ht0 hvm hw_4 hB hz1 hk1 hS => ?_)
  obtain ⟨hP1, hK1, hD1⟩ := hB
  rw [ht0] at hP1
  have hK1 := va_K.moved hvm.symm hK1
  obtain ⟨hP, hD⟩ := va_join (wr := [(o, .inl (cL, 1, .inr (.inl g_2)))]) (w1 := [((a 0), .inr (12, zMo a u_4))]) hP hD [0, 1] [2] rfl rfl (by decide) (by decide) hk1 hFc hP1 hD1
  generalize H1 = H at hP hS ⊢
  have hP : va_P D vwCl [(o, .inl (cL, 1, .inr (.inl g_2))), ((a 0), .inr (12, zMo a u_4))] H := hP
  have hD : va_D A [(o, .inl (cL, 1, .inr (.inl g_2))), ((a 0), .inr (12, zMo a u_4))] := hD
  refine lv_istore (lv' := [(6, .int r_4), (5, .int r_2), (0, .ref b), (1, .ref (h 0)), (2, .ref (a 0)), (3, .ref o), (4, .int 0)]) hx hb dL_law__2295 hl (by decide) rfl (fun ls hl => ?_)
  refine lv_aload_n hx hb dL_law__2297 rfl (lv_at hl 4 rfl) ?_
  refine vp_callSi (va_runV (As := []) (rest := []) ⟨hx, hb, hml, hown, ht⟩ (k_X12_thrown l D a u_4) (cwV 0 ht (zG_V zw_779 zw_780 zw_781 zw_2 zw_782) rfl rfl rfl (by decide +kernel) ⟨Nat.le_of_ble_eq_true rfl, Nat.le_of_ble_eq_true rfl⟩) (zR_V (va_recv hK hP (ci := 12) (q0 := 1) rfl rfl) (hP.sub (ws' := [((a 0), .inr (12, zMo a u_4))]) [1] rfl) (hK.sub (tys' := []) [] rfl)) rfl rfl hl.1 rfl (lv_room (Nat.le_of_ble_eq_true rfl)) dL_law__2298 ⟨Nat.le_of_ble_eq_true rfl, Nat.le_of_ble_eq_true rfl⟩).run (fun r_5 hw_5 => ?_)
  refine lv_iload hx hb dL_law__2301 (lv_at hl 1 rfl) ?_
  refine lv_icmp_eq (tgt := 2308) hx hb dL_law__2303 (by decide) (fun c_6 => ?_) (fun c_6 => ?_)
  · skip
    simp only [fa_lt, fa_le, fa_eq, Int32.reduceToInt] at c_6
    refine lv_iload hx hb dL_law__2308 (lv_at hl 1 rfl) ?_
    refine lv_if_ne (tgt := 2325) hx hb dL_law__2310 (by decide) (fun c_7 => ?_) (fun c_7 => ?_)
    · skip
      simp only [fa_lt, fa_le, fa_eq, Int32.reduceToInt] at c_7
      refine lv_goto (tgt := 3433) hx hb dL_law__2325 (by decide) ?_
      refine W.widen (k := 2000) (n := 400000) (Nat.le_of_ble_eq_true rfl) (Nat.le_of_ble_eq_true rfl) ?_
      exact zlaw_end hx hb hml hr hown ht hlocks hX hbl hL hAe hS (lv_sub hl [2, 6] rfl)
    · skip
      simp only [fa_lt, fa_le, fa_eq, Int32.reduceToInt] at c_7
      refine lv_aload_n hx hb dL_law__2313 rfl (lv_at hl 5 rfl) ?_
      refine lv_iconst (v := 0) hx hb dL_law__2314 (by decide) ?_
      refine va_lald hx hb hK hP 0 1 rfl rfl (vp_in_iff.mpr (by decide)) dL_law__2315 ?_
      refine W.eq (g2 := F0 m 2316 ls (.long (g_2 0) :: [])) rfl ?_
      refine lv_iload hx hb dL_law__2316 (lv_at hl 0 rfl) ?_
      refine lv_i2l (v := (r_4).toInt64) hx hb dL_law__2318 rfl ?_
      refine W.lcmp hx hb dL_law__2319 ?_
      refine lv_if_eq (tgt := 2325) hx hb dL_law__2320 (by decide) (fun c_8 => ?_) (fun c_8 => ?_)
      · skip
        refine lv_goto (tgt := 3433) hx hb dL_law__2325 (by decide) ?_
        refine W.widen (k := 2000) (n := 400000) (Nat.le_of_ble_eq_true rfl) (Nat.le_of_ble_eq_true rfl) ?_
        exact zlaw_end hx hb hml hr hown ht hlocks hX hbl hL hAe hS (lv_sub hl [2, 6] rfl)
      · skip
        simp only [fa_lt, fa_le, fa_eq, Int32.reduceToInt] at c_8
        exfalso; exact c_8 (by rw [hg_2, ← (zF_write hw_4 hw_2).2 ((zF_write hw_4 hw_2).1.trans (Int32.toInt_inj.mp (show r_2.toInt = (0 : Int32).toInt by rw [c_7]; rfl)))]; rw [zcmp_self]; rfl)
  · skip
    simp only [fa_lt, fa_le, fa_eq, Int32.reduceToInt] at c_6
    exfalso; exact c_6 (by rw [hw_5, (zF_write hw_4 hw_2).1])
set_option maxHeartbeats 4000000 in
set_option maxRecDepth 100000 in
theorem zcase_writeLaw {p : Program} {l : Launch} {e : Env} {s : State} {m : MethodId} {below : List Frame} {meth : Method} {c : Code} {b L : Nat} {xs : Nat → Int32} {A : Nat → Prop} (D : va_G) (h cs : Nat → Nat) (o : Nat) (cL : ClassId) (a : Nat → Nat) (cI : ClassId) (hx : p.tables.exec = Jvm.exec) (hb : c.code = code) (hml : c.maxLocals = 9) (hr : meth.sig.returnType = ret) (hown : s.vm.findClass RL = some m.cls) (ht : ∀ w ∈ zT, w.before #[Value.ref b] s = true) (hlocks : meth.locks = false) (hX : va_X b L xs s s.heap) (hbl : b < s.heap.size) (hL : L = 6) (hAe : ∀ q : Nat, A q ↔ s.heap.size ≤ q) (hl0 : l.stackTraces = false) (hEx : zEx A s) (hNc : zNc s) {H : Heap} {locs : List Loc} {ls : Array Slot} (hK : va_K D vwCl [((cs 4), .object RX4), (cL, .long), (cI, .int)] s) (hP : va_P D vwCl [((h 0), .inr (11, [.ref (h 1), .ref (h 9), .int 0, .int 0, .ref (h 20), .ref (h 37), .int 0, .ref (h 38), .ref (h 42), .ref (h 43), .ref (h 44), .ref (h 45), .ref (h 46), .ref (h 47), .ref (h 48)])), ((h 1), .inr (8, [.ref (h 2), .int 0, .ref (h 3), .ref (h 4), .int 0, .ref (h 5), .int 0, .ref (h 6), .int 0, .ref (h 7), .int 0])), ((h 4), .inl ((cs 4), 100, .inr (.inr (.inr (.inr (fun _ => none)))))), (o, .inl (cL, 1, .inr (.inl (fun _ => 0)))), ((a 0), .inr (12, zMo a zI0)), ((a 1), .inl (cI, 6792, .inl zI0))] H) (hD : va_D A [((h 0), .inr (11, [.ref (h 1), .ref (h 9), .int 0, .int 0, .ref (h 20), .ref (h 37), .int 0, .ref (h 38), .ref (h 42), .ref (h 43), .ref (h 44), .ref (h 45), .ref (h 46), .ref (h 47), .ref (h 48)])), ((h 1), .inr (8, [.ref (h 2), .int 0, .ref (h 3), .ref (h 4), .int 0, .ref (h 5), .int 0, .ref (h 6), .int 0, .ref (h 7), .int 0])), ((h 4), .inl ((cs 4), 100, .inr (.inr (.inr (.inr (fun _ => none)))))), (o, .inl (cL, 1, .inr (.inl (fun _ => 0)))), ((a 0), .inr (12, zMo a zI0)), ((a 1), .inl (cI, 6792, .inl zI0))]) (hS : va_S A s.heap H locs) (hl : lv_has ls 9 [(0, .ref b), (1, .ref (h 0)), (2, .ref (a 0)), (3, .ref o), (4, .int 0)]) : W p l e room_1 s m #[Value.ref b] below meth c H locs 1192 188302 (lw_Z below #[Value.ref b] s) (F0 m 2328 ls []) := by
  have hbA : ¬ A b := fun h => Nat.not_le.mpr hbl ((hAe b).mp h)
  have hA : ∀ q : Nat, s.heap.size ≤ q → A q := fun q h => (hAe q).mpr h
  refine lv_aload_n hx hb dL_law__2328 rfl (lv_at hl 1 rfl) ?_
  refine lv_aload_n hx hb dL_law__2329 rfl (lv_at hl 0 rfl) ?_
  refine lv_iload hx hb dL_law__2330 (lv_at hl 4 rfl) ?_
  refine lv_iconst (v := 1) hx hb dL_law__2332 (by decide) ?_
  refine lv_iadd hx hb dL_law__2333 ?_
  refine lv_topi (fun x_1 e_1 => ?_)
  obtain rfl : x_1 = 1 := e_1.trans (by decide)
  refine va_sld hx hb hX hbl hbA hS (by rw [hL]; exact vp_in_iff.mpr (by decide)) dL_law__2334 ?_
  refine W.eq (g2 := F0 m 2335 ls (.int (xs 1) :: .ref (h 0) :: [])) rfl ?_
  refine lv_aload_n hx hb dL_law__2335 rfl (lv_at hl 3 rfl) ?_
  have hPc := hP.sub (ws' := [((h 0), .inr (11, [.ref (h 1), .ref (h 9), .int 0, .int 0, .ref (h 20), .ref (h 37), .int 0, .ref (h 38), .ref (h 42), .ref (h 43), .ref (h 44), .ref (h 45), .ref (h 46), .ref (h 47), .ref (h 48)])), ((h 1), .inr (8, [.ref (h 2), .int 0, .ref (h 3), .ref (h 4), .int 0, .ref (h 5), .int 0, .ref (h 6), .int 0, .ref (h 7), .int 0])), ((h 4), .inl ((cs 4), 100, .inr (.inr (.inr (.inr (fun _ => none)))))), (o, .inl (cL, 1, .inr (.inl (fun _ => 0))))]) [0, 1, 2, 3] rfl
  have hDc := hD.sub (ws' := [((h 0), .inr (11, [.ref (h 1), .ref (h 9), .int 0, .int 0, .ref (h 20), .ref (h 37), .int 0, .ref (h 38), .ref (h 42), .ref (h 43), .ref (h 44), .ref (h 45), .ref (h 46), .ref (h 47), .ref (h 48)])), ((h 1), .inr (8, [.ref (h 2), .int 0, .ref (h 3), .ref (h 4), .int 0, .ref (h 5), .int 0, .ref (h 6), .int 0, .ref (h 7), .int 0])), ((h 4), .inl ((cs 4), 100, .inr (.inr (.inr (.inr (fun _ => none)))))), (o, .inl (cL, 1, .inr (.inl (fun _ => 0))))]) [0, 1, 2, 3] (by decide) rfl
  have hKc := hK.sub (tys' := [((cs 4), .object RX4), (cL, .long)]) [0, 1] rfl
  have hFc := va_free (wc := [((h 0), .inr (11, [.ref (h 1), .ref (h 9), .int 0, .int 0, .ref (h 20), .ref (h 37), .int 0, .ref (h 38), .ref (h 42), .ref (h 43), .ref (h 44), .ref (h 45), .ref (h 46), .ref (h 47), .ref (h 48)])), ((h 1), .inr (8, [.ref (h 2), .int 0, .ref (h 3), .ref (h 4), .int 0, .ref (h 5), .int 0, .ref (h 6), .int 0, .ref (h 7), .int 0])), ((h 4), .inl ((cs 4), 100, .inr (.inr (.inr (.inr (fun _ => none)))))), (o, .inl (cL, 1, .inr (.inl (fun _ => 0))))]) hD hS hA [0, 1, 2, 3] rfl
  refine va_calli (vx_runSW (As := [.ref (h 0), .int (xs 1), .ref o]) (rest := []) ⟨hx, hb, hml, hown, ht⟩ (k_L_writeLaw l hl0 _ D h cs (xs 1) o cL) (vx_cwSW 3 ht (zG_S zw_975 zw_976 zw_773 zw_977) rfl rfl rfl (by decide +kernel) ⟨Nat.le_of_ble_eq_true rfl, Nat.le_of_ble_eq_true rfl⟩) (zY_S hNc hEx hS hFc hPc hKc hDc) rfl rfl hl.1 rfl (lv_room (Nat.le_of_ble_eq_true rfl)) dL_law__2336 ⟨Nat.le_of_ble_eq_true rfl, Nat.le_of_ble_eq_true rfl⟩) hS (fun q _ h => hFc q h) hFc (fun r_2 u_2 t H1 locs ht0 hvm hw_2 hB hz1 hk1 hS => ?_)
  obtain ⟨g_2, hg_2, hB⟩ := hB
  obtain ⟨hP1, hK1, hD1⟩ := hB
  rw [ht0] at hP1
  have hK1 := va_K.moved hvm.symm hK1
  obtain ⟨hP, hD⟩ := va_join (wr := [((a 0), .inr (12, zMo a zI0)), ((a 1), .inl (cI, 6792, .inl zI0))]) (w1 := [(o, .inl (cL, 1, .inr (.inl g_2)))]) hP hD [0, 1, 2, 3] [4, 5] rfl rfl (by decide) (by decide) hk1 hFc hP1 hD1
  generalize H1 = H at hP hS ⊢
  have hP : va_P D vwCl [((a 0), .inr (12, zMo a zI0)), ((a 1), .inl (cI, 6792, .inl zI0)), (o, .inl (cL, 1, .inr (.inl g_2)))] H := hP
  have hD : va_D A [((a 0), .inr (12, zMo a zI0)), ((a 1), .inl (cI, 6792, .inl zI0)), (o, .inl (cL, 1, .inr (.inl g_2)))] := hD
  refine W.widen (k := 1193) (n := 188308) (Nat.le_of_ble_eq_true rfl) (Nat.le_of_ble_eq_true rfl) ?_
  refine lv_istore (lv' := [(5, .int r_2), (0, .ref b), (1, .ref (h 0)), (2, .ref (a 0)), (3, .ref o), (4, .int 0)]) hx hb dL_law__2339 hl (by decide) rfl (fun ls hl => ?_)
  refine lv_aload_n hx hb dL_law__2341 rfl (lv_at hl 3 rfl) ?_
  refine lv_aload_n hx hb dL_law__2342 rfl (lv_at hl 1 rfl) ?_
  refine lv_iload hx hb dL_law__2343 (lv_at hl 5 rfl) ?_
  refine lv_iconst (v := 1) hx hb dL_law__2345 (by decide) ?_
  refine lv_iadd hx hb dL_law__2346 ?_
  refine lv_topi (fun x_3 e_3 => ?_)
  obtain rfl : x_3 = 1 := e_3.trans (by decide)
  refine va_sld hx hb hX hbl hbA hS (by rw [hL]; exact vp_in_iff.mpr (by decide)) dL_law__2347 ?_
  refine W.eq (g2 := F0 m 2348 ls (.int (xs 1) :: .ref (a 0) :: [])) rfl ?_
  have hPc := hP.sub (ws' := [((a 0), .inr (12, zMo a zI0)), ((a 1), .inl (cI, 6792, .inl zI0))]) [0, 1] rfl
  have hDc := hD.sub (ws' := [((a 0), .inr (12, zMo a zI0)), ((a 1), .inl (cI, 6792, .inl zI0))]) [0, 1] (by decide) rfl
  have hKc := hK.sub (tys' := [(cI, .int)]) [2] rfl
  have hFc := va_free (wc := [((a 0), .inr (12, zMo a zI0)), ((a 1), .inl (cI, 6792, .inl zI0))]) hD hS hA [0, 1] rfl
  refine va_calli (va_runV (As := [.int (xs 1)]) (rest := []) ⟨hx, hb, hml, hown, ht⟩ (k_X12_writeLaw l _ D a cI (xs 1)) (cwV 1 ht (zG_V zw_978 zw_979 zw_980 zw_2 zw_981) rfl rfl rfl (by decide +kernel) ⟨Nat.le_of_ble_eq_true rfl, Nat.le_of_ble_eq_true rfl⟩) (zM_V (va_recv hK hP (ci := 12) (q0 := 0) rfl rfl) hPc hKc hDc) rfl rfl hl.1 rfl (lv_room (Nat.le_of_ble_eq_true rfl)) dL_law__2348 ⟨Nat.le_of_ble_eq_true rfl, Nat.le_of_ble_eq_true rfl⟩) hS (fun q _ h => hFc q h) hFc (fun r_4 u_4 t H1 locs ht0 hvm hw_4 hB hz1 hk1 hS => ?_)
  obtain ⟨hP1, hK1, hD1⟩ := hB
  rw [ht0] at hP1
  have hK1 := va_K.moved hvm.symm hK1
  obtain ⟨hP, hD⟩ := va_join (wr := [(o, .inl (cL, 1, .inr (.inl g_2)))]) (w1 := [((a 0), .inr (12, zMo a u_4))]) hP hD [0, 1] [2] rfl rfl (by decide) (by decide) hk1 hFc hP1 hD1
  generalize H1 = H at hP hS ⊢
  have hP : va_P D vwCl [(o, .inl (cL, 1, .inr (.inl g_2))), ((a 0), .inr (12, zMo a u_4))] H := hP
  have hD : va_D A [(o, .inl (cL, 1, .inr (.inl g_2))), ((a 0), .inr (12, zMo a u_4))] := hD
  refine lv_istore (lv' := [(6, .int r_4), (5, .int r_2), (0, .ref b), (1, .ref (h 0)), (2, .ref (a 0)), (3, .ref o), (4, .int 0)]) hx hb dL_law__2351 hl (by decide) rfl (fun ls hl => ?_)
  refine lv_aload_n hx hb dL_law__2353 rfl (lv_at hl 4 rfl) ?_
  refine vp_callSi (va_runV (As := []) (rest := []) ⟨hx, hb, hml, hown, ht⟩ (k_X12_thrown l D a u_4) (cwV 0 ht (zG_V zw_779 zw_780 zw_781 zw_2 zw_782) rfl rfl rfl (by decide +kernel) ⟨Nat.le_of_ble_eq_true rfl, Nat.le_of_ble_eq_true rfl⟩) (zR_V (va_recv hK hP (ci := 12) (q0 := 1) rfl rfl) (hP.sub (ws' := [((a 0), .inr (12, zMo a u_4))]) [1] rfl) (hK.sub (tys' := []) [] rfl)) rfl rfl hl.1 rfl (lv_room (Nat.le_of_ble_eq_true rfl)) dL_law__2354 ⟨Nat.le_of_ble_eq_true rfl, Nat.le_of_ble_eq_true rfl⟩).run (fun r_5 hw_5 => ?_)
  refine lv_iload hx hb dL_law__2357 (lv_at hl 1 rfl) ?_
  refine lv_icmp_eq (tgt := 2364) hx hb dL_law__2359 (by decide) (fun c_6 => ?_) (fun c_6 => ?_)
  · skip
    simp only [fa_lt, fa_le, fa_eq, Int32.reduceToInt] at c_6
    refine lv_iload hx hb dL_law__2364 (lv_at hl 1 rfl) ?_
    refine lv_if_ne (tgt := 2381) hx hb dL_law__2366 (by decide) (fun c_7 => ?_) (fun c_7 => ?_)
    · skip
      simp only [fa_lt, fa_le, fa_eq, Int32.reduceToInt] at c_7
      refine lv_goto (tgt := 3433) hx hb dL_law__2381 (by decide) ?_
      refine W.widen (k := 2000) (n := 400000) (Nat.le_of_ble_eq_true rfl) (Nat.le_of_ble_eq_true rfl) ?_
      exact zlaw_end hx hb hml hr hown ht hlocks hX hbl hL hAe hS (lv_sub hl [2, 6] rfl)
    · skip
      simp only [fa_lt, fa_le, fa_eq, Int32.reduceToInt] at c_7
      refine lv_aload_n hx hb dL_law__2369 rfl (lv_at hl 5 rfl) ?_
      refine lv_iconst (v := 0) hx hb dL_law__2370 (by decide) ?_
      refine va_lald hx hb hK hP 0 1 rfl rfl (vp_in_iff.mpr (by decide)) dL_law__2371 ?_
      refine W.eq (g2 := F0 m 2372 ls (.long (g_2 0) :: [])) rfl ?_
      refine lv_iload hx hb dL_law__2372 (lv_at hl 0 rfl) ?_
      refine lv_i2l (v := (r_4).toInt64) hx hb dL_law__2374 rfl ?_
      refine W.lcmp hx hb dL_law__2375 ?_
      refine lv_if_eq (tgt := 2381) hx hb dL_law__2376 (by decide) (fun c_8 => ?_) (fun c_8 => ?_)
      · skip
        refine lv_goto (tgt := 3433) hx hb dL_law__2381 (by decide) ?_
        refine W.widen (k := 2000) (n := 400000) (Nat.le_of_ble_eq_true rfl) (Nat.le_of_ble_eq_true rfl) ?_
        exact zlaw_end hx hb hml hr hown ht hlocks hX hbl hL hAe hS (lv_sub hl [2, 6] rfl)
      · skip
        simp only [fa_lt, fa_le, fa_eq, Int32.reduceToInt] at c_8
        exfalso; exact c_8 (by rw [hg_2, ← (zF_writeLaw hw_4 hw_2).2 ((zF_writeLaw hw_4 hw_2).1.trans (Int32.toInt_inj.mp (show r_2.toInt = (0 : Int32).toInt by rw [c_7]; rfl)))]; rw [zcmp_self]; rfl)
  · skip
    simp only [fa_lt, fa_le, fa_eq, Int32.reduceToInt] at c_6
    exfalso; exact c_6 (by rw [hw_5, (zF_writeLaw hw_4 hw_2).1])
set_option maxHeartbeats 4000000 in
set_option maxRecDepth 100000 in
theorem zcase_outputAt {p : Program} {l : Launch} {e : Env} {s : State} {m : MethodId} {below : List Frame} {meth : Method} {c : Code} {b L : Nat} {xs : Nat → Int32} {A : Nat → Prop} (D : va_G) (h cs : Nat → Nat) (o : Nat) (cL : ClassId) (a : Nat → Nat) (cI : ClassId) (hx : p.tables.exec = Jvm.exec) (hb : c.code = code) (hml : c.maxLocals = 9) (hr : meth.sig.returnType = ret) (hown : s.vm.findClass RL = some m.cls) (ht : ∀ w ∈ zT, w.before #[Value.ref b] s = true) (hlocks : meth.locks = false) (hX : va_X b L xs s s.heap) (hbl : b < s.heap.size) (hL : L = 6) (hAe : ∀ q : Nat, A q ↔ s.heap.size ≤ q) (hl0 : l.stackTraces = false) (hEx : zEx A s) (hNc : zNc s) {H : Heap} {locs : List Loc} {ls : Array Slot} (hK : va_K D vwCl [(cL, .long), (cI, .int)] s) (hP : va_P D vwCl [((h 0), .inr (11, [.ref (h 1), .ref (h 9), .int 0, .int 0, .ref (h 20), .ref (h 37), .int 0, .ref (h 38), .ref (h 42), .ref (h 43), .ref (h 44), .ref (h 45), .ref (h 46), .ref (h 47), .ref (h 48)])), ((h 42), .inr (10, [.ref (h 81), .int 0, .ref (h 82), .int 0, .ref (h 83), .int 0, .int 0])), (o, .inl (cL, 1, .inr (.inl (fun _ => 0)))), ((a 0), .inr (12, zMo a zI0)), ((a 1), .inl (cI, 6792, .inl zI0))] H) (hD : va_D A [((h 0), .inr (11, [.ref (h 1), .ref (h 9), .int 0, .int 0, .ref (h 20), .ref (h 37), .int 0, .ref (h 38), .ref (h 42), .ref (h 43), .ref (h 44), .ref (h 45), .ref (h 46), .ref (h 47), .ref (h 48)])), ((h 42), .inr (10, [.ref (h 81), .int 0, .ref (h 82), .int 0, .ref (h 83), .int 0, .int 0])), (o, .inl (cL, 1, .inr (.inl (fun _ => 0)))), ((a 0), .inr (12, zMo a zI0)), ((a 1), .inl (cI, 6792, .inl zI0))]) (hS : va_S A s.heap H locs) (hl : lv_has ls 9 [(0, .ref b), (1, .ref (h 0)), (2, .ref (a 0)), (3, .ref o), (4, .int 0)]) : W p l e room_1 s m #[Value.ref b] below meth c H locs 1192 188302 (lw_Z below #[Value.ref b] s) (F0 m 2384 ls []) := by
  have hbA : ¬ A b := fun h => Nat.not_le.mpr hbl ((hAe b).mp h)
  have hA : ∀ q : Nat, s.heap.size ≤ q → A q := fun q h => (hAe q).mpr h
  refine lv_aload_n hx hb dL_law__2384 rfl (lv_at hl 1 rfl) ?_
  refine lv_aload_n hx hb dL_law__2385 rfl (lv_at hl 0 rfl) ?_
  refine lv_iload hx hb dL_law__2386 (lv_at hl 4 rfl) ?_
  refine lv_iconst (v := 1) hx hb dL_law__2388 (by decide) ?_
  refine lv_iadd hx hb dL_law__2389 ?_
  refine lv_topi (fun x_1 e_1 => ?_)
  obtain rfl : x_1 = 1 := e_1.trans (by decide)
  refine va_sld hx hb hX hbl hbA hS (by rw [hL]; exact vp_in_iff.mpr (by decide)) dL_law__2390 ?_
  refine W.eq (g2 := F0 m 2391 ls (.int (xs 1) :: .ref (h 0) :: [])) rfl ?_
  refine lv_aload_n hx hb dL_law__2391 rfl (lv_at hl 3 rfl) ?_
  have hPc := hP.sub (ws' := [((h 0), .inr (11, [.ref (h 1), .ref (h 9), .int 0, .int 0, .ref (h 20), .ref (h 37), .int 0, .ref (h 38), .ref (h 42), .ref (h 43), .ref (h 44), .ref (h 45), .ref (h 46), .ref (h 47), .ref (h 48)])), ((h 42), .inr (10, [.ref (h 81), .int 0, .ref (h 82), .int 0, .ref (h 83), .int 0, .int 0])), (o, .inl (cL, 1, .inr (.inl (fun _ => 0))))]) [0, 1, 2] rfl
  have hDc := hD.sub (ws' := [((h 0), .inr (11, [.ref (h 1), .ref (h 9), .int 0, .int 0, .ref (h 20), .ref (h 37), .int 0, .ref (h 38), .ref (h 42), .ref (h 43), .ref (h 44), .ref (h 45), .ref (h 46), .ref (h 47), .ref (h 48)])), ((h 42), .inr (10, [.ref (h 81), .int 0, .ref (h 82), .int 0, .ref (h 83), .int 0, .int 0])), (o, .inl (cL, 1, .inr (.inl (fun _ => 0))))]) [0, 1, 2] (by decide) rfl
  have hKc := hK.sub (tys' := [(cL, .long)]) [0] rfl
  have hFc := va_free (wc := [((h 0), .inr (11, [.ref (h 1), .ref (h 9), .int 0, .int 0, .ref (h 20), .ref (h 37), .int 0, .ref (h 38), .ref (h 42), .ref (h 43), .ref (h 44), .ref (h 45), .ref (h 46), .ref (h 47), .ref (h 48)])), ((h 42), .inr (10, [.ref (h 81), .int 0, .ref (h 82), .int 0, .ref (h 83), .int 0, .int 0])), (o, .inl (cL, 1, .inr (.inl (fun _ => 0))))]) hD hS hA [0, 1, 2] rfl
  refine va_calli (vx_runSW (As := [.ref (h 0), .int (xs 1), .ref o]) (rest := []) ⟨hx, hb, hml, hown, ht⟩ (k_L_outputAt l hl0 _ D h cs (xs 1) o cL) (vx_cwSW 3 ht (zG_S zw_982 zw_983 zw_773 zw_984) rfl rfl rfl (by decide +kernel) ⟨Nat.le_of_ble_eq_true rfl, Nat.le_of_ble_eq_true rfl⟩) (zY_S hNc hEx hS hFc hPc hKc hDc) rfl rfl hl.1 rfl (lv_room (Nat.le_of_ble_eq_true rfl)) dL_law__2392 ⟨Nat.le_of_ble_eq_true rfl, Nat.le_of_ble_eq_true rfl⟩) hS (fun q _ h => hFc q h) hFc (fun r_2 u_2 t H1 locs ht0 hvm hw_2 hB hz1 hk1 hS => ?_)
  obtain ⟨g_2, hg_2, hB⟩ := hB
  obtain ⟨hP1, hK1, hD1⟩ := hB
  rw [ht0] at hP1
  have hK1 := va_K.moved hvm.symm hK1
  obtain ⟨hP, hD⟩ := va_join (wr := [((a 0), .inr (12, zMo a zI0)), ((a 1), .inl (cI, 6792, .inl zI0))]) (w1 := [(o, .inl (cL, 1, .inr (.inl g_2)))]) hP hD [0, 1, 2] [3, 4] rfl rfl (by decide) (by decide) hk1 hFc hP1 hD1
  generalize H1 = H at hP hS ⊢
  have hP : va_P D vwCl [((a 0), .inr (12, zMo a zI0)), ((a 1), .inl (cI, 6792, .inl zI0)), (o, .inl (cL, 1, .inr (.inl g_2)))] H := hP
  have hD : va_D A [((a 0), .inr (12, zMo a zI0)), ((a 1), .inl (cI, 6792, .inl zI0)), (o, .inl (cL, 1, .inr (.inl g_2)))] := hD
  refine W.widen (k := 1193) (n := 188308) (Nat.le_of_ble_eq_true rfl) (Nat.le_of_ble_eq_true rfl) ?_
  refine lv_istore (lv' := [(5, .int r_2), (0, .ref b), (1, .ref (h 0)), (2, .ref (a 0)), (3, .ref o), (4, .int 0)]) hx hb dL_law__2395 hl (by decide) rfl (fun ls hl => ?_)
  refine lv_aload_n hx hb dL_law__2397 rfl (lv_at hl 3 rfl) ?_
  refine lv_aload_n hx hb dL_law__2398 rfl (lv_at hl 1 rfl) ?_
  refine lv_iload hx hb dL_law__2399 (lv_at hl 5 rfl) ?_
  refine lv_iconst (v := 1) hx hb dL_law__2401 (by decide) ?_
  refine lv_iadd hx hb dL_law__2402 ?_
  refine lv_topi (fun x_3 e_3 => ?_)
  obtain rfl : x_3 = 1 := e_3.trans (by decide)
  refine va_sld hx hb hX hbl hbA hS (by rw [hL]; exact vp_in_iff.mpr (by decide)) dL_law__2403 ?_
  refine W.eq (g2 := F0 m 2404 ls (.int (xs 1) :: .ref (a 0) :: [])) rfl ?_
  have hPc := hP.sub (ws' := [((a 0), .inr (12, zMo a zI0)), ((a 1), .inl (cI, 6792, .inl zI0))]) [0, 1] rfl
  have hDc := hD.sub (ws' := [((a 0), .inr (12, zMo a zI0)), ((a 1), .inl (cI, 6792, .inl zI0))]) [0, 1] (by decide) rfl
  have hKc := hK.sub (tys' := [(cI, .int)]) [1] rfl
  have hFc := va_free (wc := [((a 0), .inr (12, zMo a zI0)), ((a 1), .inl (cI, 6792, .inl zI0))]) hD hS hA [0, 1] rfl
  refine va_calli (va_runV (As := [.int (xs 1)]) (rest := []) ⟨hx, hb, hml, hown, ht⟩ (k_X12_outputAt l _ D a cI (xs 1)) (cwV 1 ht (zG_V zw_985 zw_986 zw_987 zw_2 zw_988) rfl rfl rfl (by decide +kernel) ⟨Nat.le_of_ble_eq_true rfl, Nat.le_of_ble_eq_true rfl⟩) (zM_V (va_recv hK hP (ci := 12) (q0 := 0) rfl rfl) hPc hKc hDc) rfl rfl hl.1 rfl (lv_room (Nat.le_of_ble_eq_true rfl)) dL_law__2404 ⟨Nat.le_of_ble_eq_true rfl, Nat.le_of_ble_eq_true rfl⟩) hS (fun q _ h => hFc q h) hFc (fun r_4 u_4 t H1 locs ht0 hvm hw_4 hB hz1 hk1 hS => ?_)
  obtain ⟨hP1, hK1, hD1⟩ := hB
  rw [ht0] at hP1
  have hK1 := va_K.moved hvm.symm hK1
  obtain ⟨hP, hD⟩ := va_join (wr := [(o, .inl (cL, 1, .inr (.inl g_2)))]) (w1 := [((a 0), .inr (12, zMo a u_4))]) hP hD [0, 1] [2] rfl rfl (by decide) (by decide) hk1 hFc hP1 hD1
  generalize H1 = H at hP hS ⊢
  have hP : va_P D vwCl [(o, .inl (cL, 1, .inr (.inl g_2))), ((a 0), .inr (12, zMo a u_4))] H := hP
  have hD : va_D A [(o, .inl (cL, 1, .inr (.inl g_2))), ((a 0), .inr (12, zMo a u_4))] := hD
  refine lv_istore (lv' := [(6, .int r_4), (5, .int r_2), (0, .ref b), (1, .ref (h 0)), (2, .ref (a 0)), (3, .ref o), (4, .int 0)]) hx hb dL_law__2407 hl (by decide) rfl (fun ls hl => ?_)
  refine lv_aload_n hx hb dL_law__2409 rfl (lv_at hl 4 rfl) ?_
  refine vp_callSi (va_runV (As := []) (rest := []) ⟨hx, hb, hml, hown, ht⟩ (k_X12_thrown l D a u_4) (cwV 0 ht (zG_V zw_779 zw_780 zw_781 zw_2 zw_782) rfl rfl rfl (by decide +kernel) ⟨Nat.le_of_ble_eq_true rfl, Nat.le_of_ble_eq_true rfl⟩) (zR_V (va_recv hK hP (ci := 12) (q0 := 1) rfl rfl) (hP.sub (ws' := [((a 0), .inr (12, zMo a u_4))]) [1] rfl) (hK.sub (tys' := []) [] rfl)) rfl rfl hl.1 rfl (lv_room (Nat.le_of_ble_eq_true rfl)) dL_law__2410 ⟨Nat.le_of_ble_eq_true rfl, Nat.le_of_ble_eq_true rfl⟩).run (fun r_5 hw_5 => ?_)
  refine lv_iload hx hb dL_law__2413 (lv_at hl 1 rfl) ?_
  refine lv_icmp_eq (tgt := 2420) hx hb dL_law__2415 (by decide) (fun c_6 => ?_) (fun c_6 => ?_)
  · skip
    simp only [fa_lt, fa_le, fa_eq, Int32.reduceToInt] at c_6
    refine lv_iload hx hb dL_law__2420 (lv_at hl 1 rfl) ?_
    refine lv_if_ne (tgt := 2437) hx hb dL_law__2422 (by decide) (fun c_7 => ?_) (fun c_7 => ?_)
    · skip
      simp only [fa_lt, fa_le, fa_eq, Int32.reduceToInt] at c_7
      refine lv_goto (tgt := 3433) hx hb dL_law__2437 (by decide) ?_
      refine W.widen (k := 2000) (n := 400000) (Nat.le_of_ble_eq_true rfl) (Nat.le_of_ble_eq_true rfl) ?_
      exact zlaw_end hx hb hml hr hown ht hlocks hX hbl hL hAe hS (lv_sub hl [2, 6] rfl)
    · skip
      simp only [fa_lt, fa_le, fa_eq, Int32.reduceToInt] at c_7
      refine lv_aload_n hx hb dL_law__2425 rfl (lv_at hl 5 rfl) ?_
      refine lv_iconst (v := 0) hx hb dL_law__2426 (by decide) ?_
      refine va_lald hx hb hK hP 0 0 rfl rfl (vp_in_iff.mpr (by decide)) dL_law__2427 ?_
      refine W.eq (g2 := F0 m 2428 ls (.long (g_2 0) :: [])) rfl ?_
      refine lv_iload hx hb dL_law__2428 (lv_at hl 0 rfl) ?_
      refine lv_i2l (v := (r_4).toInt64) hx hb dL_law__2430 rfl ?_
      refine W.lcmp hx hb dL_law__2431 ?_
      refine lv_if_eq (tgt := 2437) hx hb dL_law__2432 (by decide) (fun c_8 => ?_) (fun c_8 => ?_)
      · skip
        refine lv_goto (tgt := 3433) hx hb dL_law__2437 (by decide) ?_
        refine W.widen (k := 2000) (n := 400000) (Nat.le_of_ble_eq_true rfl) (Nat.le_of_ble_eq_true rfl) ?_
        exact zlaw_end hx hb hml hr hown ht hlocks hX hbl hL hAe hS (lv_sub hl [2, 6] rfl)
      · skip
        simp only [fa_lt, fa_le, fa_eq, Int32.reduceToInt] at c_8
        exfalso; exact c_8 (by rw [hg_2, ← (zF_outputAt hw_4 hw_2).2 ((zF_outputAt hw_4 hw_2).1.trans (Int32.toInt_inj.mp (show r_2.toInt = (0 : Int32).toInt by rw [c_7]; rfl)))]; rw [zcmp_self]; rfl)
  · skip
    simp only [fa_lt, fa_le, fa_eq, Int32.reduceToInt] at c_6
    exfalso; exact c_6 (by rw [hw_5, (zF_outputAt hw_4 hw_2).1])
set_option maxHeartbeats 4000000 in
set_option maxRecDepth 100000 in
theorem zcase_signs {p : Program} {l : Launch} {e : Env} {s : State} {m : MethodId} {below : List Frame} {meth : Method} {c : Code} {b L : Nat} {xs : Nat → Int32} {A : Nat → Prop} (D : va_G) (h cs : Nat → Nat) (a : Nat → Nat) (cI : ClassId) (o : Nat) (hx : p.tables.exec = Jvm.exec) (hb : c.code = code) (hml : c.maxLocals = 9) (hr : meth.sig.returnType = ret) (hown : s.vm.findClass RL = some m.cls) (ht : ∀ w ∈ zT, w.before #[Value.ref b] s = true) (hlocks : meth.locks = false) (hX : va_X b L xs s s.heap) (hbl : b < s.heap.size) (hL : L = 6) (hAe : ∀ q : Nat, A q ↔ s.heap.size ≤ q) (hl0 : l.stackTraces = false) (hEx : zEx A s) (hNc : zNc s) {H : Heap} {locs : List Loc} {ls : Array Slot} (hK : va_K D vwCl [(cI, .int)] s) (hP : va_P D vwCl [((h 0), .inr (11, [.ref (h 1), .ref (h 9), .int 0, .int 0, .ref (h 20), .ref (h 37), .int 0, .ref (h 38), .ref (h 42), .ref (h 43), .ref (h 44), .ref (h 45), .ref (h 46), .ref (h 47), .ref (h 48)])), ((h 1), .inr (8, [.ref (h 2), .int 0, .ref (h 3), .ref (h 4), .int 0, .ref (h 5), .int 0, .ref (h 6), .int 0, .ref (h 7), .int 0])), ((a 0), .inr (12, zMo a zI0)), ((a 1), .inl (cI, 6792, .inl zI0))] H) (hD : va_D A [((h 0), .inr (11, [.ref (h 1), .ref (h 9), .int 0, .int 0, .ref (h 20), .ref (h 37), .int 0, .ref (h 38), .ref (h 42), .ref (h 43), .ref (h 44), .ref (h 45), .ref (h 46), .ref (h 47), .ref (h 48)])), ((h 1), .inr (8, [.ref (h 2), .int 0, .ref (h 3), .ref (h 4), .int 0, .ref (h 5), .int 0, .ref (h 6), .int 0, .ref (h 7), .int 0])), ((a 0), .inr (12, zMo a zI0)), ((a 1), .inl (cI, 6792, .inl zI0))]) (hS : va_S A s.heap H locs) (hl : lv_has ls 9 [(0, .ref b), (1, .ref (h 0)), (2, .ref (a 0)), (3, .ref o), (4, .int 0)]) : W p l e room_1 s m #[Value.ref b] below meth c H locs 1192 188302 (lw_Z below #[Value.ref b] s) (F0 m 2440 ls []) := by
  have hbA : ¬ A b := fun h => Nat.not_le.mpr hbl ((hAe b).mp h)
  have hA : ∀ q : Nat, s.heap.size ≤ q → A q := fun q h => (hAe q).mpr h
  refine lv_aload_n hx hb dL_law__2440 rfl (lv_at hl 1 rfl) ?_
  have hPc := hP.sub (ws' := [((h 0), .inr (11, [.ref (h 1), .ref (h 9), .int 0, .int 0, .ref (h 20), .ref (h 37), .int 0, .ref (h 38), .ref (h 42), .ref (h 43), .ref (h 44), .ref (h 45), .ref (h 46), .ref (h 47), .ref (h 48)])), ((h 1), .inr (8, [.ref (h 2), .int 0, .ref (h 3), .ref (h 4), .int 0, .ref (h 5), .int 0, .ref (h 6), .int 0, .ref (h 7), .int 0]))]) [0, 1] rfl
  have hDc := hD.sub (ws' := [((h 0), .inr (11, [.ref (h 1), .ref (h 9), .int 0, .int 0, .ref (h 20), .ref (h 37), .int 0, .ref (h 38), .ref (h 42), .ref (h 43), .ref (h 44), .ref (h 45), .ref (h 46), .ref (h 47), .ref (h 48)])), ((h 1), .inr (8, [.ref (h 2), .int 0, .ref (h 3), .ref (h 4), .int 0, .ref (h 5), .int 0, .ref (h 6), .int 0, .ref (h 7), .int 0]))]) [0, 1] (by decide) rfl
  have hKc := hK.sub (tys' := []) [] rfl
  have hFc := va_free (wc := [((h 0), .inr (11, [.ref (h 1), .ref (h 9), .int 0, .int 0, .ref (h 20), .ref (h 37), .int 0, .ref (h 38), .ref (h 42), .ref (h 43), .ref (h 44), .ref (h 45), .ref (h 46), .ref (h 47), .ref (h 48)])), ((h 1), .inr (8, [.ref (h 2), .int 0, .ref (h 3), .ref (h 4), .int 0, .ref (h 5), .int 0, .ref (h 6), .int 0, .ref (h 7), .int 0]))]) hD hS hA [0, 1] rfl
  refine va_calli (va_runV (As := []) (rest := []) ⟨hx, hb, hml, hown, ht⟩ (k_X11_signs l _ D h cs) (cwV 0 ht (zG_V zw_989 zw_990 zw_991 zw_404 zw_992) rfl rfl rfl (by decide +kernel) ⟨Nat.le_of_ble_eq_true rfl, Nat.le_of_ble_eq_true rfl⟩) (zM_V (va_recv hK hP (ci := 11) (q0 := 0) rfl rfl) hPc hKc hDc) rfl rfl hl.1 rfl (lv_room (Nat.le_of_ble_eq_true rfl)) dL_law__2441 ⟨Nat.le_of_ble_eq_true rfl, Nat.le_of_ble_eq_true rfl⟩) hS (fun q _ h => hFc q h) hFc (fun r_1 u_1 t H1 locs ht0 hvm hw_1 hB hz1 hk1 hS => ?_)
  obtain ⟨hP1, hK1, hD1⟩ := hB
  rw [ht0] at hP1
  have hK1 := va_K.moved hvm.symm hK1
  obtain ⟨hP, hD⟩ := va_join (wr := [((a 0), .inr (12, zMo a zI0)), ((a 1), .inl (cI, 6792, .inl zI0))]) (w1 := []) hP hD [0, 1] [2, 3] rfl rfl (by decide) (by decide) hk1 hFc hP1 hD1
  generalize H1 = H at hP hS ⊢
  have hP : va_P D vwCl [((a 0), .inr (12, zMo a zI0)), ((a 1), .inl (cI, 6792, .inl zI0))] H := hP
  have hD : va_D A [((a 0), .inr (12, zMo a zI0)), ((a 1), .inl (cI, 6792, .inl zI0))] := hD
  obtain rfl : r_1 = 0 := hw_1
  refine lv_aload_n hx hb dL_law__2444 rfl (lv_at hl 2 rfl) ?_
  have hPc := hP.sub (ws' := [((a 0), .inr (12, zMo a zI0)), ((a 1), .inl (cI, 6792, .inl zI0))]) [0, 1] rfl
  have hDc := hD.sub (ws' := [((a 0), .inr (12, zMo a zI0)), ((a 1), .inl (cI, 6792, .inl zI0))]) [0, 1] (by decide) rfl
  have hKc := hK.sub (tys' := [(cI, .int)]) [0] rfl
  have hFc := va_free (wc := [((a 0), .inr (12, zMo a zI0)), ((a 1), .inl (cI, 6792, .inl zI0))]) hD hS hA [0, 1] rfl
  refine va_calli (va_runV (As := []) (rest := [.int 0]) ⟨hx, hb, hml, hown, ht⟩ (k_X12_signs l _ D a cI) (cwV 0 ht (zG_V zw_993 zw_994 zw_995 zw_2 zw_996) rfl rfl rfl (by decide +kernel) ⟨Nat.le_of_ble_eq_true rfl, Nat.le_of_ble_eq_true rfl⟩) (zM_V (va_recv hK hP (ci := 12) (q0 := 0) rfl rfl) hPc hKc hDc) rfl rfl hl.1 rfl (lv_room (Nat.le_of_ble_eq_true rfl)) dL_law__2445 ⟨Nat.le_of_ble_eq_true rfl, Nat.le_of_ble_eq_true rfl⟩) hS (fun q _ h => hFc q h) hFc (fun r_2 u_2 t H1 locs ht0 hvm hw_2 hB hz1 hk1 hS => ?_)
  obtain ⟨hP1, hK1, hD1⟩ := hB
  rw [ht0] at hP1
  have hK1 := va_K.moved hvm.symm hK1
  obtain ⟨hP, hD⟩ := va_join (wr := []) (w1 := []) hP hD [0, 1] [] rfl rfl (by decide) (by decide) hk1 hFc hP1 hD1
  generalize H1 = H at hP hS ⊢
  have hP : va_P D vwCl [] H := hP
  have hD : va_D A [] := hD
  obtain rfl : r_2 = 0 := hw_2
  refine lv_icmp_eq (tgt := 3433) hx hb dL_law__2448 (by decide) (fun c_3 => ?_) (fun c_3 => ?_)
  · skip
    refine W.widen (k := 2000) (n := 400000) (Nat.le_of_ble_eq_true rfl) (Nat.le_of_ble_eq_true rfl) ?_
    exact zlaw_end hx hb hml hr hown ht hlocks hX hbl hL hAe hS (lv_sub hl [0, 4] rfl)
  · skip
    exact absurd c_3 (by decide)
set_option maxHeartbeats 4000000 in
set_option maxRecDepth 100000 in
theorem zcase_termAt {p : Program} {l : Launch} {e : Env} {s : State} {m : MethodId} {below : List Frame} {meth : Method} {c : Code} {b L : Nat} {xs : Nat → Int32} {A : Nat → Prop} (D : va_G) (h cs : Nat → Nat) (o : Nat) (cL : ClassId) (a : Nat → Nat) (cI : ClassId) (hx : p.tables.exec = Jvm.exec) (hb : c.code = code) (hml : c.maxLocals = 9) (hr : meth.sig.returnType = ret) (hown : s.vm.findClass RL = some m.cls) (ht : ∀ w ∈ zT, w.before #[Value.ref b] s = true) (hlocks : meth.locks = false) (hX : va_X b L xs s s.heap) (hbl : b < s.heap.size) (hL : L = 6) (hAe : ∀ q : Nat, A q ↔ s.heap.size ≤ q) (hl0 : l.stackTraces = false) (hEx : zEx A s) (hNc : zNc s) {H : Heap} {locs : List Loc} {ls : Array Slot} (hK : va_K D vwCl [((cs 9), .object RX9), (cL, .long), (cI, .int)] s) (hP : va_P D vwCl [((h 0), .inr (11, [.ref (h 1), .ref (h 9), .int 0, .int 0, .ref (h 20), .ref (h 37), .int 0, .ref (h 38), .ref (h 42), .ref (h 43), .ref (h 44), .ref (h 45), .ref (h 46), .ref (h 47), .ref (h 48)])), ((h 1), .inr (8, [.ref (h 2), .int 0, .ref (h 3), .ref (h 4), .int 0, .ref (h 5), .int 0, .ref (h 6), .int 0, .ref (h 7), .int 0])), ((h 3), .inl ((cs 9), 10, .inr (.inr (.inr (.inr (fun _ => none)))))), (o, .inl (cL, 1, .inr (.inl (fun _ => 0)))), ((a 0), .inr (12, zMo a zI0)), ((a 1), .inl (cI, 6792, .inl zI0))] H) (hD : va_D A [((h 0), .inr (11, [.ref (h 1), .ref (h 9), .int 0, .int 0, .ref (h 20), .ref (h 37), .int 0, .ref (h 38), .ref (h 42), .ref (h 43), .ref (h 44), .ref (h 45), .ref (h 46), .ref (h 47), .ref (h 48)])), ((h 1), .inr (8, [.ref (h 2), .int 0, .ref (h 3), .ref (h 4), .int 0, .ref (h 5), .int 0, .ref (h 6), .int 0, .ref (h 7), .int 0])), ((h 3), .inl ((cs 9), 10, .inr (.inr (.inr (.inr (fun _ => none)))))), (o, .inl (cL, 1, .inr (.inl (fun _ => 0)))), ((a 0), .inr (12, zMo a zI0)), ((a 1), .inl (cI, 6792, .inl zI0))]) (hS : va_S A s.heap H locs) (hl : lv_has ls 9 [(0, .ref b), (1, .ref (h 0)), (2, .ref (a 0)), (3, .ref o), (4, .int 0)]) : W p l e room_1 s m #[Value.ref b] below meth c H locs 1192 188302 (lw_Z below #[Value.ref b] s) (F0 m 2453 ls []) := by
  have hbA : ¬ A b := fun h => Nat.not_le.mpr hbl ((hAe b).mp h)
  have hA : ∀ q : Nat, s.heap.size ≤ q → A q := fun q h => (hAe q).mpr h
  refine lv_aload_n hx hb dL_law__2453 rfl (lv_at hl 1 rfl) ?_
  refine lv_aload_n hx hb dL_law__2454 rfl (lv_at hl 0 rfl) ?_
  refine lv_iload hx hb dL_law__2455 (lv_at hl 4 rfl) ?_
  refine lv_iconst (v := 1) hx hb dL_law__2457 (by decide) ?_
  refine lv_iadd hx hb dL_law__2458 ?_
  refine lv_topi (fun x_1 e_1 => ?_)
  obtain rfl : x_1 = 1 := e_1.trans (by decide)
  refine va_sld hx hb hX hbl hbA hS (by rw [hL]; exact vp_in_iff.mpr (by decide)) dL_law__2459 ?_
  refine W.eq (g2 := F0 m 2460 ls (.int (xs 1) :: .ref (h 0) :: [])) rfl ?_
  refine lv_aload_n hx hb dL_law__2460 rfl (lv_at hl 0 rfl) ?_
  refine lv_iload hx hb dL_law__2461 (lv_at hl 4 rfl) ?_
  refine lv_iconst (v := 2) hx hb dL_law__2463 (by decide) ?_
  refine lv_iadd hx hb dL_law__2464 ?_
  refine lv_topi (fun x_2 e_2 => ?_)
  obtain rfl : x_2 = 2 := e_2.trans (by decide)
  refine va_sld hx hb hX hbl hbA hS (by rw [hL]; exact vp_in_iff.mpr (by decide)) dL_law__2465 ?_
  refine W.eq (g2 := F0 m 2466 ls (.int (xs 2) :: .int (xs 1) :: .ref (h 0) :: [])) rfl ?_
  refine lv_aload_n hx hb dL_law__2466 rfl (lv_at hl 3 rfl) ?_
  have hPc := hP.sub (ws' := [((h 0), .inr (11, [.ref (h 1), .ref (h 9), .int 0, .int 0, .ref (h 20), .ref (h 37), .int 0, .ref (h 38), .ref (h 42), .ref (h 43), .ref (h 44), .ref (h 45), .ref (h 46), .ref (h 47), .ref (h 48)])), ((h 1), .inr (8, [.ref (h 2), .int 0, .ref (h 3), .ref (h 4), .int 0, .ref (h 5), .int 0, .ref (h 6), .int 0, .ref (h 7), .int 0])), ((h 3), .inl ((cs 9), 10, .inr (.inr (.inr (.inr (fun _ => none)))))), (o, .inl (cL, 1, .inr (.inl (fun _ => 0))))]) [0, 1, 2, 3] rfl
  have hDc := hD.sub (ws' := [((h 0), .inr (11, [.ref (h 1), .ref (h 9), .int 0, .int 0, .ref (h 20), .ref (h 37), .int 0, .ref (h 38), .ref (h 42), .ref (h 43), .ref (h 44), .ref (h 45), .ref (h 46), .ref (h 47), .ref (h 48)])), ((h 1), .inr (8, [.ref (h 2), .int 0, .ref (h 3), .ref (h 4), .int 0, .ref (h 5), .int 0, .ref (h 6), .int 0, .ref (h 7), .int 0])), ((h 3), .inl ((cs 9), 10, .inr (.inr (.inr (.inr (fun _ => none)))))), (o, .inl (cL, 1, .inr (.inl (fun _ => 0))))]) [0, 1, 2, 3] (by decide) rfl
  have hKc := hK.sub (tys' := [((cs 9), .object RX9), (cL, .long)]) [0, 1] rfl
  have hFc := va_free (wc := [((h 0), .inr (11, [.ref (h 1), .ref (h 9), .int 0, .int 0, .ref (h 20), .ref (h 37), .int 0, .ref (h 38), .ref (h 42), .ref (h 43), .ref (h 44), .ref (h 45), .ref (h 46), .ref (h 47), .ref (h 48)])), ((h 1), .inr (8, [.ref (h 2), .int 0, .ref (h 3), .ref (h 4), .int 0, .ref (h 5), .int 0, .ref (h 6), .int 0, .ref (h 7), .int 0])), ((h 3), .inl ((cs 9), 10, .inr (.inr (.inr (.inr (fun _ => none)))))), (o, .inl (cL, 1, .inr (.inl (fun _ => 0))))]) hD hS hA [0, 1, 2, 3] rfl
  refine va_calli (vx_runSW (As := [.ref (h 0), .int (xs 1), .int (xs 2), .ref o]) (rest := []) ⟨hx, hb, hml, hown, ht⟩ (k_L_termAt l hl0 _ D h cs (xs 1) (xs 2) o cL) (vx_cwSW 4 ht (zG_S zw_997 zw_998 zw_773 zw_999) rfl rfl rfl (by decide +kernel) ⟨Nat.le_of_ble_eq_true rfl, Nat.le_of_ble_eq_true rfl⟩) (zY_S hNc hEx hS hFc hPc hKc hDc) rfl rfl hl.1 rfl (lv_room (Nat.le_of_ble_eq_true rfl)) dL_law__2467 ⟨Nat.le_of_ble_eq_true rfl, Nat.le_of_ble_eq_true rfl⟩) hS (fun q _ h => hFc q h) hFc (fun r_3 u_3 t H1 locs ht0 hvm hw_3 hB hz1 hk1 hS => ?_)
  obtain ⟨g_3, hg_3, hB⟩ := hB
  obtain ⟨hP1, hK1, hD1⟩ := hB
  rw [ht0] at hP1
  have hK1 := va_K.moved hvm.symm hK1
  obtain ⟨hP, hD⟩ := va_join (wr := [((a 0), .inr (12, zMo a zI0)), ((a 1), .inl (cI, 6792, .inl zI0))]) (w1 := [(o, .inl (cL, 1, .inr (.inl g_3)))]) hP hD [0, 1, 2, 3] [4, 5] rfl rfl (by decide) (by decide) hk1 hFc hP1 hD1
  generalize H1 = H at hP hS ⊢
  have hP : va_P D vwCl [((a 0), .inr (12, zMo a zI0)), ((a 1), .inl (cI, 6792, .inl zI0)), (o, .inl (cL, 1, .inr (.inl g_3)))] H := hP
  have hD : va_D A [((a 0), .inr (12, zMo a zI0)), ((a 1), .inl (cI, 6792, .inl zI0)), (o, .inl (cL, 1, .inr (.inl g_3)))] := hD
  refine W.widen (k := 1194) (n := 188314) (Nat.le_of_ble_eq_true rfl) (Nat.le_of_ble_eq_true rfl) ?_
  refine lv_istore (lv' := [(5, .int r_3), (0, .ref b), (1, .ref (h 0)), (2, .ref (a 0)), (3, .ref o), (4, .int 0)]) hx hb dL_law__2470 hl (by decide) rfl (fun ls hl => ?_)
  refine lv_aload_n hx hb dL_law__2472 rfl (lv_at hl 3 rfl) ?_
  refine lv_aload_n hx hb dL_law__2473 rfl (lv_at hl 1 rfl) ?_
  refine lv_iload hx hb dL_law__2474 (lv_at hl 5 rfl) ?_
  refine lv_iconst (v := 1) hx hb dL_law__2476 (by decide) ?_
  refine lv_iadd hx hb dL_law__2477 ?_
  refine lv_topi (fun x_4 e_4 => ?_)
  obtain rfl : x_4 = 1 := e_4.trans (by decide)
  refine va_sld hx hb hX hbl hbA hS (by rw [hL]; exact vp_in_iff.mpr (by decide)) dL_law__2478 ?_
  refine W.eq (g2 := F0 m 2479 ls (.int (xs 1) :: .ref (a 0) :: [])) rfl ?_
  refine lv_aload_n hx hb dL_law__2479 rfl (lv_at hl 1 rfl) ?_
  refine lv_iload hx hb dL_law__2480 (lv_at hl 5 rfl) ?_
  refine lv_iconst (v := 2) hx hb dL_law__2482 (by decide) ?_
  refine lv_iadd hx hb dL_law__2483 ?_
  refine lv_topi (fun x_5 e_5 => ?_)
  obtain rfl : x_5 = 2 := e_5.trans (by decide)
  refine va_sld hx hb hX hbl hbA hS (by rw [hL]; exact vp_in_iff.mpr (by decide)) dL_law__2484 ?_
  refine W.eq (g2 := F0 m 2485 ls (.int (xs 2) :: .int (xs 1) :: .ref (a 0) :: [])) rfl ?_
  have hPc := hP.sub (ws' := [((a 0), .inr (12, zMo a zI0)), ((a 1), .inl (cI, 6792, .inl zI0))]) [0, 1] rfl
  have hDc := hD.sub (ws' := [((a 0), .inr (12, zMo a zI0)), ((a 1), .inl (cI, 6792, .inl zI0))]) [0, 1] (by decide) rfl
  have hKc := hK.sub (tys' := [(cI, .int)]) [2] rfl
  have hFc := va_free (wc := [((a 0), .inr (12, zMo a zI0)), ((a 1), .inl (cI, 6792, .inl zI0))]) hD hS hA [0, 1] rfl
  refine va_calli (va_runV (As := [.int (xs 1), .int (xs 2)]) (rest := []) ⟨hx, hb, hml, hown, ht⟩ (k_X12_termAt l _ D a cI (xs 1) (xs 2)) (cwV 2 ht (zG_V zw_1000 zw_1001 zw_1002 zw_2 zw_1003) rfl rfl rfl (by decide +kernel) ⟨Nat.le_of_ble_eq_true rfl, Nat.le_of_ble_eq_true rfl⟩) (zM_V (va_recv hK hP (ci := 12) (q0 := 0) rfl rfl) hPc hKc hDc) rfl rfl hl.1 rfl (lv_room (Nat.le_of_ble_eq_true rfl)) dL_law__2485 ⟨Nat.le_of_ble_eq_true rfl, Nat.le_of_ble_eq_true rfl⟩) hS (fun q _ h => hFc q h) hFc (fun r_6 u_6 t H1 locs ht0 hvm hw_6 hB hz1 hk1 hS => ?_)
  obtain ⟨hP1, hK1, hD1⟩ := hB
  rw [ht0] at hP1
  have hK1 := va_K.moved hvm.symm hK1
  obtain ⟨hP, hD⟩ := va_join (wr := [(o, .inl (cL, 1, .inr (.inl g_3)))]) (w1 := [((a 0), .inr (12, zMo a u_6))]) hP hD [0, 1] [2] rfl rfl (by decide) (by decide) hk1 hFc hP1 hD1
  generalize H1 = H at hP hS ⊢
  have hP : va_P D vwCl [(o, .inl (cL, 1, .inr (.inl g_3))), ((a 0), .inr (12, zMo a u_6))] H := hP
  have hD : va_D A [(o, .inl (cL, 1, .inr (.inl g_3))), ((a 0), .inr (12, zMo a u_6))] := hD
  refine lv_istore (lv' := [(6, .int r_6), (5, .int r_3), (0, .ref b), (1, .ref (h 0)), (2, .ref (a 0)), (3, .ref o), (4, .int 0)]) hx hb dL_law__2488 hl (by decide) rfl (fun ls hl => ?_)
  refine lv_aload_n hx hb dL_law__2490 rfl (lv_at hl 4 rfl) ?_
  refine vp_callSi (va_runV (As := []) (rest := []) ⟨hx, hb, hml, hown, ht⟩ (k_X12_thrown l D a u_6) (cwV 0 ht (zG_V zw_779 zw_780 zw_781 zw_2 zw_782) rfl rfl rfl (by decide +kernel) ⟨Nat.le_of_ble_eq_true rfl, Nat.le_of_ble_eq_true rfl⟩) (zR_V (va_recv hK hP (ci := 12) (q0 := 1) rfl rfl) (hP.sub (ws' := [((a 0), .inr (12, zMo a u_6))]) [1] rfl) (hK.sub (tys' := []) [] rfl)) rfl rfl hl.1 rfl (lv_room (Nat.le_of_ble_eq_true rfl)) dL_law__2491 ⟨Nat.le_of_ble_eq_true rfl, Nat.le_of_ble_eq_true rfl⟩).run (fun r_7 hw_7 => ?_)
  refine lv_iload hx hb dL_law__2494 (lv_at hl 1 rfl) ?_
  refine lv_icmp_eq (tgt := 2501) hx hb dL_law__2496 (by decide) (fun c_8 => ?_) (fun c_8 => ?_)
  · skip
    simp only [fa_lt, fa_le, fa_eq, Int32.reduceToInt] at c_8
    refine lv_iload hx hb dL_law__2501 (lv_at hl 1 rfl) ?_
    refine lv_if_ne (tgt := 2518) hx hb dL_law__2503 (by decide) (fun c_9 => ?_) (fun c_9 => ?_)
    · skip
      simp only [fa_lt, fa_le, fa_eq, Int32.reduceToInt] at c_9
      refine lv_goto (tgt := 3433) hx hb dL_law__2518 (by decide) ?_
      refine W.widen (k := 2000) (n := 400000) (Nat.le_of_ble_eq_true rfl) (Nat.le_of_ble_eq_true rfl) ?_
      exact zlaw_end hx hb hml hr hown ht hlocks hX hbl hL hAe hS (lv_sub hl [2, 6] rfl)
    · skip
      simp only [fa_lt, fa_le, fa_eq, Int32.reduceToInt] at c_9
      refine lv_aload_n hx hb dL_law__2506 rfl (lv_at hl 5 rfl) ?_
      refine lv_iconst (v := 0) hx hb dL_law__2507 (by decide) ?_
      refine va_lald hx hb hK hP 0 1 rfl rfl (vp_in_iff.mpr (by decide)) dL_law__2508 ?_
      refine W.eq (g2 := F0 m 2509 ls (.long (g_3 0) :: [])) rfl ?_
      refine lv_iload hx hb dL_law__2509 (lv_at hl 0 rfl) ?_
      refine lv_i2l (v := (r_6).toInt64) hx hb dL_law__2511 rfl ?_
      refine W.lcmp hx hb dL_law__2512 ?_
      refine lv_if_eq (tgt := 2518) hx hb dL_law__2513 (by decide) (fun c_10 => ?_) (fun c_10 => ?_)
      · skip
        refine lv_goto (tgt := 3433) hx hb dL_law__2518 (by decide) ?_
        refine W.widen (k := 2000) (n := 400000) (Nat.le_of_ble_eq_true rfl) (Nat.le_of_ble_eq_true rfl) ?_
        exact zlaw_end hx hb hml hr hown ht hlocks hX hbl hL hAe hS (lv_sub hl [2, 6] rfl)
      · skip
        simp only [fa_lt, fa_le, fa_eq, Int32.reduceToInt] at c_10
        exfalso; exact c_10 (by rw [hg_3, ← (zF_termAt hw_6 hw_3).2 ((zF_termAt hw_6 hw_3).1.trans (Int32.toInt_inj.mp (show r_3.toInt = (0 : Int32).toInt by rw [c_9]; rfl)))]; rw [zcmp_self]; rfl)
  · skip
    simp only [fa_lt, fa_le, fa_eq, Int32.reduceToInt] at c_8
    exfalso; exact c_8 (by rw [hw_7, (zF_termAt hw_6 hw_3).1])
set_option maxHeartbeats 4000000 in
set_option maxRecDepth 100000 in
theorem zcase_areSame {p : Program} {l : Launch} {e : Env} {s : State} {m : MethodId} {below : List Frame} {meth : Method} {c : Code} {b L : Nat} {xs : Nat → Int32} {A : Nat → Prop} (D : va_G) (h cs : Nat → Nat) (o : Nat) (cL : ClassId) (a : Nat → Nat) (cI : ClassId) (hx : p.tables.exec = Jvm.exec) (hb : c.code = code) (hml : c.maxLocals = 9) (hr : meth.sig.returnType = ret) (hown : s.vm.findClass RL = some m.cls) (ht : ∀ w ∈ zT, w.before #[Value.ref b] s = true) (hlocks : meth.locks = false) (hX : va_X b L xs s s.heap) (hbl : b < s.heap.size) (hL : L = 6) (hAe : ∀ q : Nat, A q ↔ s.heap.size ≤ q) (hl0 : l.stackTraces = false) (hEx : zEx A s) (hNc : zNc s) {H : Heap} {locs : List Loc} {ls : Array Slot} (hK : va_K D vwCl [((cs 9), .object RX9), (cL, .long), (cI, .int)] s) (hP : va_P D vwCl [((h 0), .inr (11, [.ref (h 1), .ref (h 9), .int 0, .int 0, .ref (h 20), .ref (h 37), .int 0, .ref (h 38), .ref (h 42), .ref (h 43), .ref (h 44), .ref (h 45), .ref (h 46), .ref (h 47), .ref (h 48)])), ((h 1), .inr (8, [.ref (h 2), .int 0, .ref (h 3), .ref (h 4), .int 0, .ref (h 5), .int 0, .ref (h 6), .int 0, .ref (h 7), .int 0])), ((h 3), .inl ((cs 9), 10, .inr (.inr (.inr (.inr (fun _ => none)))))), (o, .inl (cL, 1, .inr (.inl (fun _ => 0)))), ((a 0), .inr (12, zMo a zI0)), ((a 1), .inl (cI, 6792, .inl zI0))] H) (hD : va_D A [((h 0), .inr (11, [.ref (h 1), .ref (h 9), .int 0, .int 0, .ref (h 20), .ref (h 37), .int 0, .ref (h 38), .ref (h 42), .ref (h 43), .ref (h 44), .ref (h 45), .ref (h 46), .ref (h 47), .ref (h 48)])), ((h 1), .inr (8, [.ref (h 2), .int 0, .ref (h 3), .ref (h 4), .int 0, .ref (h 5), .int 0, .ref (h 6), .int 0, .ref (h 7), .int 0])), ((h 3), .inl ((cs 9), 10, .inr (.inr (.inr (.inr (fun _ => none)))))), (o, .inl (cL, 1, .inr (.inl (fun _ => 0)))), ((a 0), .inr (12, zMo a zI0)), ((a 1), .inl (cI, 6792, .inl zI0))]) (hS : va_S A s.heap H locs) (hl : lv_has ls 9 [(0, .ref b), (1, .ref (h 0)), (2, .ref (a 0)), (3, .ref o), (4, .int 0)]) : W p l e room_1 s m #[Value.ref b] below meth c H locs 1192 188302 (lw_Z below #[Value.ref b] s) (F0 m 2521 ls []) := by
  have hbA : ¬ A b := fun h => Nat.not_le.mpr hbl ((hAe b).mp h)
  have hA : ∀ q : Nat, s.heap.size ≤ q → A q := fun q h => (hAe q).mpr h
  refine lv_aload_n hx hb dL_law__2521 rfl (lv_at hl 1 rfl) ?_
  refine lv_aload_n hx hb dL_law__2522 rfl (lv_at hl 0 rfl) ?_
  refine lv_iload hx hb dL_law__2523 (lv_at hl 4 rfl) ?_
  refine lv_iconst (v := 1) hx hb dL_law__2525 (by decide) ?_
  refine lv_iadd hx hb dL_law__2526 ?_
  refine lv_topi (fun x_1 e_1 => ?_)
  obtain rfl : x_1 = 1 := e_1.trans (by decide)
  refine va_sld hx hb hX hbl hbA hS (by rw [hL]; exact vp_in_iff.mpr (by decide)) dL_law__2527 ?_
  refine W.eq (g2 := F0 m 2528 ls (.int (xs 1) :: .ref (h 0) :: [])) rfl ?_
  refine lv_aload_n hx hb dL_law__2528 rfl (lv_at hl 0 rfl) ?_
  refine lv_iload hx hb dL_law__2529 (lv_at hl 4 rfl) ?_
  refine lv_iconst (v := 2) hx hb dL_law__2531 (by decide) ?_
  refine lv_iadd hx hb dL_law__2532 ?_
  refine lv_topi (fun x_2 e_2 => ?_)
  obtain rfl : x_2 = 2 := e_2.trans (by decide)
  refine va_sld hx hb hX hbl hbA hS (by rw [hL]; exact vp_in_iff.mpr (by decide)) dL_law__2533 ?_
  refine W.eq (g2 := F0 m 2534 ls (.int (xs 2) :: .int (xs 1) :: .ref (h 0) :: [])) rfl ?_
  refine lv_aload_n hx hb dL_law__2534 rfl (lv_at hl 3 rfl) ?_
  have hPc := hP.sub (ws' := [((h 0), .inr (11, [.ref (h 1), .ref (h 9), .int 0, .int 0, .ref (h 20), .ref (h 37), .int 0, .ref (h 38), .ref (h 42), .ref (h 43), .ref (h 44), .ref (h 45), .ref (h 46), .ref (h 47), .ref (h 48)])), ((h 1), .inr (8, [.ref (h 2), .int 0, .ref (h 3), .ref (h 4), .int 0, .ref (h 5), .int 0, .ref (h 6), .int 0, .ref (h 7), .int 0])), ((h 3), .inl ((cs 9), 10, .inr (.inr (.inr (.inr (fun _ => none)))))), (o, .inl (cL, 1, .inr (.inl (fun _ => 0))))]) [0, 1, 2, 3] rfl
  have hDc := hD.sub (ws' := [((h 0), .inr (11, [.ref (h 1), .ref (h 9), .int 0, .int 0, .ref (h 20), .ref (h 37), .int 0, .ref (h 38), .ref (h 42), .ref (h 43), .ref (h 44), .ref (h 45), .ref (h 46), .ref (h 47), .ref (h 48)])), ((h 1), .inr (8, [.ref (h 2), .int 0, .ref (h 3), .ref (h 4), .int 0, .ref (h 5), .int 0, .ref (h 6), .int 0, .ref (h 7), .int 0])), ((h 3), .inl ((cs 9), 10, .inr (.inr (.inr (.inr (fun _ => none)))))), (o, .inl (cL, 1, .inr (.inl (fun _ => 0))))]) [0, 1, 2, 3] (by decide) rfl
  have hKc := hK.sub (tys' := [((cs 9), .object RX9), (cL, .long)]) [0, 1] rfl
  have hFc := va_free (wc := [((h 0), .inr (11, [.ref (h 1), .ref (h 9), .int 0, .int 0, .ref (h 20), .ref (h 37), .int 0, .ref (h 38), .ref (h 42), .ref (h 43), .ref (h 44), .ref (h 45), .ref (h 46), .ref (h 47), .ref (h 48)])), ((h 1), .inr (8, [.ref (h 2), .int 0, .ref (h 3), .ref (h 4), .int 0, .ref (h 5), .int 0, .ref (h 6), .int 0, .ref (h 7), .int 0])), ((h 3), .inl ((cs 9), 10, .inr (.inr (.inr (.inr (fun _ => none)))))), (o, .inl (cL, 1, .inr (.inl (fun _ => 0))))]) hD hS hA [0, 1, 2, 3] rfl
  refine va_calli (vx_runSW (As := [.ref (h 0), .int (xs 1), .int (xs 2), .ref o]) (rest := []) ⟨hx, hb, hml, hown, ht⟩ (k_L_areSame l hl0 _ D h cs (xs 1) (xs 2) o cL) (vx_cwSW 4 ht (zG_S zw_1004 zw_1005 zw_773 zw_1006) rfl rfl rfl (by decide +kernel) ⟨Nat.le_of_ble_eq_true rfl, Nat.le_of_ble_eq_true rfl⟩) (zY_S hNc hEx hS hFc hPc hKc hDc) rfl rfl hl.1 rfl (lv_room (Nat.le_of_ble_eq_true rfl)) dL_law__2535 ⟨Nat.le_of_ble_eq_true rfl, Nat.le_of_ble_eq_true rfl⟩) hS (fun q _ h => hFc q h) hFc (fun r_3 u_3 t H1 locs ht0 hvm hw_3 hB hz1 hk1 hS => ?_)
  obtain ⟨g_3, hg_3, hB⟩ := hB
  obtain ⟨hP1, hK1, hD1⟩ := hB
  rw [ht0] at hP1
  have hK1 := va_K.moved hvm.symm hK1
  obtain ⟨hP, hD⟩ := va_join (wr := [((a 0), .inr (12, zMo a zI0)), ((a 1), .inl (cI, 6792, .inl zI0))]) (w1 := [(o, .inl (cL, 1, .inr (.inl g_3)))]) hP hD [0, 1, 2, 3] [4, 5] rfl rfl (by decide) (by decide) hk1 hFc hP1 hD1
  generalize H1 = H at hP hS ⊢
  have hP : va_P D vwCl [((a 0), .inr (12, zMo a zI0)), ((a 1), .inl (cI, 6792, .inl zI0)), (o, .inl (cL, 1, .inr (.inl g_3)))] H := hP
  have hD : va_D A [((a 0), .inr (12, zMo a zI0)), ((a 1), .inl (cI, 6792, .inl zI0)), (o, .inl (cL, 1, .inr (.inl g_3)))] := hD
  refine W.widen (k := 1194) (n := 188314) (Nat.le_of_ble_eq_true rfl) (Nat.le_of_ble_eq_true rfl) ?_
  refine lv_istore (lv' := [(5, .int r_3), (0, .ref b), (1, .ref (h 0)), (2, .ref (a 0)), (3, .ref o), (4, .int 0)]) hx hb dL_law__2538 hl (by decide) rfl (fun ls hl => ?_)
  refine lv_aload_n hx hb dL_law__2540 rfl (lv_at hl 3 rfl) ?_
  refine lv_aload_n hx hb dL_law__2541 rfl (lv_at hl 1 rfl) ?_
  refine lv_iload hx hb dL_law__2542 (lv_at hl 5 rfl) ?_
  refine lv_iconst (v := 1) hx hb dL_law__2544 (by decide) ?_
  refine lv_iadd hx hb dL_law__2545 ?_
  refine lv_topi (fun x_4 e_4 => ?_)
  obtain rfl : x_4 = 1 := e_4.trans (by decide)
  refine va_sld hx hb hX hbl hbA hS (by rw [hL]; exact vp_in_iff.mpr (by decide)) dL_law__2546 ?_
  refine W.eq (g2 := F0 m 2547 ls (.int (xs 1) :: .ref (a 0) :: [])) rfl ?_
  refine lv_aload_n hx hb dL_law__2547 rfl (lv_at hl 1 rfl) ?_
  refine lv_iload hx hb dL_law__2548 (lv_at hl 5 rfl) ?_
  refine lv_iconst (v := 2) hx hb dL_law__2550 (by decide) ?_
  refine lv_iadd hx hb dL_law__2551 ?_
  refine lv_topi (fun x_5 e_5 => ?_)
  obtain rfl : x_5 = 2 := e_5.trans (by decide)
  refine va_sld hx hb hX hbl hbA hS (by rw [hL]; exact vp_in_iff.mpr (by decide)) dL_law__2552 ?_
  refine W.eq (g2 := F0 m 2553 ls (.int (xs 2) :: .int (xs 1) :: .ref (a 0) :: [])) rfl ?_
  have hPc := hP.sub (ws' := [((a 0), .inr (12, zMo a zI0)), ((a 1), .inl (cI, 6792, .inl zI0))]) [0, 1] rfl
  have hDc := hD.sub (ws' := [((a 0), .inr (12, zMo a zI0)), ((a 1), .inl (cI, 6792, .inl zI0))]) [0, 1] (by decide) rfl
  have hKc := hK.sub (tys' := [(cI, .int)]) [2] rfl
  have hFc := va_free (wc := [((a 0), .inr (12, zMo a zI0)), ((a 1), .inl (cI, 6792, .inl zI0))]) hD hS hA [0, 1] rfl
  refine va_calli (va_runV (As := [.int (xs 1), .int (xs 2)]) (rest := []) ⟨hx, hb, hml, hown, ht⟩ (k_X12_areSame l _ D a cI (xs 1) (xs 2)) (cwV 2 ht (zG_V zw_1007 zw_1008 zw_1009 zw_2 zw_1010) rfl rfl rfl (by decide +kernel) ⟨Nat.le_of_ble_eq_true rfl, Nat.le_of_ble_eq_true rfl⟩) (zM_V (va_recv hK hP (ci := 12) (q0 := 0) rfl rfl) hPc hKc hDc) rfl rfl hl.1 rfl (lv_room (Nat.le_of_ble_eq_true rfl)) dL_law__2553 ⟨Nat.le_of_ble_eq_true rfl, Nat.le_of_ble_eq_true rfl⟩) hS (fun q _ h => hFc q h) hFc (fun r_6 u_6 t H1 locs ht0 hvm hw_6 hB hz1 hk1 hS => ?_)
  obtain ⟨hP1, hK1, hD1⟩ := hB
  rw [ht0] at hP1
  have hK1 := va_K.moved hvm.symm hK1
  obtain ⟨hP, hD⟩ := va_join (wr := [(o, .inl (cL, 1, .inr (.inl g_3)))]) (w1 := [((a 0), .inr (12, zMo a u_6))]) hP hD [0, 1] [2] rfl rfl (by decide) (by decide) hk1 hFc hP1 hD1
  generalize H1 = H at hP hS ⊢
  have hP : va_P D vwCl [(o, .inl (cL, 1, .inr (.inl g_3))), ((a 0), .inr (12, zMo a u_6))] H := hP
  have hD : va_D A [(o, .inl (cL, 1, .inr (.inl g_3))), ((a 0), .inr (12, zMo a u_6))] := hD
  refine lv_istore (lv' := [(6, .int r_6), (5, .int r_3), (0, .ref b), (1, .ref (h 0)), (2, .ref (a 0)), (3, .ref o), (4, .int 0)]) hx hb dL_law__2556 hl (by decide) rfl (fun ls hl => ?_)
  refine lv_aload_n hx hb dL_law__2558 rfl (lv_at hl 4 rfl) ?_
  refine vp_callSi (va_runV (As := []) (rest := []) ⟨hx, hb, hml, hown, ht⟩ (k_X12_thrown l D a u_6) (cwV 0 ht (zG_V zw_779 zw_780 zw_781 zw_2 zw_782) rfl rfl rfl (by decide +kernel) ⟨Nat.le_of_ble_eq_true rfl, Nat.le_of_ble_eq_true rfl⟩) (zR_V (va_recv hK hP (ci := 12) (q0 := 1) rfl rfl) (hP.sub (ws' := [((a 0), .inr (12, zMo a u_6))]) [1] rfl) (hK.sub (tys' := []) [] rfl)) rfl rfl hl.1 rfl (lv_room (Nat.le_of_ble_eq_true rfl)) dL_law__2559 ⟨Nat.le_of_ble_eq_true rfl, Nat.le_of_ble_eq_true rfl⟩).run (fun r_7 hw_7 => ?_)
  refine lv_iload hx hb dL_law__2562 (lv_at hl 1 rfl) ?_
  refine lv_icmp_eq (tgt := 2569) hx hb dL_law__2564 (by decide) (fun c_8 => ?_) (fun c_8 => ?_)
  · skip
    simp only [fa_lt, fa_le, fa_eq, Int32.reduceToInt] at c_8
    refine lv_iload hx hb dL_law__2569 (lv_at hl 1 rfl) ?_
    refine lv_if_ne (tgt := 2593) hx hb dL_law__2571 (by decide) (fun c_9 => ?_) (fun c_9 => ?_)
    · skip
      simp only [fa_lt, fa_le, fa_eq, Int32.reduceToInt] at c_9
      refine lv_goto (tgt := 3433) hx hb dL_law__2593 (by decide) ?_
      refine W.widen (k := 2000) (n := 400000) (Nat.le_of_ble_eq_true rfl) (Nat.le_of_ble_eq_true rfl) ?_
      exact zlaw_end hx hb hml hr hown ht hlocks hX hbl hL hAe hS (lv_sub hl [2, 6] rfl)
    · skip
      simp only [fa_lt, fa_le, fa_eq, Int32.reduceToInt] at c_9
      refine lv_aload_n hx hb dL_law__2574 rfl (lv_at hl 5 rfl) ?_
      refine lv_iconst (v := 0) hx hb dL_law__2575 (by decide) ?_
      refine va_lald hx hb hK hP 0 1 rfl rfl (vp_in_iff.mpr (by decide)) dL_law__2576 ?_
      refine W.eq (g2 := F0 m 2577 ls (.long (g_3 0) :: [])) rfl ?_
      refine lv_iload hx hb dL_law__2577 (lv_at hl 0 rfl) ?_
      refine lv_if_eq (tgt := 2586) hx hb dL_law__2579 (by decide) (fun c_10 => ?_) (fun c_10 => ?_)
      · skip
        simp only [fa_lt, fa_le, fa_eq, Int32.reduceToInt] at c_10
        refine lv_lconst (v := 0) hx hb dL_law__2586 (by decide) ?_
        refine W.lcmp hx hb dL_law__2587 ?_
        refine lv_if_eq (tgt := 2593) hx hb dL_law__2588 (by decide) (fun c_11 => ?_) (fun c_11 => ?_)
        · skip
          refine lv_goto (tgt := 3433) hx hb dL_law__2593 (by decide) ?_
          refine W.widen (k := 2000) (n := 400000) (Nat.le_of_ble_eq_true rfl) (Nat.le_of_ble_eq_true rfl) ?_
          exact zlaw_end hx hb hml hr hown ht hlocks hX hbl hL hAe hS (lv_sub hl [2, 6] rfl)
        · skip
          simp only [fa_lt, fa_le, fa_eq, Int32.reduceToInt] at c_11
          exfalso
          have k0 : r_3 = 0 := Int32.toInt_inj.mp (show r_3.toInt = (0 : Int32).toInt by rw [c_9]; rfl)
          have e1 := zF_areSame hw_6 hw_3
          have h0 := hw_3
          rw [k0] at h0
          unfold zS_areSame at h0
          rcases h0 with ⟨h9, -⟩ | ⟨-, -, h9⟩
          · exact absurd h9 (by decide)
          · exact c_11 (by rw [hg_3, h9]; rfl)
      · skip
        simp only [fa_lt, fa_le, fa_eq, Int32.reduceToInt] at c_10
        refine lv_lconst (v := 1) hx hb dL_law__2582 (by decide) ?_
        refine lv_goto (tgt := 2587) hx hb dL_law__2583 (by decide) ?_
        refine W.lcmp hx hb dL_law__2587 ?_
        refine lv_if_eq (tgt := 2593) hx hb dL_law__2588 (by decide) (fun c_12 => ?_) (fun c_12 => ?_)
        · skip
          refine lv_goto (tgt := 3433) hx hb dL_law__2593 (by decide) ?_
          refine W.widen (k := 2000) (n := 400000) (Nat.le_of_ble_eq_true rfl) (Nat.le_of_ble_eq_true rfl) ?_
          exact zlaw_end hx hb hml hr hown ht hlocks hX hbl hL hAe hS (lv_sub hl [2, 6] rfl)
        · skip
          simp only [fa_lt, fa_le, fa_eq, Int32.reduceToInt] at c_12
          exfalso
          have k0 : r_3 = 0 := Int32.toInt_inj.mp (show r_3.toInt = (0 : Int32).toInt by rw [c_9]; rfl)
          have e1 := zF_areSame hw_6 hw_3
          have h0 := hw_3
          rw [k0] at h0
          unfold zS_areSame at h0
          rcases h0 with ⟨h9, -⟩ | ⟨-, -, h9⟩
          · exact absurd h9 (by decide)
          · exact c_10 (by rw [e1.2 (e1.1.trans k0), h9]; rfl)
  · skip
    simp only [fa_lt, fa_le, fa_eq, Int32.reduceToInt] at c_8
    exfalso; exact c_8 (by rw [hw_7, (zF_areSame hw_6 hw_3).1])
set_option maxHeartbeats 4000000 in
set_option maxRecDepth 100000 in
theorem zcase_direction {p : Program} {l : Launch} {e : Env} {s : State} {m : MethodId} {below : List Frame} {meth : Method} {c : Code} {b L : Nat} {xs : Nat → Int32} {A : Nat → Prop} (D : va_G) (h cs : Nat → Nat) (o : Nat) (cL : ClassId) (a : Nat → Nat) (cI : ClassId) (hx : p.tables.exec = Jvm.exec) (hb : c.code = code) (hml : c.maxLocals = 9) (hr : meth.sig.returnType = ret) (hown : s.vm.findClass RL = some m.cls) (ht : ∀ w ∈ zT, w.before #[Value.ref b] s = true) (hlocks : meth.locks = false) (hX : va_X b L xs s s.heap) (hbl : b < s.heap.size) (hL : L = 6) (hAe : ∀ q : Nat, A q ↔ s.heap.size ≤ q) (hl0 : l.stackTraces = false) (hEx : zEx A s) (hNc : zNc s) {H : Heap} {locs : List Loc} {ls : Array Slot} (hK : va_K D vwCl [((cs 9), .object RX9), (cL, .long), (cI, .int)] s) (hP : va_P D vwCl [((h 0), .inr (11, [.ref (h 1), .ref (h 9), .int 0, .int 0, .ref (h 20), .ref (h 37), .int 0, .ref (h 38), .ref (h 42), .ref (h 43), .ref (h 44), .ref (h 45), .ref (h 46), .ref (h 47), .ref (h 48)])), ((h 1), .inr (8, [.ref (h 2), .int 0, .ref (h 3), .ref (h 4), .int 0, .ref (h 5), .int 0, .ref (h 6), .int 0, .ref (h 7), .int 0])), ((h 3), .inl ((cs 9), 10, .inr (.inr (.inr (.inr (fun _ => none)))))), (o, .inl (cL, 1, .inr (.inl (fun _ => 0)))), ((a 0), .inr (12, zMo a zI0)), ((a 1), .inl (cI, 6792, .inl zI0))] H) (hD : va_D A [((h 0), .inr (11, [.ref (h 1), .ref (h 9), .int 0, .int 0, .ref (h 20), .ref (h 37), .int 0, .ref (h 38), .ref (h 42), .ref (h 43), .ref (h 44), .ref (h 45), .ref (h 46), .ref (h 47), .ref (h 48)])), ((h 1), .inr (8, [.ref (h 2), .int 0, .ref (h 3), .ref (h 4), .int 0, .ref (h 5), .int 0, .ref (h 6), .int 0, .ref (h 7), .int 0])), ((h 3), .inl ((cs 9), 10, .inr (.inr (.inr (.inr (fun _ => none)))))), (o, .inl (cL, 1, .inr (.inl (fun _ => 0)))), ((a 0), .inr (12, zMo a zI0)), ((a 1), .inl (cI, 6792, .inl zI0))]) (hS : va_S A s.heap H locs) (hl : lv_has ls 9 [(0, .ref b), (1, .ref (h 0)), (2, .ref (a 0)), (3, .ref o), (4, .int 0)]) : W p l e room_1 s m #[Value.ref b] below meth c H locs 1192 188302 (lw_Z below #[Value.ref b] s) (F0 m 2596 ls []) := by
  have hbA : ¬ A b := fun h => Nat.not_le.mpr hbl ((hAe b).mp h)
  have hA : ∀ q : Nat, s.heap.size ≤ q → A q := fun q h => (hAe q).mpr h
  refine lv_aload_n hx hb dL_law__2596 rfl (lv_at hl 1 rfl) ?_
  refine lv_aload_n hx hb dL_law__2597 rfl (lv_at hl 0 rfl) ?_
  refine lv_iload hx hb dL_law__2598 (lv_at hl 4 rfl) ?_
  refine lv_iconst (v := 1) hx hb dL_law__2600 (by decide) ?_
  refine lv_iadd hx hb dL_law__2601 ?_
  refine lv_topi (fun x_1 e_1 => ?_)
  obtain rfl : x_1 = 1 := e_1.trans (by decide)
  refine va_sld hx hb hX hbl hbA hS (by rw [hL]; exact vp_in_iff.mpr (by decide)) dL_law__2602 ?_
  refine W.eq (g2 := F0 m 2603 ls (.int (xs 1) :: .ref (h 0) :: [])) rfl ?_
  refine lv_aload_n hx hb dL_law__2603 rfl (lv_at hl 0 rfl) ?_
  refine lv_iload hx hb dL_law__2604 (lv_at hl 4 rfl) ?_
  refine lv_iconst (v := 2) hx hb dL_law__2606 (by decide) ?_
  refine lv_iadd hx hb dL_law__2607 ?_
  refine lv_topi (fun x_2 e_2 => ?_)
  obtain rfl : x_2 = 2 := e_2.trans (by decide)
  refine va_sld hx hb hX hbl hbA hS (by rw [hL]; exact vp_in_iff.mpr (by decide)) dL_law__2608 ?_
  refine W.eq (g2 := F0 m 2609 ls (.int (xs 2) :: .int (xs 1) :: .ref (h 0) :: [])) rfl ?_
  refine lv_aload_n hx hb dL_law__2609 rfl (lv_at hl 3 rfl) ?_
  have hPc := hP.sub (ws' := [((h 0), .inr (11, [.ref (h 1), .ref (h 9), .int 0, .int 0, .ref (h 20), .ref (h 37), .int 0, .ref (h 38), .ref (h 42), .ref (h 43), .ref (h 44), .ref (h 45), .ref (h 46), .ref (h 47), .ref (h 48)])), ((h 1), .inr (8, [.ref (h 2), .int 0, .ref (h 3), .ref (h 4), .int 0, .ref (h 5), .int 0, .ref (h 6), .int 0, .ref (h 7), .int 0])), ((h 3), .inl ((cs 9), 10, .inr (.inr (.inr (.inr (fun _ => none)))))), (o, .inl (cL, 1, .inr (.inl (fun _ => 0))))]) [0, 1, 2, 3] rfl
  have hDc := hD.sub (ws' := [((h 0), .inr (11, [.ref (h 1), .ref (h 9), .int 0, .int 0, .ref (h 20), .ref (h 37), .int 0, .ref (h 38), .ref (h 42), .ref (h 43), .ref (h 44), .ref (h 45), .ref (h 46), .ref (h 47), .ref (h 48)])), ((h 1), .inr (8, [.ref (h 2), .int 0, .ref (h 3), .ref (h 4), .int 0, .ref (h 5), .int 0, .ref (h 6), .int 0, .ref (h 7), .int 0])), ((h 3), .inl ((cs 9), 10, .inr (.inr (.inr (.inr (fun _ => none)))))), (o, .inl (cL, 1, .inr (.inl (fun _ => 0))))]) [0, 1, 2, 3] (by decide) rfl
  have hKc := hK.sub (tys' := [((cs 9), .object RX9), (cL, .long)]) [0, 1] rfl
  have hFc := va_free (wc := [((h 0), .inr (11, [.ref (h 1), .ref (h 9), .int 0, .int 0, .ref (h 20), .ref (h 37), .int 0, .ref (h 38), .ref (h 42), .ref (h 43), .ref (h 44), .ref (h 45), .ref (h 46), .ref (h 47), .ref (h 48)])), ((h 1), .inr (8, [.ref (h 2), .int 0, .ref (h 3), .ref (h 4), .int 0, .ref (h 5), .int 0, .ref (h 6), .int 0, .ref (h 7), .int 0])), ((h 3), .inl ((cs 9), 10, .inr (.inr (.inr (.inr (fun _ => none)))))), (o, .inl (cL, 1, .inr (.inl (fun _ => 0))))]) hD hS hA [0, 1, 2, 3] rfl
  refine va_calli (vx_runSW (As := [.ref (h 0), .int (xs 1), .int (xs 2), .ref o]) (rest := []) ⟨hx, hb, hml, hown, ht⟩ (k_L_direction l hl0 _ D h cs (xs 1) (xs 2) o cL) (vx_cwSW 4 ht (zG_S zw_1011 zw_1012 zw_773 zw_1013) rfl rfl rfl (by decide +kernel) ⟨Nat.le_of_ble_eq_true rfl, Nat.le_of_ble_eq_true rfl⟩) (zY_S hNc hEx hS hFc hPc hKc hDc) rfl rfl hl.1 rfl (lv_room (Nat.le_of_ble_eq_true rfl)) dL_law__2610 ⟨Nat.le_of_ble_eq_true rfl, Nat.le_of_ble_eq_true rfl⟩) hS (fun q _ h => hFc q h) hFc (fun r_3 u_3 t H1 locs ht0 hvm hw_3 hB hz1 hk1 hS => ?_)
  obtain ⟨g_3, hg_3, hB⟩ := hB
  obtain ⟨hP1, hK1, hD1⟩ := hB
  rw [ht0] at hP1
  have hK1 := va_K.moved hvm.symm hK1
  obtain ⟨hP, hD⟩ := va_join (wr := [((a 0), .inr (12, zMo a zI0)), ((a 1), .inl (cI, 6792, .inl zI0))]) (w1 := [(o, .inl (cL, 1, .inr (.inl g_3)))]) hP hD [0, 1, 2, 3] [4, 5] rfl rfl (by decide) (by decide) hk1 hFc hP1 hD1
  generalize H1 = H at hP hS ⊢
  have hP : va_P D vwCl [((a 0), .inr (12, zMo a zI0)), ((a 1), .inl (cI, 6792, .inl zI0)), (o, .inl (cL, 1, .inr (.inl g_3)))] H := hP
  have hD : va_D A [((a 0), .inr (12, zMo a zI0)), ((a 1), .inl (cI, 6792, .inl zI0)), (o, .inl (cL, 1, .inr (.inl g_3)))] := hD
  refine W.widen (k := 1194) (n := 188314) (Nat.le_of_ble_eq_true rfl) (Nat.le_of_ble_eq_true rfl) ?_
  refine lv_istore (lv' := [(5, .int r_3), (0, .ref b), (1, .ref (h 0)), (2, .ref (a 0)), (3, .ref o), (4, .int 0)]) hx hb dL_law__2613 hl (by decide) rfl (fun ls hl => ?_)
  refine lv_aload_n hx hb dL_law__2615 rfl (lv_at hl 3 rfl) ?_
  refine lv_aload_n hx hb dL_law__2616 rfl (lv_at hl 1 rfl) ?_
  refine lv_iload hx hb dL_law__2617 (lv_at hl 5 rfl) ?_
  refine lv_iconst (v := 1) hx hb dL_law__2619 (by decide) ?_
  refine lv_iadd hx hb dL_law__2620 ?_
  refine lv_topi (fun x_4 e_4 => ?_)
  obtain rfl : x_4 = 1 := e_4.trans (by decide)
  refine va_sld hx hb hX hbl hbA hS (by rw [hL]; exact vp_in_iff.mpr (by decide)) dL_law__2621 ?_
  refine W.eq (g2 := F0 m 2622 ls (.int (xs 1) :: .ref (a 0) :: [])) rfl ?_
  refine lv_aload_n hx hb dL_law__2622 rfl (lv_at hl 1 rfl) ?_
  refine lv_iload hx hb dL_law__2623 (lv_at hl 5 rfl) ?_
  refine lv_iconst (v := 2) hx hb dL_law__2625 (by decide) ?_
  refine lv_iadd hx hb dL_law__2626 ?_
  refine lv_topi (fun x_5 e_5 => ?_)
  obtain rfl : x_5 = 2 := e_5.trans (by decide)
  refine va_sld hx hb hX hbl hbA hS (by rw [hL]; exact vp_in_iff.mpr (by decide)) dL_law__2627 ?_
  refine W.eq (g2 := F0 m 2628 ls (.int (xs 2) :: .int (xs 1) :: .ref (a 0) :: [])) rfl ?_
  have hPc := hP.sub (ws' := [((a 0), .inr (12, zMo a zI0)), ((a 1), .inl (cI, 6792, .inl zI0))]) [0, 1] rfl
  have hDc := hD.sub (ws' := [((a 0), .inr (12, zMo a zI0)), ((a 1), .inl (cI, 6792, .inl zI0))]) [0, 1] (by decide) rfl
  have hKc := hK.sub (tys' := [(cI, .int)]) [2] rfl
  have hFc := va_free (wc := [((a 0), .inr (12, zMo a zI0)), ((a 1), .inl (cI, 6792, .inl zI0))]) hD hS hA [0, 1] rfl
  refine va_calli (va_runV (As := [.int (xs 1), .int (xs 2)]) (rest := []) ⟨hx, hb, hml, hown, ht⟩ (k_X12_direction l _ D a cI (xs 1) (xs 2)) (cwV 2 ht (zG_V zw_1014 zw_1015 zw_1016 zw_2 zw_1017) rfl rfl rfl (by decide +kernel) ⟨Nat.le_of_ble_eq_true rfl, Nat.le_of_ble_eq_true rfl⟩) (zM_V (va_recv hK hP (ci := 12) (q0 := 0) rfl rfl) hPc hKc hDc) rfl rfl hl.1 rfl (lv_room (Nat.le_of_ble_eq_true rfl)) dL_law__2628 ⟨Nat.le_of_ble_eq_true rfl, Nat.le_of_ble_eq_true rfl⟩) hS (fun q _ h => hFc q h) hFc (fun r_6 u_6 t H1 locs ht0 hvm hw_6 hB hz1 hk1 hS => ?_)
  obtain ⟨hP1, hK1, hD1⟩ := hB
  rw [ht0] at hP1
  have hK1 := va_K.moved hvm.symm hK1
  obtain ⟨hP, hD⟩ := va_join (wr := [(o, .inl (cL, 1, .inr (.inl g_3)))]) (w1 := [((a 0), .inr (12, zMo a u_6))]) hP hD [0, 1] [2] rfl rfl (by decide) (by decide) hk1 hFc hP1 hD1
  generalize H1 = H at hP hS ⊢
  have hP : va_P D vwCl [(o, .inl (cL, 1, .inr (.inl g_3))), ((a 0), .inr (12, zMo a u_6))] H := hP
  have hD : va_D A [(o, .inl (cL, 1, .inr (.inl g_3))), ((a 0), .inr (12, zMo a u_6))] := hD
  refine lv_istore (lv' := [(6, .int r_6), (5, .int r_3), (0, .ref b), (1, .ref (h 0)), (2, .ref (a 0)), (3, .ref o), (4, .int 0)]) hx hb dL_law__2631 hl (by decide) rfl (fun ls hl => ?_)
  refine lv_aload_n hx hb dL_law__2633 rfl (lv_at hl 4 rfl) ?_
  refine vp_callSi (va_runV (As := []) (rest := []) ⟨hx, hb, hml, hown, ht⟩ (k_X12_thrown l D a u_6) (cwV 0 ht (zG_V zw_779 zw_780 zw_781 zw_2 zw_782) rfl rfl rfl (by decide +kernel) ⟨Nat.le_of_ble_eq_true rfl, Nat.le_of_ble_eq_true rfl⟩) (zR_V (va_recv hK hP (ci := 12) (q0 := 1) rfl rfl) (hP.sub (ws' := [((a 0), .inr (12, zMo a u_6))]) [1] rfl) (hK.sub (tys' := []) [] rfl)) rfl rfl hl.1 rfl (lv_room (Nat.le_of_ble_eq_true rfl)) dL_law__2634 ⟨Nat.le_of_ble_eq_true rfl, Nat.le_of_ble_eq_true rfl⟩).run (fun r_7 hw_7 => ?_)
  refine lv_iload hx hb dL_law__2637 (lv_at hl 1 rfl) ?_
  refine lv_icmp_eq (tgt := 2644) hx hb dL_law__2639 (by decide) (fun c_8 => ?_) (fun c_8 => ?_)
  · skip
    simp only [fa_lt, fa_le, fa_eq, Int32.reduceToInt] at c_8
    refine lv_iload hx hb dL_law__2644 (lv_at hl 1 rfl) ?_
    refine lv_if_ne (tgt := 2661) hx hb dL_law__2646 (by decide) (fun c_9 => ?_) (fun c_9 => ?_)
    · skip
      simp only [fa_lt, fa_le, fa_eq, Int32.reduceToInt] at c_9
      refine lv_goto (tgt := 3433) hx hb dL_law__2661 (by decide) ?_
      refine W.widen (k := 2000) (n := 400000) (Nat.le_of_ble_eq_true rfl) (Nat.le_of_ble_eq_true rfl) ?_
      exact zlaw_end hx hb hml hr hown ht hlocks hX hbl hL hAe hS (lv_sub hl [2, 6] rfl)
    · skip
      simp only [fa_lt, fa_le, fa_eq, Int32.reduceToInt] at c_9
      refine lv_aload_n hx hb dL_law__2649 rfl (lv_at hl 5 rfl) ?_
      refine lv_iconst (v := 0) hx hb dL_law__2650 (by decide) ?_
      refine va_lald hx hb hK hP 0 1 rfl rfl (vp_in_iff.mpr (by decide)) dL_law__2651 ?_
      refine W.eq (g2 := F0 m 2652 ls (.long (g_3 0) :: [])) rfl ?_
      refine lv_iload hx hb dL_law__2652 (lv_at hl 0 rfl) ?_
      refine lv_i2l (v := (r_6).toInt64) hx hb dL_law__2654 rfl ?_
      refine W.lcmp hx hb dL_law__2655 ?_
      refine lv_if_eq (tgt := 2661) hx hb dL_law__2656 (by decide) (fun c_10 => ?_) (fun c_10 => ?_)
      · skip
        refine lv_goto (tgt := 3433) hx hb dL_law__2661 (by decide) ?_
        refine W.widen (k := 2000) (n := 400000) (Nat.le_of_ble_eq_true rfl) (Nat.le_of_ble_eq_true rfl) ?_
        exact zlaw_end hx hb hml hr hown ht hlocks hX hbl hL hAe hS (lv_sub hl [2, 6] rfl)
      · skip
        simp only [fa_lt, fa_le, fa_eq, Int32.reduceToInt] at c_10
        exfalso; exact c_10 (by rw [hg_3, ← (zF_direction hw_6 hw_3).2 ((zF_direction hw_6 hw_3).1.trans (Int32.toInt_inj.mp (show r_3.toInt = (0 : Int32).toInt by rw [c_9]; rfl)))]; rw [zcmp_self]; rfl)
  · skip
    simp only [fa_lt, fa_le, fa_eq, Int32.reduceToInt] at c_8
    exfalso; exact c_8 (by rw [hw_7, (zF_direction hw_6 hw_3).1])
