/-! the law's bytecode, decoded -/
theorem dL_law_2357 : decode cL_law 2357 = .ok (.iaload, 1) := by decide +kernel
theorem dL_law_2358 : decode cL_law 2358 = .ok (.aload_n 0, 1) := by decide +kernel
theorem dL_law_2359 : decode cL_law 2359 = .ok (.iload 5, 2) := by decide +kernel
theorem dL_law_2361 : decode cL_law 2361 = .ok (.iconst 2, 1) := by decide +kernel
theorem dL_law_2362 : decode cL_law 2362 = .ok (.iadd, 1) := by decide +kernel
theorem dL_law_2363 : decode cL_law 2363 = .ok (.iaload, 1) := by decide +kernel
theorem dL_law_2364 : decode cL_law 2364 = .ok (.aload_n 0, 1) := by decide +kernel
theorem dL_law_2365 : decode cL_law 2365 = .ok (.iload 5, 2) := by decide +kernel
theorem dL_law_2367 : decode cL_law 2367 = .ok (.iconst 3, 1) := by decide +kernel
theorem dL_law_2368 : decode cL_law 2368 = .ok (.iadd, 1) := by decide +kernel
theorem dL_law_2369 : decode cL_law 2369 = .ok (.iaload, 1) := by decide +kernel
theorem dL_law_2370 : decode cL_law 2370 = .ok (.invokevirtual 247, 3) := by decide +kernel
theorem dL_law_2373 : decode cL_law 2373 = .ok (.istore 7, 2) := by decide +kernel
theorem dL_law_2375 : decode cL_law 2375 = .ok (.aload_n 2, 1) := by decide +kernel
theorem dL_law_2376 : decode cL_law 2376 = .ok (.invokevirtual 150, 3) := by decide +kernel
theorem dL_law_2379 : decode cL_law 2379 = .ok (.iload 6, 2) := by decide +kernel
theorem dL_law_2381 : decode cL_law 2381 = .ok (.if_icmp .eq 5, 3) := by decide +kernel
theorem dL_law_2384 : decode cL_law 2384 = .ok (.iconst 0, 1) := by decide +kernel
theorem dL_law_2385 : decode cL_law 2385 = .ok (.ireturn, 1) := by decide +kernel
theorem dL_law_2386 : decode cL_law 2386 = .ok (.iload 6, 2) := by decide +kernel
theorem dL_law_2388 : decode cL_law 2388 = .ok (.ifCond .ne 15, 3) := by decide +kernel
theorem dL_law_2391 : decode cL_law 2391 = .ok (.aload_n 3, 1) := by decide +kernel
theorem dL_law_2392 : decode cL_law 2392 = .ok (.iconst 0, 1) := by decide +kernel
theorem dL_law_2393 : decode cL_law 2393 = .ok (.laload, 1) := by decide +kernel
theorem dL_law_2394 : decode cL_law 2394 = .ok (.iload 7, 2) := by decide +kernel
theorem dL_law_2396 : decode cL_law 2396 = .ok (.i2l, 1) := by decide +kernel
theorem dL_law_2397 : decode cL_law 2397 = .ok (.lcmp, 1) := by decide +kernel
theorem dL_law_2398 : decode cL_law 2398 = .ok (.ifCond .eq 5, 3) := by decide +kernel
theorem dL_law_2401 : decode cL_law 2401 = .ok (.iconst 0, 1) := by decide +kernel
theorem dL_law_2402 : decode cL_law 2402 = .ok (.ireturn, 1) := by decide +kernel
theorem dL_law_2403 : decode cL_law 2403 = .ok (.goto 614, 3) := by decide +kernel
theorem dL_law_2406 : decode cL_law 2406 = .ok (.aload_n 1, 1) := by decide +kernel
theorem dL_law_2407 : decode cL_law 2407 = .ok (.aload_n 0, 1) := by decide +kernel
theorem dL_law_2408 : decode cL_law 2408 = .ok (.iload 5, 2) := by decide +kernel
theorem dL_law_2410 : decode cL_law 2410 = .ok (.iconst 1, 1) := by decide +kernel
theorem dL_law_2411 : decode cL_law 2411 = .ok (.iadd, 1) := by decide +kernel
theorem dL_law_2412 : decode cL_law 2412 = .ok (.iaload, 1) := by decide +kernel
theorem dL_law_2413 : decode cL_law 2413 = .ok (.aload_n 0, 1) := by decide +kernel
theorem dL_law_2414 : decode cL_law 2414 = .ok (.iload 5, 2) := by decide +kernel
theorem dL_law_2416 : decode cL_law 2416 = .ok (.iconst 2, 1) := by decide +kernel
theorem dL_law_2417 : decode cL_law 2417 = .ok (.iadd, 1) := by decide +kernel
theorem dL_law_2418 : decode cL_law 2418 = .ok (.iaload, 1) := by decide +kernel
theorem dL_law_2419 : decode cL_law 2419 = .ok (.aload_n 0, 1) := by decide +kernel
theorem dL_law_2420 : decode cL_law 2420 = .ok (.iload 5, 2) := by decide +kernel
theorem dL_law_2422 : decode cL_law 2422 = .ok (.iconst 3, 1) := by decide +kernel
theorem dL_law_2423 : decode cL_law 2423 = .ok (.iadd, 1) := by decide +kernel
theorem dL_law_2424 : decode cL_law 2424 = .ok (.iaload, 1) := by decide +kernel
theorem dL_law_2425 : decode cL_law 2425 = .ok (.aload_n 3, 1) := by decide +kernel
theorem dL_law_2426 : decode cL_law 2426 = .ok (.invokestatic 248, 3) := by decide +kernel
theorem dL_law_2429 : decode cL_law 2429 = .ok (.istore 6, 2) := by decide +kernel
theorem dL_law_2431 : decode cL_law 2431 = .ok (.aload_n 2, 1) := by decide +kernel
theorem dL_law_2432 : decode cL_law 2432 = .ok (.aload_n 0, 1) := by decide +kernel
theorem dL_law_2433 : decode cL_law 2433 = .ok (.iload 5, 2) := by decide +kernel
theorem dL_law_2435 : decode cL_law 2435 = .ok (.iconst 1, 1) := by decide +kernel
theorem dL_law_2436 : decode cL_law 2436 = .ok (.iadd, 1) := by decide +kernel
theorem dL_law_2437 : decode cL_law 2437 = .ok (.iaload, 1) := by decide +kernel
theorem dL_law_2438 : decode cL_law 2438 = .ok (.aload_n 0, 1) := by decide +kernel
theorem dL_law_2439 : decode cL_law 2439 = .ok (.iload 5, 2) := by decide +kernel
theorem dL_law_2441 : decode cL_law 2441 = .ok (.iconst 2, 1) := by decide +kernel
theorem dL_law_2442 : decode cL_law 2442 = .ok (.iadd, 1) := by decide +kernel
theorem dL_law_2443 : decode cL_law 2443 = .ok (.iaload, 1) := by decide +kernel
theorem dL_law_2444 : decode cL_law 2444 = .ok (.aload_n 0, 1) := by decide +kernel
theorem dL_law_2445 : decode cL_law 2445 = .ok (.iload 5, 2) := by decide +kernel
theorem dL_law_2447 : decode cL_law 2447 = .ok (.iconst 3, 1) := by decide +kernel
theorem dL_law_2448 : decode cL_law 2448 = .ok (.iadd, 1) := by decide +kernel
theorem dL_law_2449 : decode cL_law 2449 = .ok (.iaload, 1) := by decide +kernel
theorem dL_law_2450 : decode cL_law 2450 = .ok (.invokevirtual 250, 3) := by decide +kernel
theorem dL_law_2453 : decode cL_law 2453 = .ok (.istore 7, 2) := by decide +kernel
theorem dL_law_2455 : decode cL_law 2455 = .ok (.aload_n 2, 1) := by decide +kernel
theorem dL_law_2456 : decode cL_law 2456 = .ok (.invokevirtual 150, 3) := by decide +kernel
theorem dL_law_2459 : decode cL_law 2459 = .ok (.iload 6, 2) := by decide +kernel
theorem dL_law_2461 : decode cL_law 2461 = .ok (.if_icmp .eq 5, 3) := by decide +kernel
theorem dL_law_2464 : decode cL_law 2464 = .ok (.iconst 0, 1) := by decide +kernel
theorem dL_law_2465 : decode cL_law 2465 = .ok (.ireturn, 1) := by decide +kernel
theorem dL_law_2466 : decode cL_law 2466 = .ok (.iload 6, 2) := by decide +kernel
theorem dL_law_2468 : decode cL_law 2468 = .ok (.ifCond .ne 15, 3) := by decide +kernel
theorem dL_law_2471 : decode cL_law 2471 = .ok (.aload_n 3, 1) := by decide +kernel
theorem dL_law_2472 : decode cL_law 2472 = .ok (.iconst 0, 1) := by decide +kernel
theorem dL_law_2473 : decode cL_law 2473 = .ok (.laload, 1) := by decide +kernel
theorem dL_law_2474 : decode cL_law 2474 = .ok (.iload 7, 2) := by decide +kernel
theorem dL_law_2476 : decode cL_law 2476 = .ok (.i2l, 1) := by decide +kernel
theorem dL_law_2477 : decode cL_law 2477 = .ok (.lcmp, 1) := by decide +kernel
theorem dL_law_2478 : decode cL_law 2478 = .ok (.ifCond .eq 5, 3) := by decide +kernel
theorem dL_law_2481 : decode cL_law 2481 = .ok (.iconst 0, 1) := by decide +kernel
theorem dL_law_2482 : decode cL_law 2482 = .ok (.ireturn, 1) := by decide +kernel
theorem dL_law_2483 : decode cL_law 2483 = .ok (.goto 534, 3) := by decide +kernel
theorem dL_law_2486 : decode cL_law 2486 = .ok (.aload_n 1, 1) := by decide +kernel
theorem dL_law_2487 : decode cL_law 2487 = .ok (.aload_n 0, 1) := by decide +kernel
theorem dL_law_2488 : decode cL_law 2488 = .ok (.iload 5, 2) := by decide +kernel
theorem dL_law_2490 : decode cL_law 2490 = .ok (.iconst 1, 1) := by decide +kernel
theorem dL_law_2491 : decode cL_law 2491 = .ok (.iadd, 1) := by decide +kernel
theorem dL_law_2492 : decode cL_law 2492 = .ok (.iaload, 1) := by decide +kernel
theorem dL_law_2493 : decode cL_law 2493 = .ok (.aload_n 3, 1) := by decide +kernel
theorem dL_law_2494 : decode cL_law 2494 = .ok (.invokestatic 251, 3) := by decide +kernel
theorem dL_law_2497 : decode cL_law 2497 = .ok (.istore 6, 2) := by decide +kernel
theorem dL_law_2499 : decode cL_law 2499 = .ok (.aload_n 2, 1) := by decide +kernel
theorem dL_law_2500 : decode cL_law 2500 = .ok (.aload_n 0, 1) := by decide +kernel
theorem dL_law_2501 : decode cL_law 2501 = .ok (.iload 5, 2) := by decide +kernel
theorem dL_law_2503 : decode cL_law 2503 = .ok (.iconst 1, 1) := by decide +kernel
theorem dL_law_2504 : decode cL_law 2504 = .ok (.iadd, 1) := by decide +kernel
theorem dL_law_2505 : decode cL_law 2505 = .ok (.iaload, 1) := by decide +kernel
theorem dL_law_2506 : decode cL_law 2506 = .ok (.invokevirtual 253, 3) := by decide +kernel
theorem dL_law_2509 : decode cL_law 2509 = .ok (.istore 7, 2) := by decide +kernel
theorem dL_law_2511 : decode cL_law 2511 = .ok (.aload_n 2, 1) := by decide +kernel
theorem dL_law_2512 : decode cL_law 2512 = .ok (.invokevirtual 150, 3) := by decide +kernel
theorem dL_law_2515 : decode cL_law 2515 = .ok (.iload 6, 2) := by decide +kernel
theorem dL_law_2517 : decode cL_law 2517 = .ok (.if_icmp .eq 5, 3) := by decide +kernel
theorem dL_law_2520 : decode cL_law 2520 = .ok (.iconst 0, 1) := by decide +kernel
theorem dL_law_2521 : decode cL_law 2521 = .ok (.ireturn, 1) := by decide +kernel
theorem dL_law_2522 : decode cL_law 2522 = .ok (.iload 6, 2) := by decide +kernel
theorem dL_law_2524 : decode cL_law 2524 = .ok (.ifCond .ne 15, 3) := by decide +kernel
theorem dL_law_2527 : decode cL_law 2527 = .ok (.aload_n 3, 1) := by decide +kernel
theorem dL_law_2528 : decode cL_law 2528 = .ok (.iconst 0, 1) := by decide +kernel
theorem dL_law_2529 : decode cL_law 2529 = .ok (.laload, 1) := by decide +kernel
theorem dL_law_2530 : decode cL_law 2530 = .ok (.iload 7, 2) := by decide +kernel
theorem dL_law_2532 : decode cL_law 2532 = .ok (.i2l, 1) := by decide +kernel
theorem dL_law_2533 : decode cL_law 2533 = .ok (.lcmp, 1) := by decide +kernel
theorem dL_law_2534 : decode cL_law 2534 = .ok (.ifCond .eq 5, 3) := by decide +kernel
theorem dL_law_2537 : decode cL_law 2537 = .ok (.iconst 0, 1) := by decide +kernel
theorem dL_law_2538 : decode cL_law 2538 = .ok (.ireturn, 1) := by decide +kernel
theorem dL_law_2539 : decode cL_law 2539 = .ok (.goto 478, 3) := by decide +kernel
theorem dL_law_2542 : decode cL_law 2542 = .ok (.aload_n 1, 1) := by decide +kernel
theorem dL_law_2543 : decode cL_law 2543 = .ok (.aload_n 0, 1) := by decide +kernel
theorem dL_law_2544 : decode cL_law 2544 = .ok (.iload 5, 2) := by decide +kernel
theorem dL_law_2546 : decode cL_law 2546 = .ok (.iconst 1, 1) := by decide +kernel
theorem dL_law_2547 : decode cL_law 2547 = .ok (.iadd, 1) := by decide +kernel
theorem dL_law_2548 : decode cL_law 2548 = .ok (.iaload, 1) := by decide +kernel
theorem dL_law_2549 : decode cL_law 2549 = .ok (.aload_n 3, 1) := by decide +kernel
theorem dL_law_2550 : decode cL_law 2550 = .ok (.invokestatic 254, 3) := by decide +kernel
theorem dL_law_2553 : decode cL_law 2553 = .ok (.istore 6, 2) := by decide +kernel
