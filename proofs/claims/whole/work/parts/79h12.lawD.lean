/-! ===== the law: what its bytes say ===== -/
theorem dL_law_2409 : decode cL_law 2409 = .ok (.ireturn, 1) := by decide +kernel
theorem dL_law_2410 : decode cL_law 2410 = .ok (.iload 5, 2) := by decide +kernel
theorem dL_law_2412 : decode cL_law 2412 = .ok (.ifCond .ne 15, 3) := by decide +kernel
theorem dL_law_2415 : decode cL_law 2415 = .ok (.aload_n 3, 1) := by decide +kernel
theorem dL_law_2416 : decode cL_law 2416 = .ok (.iconst 0, 1) := by decide +kernel
theorem dL_law_2417 : decode cL_law 2417 = .ok (.laload, 1) := by decide +kernel
theorem dL_law_2418 : decode cL_law 2418 = .ok (.iload 6, 2) := by decide +kernel
theorem dL_law_2420 : decode cL_law 2420 = .ok (.i2l, 1) := by decide +kernel
theorem dL_law_2421 : decode cL_law 2421 = .ok (.lcmp, 1) := by decide +kernel
theorem dL_law_2422 : decode cL_law 2422 = .ok (.ifCond .eq 5, 3) := by decide +kernel
theorem dL_law_2425 : decode cL_law 2425 = .ok (.iconst 0, 1) := by decide +kernel
theorem dL_law_2426 : decode cL_law 2426 = .ok (.ireturn, 1) := by decide +kernel
theorem dL_law_2427 : decode cL_law 2427 = .ok (.goto 216, 3) := by decide +kernel
theorem dL_law_2430 : decode cL_law 2430 = .ok (.aload_n 1, 1) := by decide +kernel
theorem dL_law_2431 : decode cL_law 2431 = .ok (.invokevirtual 271, 3) := by decide +kernel
theorem dL_law_2434 : decode cL_law 2434 = .ok (.aload_n 2, 1) := by decide +kernel
theorem dL_law_2435 : decode cL_law 2435 = .ok (.invokevirtual 274, 3) := by decide +kernel
theorem dL_law_2438 : decode cL_law 2438 = .ok (.if_icmp .eq 205, 3) := by decide +kernel
theorem dL_law_2441 : decode cL_law 2441 = .ok (.iconst 0, 1) := by decide +kernel
theorem dL_law_2442 : decode cL_law 2442 = .ok (.ireturn, 1) := by decide +kernel
theorem dL_law_2443 : decode cL_law 2443 = .ok (.aload_n 1, 1) := by decide +kernel
theorem dL_law_2444 : decode cL_law 2444 = .ok (.aload_n 0, 1) := by decide +kernel
theorem dL_law_2445 : decode cL_law 2445 = .ok (.iload 4, 2) := by decide +kernel
theorem dL_law_2447 : decode cL_law 2447 = .ok (.iconst 1, 1) := by decide +kernel
theorem dL_law_2448 : decode cL_law 2448 = .ok (.iadd, 1) := by decide +kernel
theorem dL_law_2449 : decode cL_law 2449 = .ok (.iaload, 1) := by decide +kernel
theorem dL_law_2450 : decode cL_law 2450 = .ok (.aload_n 3, 1) := by decide +kernel
theorem dL_law_2451 : decode cL_law 2451 = .ok (.invokestatic 275, 3) := by decide +kernel
theorem dL_law_2454 : decode cL_law 2454 = .ok (.istore 5, 2) := by decide +kernel
theorem dL_law_2456 : decode cL_law 2456 = .ok (.aload_n 2, 1) := by decide +kernel
theorem dL_law_2457 : decode cL_law 2457 = .ok (.aload_n 0, 1) := by decide +kernel
theorem dL_law_2458 : decode cL_law 2458 = .ok (.iload 4, 2) := by decide +kernel
theorem dL_law_2460 : decode cL_law 2460 = .ok (.iconst 1, 1) := by decide +kernel
theorem dL_law_2461 : decode cL_law 2461 = .ok (.iadd, 1) := by decide +kernel
theorem dL_law_2462 : decode cL_law 2462 = .ok (.iaload, 1) := by decide +kernel
theorem dL_law_2463 : decode cL_law 2463 = .ok (.invokevirtual 277, 3) := by decide +kernel
theorem dL_law_2466 : decode cL_law 2466 = .ok (.istore 6, 2) := by decide +kernel
theorem dL_law_2468 : decode cL_law 2468 = .ok (.aload_n 2, 1) := by decide +kernel
theorem dL_law_2469 : decode cL_law 2469 = .ok (.invokevirtual 142, 3) := by decide +kernel
theorem dL_law_2472 : decode cL_law 2472 = .ok (.iload 5, 2) := by decide +kernel
theorem dL_law_2474 : decode cL_law 2474 = .ok (.if_icmp .eq 5, 3) := by decide +kernel
theorem dL_law_2477 : decode cL_law 2477 = .ok (.iconst 0, 1) := by decide +kernel
theorem dL_law_2478 : decode cL_law 2478 = .ok (.ireturn, 1) := by decide +kernel
theorem dL_law_2479 : decode cL_law 2479 = .ok (.iload 5, 2) := by decide +kernel
theorem dL_law_2481 : decode cL_law 2481 = .ok (.ifCond .ne 15, 3) := by decide +kernel
theorem dL_law_2484 : decode cL_law 2484 = .ok (.aload_n 3, 1) := by decide +kernel
theorem dL_law_2485 : decode cL_law 2485 = .ok (.iconst 0, 1) := by decide +kernel
theorem dL_law_2486 : decode cL_law 2486 = .ok (.laload, 1) := by decide +kernel
theorem dL_law_2487 : decode cL_law 2487 = .ok (.iload 6, 2) := by decide +kernel
theorem dL_law_2489 : decode cL_law 2489 = .ok (.i2l, 1) := by decide +kernel
theorem dL_law_2490 : decode cL_law 2490 = .ok (.lcmp, 1) := by decide +kernel
theorem dL_law_2491 : decode cL_law 2491 = .ok (.ifCond .eq 5, 3) := by decide +kernel
theorem dL_law_2494 : decode cL_law 2494 = .ok (.iconst 0, 1) := by decide +kernel
theorem dL_law_2495 : decode cL_law 2495 = .ok (.ireturn, 1) := by decide +kernel
theorem dL_law_2496 : decode cL_law 2496 = .ok (.goto 147, 3) := by decide +kernel
theorem dL_law_2499 : decode cL_law 2499 = .ok (.aload_n 1, 1) := by decide +kernel
theorem dL_law_2500 : decode cL_law 2500 = .ok (.aload_n 3, 1) := by decide +kernel
theorem dL_law_2501 : decode cL_law 2501 = .ok (.invokestatic 278, 3) := by decide +kernel
theorem dL_law_2504 : decode cL_law 2504 = .ok (.istore 5, 2) := by decide +kernel
theorem dL_law_2506 : decode cL_law 2506 = .ok (.aload_n 2, 1) := by decide +kernel
theorem dL_law_2507 : decode cL_law 2507 = .ok (.invokevirtual 280, 3) := by decide +kernel
theorem dL_law_2510 : decode cL_law 2510 = .ok (.istore 6, 2) := by decide +kernel
theorem dL_law_2512 : decode cL_law 2512 = .ok (.aload_n 2, 1) := by decide +kernel
theorem dL_law_2513 : decode cL_law 2513 = .ok (.invokevirtual 142, 3) := by decide +kernel
theorem dL_law_2516 : decode cL_law 2516 = .ok (.iload 5, 2) := by decide +kernel
theorem dL_law_2518 : decode cL_law 2518 = .ok (.if_icmp .eq 5, 3) := by decide +kernel
theorem dL_law_2521 : decode cL_law 2521 = .ok (.iconst 0, 1) := by decide +kernel
theorem dL_law_2522 : decode cL_law 2522 = .ok (.ireturn, 1) := by decide +kernel
theorem dL_law_2523 : decode cL_law 2523 = .ok (.iload 5, 2) := by decide +kernel
theorem dL_law_2525 : decode cL_law 2525 = .ok (.ifCond .ne 15, 3) := by decide +kernel
theorem dL_law_2528 : decode cL_law 2528 = .ok (.aload_n 3, 1) := by decide +kernel
theorem dL_law_2529 : decode cL_law 2529 = .ok (.iconst 0, 1) := by decide +kernel
theorem dL_law_2530 : decode cL_law 2530 = .ok (.laload, 1) := by decide +kernel
theorem dL_law_2531 : decode cL_law 2531 = .ok (.iload 6, 2) := by decide +kernel
theorem dL_law_2533 : decode cL_law 2533 = .ok (.i2l, 1) := by decide +kernel
theorem dL_law_2534 : decode cL_law 2534 = .ok (.lcmp, 1) := by decide +kernel
theorem dL_law_2535 : decode cL_law 2535 = .ok (.ifCond .eq 5, 3) := by decide +kernel
theorem dL_law_2538 : decode cL_law 2538 = .ok (.iconst 0, 1) := by decide +kernel
theorem dL_law_2539 : decode cL_law 2539 = .ok (.ireturn, 1) := by decide +kernel
theorem dL_law_2540 : decode cL_law 2540 = .ok (.goto 103, 3) := by decide +kernel
theorem dL_law_2543 : decode cL_law 2543 = .ok (.aload_n 1, 1) := by decide +kernel
theorem dL_law_2544 : decode cL_law 2544 = .ok (.aload_n 0, 1) := by decide +kernel
theorem dL_law_2545 : decode cL_law 2545 = .ok (.iload 4, 2) := by decide +kernel
theorem dL_law_2547 : decode cL_law 2547 = .ok (.iconst 1, 1) := by decide +kernel
theorem dL_law_2548 : decode cL_law 2548 = .ok (.iadd, 1) := by decide +kernel
theorem dL_law_2549 : decode cL_law 2549 = .ok (.iaload, 1) := by decide +kernel
theorem dL_law_2550 : decode cL_law 2550 = .ok (.aload_n 3, 1) := by decide +kernel
theorem dL_law_2551 : decode cL_law 2551 = .ok (.invokestatic 281, 3) := by decide +kernel
theorem dL_law_2554 : decode cL_law 2554 = .ok (.istore 5, 2) := by decide +kernel
theorem dL_law_2556 : decode cL_law 2556 = .ok (.aload_n 2, 1) := by decide +kernel
theorem dL_law_2557 : decode cL_law 2557 = .ok (.aload_n 0, 1) := by decide +kernel
theorem dL_law_2558 : decode cL_law 2558 = .ok (.iload 4, 2) := by decide +kernel
theorem dL_law_2560 : decode cL_law 2560 = .ok (.iconst 1, 1) := by decide +kernel
theorem dL_law_2561 : decode cL_law 2561 = .ok (.iadd, 1) := by decide +kernel
theorem dL_law_2562 : decode cL_law 2562 = .ok (.iaload, 1) := by decide +kernel
theorem dL_law_2563 : decode cL_law 2563 = .ok (.invokevirtual 283, 3) := by decide +kernel
theorem dL_law_2566 : decode cL_law 2566 = .ok (.istore 6, 2) := by decide +kernel
theorem dL_law_2568 : decode cL_law 2568 = .ok (.aload_n 2, 1) := by decide +kernel
theorem dL_law_2569 : decode cL_law 2569 = .ok (.invokevirtual 142, 3) := by decide +kernel
theorem dL_law_2572 : decode cL_law 2572 = .ok (.iload 5, 2) := by decide +kernel
theorem dL_law_2574 : decode cL_law 2574 = .ok (.if_icmp .eq 5, 3) := by decide +kernel
theorem dL_law_2577 : decode cL_law 2577 = .ok (.iconst 0, 1) := by decide +kernel
theorem dL_law_2578 : decode cL_law 2578 = .ok (.ireturn, 1) := by decide +kernel
theorem dL_law_2579 : decode cL_law 2579 = .ok (.iload 5, 2) := by decide +kernel
theorem dL_law_2581 : decode cL_law 2581 = .ok (.ifCond .ne 15, 3) := by decide +kernel
theorem dL_law_2584 : decode cL_law 2584 = .ok (.aload_n 3, 1) := by decide +kernel
theorem dL_law_2585 : decode cL_law 2585 = .ok (.iconst 0, 1) := by decide +kernel
theorem dL_law_2586 : decode cL_law 2586 = .ok (.laload, 1) := by decide +kernel
theorem dL_law_2587 : decode cL_law 2587 = .ok (.iload 6, 2) := by decide +kernel
theorem dL_law_2589 : decode cL_law 2589 = .ok (.i2l, 1) := by decide +kernel
theorem dL_law_2590 : decode cL_law 2590 = .ok (.lcmp, 1) := by decide +kernel
theorem dL_law_2591 : decode cL_law 2591 = .ok (.ifCond .eq 5, 3) := by decide +kernel
theorem dL_law_2594 : decode cL_law 2594 = .ok (.iconst 0, 1) := by decide +kernel
theorem dL_law_2595 : decode cL_law 2595 = .ok (.ireturn, 1) := by decide +kernel
theorem dL_law_2596 : decode cL_law 2596 = .ok (.goto 47, 3) := by decide +kernel
theorem dL_law_2599 : decode cL_law 2599 = .ok (.aload_n 1, 1) := by decide +kernel
theorem dL_law_2600 : decode cL_law 2600 = .ok (.aload_n 3, 1) := by decide +kernel
theorem dL_law_2601 : decode cL_law 2601 = .ok (.invokestatic 284, 3) := by decide +kernel
theorem dL_law_2604 : decode cL_law 2604 = .ok (.istore 5, 2) := by decide +kernel
theorem dL_law_2606 : decode cL_law 2606 = .ok (.aload_n 2, 1) := by decide +kernel
