/-! THE LAW, DECODED -/
theorem dL_law_2505 : decode cL_law 2505 = .ok (.aload_n 3, 1) := by decide +kernel
theorem dL_law_2506 : decode cL_law 2506 = .ok (.iconst 0, 1) := by decide +kernel
theorem dL_law_2507 : decode cL_law 2507 = .ok (.laload, 1) := by decide +kernel
theorem dL_law_2508 : decode cL_law 2508 = .ok (.iload 7, 2) := by decide +kernel
theorem dL_law_2510 : decode cL_law 2510 = .ok (.i2l, 1) := by decide +kernel
theorem dL_law_2511 : decode cL_law 2511 = .ok (.lcmp, 1) := by decide +kernel
theorem dL_law_2512 : decode cL_law 2512 = .ok (.ifCond .eq 5, 3) := by decide +kernel
theorem dL_law_2515 : decode cL_law 2515 = .ok (.iconst 0, 1) := by decide +kernel
theorem dL_law_2516 : decode cL_law 2516 = .ok (.ireturn, 1) := by decide +kernel
theorem dL_law_2517 : decode cL_law 2517 = .ok (.goto 1094, 3) := by decide +kernel
theorem dL_law_2520 : decode cL_law 2520 = .ok (.aload_n 1, 1) := by decide +kernel
theorem dL_law_2521 : decode cL_law 2521 = .ok (.aload_n 0, 1) := by decide +kernel
theorem dL_law_2522 : decode cL_law 2522 = .ok (.iload 5, 2) := by decide +kernel
theorem dL_law_2524 : decode cL_law 2524 = .ok (.iconst 1, 1) := by decide +kernel
theorem dL_law_2525 : decode cL_law 2525 = .ok (.iadd, 1) := by decide +kernel
theorem dL_law_2526 : decode cL_law 2526 = .ok (.iaload, 1) := by decide +kernel
theorem dL_law_2527 : decode cL_law 2527 = .ok (.aload_n 3, 1) := by decide +kernel
theorem dL_law_2528 : decode cL_law 2528 = .ok (.invokestatic 340, 3) := by decide +kernel
theorem dL_law_2531 : decode cL_law 2531 = .ok (.istore 6, 2) := by decide +kernel
theorem dL_law_2533 : decode cL_law 2533 = .ok (.aload_n 2, 1) := by decide +kernel
theorem dL_law_2534 : decode cL_law 2534 = .ok (.aload_n 0, 1) := by decide +kernel
theorem dL_law_2535 : decode cL_law 2535 = .ok (.iload 5, 2) := by decide +kernel
theorem dL_law_2537 : decode cL_law 2537 = .ok (.iconst 1, 1) := by decide +kernel
theorem dL_law_2538 : decode cL_law 2538 = .ok (.iadd, 1) := by decide +kernel
theorem dL_law_2539 : decode cL_law 2539 = .ok (.iaload, 1) := by decide +kernel
theorem dL_law_2540 : decode cL_law 2540 = .ok (.invokevirtual 342, 3) := by decide +kernel
theorem dL_law_2543 : decode cL_law 2543 = .ok (.istore 7, 2) := by decide +kernel
theorem dL_law_2545 : decode cL_law 2545 = .ok (.aload_n 2, 1) := by decide +kernel
theorem dL_law_2546 : decode cL_law 2546 = .ok (.invokevirtual 191, 3) := by decide +kernel
theorem dL_law_2549 : decode cL_law 2549 = .ok (.iload 6, 2) := by decide +kernel
theorem dL_law_2551 : decode cL_law 2551 = .ok (.if_icmp .eq 5, 3) := by decide +kernel
theorem dL_law_2554 : decode cL_law 2554 = .ok (.iconst 0, 1) := by decide +kernel
theorem dL_law_2555 : decode cL_law 2555 = .ok (.ireturn, 1) := by decide +kernel
theorem dL_law_2556 : decode cL_law 2556 = .ok (.iload 6, 2) := by decide +kernel
theorem dL_law_2558 : decode cL_law 2558 = .ok (.ifCond .ne 15, 3) := by decide +kernel
theorem dL_law_2561 : decode cL_law 2561 = .ok (.aload_n 3, 1) := by decide +kernel
theorem dL_law_2562 : decode cL_law 2562 = .ok (.iconst 0, 1) := by decide +kernel
theorem dL_law_2563 : decode cL_law 2563 = .ok (.laload, 1) := by decide +kernel
theorem dL_law_2564 : decode cL_law 2564 = .ok (.iload 7, 2) := by decide +kernel
theorem dL_law_2566 : decode cL_law 2566 = .ok (.i2l, 1) := by decide +kernel
theorem dL_law_2567 : decode cL_law 2567 = .ok (.lcmp, 1) := by decide +kernel
theorem dL_law_2568 : decode cL_law 2568 = .ok (.ifCond .eq 5, 3) := by decide +kernel
theorem dL_law_2571 : decode cL_law 2571 = .ok (.iconst 0, 1) := by decide +kernel
theorem dL_law_2572 : decode cL_law 2572 = .ok (.ireturn, 1) := by decide +kernel
theorem dL_law_2573 : decode cL_law 2573 = .ok (.goto 1038, 3) := by decide +kernel
theorem dL_law_2576 : decode cL_law 2576 = .ok (.aload_n 1, 1) := by decide +kernel
theorem dL_law_2577 : decode cL_law 2577 = .ok (.aload_n 0, 1) := by decide +kernel
theorem dL_law_2578 : decode cL_law 2578 = .ok (.iload 5, 2) := by decide +kernel
theorem dL_law_2580 : decode cL_law 2580 = .ok (.iconst 1, 1) := by decide +kernel
theorem dL_law_2581 : decode cL_law 2581 = .ok (.iadd, 1) := by decide +kernel
theorem dL_law_2582 : decode cL_law 2582 = .ok (.iaload, 1) := by decide +kernel
theorem dL_law_2583 : decode cL_law 2583 = .ok (.aload_n 3, 1) := by decide +kernel
theorem dL_law_2584 : decode cL_law 2584 = .ok (.invokestatic 343, 3) := by decide +kernel
theorem dL_law_2587 : decode cL_law 2587 = .ok (.istore 6, 2) := by decide +kernel
theorem dL_law_2589 : decode cL_law 2589 = .ok (.aload_n 2, 1) := by decide +kernel
theorem dL_law_2590 : decode cL_law 2590 = .ok (.aload_n 0, 1) := by decide +kernel
theorem dL_law_2591 : decode cL_law 2591 = .ok (.iload 5, 2) := by decide +kernel
theorem dL_law_2593 : decode cL_law 2593 = .ok (.iconst 1, 1) := by decide +kernel
theorem dL_law_2594 : decode cL_law 2594 = .ok (.iadd, 1) := by decide +kernel
theorem dL_law_2595 : decode cL_law 2595 = .ok (.iaload, 1) := by decide +kernel
theorem dL_law_2596 : decode cL_law 2596 = .ok (.invokevirtual 345, 3) := by decide +kernel
theorem dL_law_2599 : decode cL_law 2599 = .ok (.istore 7, 2) := by decide +kernel
theorem dL_law_2601 : decode cL_law 2601 = .ok (.aload_n 2, 1) := by decide +kernel
theorem dL_law_2602 : decode cL_law 2602 = .ok (.invokevirtual 191, 3) := by decide +kernel
theorem dL_law_2605 : decode cL_law 2605 = .ok (.iload 6, 2) := by decide +kernel
theorem dL_law_2607 : decode cL_law 2607 = .ok (.if_icmp .eq 5, 3) := by decide +kernel
theorem dL_law_2610 : decode cL_law 2610 = .ok (.iconst 0, 1) := by decide +kernel
theorem dL_law_2611 : decode cL_law 2611 = .ok (.ireturn, 1) := by decide +kernel
theorem dL_law_2612 : decode cL_law 2612 = .ok (.iload 6, 2) := by decide +kernel
theorem dL_law_2614 : decode cL_law 2614 = .ok (.ifCond .ne 15, 3) := by decide +kernel
theorem dL_law_2617 : decode cL_law 2617 = .ok (.aload_n 3, 1) := by decide +kernel
theorem dL_law_2618 : decode cL_law 2618 = .ok (.iconst 0, 1) := by decide +kernel
theorem dL_law_2619 : decode cL_law 2619 = .ok (.laload, 1) := by decide +kernel
theorem dL_law_2620 : decode cL_law 2620 = .ok (.iload 7, 2) := by decide +kernel
theorem dL_law_2622 : decode cL_law 2622 = .ok (.i2l, 1) := by decide +kernel
theorem dL_law_2623 : decode cL_law 2623 = .ok (.lcmp, 1) := by decide +kernel
theorem dL_law_2624 : decode cL_law 2624 = .ok (.ifCond .eq 5, 3) := by decide +kernel
theorem dL_law_2627 : decode cL_law 2627 = .ok (.iconst 0, 1) := by decide +kernel
theorem dL_law_2628 : decode cL_law 2628 = .ok (.ireturn, 1) := by decide +kernel
theorem dL_law_2629 : decode cL_law 2629 = .ok (.goto 982, 3) := by decide +kernel
theorem dL_law_2632 : decode cL_law 2632 = .ok (.aload_n 1, 1) := by decide +kernel
theorem dL_law_2633 : decode cL_law 2633 = .ok (.aload_n 0, 1) := by decide +kernel
theorem dL_law_2634 : decode cL_law 2634 = .ok (.iload 5, 2) := by decide +kernel
theorem dL_law_2636 : decode cL_law 2636 = .ok (.iconst 1, 1) := by decide +kernel
theorem dL_law_2637 : decode cL_law 2637 = .ok (.iadd, 1) := by decide +kernel
theorem dL_law_2638 : decode cL_law 2638 = .ok (.iaload, 1) := by decide +kernel
theorem dL_law_2639 : decode cL_law 2639 = .ok (.aload_n 3, 1) := by decide +kernel
theorem dL_law_2640 : decode cL_law 2640 = .ok (.invokestatic 346, 3) := by decide +kernel
theorem dL_law_2643 : decode cL_law 2643 = .ok (.istore 6, 2) := by decide +kernel
theorem dL_law_2645 : decode cL_law 2645 = .ok (.aload_n 2, 1) := by decide +kernel
theorem dL_law_2646 : decode cL_law 2646 = .ok (.aload_n 0, 1) := by decide +kernel
theorem dL_law_2647 : decode cL_law 2647 = .ok (.iload 5, 2) := by decide +kernel
theorem dL_law_2649 : decode cL_law 2649 = .ok (.iconst 1, 1) := by decide +kernel
theorem dL_law_2650 : decode cL_law 2650 = .ok (.iadd, 1) := by decide +kernel
theorem dL_law_2651 : decode cL_law 2651 = .ok (.iaload, 1) := by decide +kernel
theorem dL_law_2652 : decode cL_law 2652 = .ok (.invokevirtual 348, 3) := by decide +kernel
theorem dL_law_2655 : decode cL_law 2655 = .ok (.istore 7, 2) := by decide +kernel
theorem dL_law_2657 : decode cL_law 2657 = .ok (.aload_n 2, 1) := by decide +kernel
theorem dL_law_2658 : decode cL_law 2658 = .ok (.invokevirtual 191, 3) := by decide +kernel
theorem dL_law_2661 : decode cL_law 2661 = .ok (.iload 6, 2) := by decide +kernel
