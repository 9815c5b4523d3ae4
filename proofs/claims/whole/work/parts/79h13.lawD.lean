/-! ===== the law: what its bytes say ===== -/
theorem dL_law_2607 : decode cL_law 2607 = .ok (.invokevirtual 286, 3) := by decide +kernel
theorem dL_law_2610 : decode cL_law 2610 = .ok (.istore 6, 2) := by decide +kernel
theorem dL_law_2612 : decode cL_law 2612 = .ok (.aload_n 2, 1) := by decide +kernel
theorem dL_law_2613 : decode cL_law 2613 = .ok (.invokevirtual 142, 3) := by decide +kernel
theorem dL_law_2616 : decode cL_law 2616 = .ok (.iload 5, 2) := by decide +kernel
theorem dL_law_2618 : decode cL_law 2618 = .ok (.if_icmp .eq 5, 3) := by decide +kernel
theorem dL_law_2621 : decode cL_law 2621 = .ok (.iconst 0, 1) := by decide +kernel
theorem dL_law_2622 : decode cL_law 2622 = .ok (.ireturn, 1) := by decide +kernel
theorem dL_law_2623 : decode cL_law 2623 = .ok (.iload 5, 2) := by decide +kernel
theorem dL_law_2625 : decode cL_law 2625 = .ok (.ifCond .ne 15, 3) := by decide +kernel
theorem dL_law_2628 : decode cL_law 2628 = .ok (.aload_n 3, 1) := by decide +kernel
theorem dL_law_2629 : decode cL_law 2629 = .ok (.iconst 0, 1) := by decide +kernel
theorem dL_law_2630 : decode cL_law 2630 = .ok (.laload, 1) := by decide +kernel
theorem dL_law_2631 : decode cL_law 2631 = .ok (.iload 6, 2) := by decide +kernel
theorem dL_law_2633 : decode cL_law 2633 = .ok (.i2l, 1) := by decide +kernel
theorem dL_law_2634 : decode cL_law 2634 = .ok (.lcmp, 1) := by decide +kernel
theorem dL_law_2635 : decode cL_law 2635 = .ok (.ifCond .eq 5, 3) := by decide +kernel
theorem dL_law_2638 : decode cL_law 2638 = .ok (.iconst 0, 1) := by decide +kernel
theorem dL_law_2639 : decode cL_law 2639 = .ok (.ireturn, 1) := by decide +kernel
theorem dL_law_2640 : decode cL_law 2640 = .ok (.goto 3, 3) := by decide +kernel
theorem dL_law_2643 : decode cL_law 2643 = .ok (.iinc 4 6, 3) := by decide +kernel
theorem dL_law_2646 : decode cL_law 2646 = .ok (.goto (-2623), 3) := by decide +kernel
theorem dL_law_2649 : decode cL_law 2649 = .ok (.iconst 1, 1) := by decide +kernel
theorem dL_law_2650 : decode cL_law 2650 = .ok (.ireturn, 1) := by decide +kernel
