theorem d_Mt_abs_0 : decode b_Mt_abs 0 = .ok (.lload_n 0, 1) := by decide +kernel
theorem d_Mt_abs_1 : decode b_Mt_abs 1 = .ok (.lconst 0, 1) := by decide +kernel
theorem d_Mt_abs_2 : decode b_Mt_abs 2 = .ok (.lcmp, 1) := by decide +kernel
theorem d_Mt_abs_3 : decode b_Mt_abs 3 = .ok (.ifCond .ge 8, 3) := by decide +kernel
theorem d_Mt_abs_6 : decode b_Mt_abs 6 = .ok (.lload_n 0, 1) := by decide +kernel
theorem d_Mt_abs_7 : decode b_Mt_abs 7 = .ok (.lneg, 1) := by decide +kernel
theorem d_Mt_abs_8 : decode b_Mt_abs 8 = .ok (.goto 4, 3) := by decide +kernel
theorem d_Mt_abs_11 : decode b_Mt_abs 11 = .ok (.lload_n 0, 1) := by decide +kernel
theorem d_Mt_abs_12 : decode b_Mt_abs 12 = .ok (.lreturn, 1) := by decide +kernel
theorem d_Mt_floorDiv_0 : decode b_Mt_floorDiv 0 = .ok (.lload_n 0, 1) := by decide +kernel
theorem d_Mt_floorDiv_1 : decode b_Mt_floorDiv 1 = .ok (.lload_n 2, 1) := by decide +kernel
theorem d_Mt_floorDiv_2 : decode b_Mt_floorDiv 2 = .ok (.ldiv, 1) := by decide +kernel
theorem d_Mt_floorDiv_3 : decode b_Mt_floorDiv 3 = .ok (.lstore 4, 2) := by decide +kernel
theorem d_Mt_floorDiv_5 : decode b_Mt_floorDiv 5 = .ok (.lload_n 0, 1) := by decide +kernel
theorem d_Mt_floorDiv_6 : decode b_Mt_floorDiv 6 = .ok (.lload_n 2, 1) := by decide +kernel
theorem d_Mt_floorDiv_7 : decode b_Mt_floorDiv 7 = .ok (.lxor, 1) := by decide +kernel
theorem d_Mt_floorDiv_8 : decode b_Mt_floorDiv 8 = .ok (.lconst 0, 1) := by decide +kernel
theorem d_Mt_floorDiv_9 : decode b_Mt_floorDiv 9 = .ok (.lcmp, 1) := by decide +kernel
theorem d_Mt_floorDiv_10 : decode b_Mt_floorDiv 10 = .ok (.ifCond .ge 17, 3) := by decide +kernel
theorem d_Mt_floorDiv_13 : decode b_Mt_floorDiv 13 = .ok (.lload 4, 2) := by decide +kernel
theorem d_Mt_floorDiv_15 : decode b_Mt_floorDiv 15 = .ok (.lload_n 2, 1) := by decide +kernel
theorem d_Mt_floorDiv_16 : decode b_Mt_floorDiv 16 = .ok (.lmul, 1) := by decide +kernel
theorem d_Mt_floorDiv_17 : decode b_Mt_floorDiv 17 = .ok (.lload_n 0, 1) := by decide +kernel
theorem d_Mt_floorDiv_18 : decode b_Mt_floorDiv 18 = .ok (.lcmp, 1) := by decide +kernel
theorem d_Mt_floorDiv_19 : decode b_Mt_floorDiv 19 = .ok (.ifCond .eq 8, 3) := by decide +kernel
theorem d_Mt_floorDiv_22 : decode b_Mt_floorDiv 22 = .ok (.lload 4, 2) := by decide +kernel
theorem d_Mt_floorDiv_24 : decode b_Mt_floorDiv 24 = .ok (.lconst 1, 1) := by decide +kernel
theorem d_Mt_floorDiv_25 : decode b_Mt_floorDiv 25 = .ok (.lsub, 1) := by decide +kernel
theorem d_Mt_floorDiv_26 : decode b_Mt_floorDiv 26 = .ok (.lreturn, 1) := by decide +kernel
theorem d_Mt_floorDiv_27 : decode b_Mt_floorDiv 27 = .ok (.lload 4, 2) := by decide +kernel
theorem d_Mt_floorDiv_29 : decode b_Mt_floorDiv 29 = .ok (.lreturn, 1) := by decide +kernel
theorem d_Mt_max_0 : decode b_Mt_max 0 = .ok (.iload_n 0, 1) := by decide +kernel
theorem d_Mt_max_1 : decode b_Mt_max 1 = .ok (.iload_n 1, 1) := by decide +kernel
theorem d_Mt_max_2 : decode b_Mt_max 2 = .ok (.if_icmp .lt 7, 3) := by decide +kernel
theorem d_Mt_max_5 : decode b_Mt_max 5 = .ok (.iload_n 0, 1) := by decide +kernel
theorem d_Mt_max_6 : decode b_Mt_max 6 = .ok (.goto 4, 3) := by decide +kernel
theorem d_Mt_max_9 : decode b_Mt_max 9 = .ok (.iload_n 1, 1) := by decide +kernel
theorem d_Mt_max_10 : decode b_Mt_max 10 = .ok (.ireturn, 1) := by decide +kernel
theorem d_Mt_min_0 : decode b_Mt_min 0 = .ok (.iload_n 0, 1) := by decide +kernel
theorem d_Mt_min_1 : decode b_Mt_min 1 = .ok (.iload_n 1, 1) := by decide +kernel
theorem d_Mt_min_2 : decode b_Mt_min 2 = .ok (.if_icmp .gt 7, 3) := by decide +kernel
theorem d_Mt_min_5 : decode b_Mt_min 5 = .ok (.iload_n 0, 1) := by decide +kernel
theorem d_Mt_min_6 : decode b_Mt_min 6 = .ok (.goto 4, 3) := by decide +kernel
theorem d_Mt_min_9 : decode b_Mt_min 9 = .ok (.iload_n 1, 1) := by decide +kernel
theorem d_Mt_min_10 : decode b_Mt_min 10 = .ok (.ireturn, 1) := by decide +kernel
