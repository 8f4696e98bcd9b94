theorem d_Fr_init_0 : decode b_Fr_init 0 = .ok (.aload_n 0, 1) := by decide +kernel
theorem d_Fr_init_1 : decode b_Fr_init 1 = .ok (.invokespecial 3, 3) := by decide +kernel
theorem d_Fr_init_4 : decode b_Fr_init 4 = .ok (.aload_n 0, 1) := by decide +kernel
theorem d_Fr_init_5 : decode b_Fr_init 5 = .ok (.new 9, 3) := by decide +kernel
theorem d_Fr_init_8 : decode b_Fr_init 8 = .ok (.dup, 1) := by decide +kernel
theorem d_Fr_init_9 : decode b_Fr_init 9 = .ok (.invokespecial 11, 3) := by decide +kernel
theorem d_Fr_init_12 : decode b_Fr_init 12 = .ok (.putfield 12, 3) := by decide +kernel
theorem d_Fr_init_15 : decode b_Fr_init 15 = .ok (.aload_n 0, 1) := by decide +kernel
theorem d_Fr_init_16 : decode b_Fr_init 16 = .ok (.new 9, 3) := by decide +kernel
theorem d_Fr_init_19 : decode b_Fr_init 19 = .ok (.dup, 1) := by decide +kernel
theorem d_Fr_init_20 : decode b_Fr_init 20 = .ok (.invokespecial 11, 3) := by decide +kernel
theorem d_Fr_init_23 : decode b_Fr_init 23 = .ok (.putfield 18, 3) := by decide +kernel
theorem d_Fr_init_26 : decode b_Fr_init 26 = .ok (.aload_n 0, 1) := by decide +kernel
theorem d_Fr_init_27 : decode b_Fr_init 27 = .ok (.getfield 18, 3) := by decide +kernel
theorem d_Fr_init_30 : decode b_Fr_init 30 = .ok (.lconst 1, 1) := by decide +kernel
theorem d_Fr_init_31 : decode b_Fr_init 31 = .ok (.invokevirtual 21, 3) := by decide +kernel
theorem d_Fr_init_34 : decode b_Fr_init 34 = .ok (.aload_n 0, 1) := by decide +kernel
theorem d_Fr_init_35 : decode b_Fr_init 35 = .ok (.iconst 0, 1) := by decide +kernel
theorem d_Fr_init_36 : decode b_Fr_init 36 = .ok (.putfield 25, 3) := by decide +kernel
theorem d_Fr_init_39 : decode b_Fr_init 39 = .ok (.return_, 1) := by decide +kernel
theorem d_Fr_copyFrom_0 : decode b_Fr_copyFrom 0 = .ok (.aload_n 0, 1) := by decide +kernel
theorem d_Fr_copyFrom_1 : decode b_Fr_copyFrom 1 = .ok (.getfield 12, 3) := by decide +kernel
theorem d_Fr_copyFrom_4 : decode b_Fr_copyFrom 4 = .ok (.aload_n 1, 1) := by decide +kernel
theorem d_Fr_copyFrom_5 : decode b_Fr_copyFrom 5 = .ok (.getfield 12, 3) := by decide +kernel
theorem d_Fr_copyFrom_8 : decode b_Fr_copyFrom 8 = .ok (.invokevirtual 29, 3) := by decide +kernel
theorem d_Fr_copyFrom_11 : decode b_Fr_copyFrom 11 = .ok (.aload_n 0, 1) := by decide +kernel
theorem d_Fr_copyFrom_12 : decode b_Fr_copyFrom 12 = .ok (.getfield 18, 3) := by decide +kernel
theorem d_Fr_copyFrom_15 : decode b_Fr_copyFrom 15 = .ok (.aload_n 1, 1) := by decide +kernel
theorem d_Fr_copyFrom_16 : decode b_Fr_copyFrom 16 = .ok (.getfield 18, 3) := by decide +kernel
theorem d_Fr_copyFrom_19 : decode b_Fr_copyFrom 19 = .ok (.invokevirtual 29, 3) := by decide +kernel
theorem d_Fr_copyFrom_22 : decode b_Fr_copyFrom 22 = .ok (.aload_n 0, 1) := by decide +kernel
theorem d_Fr_copyFrom_23 : decode b_Fr_copyFrom 23 = .ok (.aload_n 1, 1) := by decide +kernel
theorem d_Fr_copyFrom_24 : decode b_Fr_copyFrom 24 = .ok (.getfield 25, 3) := by decide +kernel
theorem d_Fr_copyFrom_27 : decode b_Fr_copyFrom 27 = .ok (.putfield 25, 3) := by decide +kernel
theorem d_Fr_copyFrom_30 : decode b_Fr_copyFrom 30 = .ok (.return_, 1) := by decide +kernel
theorem d_Fr_fits_0 : decode b_Fr_fits 0 = .ok (.aload_n 0, 1) := by decide +kernel
theorem d_Fr_fits_1 : decode b_Fr_fits 1 = .ok (.getfield 12, 3) := by decide +kernel
theorem d_Fr_fits_4 : decode b_Fr_fits 4 = .ok (.getfield 33, 3) := by decide +kernel
theorem d_Fr_fits_7 : decode b_Fr_fits 7 = .ok (.bipush 20, 2) := by decide +kernel
theorem d_Fr_fits_9 : decode b_Fr_fits 9 = .ok (.if_icmp .gt 19, 3) := by decide +kernel
theorem d_Fr_fits_12 : decode b_Fr_fits 12 = .ok (.aload_n 0, 1) := by decide +kernel
theorem d_Fr_fits_13 : decode b_Fr_fits 13 = .ok (.getfield 18, 3) := by decide +kernel
theorem d_Fr_fits_16 : decode b_Fr_fits 16 = .ok (.getfield 33, 3) := by decide +kernel
theorem d_Fr_fits_19 : decode b_Fr_fits 19 = .ok (.bipush 20, 2) := by decide +kernel
theorem d_Fr_fits_21 : decode b_Fr_fits 21 = .ok (.if_icmp .gt 7, 3) := by decide +kernel
theorem d_Fr_fits_24 : decode b_Fr_fits 24 = .ok (.iconst 1, 1) := by decide +kernel
theorem d_Fr_fits_25 : decode b_Fr_fits 25 = .ok (.goto 4, 3) := by decide +kernel
theorem d_Fr_fits_28 : decode b_Fr_fits 28 = .ok (.iconst 0, 1) := by decide +kernel
theorem d_Fr_fits_29 : decode b_Fr_fits 29 = .ok (.ireturn, 1) := by decide +kernel
theorem d_Fr_direction_0 : decode b_Fr_direction 0 = .ok (.aload_n 0, 1) := by decide +kernel
theorem d_Fr_direction_1 : decode b_Fr_direction 1 = .ok (.getfield 12, 3) := by decide +kernel
theorem d_Fr_direction_4 : decode b_Fr_direction 4 = .ok (.invokevirtual 37, 3) := by decide +kernel
theorem d_Fr_direction_7 : decode b_Fr_direction 7 = .ok (.ifCond .eq 5, 3) := by decide +kernel
theorem d_Fr_direction_10 : decode b_Fr_direction 10 = .ok (.iconst 0, 1) := by decide +kernel
theorem d_Fr_direction_11 : decode b_Fr_direction 11 = .ok (.ireturn, 1) := by decide +kernel
theorem d_Fr_direction_12 : decode b_Fr_direction 12 = .ok (.aload_n 0, 1) := by decide +kernel
theorem d_Fr_direction_13 : decode b_Fr_direction 13 = .ok (.getfield 25, 3) := by decide +kernel
theorem d_Fr_direction_16 : decode b_Fr_direction 16 = .ok (.ifCond .eq 7, 3) := by decide +kernel
theorem d_Fr_direction_19 : decode b_Fr_direction 19 = .ok (.iconst (-1), 1) := by decide +kernel
theorem d_Fr_direction_20 : decode b_Fr_direction 20 = .ok (.goto 4, 3) := by decide +kernel
theorem d_Fr_direction_23 : decode b_Fr_direction 23 = .ok (.iconst 1, 1) := by decide +kernel
theorem d_Fr_direction_24 : decode b_Fr_direction 24 = .ok (.ireturn, 1) := by decide +kernel
