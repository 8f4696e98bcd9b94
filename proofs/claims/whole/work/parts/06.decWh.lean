theorem d_Wh_init_0 : decode b_Wh_init 0 = .ok (.aload_n 0, 1) := by decide +kernel
theorem d_Wh_init_1 : decode b_Wh_init 1 = .ok (.invokespecial 3, 3) := by decide +kernel
theorem d_Wh_init_4 : decode b_Wh_init 4 = .ok (.aload_n 0, 1) := by decide +kernel
theorem d_Wh_init_5 : decode b_Wh_init 5 = .ok (.bipush 41, 2) := by decide +kernel
theorem d_Wh_init_7 : decode b_Wh_init 7 = .ok (.newarray .long, 2) := by decide +kernel
theorem d_Wh_init_9 : decode b_Wh_init 9 = .ok (.putfield 9, 3) := by decide +kernel
theorem d_Wh_init_12 : decode b_Wh_init 12 = .ok (.aload_n 0, 1) := by decide +kernel
theorem d_Wh_init_13 : decode b_Wh_init 13 = .ok (.iconst 0, 1) := by decide +kernel
theorem d_Wh_init_14 : decode b_Wh_init 14 = .ok (.putfield 15, 3) := by decide +kernel
theorem d_Wh_init_17 : decode b_Wh_init 17 = .ok (.return_, 1) := by decide +kernel
theorem d_Wh_requireRoom_0 : decode b_Wh_requireRoom 0 = .ok (.iload_n 0, 1) := by decide +kernel
theorem d_Wh_requireRoom_1 : decode b_Wh_requireRoom 1 = .ok (.bipush 41, 2) := by decide +kernel
theorem d_Wh_requireRoom_3 : decode b_Wh_requireRoom 3 = .ok (.if_icmp .le 13, 3) := by decide +kernel
theorem d_Wh_requireRoom_6 : decode b_Wh_requireRoom 6 = .ok (.new 19, 3) := by decide +kernel
theorem d_Wh_requireRoom_9 : decode b_Wh_requireRoom 9 = .ok (.dup, 1) := by decide +kernel
theorem d_Wh_requireRoom_10 : decode b_Wh_requireRoom 10 = .ok (.ldc 21, 2) := by decide +kernel
theorem d_Wh_requireRoom_12 : decode b_Wh_requireRoom 12 = .ok (.invokespecial 23, 3) := by decide +kernel
theorem d_Wh_requireRoom_15 : decode b_Wh_requireRoom 15 = .ok (.athrow, 1) := by decide +kernel
theorem d_Wh_requireRoom_16 : decode b_Wh_requireRoom 16 = .ok (.return_, 1) := by decide +kernel
theorem d_Wh_requireDivisor_0 : decode b_Wh_requireDivisor 0 = .ok (.lload_n 0, 1) := by decide +kernel
theorem d_Wh_requireDivisor_1 : decode b_Wh_requireDivisor 1 = .ok (.lconst 1, 1) := by decide +kernel
theorem d_Wh_requireDivisor_2 : decode b_Wh_requireDivisor 2 = .ok (.lcmp, 1) := by decide +kernel
theorem d_Wh_requireDivisor_3 : decode b_Wh_requireDivisor 3 = .ok (.ifCond .ge 13, 3) := by decide +kernel
theorem d_Wh_requireDivisor_6 : decode b_Wh_requireDivisor 6 = .ok (.new 19, 3) := by decide +kernel
theorem d_Wh_requireDivisor_9 : decode b_Wh_requireDivisor 9 = .ok (.dup, 1) := by decide +kernel
theorem d_Wh_requireDivisor_10 : decode b_Wh_requireDivisor 10 = .ok (.ldc 26, 2) := by decide +kernel
theorem d_Wh_requireDivisor_12 : decode b_Wh_requireDivisor 12 = .ok (.invokespecial 23, 3) := by decide +kernel
theorem d_Wh_requireDivisor_15 : decode b_Wh_requireDivisor 15 = .ok (.athrow, 1) := by decide +kernel
theorem d_Wh_requireDivisor_16 : decode b_Wh_requireDivisor 16 = .ok (.return_, 1) := by decide +kernel
theorem d_Wh_settle_0 : decode b_Wh_settle 0 = .ok (.aload_n 0, 1) := by decide +kernel
theorem d_Wh_settle_1 : decode b_Wh_settle 1 = .ok (.iload_n 1, 1) := by decide +kernel
theorem d_Wh_settle_2 : decode b_Wh_settle 2 = .ok (.putfield 15, 3) := by decide +kernel
theorem d_Wh_settle_5 : decode b_Wh_settle 5 = .ok (.aload_n 0, 1) := by decide +kernel
theorem d_Wh_settle_6 : decode b_Wh_settle 6 = .ok (.getfield 15, 3) := by decide +kernel
theorem d_Wh_settle_9 : decode b_Wh_settle 9 = .ok (.ifCond .le 32, 3) := by decide +kernel
theorem d_Wh_settle_12 : decode b_Wh_settle 12 = .ok (.aload_n 0, 1) := by decide +kernel
theorem d_Wh_settle_13 : decode b_Wh_settle 13 = .ok (.getfield 9, 3) := by decide +kernel
theorem d_Wh_settle_16 : decode b_Wh_settle 16 = .ok (.aload_n 0, 1) := by decide +kernel
theorem d_Wh_settle_17 : decode b_Wh_settle 17 = .ok (.getfield 15, 3) := by decide +kernel
theorem d_Wh_settle_20 : decode b_Wh_settle 20 = .ok (.iconst 1, 1) := by decide +kernel
theorem d_Wh_settle_21 : decode b_Wh_settle 21 = .ok (.isub, 1) := by decide +kernel
theorem d_Wh_settle_22 : decode b_Wh_settle 22 = .ok (.laload, 1) := by decide +kernel
theorem d_Wh_settle_23 : decode b_Wh_settle 23 = .ok (.lconst 0, 1) := by decide +kernel
theorem d_Wh_settle_24 : decode b_Wh_settle 24 = .ok (.lcmp, 1) := by decide +kernel
theorem d_Wh_settle_25 : decode b_Wh_settle 25 = .ok (.ifCond .ne 16, 3) := by decide +kernel
theorem d_Wh_settle_28 : decode b_Wh_settle 28 = .ok (.aload_n 0, 1) := by decide +kernel
theorem d_Wh_settle_29 : decode b_Wh_settle 29 = .ok (.dup, 1) := by decide +kernel
theorem d_Wh_settle_30 : decode b_Wh_settle 30 = .ok (.getfield 15, 3) := by decide +kernel
theorem d_Wh_settle_33 : decode b_Wh_settle 33 = .ok (.iconst 1, 1) := by decide +kernel
theorem d_Wh_settle_34 : decode b_Wh_settle 34 = .ok (.isub, 1) := by decide +kernel
theorem d_Wh_settle_35 : decode b_Wh_settle 35 = .ok (.putfield 15, 3) := by decide +kernel
theorem d_Wh_settle_38 : decode b_Wh_settle 38 = .ok (.goto (-33), 3) := by decide +kernel
theorem d_Wh_settle_41 : decode b_Wh_settle 41 = .ok (.return_, 1) := by decide +kernel
theorem d_Wh_limbAt_0 : decode b_Wh_limbAt 0 = .ok (.iload_n 1, 1) := by decide +kernel
theorem d_Wh_limbAt_1 : decode b_Wh_limbAt 1 = .ok (.ifCond .lt 20, 3) := by decide +kernel
theorem d_Wh_limbAt_4 : decode b_Wh_limbAt 4 = .ok (.iload_n 1, 1) := by decide +kernel
theorem d_Wh_limbAt_5 : decode b_Wh_limbAt 5 = .ok (.aload_n 0, 1) := by decide +kernel
theorem d_Wh_limbAt_6 : decode b_Wh_limbAt 6 = .ok (.getfield 15, 3) := by decide +kernel
theorem d_Wh_limbAt_9 : decode b_Wh_limbAt 9 = .ok (.if_icmp .ge 12, 3) := by decide +kernel
theorem d_Wh_limbAt_12 : decode b_Wh_limbAt 12 = .ok (.aload_n 0, 1) := by decide +kernel
theorem d_Wh_limbAt_13 : decode b_Wh_limbAt 13 = .ok (.getfield 9, 3) := by decide +kernel
theorem d_Wh_limbAt_16 : decode b_Wh_limbAt 16 = .ok (.iload_n 1, 1) := by decide +kernel
theorem d_Wh_limbAt_17 : decode b_Wh_limbAt 17 = .ok (.laload, 1) := by decide +kernel
theorem d_Wh_limbAt_18 : decode b_Wh_limbAt 18 = .ok (.goto 4, 3) := by decide +kernel
theorem d_Wh_limbAt_21 : decode b_Wh_limbAt 21 = .ok (.lconst 0, 1) := by decide +kernel
theorem d_Wh_limbAt_22 : decode b_Wh_limbAt 22 = .ok (.lreturn, 1) := by decide +kernel
theorem d_Wh_become_0 : decode b_Wh_become 0 = .ok (.lload_n 1, 1) := by decide +kernel
theorem d_Wh_become_1 : decode b_Wh_become 1 = .ok (.lstore_n 3, 1) := by decide +kernel
theorem d_Wh_become_2 : decode b_Wh_become 2 = .ok (.aload_n 0, 1) := by decide +kernel
theorem d_Wh_become_3 : decode b_Wh_become 3 = .ok (.iconst 0, 1) := by decide +kernel
theorem d_Wh_become_4 : decode b_Wh_become 4 = .ok (.putfield 15, 3) := by decide +kernel
theorem d_Wh_become_7 : decode b_Wh_become 7 = .ok (.lload_n 3, 1) := by decide +kernel
theorem d_Wh_become_8 : decode b_Wh_become 8 = .ok (.lconst 0, 1) := by decide +kernel
theorem d_Wh_become_9 : decode b_Wh_become 9 = .ok (.lcmp, 1) := by decide +kernel
theorem d_Wh_become_10 : decode b_Wh_become 10 = .ok (.ifCond .le 45, 3) := by decide +kernel
theorem d_Wh_become_13 : decode b_Wh_become 13 = .ok (.aload_n 0, 1) := by decide +kernel
theorem d_Wh_become_14 : decode b_Wh_become 14 = .ok (.getfield 15, 3) := by decide +kernel
theorem d_Wh_become_17 : decode b_Wh_become 17 = .ok (.bipush 41, 2) := by decide +kernel
theorem d_Wh_become_19 : decode b_Wh_become 19 = .ok (.if_icmp .ge 36, 3) := by decide +kernel
theorem d_Wh_become_22 : decode b_Wh_become 22 = .ok (.aload_n 0, 1) := by decide +kernel
theorem d_Wh_become_23 : decode b_Wh_become 23 = .ok (.getfield 9, 3) := by decide +kernel
theorem d_Wh_become_26 : decode b_Wh_become 26 = .ok (.aload_n 0, 1) := by decide +kernel
theorem d_Wh_become_27 : decode b_Wh_become 27 = .ok (.getfield 15, 3) := by decide +kernel
theorem d_Wh_become_30 : decode b_Wh_become 30 = .ok (.lload_n 3, 1) := by decide +kernel
theorem d_Wh_become_31 : decode b_Wh_become 31 = .ok (.ldc2_w 28, 3) := by decide +kernel
theorem d_Wh_become_34 : decode b_Wh_become 34 = .ok (.lrem, 1) := by decide +kernel
theorem d_Wh_become_35 : decode b_Wh_become 35 = .ok (.lastore, 1) := by decide +kernel
theorem d_Wh_become_36 : decode b_Wh_become 36 = .ok (.lload_n 3, 1) := by decide +kernel
theorem d_Wh_become_37 : decode b_Wh_become 37 = .ok (.ldc2_w 28, 3) := by decide +kernel
theorem d_Wh_become_40 : decode b_Wh_become 40 = .ok (.ldiv, 1) := by decide +kernel
theorem d_Wh_become_41 : decode b_Wh_become 41 = .ok (.lstore_n 3, 1) := by decide +kernel
theorem d_Wh_become_42 : decode b_Wh_become 42 = .ok (.aload_n 0, 1) := by decide +kernel
theorem d_Wh_become_43 : decode b_Wh_become 43 = .ok (.dup, 1) := by decide +kernel
theorem d_Wh_become_44 : decode b_Wh_become 44 = .ok (.getfield 15, 3) := by decide +kernel
theorem d_Wh_become_47 : decode b_Wh_become 47 = .ok (.iconst 1, 1) := by decide +kernel
theorem d_Wh_become_48 : decode b_Wh_become 48 = .ok (.iadd, 1) := by decide +kernel
theorem d_Wh_become_49 : decode b_Wh_become 49 = .ok (.putfield 15, 3) := by decide +kernel
theorem d_Wh_become_52 : decode b_Wh_become 52 = .ok (.goto (-45), 3) := by decide +kernel
theorem d_Wh_become_55 : decode b_Wh_become 55 = .ok (.return_, 1) := by decide +kernel
theorem d_Wh_becomeTenTo_0 : decode b_Wh_becomeTenTo 0 = .ok (.iload_n 1, 1) := by decide +kernel
theorem d_Wh_becomeTenTo_1 : decode b_Wh_becomeTenTo 1 = .ok (.bipush 9, 2) := by decide +kernel
theorem d_Wh_becomeTenTo_3 : decode b_Wh_becomeTenTo 3 = .ok (.idiv, 1) := by decide +kernel
theorem d_Wh_becomeTenTo_4 : decode b_Wh_becomeTenTo 4 = .ok (.istore_n 2, 1) := by decide +kernel
theorem d_Wh_becomeTenTo_5 : decode b_Wh_becomeTenTo 5 = .ok (.iload_n 2, 1) := by decide +kernel
theorem d_Wh_becomeTenTo_6 : decode b_Wh_becomeTenTo 6 = .ok (.iconst 1, 1) := by decide +kernel
theorem d_Wh_becomeTenTo_7 : decode b_Wh_becomeTenTo 7 = .ok (.iadd, 1) := by decide +kernel
theorem d_Wh_becomeTenTo_8 : decode b_Wh_becomeTenTo 8 = .ok (.invokestatic 30, 3) := by decide +kernel
theorem d_Wh_becomeTenTo_11 : decode b_Wh_becomeTenTo 11 = .ok (.iconst 0, 1) := by decide +kernel
theorem d_Wh_becomeTenTo_12 : decode b_Wh_becomeTenTo 12 = .ok (.istore_n 3, 1) := by decide +kernel
theorem d_Wh_becomeTenTo_13 : decode b_Wh_becomeTenTo 13 = .ok (.iload_n 3, 1) := by decide +kernel
theorem d_Wh_becomeTenTo_14 : decode b_Wh_becomeTenTo 14 = .ok (.iload_n 2, 1) := by decide +kernel
theorem d_Wh_becomeTenTo_15 : decode b_Wh_becomeTenTo 15 = .ok (.if_icmp .ge 16, 3) := by decide +kernel
theorem d_Wh_becomeTenTo_18 : decode b_Wh_becomeTenTo 18 = .ok (.aload_n 0, 1) := by decide +kernel
theorem d_Wh_becomeTenTo_19 : decode b_Wh_becomeTenTo 19 = .ok (.getfield 9, 3) := by decide +kernel
theorem d_Wh_becomeTenTo_22 : decode b_Wh_becomeTenTo 22 = .ok (.iload_n 3, 1) := by decide +kernel
theorem d_Wh_becomeTenTo_23 : decode b_Wh_becomeTenTo 23 = .ok (.lconst 0, 1) := by decide +kernel
theorem d_Wh_becomeTenTo_24 : decode b_Wh_becomeTenTo 24 = .ok (.lastore, 1) := by decide +kernel
theorem d_Wh_becomeTenTo_25 : decode b_Wh_becomeTenTo 25 = .ok (.iinc 3 1, 3) := by decide +kernel
theorem d_Wh_becomeTenTo_28 : decode b_Wh_becomeTenTo 28 = .ok (.goto (-15), 3) := by decide +kernel
theorem d_Wh_becomeTenTo_31 : decode b_Wh_becomeTenTo 31 = .ok (.aload_n 0, 1) := by decide +kernel
theorem d_Wh_becomeTenTo_32 : decode b_Wh_becomeTenTo 32 = .ok (.getfield 9, 3) := by decide +kernel
theorem d_Wh_becomeTenTo_35 : decode b_Wh_becomeTenTo 35 = .ok (.iload_n 2, 1) := by decide +kernel
theorem d_Wh_becomeTenTo_36 : decode b_Wh_becomeTenTo 36 = .ok (.getstatic 34, 3) := by decide +kernel
theorem d_Wh_becomeTenTo_39 : decode b_Wh_becomeTenTo 39 = .ok (.iload_n 1, 1) := by decide +kernel
theorem d_Wh_becomeTenTo_40 : decode b_Wh_becomeTenTo 40 = .ok (.bipush 9, 2) := by decide +kernel
theorem d_Wh_becomeTenTo_42 : decode b_Wh_becomeTenTo 42 = .ok (.irem, 1) := by decide +kernel
theorem d_Wh_becomeTenTo_43 : decode b_Wh_becomeTenTo 43 = .ok (.laload, 1) := by decide +kernel
theorem d_Wh_becomeTenTo_44 : decode b_Wh_becomeTenTo 44 = .ok (.lastore, 1) := by decide +kernel
theorem d_Wh_becomeTenTo_45 : decode b_Wh_becomeTenTo 45 = .ok (.aload_n 0, 1) := by decide +kernel
theorem d_Wh_becomeTenTo_46 : decode b_Wh_becomeTenTo 46 = .ok (.iload_n 2, 1) := by decide +kernel
theorem d_Wh_becomeTenTo_47 : decode b_Wh_becomeTenTo 47 = .ok (.iconst 1, 1) := by decide +kernel
theorem d_Wh_becomeTenTo_48 : decode b_Wh_becomeTenTo 48 = .ok (.iadd, 1) := by decide +kernel
theorem d_Wh_becomeTenTo_49 : decode b_Wh_becomeTenTo 49 = .ok (.putfield 15, 3) := by decide +kernel
theorem d_Wh_becomeTenTo_52 : decode b_Wh_becomeTenTo 52 = .ok (.return_, 1) := by decide +kernel
theorem d_Wh_copyFrom_0 : decode b_Wh_copyFrom 0 = .ok (.aload_n 1, 1) := by decide +kernel
theorem d_Wh_copyFrom_1 : decode b_Wh_copyFrom 1 = .ok (.getfield 9, 3) := by decide +kernel
theorem d_Wh_copyFrom_4 : decode b_Wh_copyFrom 4 = .ok (.iconst 0, 1) := by decide +kernel
theorem d_Wh_copyFrom_5 : decode b_Wh_copyFrom 5 = .ok (.aload_n 0, 1) := by decide +kernel
theorem d_Wh_copyFrom_6 : decode b_Wh_copyFrom 6 = .ok (.getfield 9, 3) := by decide +kernel
theorem d_Wh_copyFrom_9 : decode b_Wh_copyFrom 9 = .ok (.iconst 0, 1) := by decide +kernel
theorem d_Wh_copyFrom_10 : decode b_Wh_copyFrom 10 = .ok (.aload_n 1, 1) := by decide +kernel
theorem d_Wh_copyFrom_11 : decode b_Wh_copyFrom 11 = .ok (.getfield 15, 3) := by decide +kernel
theorem d_Wh_copyFrom_14 : decode b_Wh_copyFrom 14 = .ok (.invokestatic 37, 3) := by decide +kernel
theorem d_Wh_copyFrom_17 : decode b_Wh_copyFrom 17 = .ok (.aload_n 0, 1) := by decide +kernel
theorem d_Wh_copyFrom_18 : decode b_Wh_copyFrom 18 = .ok (.aload_n 1, 1) := by decide +kernel
theorem d_Wh_copyFrom_19 : decode b_Wh_copyFrom 19 = .ok (.getfield 15, 3) := by decide +kernel
theorem d_Wh_copyFrom_22 : decode b_Wh_copyFrom 22 = .ok (.putfield 15, 3) := by decide +kernel
theorem d_Wh_copyFrom_25 : decode b_Wh_copyFrom 25 = .ok (.return_, 1) := by decide +kernel
theorem d_Wh_lowest_0 : decode b_Wh_lowest 0 = .ok (.aload_n 0, 1) := by decide +kernel
theorem d_Wh_lowest_1 : decode b_Wh_lowest 1 = .ok (.iconst 1, 1) := by decide +kernel
theorem d_Wh_lowest_2 : decode b_Wh_lowest 2 = .ok (.invokevirtual 43, 3) := by decide +kernel
theorem d_Wh_lowest_5 : decode b_Wh_lowest 5 = .ok (.ldc2_w 28, 3) := by decide +kernel
theorem d_Wh_lowest_8 : decode b_Wh_lowest 8 = .ok (.lmul, 1) := by decide +kernel
theorem d_Wh_lowest_9 : decode b_Wh_lowest 9 = .ok (.aload_n 0, 1) := by decide +kernel
theorem d_Wh_lowest_10 : decode b_Wh_lowest 10 = .ok (.iconst 0, 1) := by decide +kernel
theorem d_Wh_lowest_11 : decode b_Wh_lowest 11 = .ok (.invokevirtual 43, 3) := by decide +kernel
theorem d_Wh_lowest_14 : decode b_Wh_lowest 14 = .ok (.ladd, 1) := by decide +kernel
theorem d_Wh_lowest_15 : decode b_Wh_lowest 15 = .ok (.lreturn, 1) := by decide +kernel
theorem d_Wh_isZero_0 : decode b_Wh_isZero 0 = .ok (.aload_n 0, 1) := by decide +kernel
theorem d_Wh_isZero_1 : decode b_Wh_isZero 1 = .ok (.getfield 15, 3) := by decide +kernel
theorem d_Wh_isZero_4 : decode b_Wh_isZero 4 = .ok (.ifCond .ne 7, 3) := by decide +kernel
theorem d_Wh_isZero_7 : decode b_Wh_isZero 7 = .ok (.iconst 1, 1) := by decide +kernel
theorem d_Wh_isZero_8 : decode b_Wh_isZero 8 = .ok (.goto 4, 3) := by decide +kernel
theorem d_Wh_isZero_11 : decode b_Wh_isZero 11 = .ok (.iconst 0, 1) := by decide +kernel
theorem d_Wh_isZero_12 : decode b_Wh_isZero 12 = .ok (.ireturn, 1) := by decide +kernel
theorem d_Wh_isOne_0 : decode b_Wh_isOne 0 = .ok (.aload_n 0, 1) := by decide +kernel
theorem d_Wh_isOne_1 : decode b_Wh_isOne 1 = .ok (.getfield 15, 3) := by decide +kernel
theorem d_Wh_isOne_4 : decode b_Wh_isOne 4 = .ok (.iconst 1, 1) := by decide +kernel
theorem d_Wh_isOne_5 : decode b_Wh_isOne 5 = .ok (.if_icmp .ne 18, 3) := by decide +kernel
theorem d_Wh_isOne_8 : decode b_Wh_isOne 8 = .ok (.aload_n 0, 1) := by decide +kernel
theorem d_Wh_isOne_9 : decode b_Wh_isOne 9 = .ok (.getfield 9, 3) := by decide +kernel
theorem d_Wh_isOne_12 : decode b_Wh_isOne 12 = .ok (.iconst 0, 1) := by decide +kernel
theorem d_Wh_isOne_13 : decode b_Wh_isOne 13 = .ok (.laload, 1) := by decide +kernel
theorem d_Wh_isOne_14 : decode b_Wh_isOne 14 = .ok (.lconst 1, 1) := by decide +kernel
theorem d_Wh_isOne_15 : decode b_Wh_isOne 15 = .ok (.lcmp, 1) := by decide +kernel
theorem d_Wh_isOne_16 : decode b_Wh_isOne 16 = .ok (.ifCond .ne 7, 3) := by decide +kernel
theorem d_Wh_isOne_19 : decode b_Wh_isOne 19 = .ok (.iconst 1, 1) := by decide +kernel
theorem d_Wh_isOne_20 : decode b_Wh_isOne 20 = .ok (.goto 4, 3) := by decide +kernel
theorem d_Wh_isOne_23 : decode b_Wh_isOne 23 = .ok (.iconst 0, 1) := by decide +kernel
theorem d_Wh_isOne_24 : decode b_Wh_isOne 24 = .ok (.ireturn, 1) := by decide +kernel
theorem d_Wh_order_0 : decode b_Wh_order 0 = .ok (.aload_n 0, 1) := by decide +kernel
theorem d_Wh_order_1 : decode b_Wh_order 1 = .ok (.getfield 15, 3) := by decide +kernel
theorem d_Wh_order_4 : decode b_Wh_order 4 = .ok (.aload_n 1, 1) := by decide +kernel
theorem d_Wh_order_5 : decode b_Wh_order 5 = .ok (.getfield 15, 3) := by decide +kernel
theorem d_Wh_order_8 : decode b_Wh_order 8 = .ok (.if_icmp .eq 20, 3) := by decide +kernel
theorem d_Wh_order_11 : decode b_Wh_order 11 = .ok (.aload_n 0, 1) := by decide +kernel
theorem d_Wh_order_12 : decode b_Wh_order 12 = .ok (.getfield 15, 3) := by decide +kernel
theorem d_Wh_order_15 : decode b_Wh_order 15 = .ok (.aload_n 1, 1) := by decide +kernel
theorem d_Wh_order_16 : decode b_Wh_order 16 = .ok (.getfield 15, 3) := by decide +kernel
theorem d_Wh_order_19 : decode b_Wh_order 19 = .ok (.if_icmp .ge 7, 3) := by decide +kernel
theorem d_Wh_order_22 : decode b_Wh_order 22 = .ok (.iconst (-1), 1) := by decide +kernel
theorem d_Wh_order_23 : decode b_Wh_order 23 = .ok (.goto 4, 3) := by decide +kernel
theorem d_Wh_order_26 : decode b_Wh_order 26 = .ok (.iconst 1, 1) := by decide +kernel
theorem d_Wh_order_27 : decode b_Wh_order 27 = .ok (.ireturn, 1) := by decide +kernel
theorem d_Wh_order_28 : decode b_Wh_order 28 = .ok (.aload_n 0, 1) := by decide +kernel
theorem d_Wh_order_29 : decode b_Wh_order 29 = .ok (.getfield 15, 3) := by decide +kernel
theorem d_Wh_order_32 : decode b_Wh_order 32 = .ok (.iconst 1, 1) := by decide +kernel
theorem d_Wh_order_33 : decode b_Wh_order 33 = .ok (.isub, 1) := by decide +kernel
theorem d_Wh_order_34 : decode b_Wh_order 34 = .ok (.istore_n 2, 1) := by decide +kernel
theorem d_Wh_order_35 : decode b_Wh_order 35 = .ok (.iload_n 2, 1) := by decide +kernel
theorem d_Wh_order_36 : decode b_Wh_order 36 = .ok (.ifCond .lt 47, 3) := by decide +kernel
theorem d_Wh_order_39 : decode b_Wh_order 39 = .ok (.aload_n 0, 1) := by decide +kernel
theorem d_Wh_order_40 : decode b_Wh_order 40 = .ok (.getfield 9, 3) := by decide +kernel
theorem d_Wh_order_43 : decode b_Wh_order 43 = .ok (.iload_n 2, 1) := by decide +kernel
theorem d_Wh_order_44 : decode b_Wh_order 44 = .ok (.laload, 1) := by decide +kernel
theorem d_Wh_order_45 : decode b_Wh_order 45 = .ok (.aload_n 1, 1) := by decide +kernel
theorem d_Wh_order_46 : decode b_Wh_order 46 = .ok (.getfield 9, 3) := by decide +kernel
theorem d_Wh_order_49 : decode b_Wh_order 49 = .ok (.iload_n 2, 1) := by decide +kernel
theorem d_Wh_order_50 : decode b_Wh_order 50 = .ok (.laload, 1) := by decide +kernel
theorem d_Wh_order_51 : decode b_Wh_order 51 = .ok (.lcmp, 1) := by decide +kernel
theorem d_Wh_order_52 : decode b_Wh_order 52 = .ok (.ifCond .eq 25, 3) := by decide +kernel
theorem d_Wh_order_55 : decode b_Wh_order 55 = .ok (.aload_n 0, 1) := by decide +kernel
theorem d_Wh_order_56 : decode b_Wh_order 56 = .ok (.getfield 9, 3) := by decide +kernel
theorem d_Wh_order_59 : decode b_Wh_order 59 = .ok (.iload_n 2, 1) := by decide +kernel
theorem d_Wh_order_60 : decode b_Wh_order 60 = .ok (.laload, 1) := by decide +kernel
theorem d_Wh_order_61 : decode b_Wh_order 61 = .ok (.aload_n 1, 1) := by decide +kernel
theorem d_Wh_order_62 : decode b_Wh_order 62 = .ok (.getfield 9, 3) := by decide +kernel
theorem d_Wh_order_65 : decode b_Wh_order 65 = .ok (.iload_n 2, 1) := by decide +kernel
theorem d_Wh_order_66 : decode b_Wh_order 66 = .ok (.laload, 1) := by decide +kernel
theorem d_Wh_order_67 : decode b_Wh_order 67 = .ok (.lcmp, 1) := by decide +kernel
theorem d_Wh_order_68 : decode b_Wh_order 68 = .ok (.ifCond .ge 7, 3) := by decide +kernel
theorem d_Wh_order_71 : decode b_Wh_order 71 = .ok (.iconst (-1), 1) := by decide +kernel
theorem d_Wh_order_72 : decode b_Wh_order 72 = .ok (.goto 4, 3) := by decide +kernel
theorem d_Wh_order_75 : decode b_Wh_order 75 = .ok (.iconst 1, 1) := by decide +kernel
theorem d_Wh_order_76 : decode b_Wh_order 76 = .ok (.ireturn, 1) := by decide +kernel
theorem d_Wh_order_77 : decode b_Wh_order 77 = .ok (.iinc 2 (-1), 3) := by decide +kernel
theorem d_Wh_order_80 : decode b_Wh_order 80 = .ok (.goto (-45), 3) := by decide +kernel
theorem d_Wh_order_83 : decode b_Wh_order 83 = .ok (.iconst 0, 1) := by decide +kernel
theorem d_Wh_order_84 : decode b_Wh_order 84 = .ok (.ireturn, 1) := by decide +kernel
theorem d_Wh_becomeSum_0 : decode b_Wh_becomeSum 0 = .ok (.aload_n 1, 1) := by decide +kernel
theorem d_Wh_becomeSum_1 : decode b_Wh_becomeSum 1 = .ok (.getfield 15, 3) := by decide +kernel
theorem d_Wh_becomeSum_4 : decode b_Wh_becomeSum 4 = .ok (.aload_n 2, 1) := by decide +kernel
theorem d_Wh_becomeSum_5 : decode b_Wh_becomeSum 5 = .ok (.getfield 15, 3) := by decide +kernel
theorem d_Wh_becomeSum_8 : decode b_Wh_becomeSum 8 = .ok (.invokestatic 47, 3) := by decide +kernel
theorem d_Wh_becomeSum_11 : decode b_Wh_becomeSum 11 = .ok (.istore_n 3, 1) := by decide +kernel
theorem d_Wh_becomeSum_12 : decode b_Wh_becomeSum 12 = .ok (.iload_n 3, 1) := by decide +kernel
theorem d_Wh_becomeSum_13 : decode b_Wh_becomeSum 13 = .ok (.iconst 1, 1) := by decide +kernel
theorem d_Wh_becomeSum_14 : decode b_Wh_becomeSum 14 = .ok (.iadd, 1) := by decide +kernel
theorem d_Wh_becomeSum_15 : decode b_Wh_becomeSum 15 = .ok (.invokestatic 30, 3) := by decide +kernel
theorem d_Wh_becomeSum_18 : decode b_Wh_becomeSum 18 = .ok (.lconst 0, 1) := by decide +kernel
theorem d_Wh_becomeSum_19 : decode b_Wh_becomeSum 19 = .ok (.lstore 4, 2) := by decide +kernel
theorem d_Wh_becomeSum_21 : decode b_Wh_becomeSum 21 = .ok (.iconst 0, 1) := by decide +kernel
theorem d_Wh_becomeSum_22 : decode b_Wh_becomeSum 22 = .ok (.istore 6, 2) := by decide +kernel
theorem d_Wh_becomeSum_24 : decode b_Wh_becomeSum 24 = .ok (.iload 6, 2) := by decide +kernel
theorem d_Wh_becomeSum_26 : decode b_Wh_becomeSum 26 = .ok (.iload_n 3, 1) := by decide +kernel
theorem d_Wh_becomeSum_27 : decode b_Wh_becomeSum 27 = .ok (.if_icmp .ge 59, 3) := by decide +kernel
theorem d_Wh_becomeSum_30 : decode b_Wh_becomeSum 30 = .ok (.aload_n 1, 1) := by decide +kernel
theorem d_Wh_becomeSum_31 : decode b_Wh_becomeSum 31 = .ok (.iload 6, 2) := by decide +kernel
theorem d_Wh_becomeSum_33 : decode b_Wh_becomeSum 33 = .ok (.invokevirtual 43, 3) := by decide +kernel
theorem d_Wh_becomeSum_36 : decode b_Wh_becomeSum 36 = .ok (.aload_n 2, 1) := by decide +kernel
theorem d_Wh_becomeSum_37 : decode b_Wh_becomeSum 37 = .ok (.iload 6, 2) := by decide +kernel
theorem d_Wh_becomeSum_39 : decode b_Wh_becomeSum 39 = .ok (.invokevirtual 43, 3) := by decide +kernel
theorem d_Wh_becomeSum_42 : decode b_Wh_becomeSum 42 = .ok (.ladd, 1) := by decide +kernel
theorem d_Wh_becomeSum_43 : decode b_Wh_becomeSum 43 = .ok (.lload 4, 2) := by decide +kernel
theorem d_Wh_becomeSum_45 : decode b_Wh_becomeSum 45 = .ok (.ladd, 1) := by decide +kernel
theorem d_Wh_becomeSum_46 : decode b_Wh_becomeSum 46 = .ok (.lstore 7, 2) := by decide +kernel
theorem d_Wh_becomeSum_48 : decode b_Wh_becomeSum 48 = .ok (.lload 7, 2) := by decide +kernel
theorem d_Wh_becomeSum_50 : decode b_Wh_becomeSum 50 = .ok (.ldc2_w 28, 3) := by decide +kernel
theorem d_Wh_becomeSum_53 : decode b_Wh_becomeSum 53 = .ok (.lcmp, 1) := by decide +kernel
theorem d_Wh_becomeSum_54 : decode b_Wh_becomeSum 54 = .ok (.ifCond .lt 7, 3) := by decide +kernel
theorem d_Wh_becomeSum_57 : decode b_Wh_becomeSum 57 = .ok (.lconst 1, 1) := by decide +kernel
theorem d_Wh_becomeSum_58 : decode b_Wh_becomeSum 58 = .ok (.goto 4, 3) := by decide +kernel
theorem d_Wh_becomeSum_61 : decode b_Wh_becomeSum 61 = .ok (.lconst 0, 1) := by decide +kernel
theorem d_Wh_becomeSum_62 : decode b_Wh_becomeSum 62 = .ok (.lstore 4, 2) := by decide +kernel
theorem d_Wh_becomeSum_64 : decode b_Wh_becomeSum 64 = .ok (.aload_n 0, 1) := by decide +kernel
theorem d_Wh_becomeSum_65 : decode b_Wh_becomeSum 65 = .ok (.getfield 9, 3) := by decide +kernel
theorem d_Wh_becomeSum_68 : decode b_Wh_becomeSum 68 = .ok (.iload 6, 2) := by decide +kernel
theorem d_Wh_becomeSum_70 : decode b_Wh_becomeSum 70 = .ok (.lload 7, 2) := by decide +kernel
theorem d_Wh_becomeSum_72 : decode b_Wh_becomeSum 72 = .ok (.lload 4, 2) := by decide +kernel
theorem d_Wh_becomeSum_74 : decode b_Wh_becomeSum 74 = .ok (.ldc2_w 28, 3) := by decide +kernel
theorem d_Wh_becomeSum_77 : decode b_Wh_becomeSum 77 = .ok (.lmul, 1) := by decide +kernel
theorem d_Wh_becomeSum_78 : decode b_Wh_becomeSum 78 = .ok (.lsub, 1) := by decide +kernel
theorem d_Wh_becomeSum_79 : decode b_Wh_becomeSum 79 = .ok (.lastore, 1) := by decide +kernel
theorem d_Wh_becomeSum_80 : decode b_Wh_becomeSum 80 = .ok (.iinc 6 1, 3) := by decide +kernel
theorem d_Wh_becomeSum_83 : decode b_Wh_becomeSum 83 = .ok (.goto (-59), 3) := by decide +kernel
theorem d_Wh_becomeSum_86 : decode b_Wh_becomeSum 86 = .ok (.aload_n 0, 1) := by decide +kernel
theorem d_Wh_becomeSum_87 : decode b_Wh_becomeSum 87 = .ok (.getfield 9, 3) := by decide +kernel
theorem d_Wh_becomeSum_90 : decode b_Wh_becomeSum 90 = .ok (.iload_n 3, 1) := by decide +kernel
theorem d_Wh_becomeSum_91 : decode b_Wh_becomeSum 91 = .ok (.lload 4, 2) := by decide +kernel
theorem d_Wh_becomeSum_93 : decode b_Wh_becomeSum 93 = .ok (.lastore, 1) := by decide +kernel
theorem d_Wh_becomeSum_94 : decode b_Wh_becomeSum 94 = .ok (.aload_n 0, 1) := by decide +kernel
theorem d_Wh_becomeSum_95 : decode b_Wh_becomeSum 95 = .ok (.iload_n 3, 1) := by decide +kernel
theorem d_Wh_becomeSum_96 : decode b_Wh_becomeSum 96 = .ok (.iconst 1, 1) := by decide +kernel
theorem d_Wh_becomeSum_97 : decode b_Wh_becomeSum 97 = .ok (.iadd, 1) := by decide +kernel
theorem d_Wh_becomeSum_98 : decode b_Wh_becomeSum 98 = .ok (.invokevirtual 53, 3) := by decide +kernel
theorem d_Wh_becomeSum_101 : decode b_Wh_becomeSum 101 = .ok (.return_, 1) := by decide +kernel
theorem d_Wh_becomeDifference_0 : decode b_Wh_becomeDifference 0 = .ok (.aload_n 1, 1) := by decide +kernel
theorem d_Wh_becomeDifference_1 : decode b_Wh_becomeDifference 1 = .ok (.getfield 15, 3) := by decide +kernel
theorem d_Wh_becomeDifference_4 : decode b_Wh_becomeDifference 4 = .ok (.istore_n 3, 1) := by decide +kernel
theorem d_Wh_becomeDifference_5 : decode b_Wh_becomeDifference 5 = .ok (.lconst 0, 1) := by decide +kernel
theorem d_Wh_becomeDifference_6 : decode b_Wh_becomeDifference 6 = .ok (.lstore 4, 2) := by decide +kernel
theorem d_Wh_becomeDifference_8 : decode b_Wh_becomeDifference 8 = .ok (.iconst 0, 1) := by decide +kernel
theorem d_Wh_becomeDifference_9 : decode b_Wh_becomeDifference 9 = .ok (.istore 6, 2) := by decide +kernel
theorem d_Wh_becomeDifference_11 : decode b_Wh_becomeDifference 11 = .ok (.iload 6, 2) := by decide +kernel
theorem d_Wh_becomeDifference_13 : decode b_Wh_becomeDifference 13 = .ok (.iload_n 3, 1) := by decide +kernel
theorem d_Wh_becomeDifference_14 : decode b_Wh_becomeDifference 14 = .ok (.if_icmp .ge 58, 3) := by decide +kernel
theorem d_Wh_becomeDifference_17 : decode b_Wh_becomeDifference 17 = .ok (.aload_n 1, 1) := by decide +kernel
theorem d_Wh_becomeDifference_18 : decode b_Wh_becomeDifference 18 = .ok (.getfield 9, 3) := by decide +kernel
theorem d_Wh_becomeDifference_21 : decode b_Wh_becomeDifference 21 = .ok (.iload 6, 2) := by decide +kernel
theorem d_Wh_becomeDifference_23 : decode b_Wh_becomeDifference 23 = .ok (.laload, 1) := by decide +kernel
theorem d_Wh_becomeDifference_24 : decode b_Wh_becomeDifference 24 = .ok (.aload_n 2, 1) := by decide +kernel
theorem d_Wh_becomeDifference_25 : decode b_Wh_becomeDifference 25 = .ok (.iload 6, 2) := by decide +kernel
theorem d_Wh_becomeDifference_27 : decode b_Wh_becomeDifference 27 = .ok (.invokevirtual 43, 3) := by decide +kernel
theorem d_Wh_becomeDifference_30 : decode b_Wh_becomeDifference 30 = .ok (.lsub, 1) := by decide +kernel
theorem d_Wh_becomeDifference_31 : decode b_Wh_becomeDifference 31 = .ok (.lload 4, 2) := by decide +kernel
theorem d_Wh_becomeDifference_33 : decode b_Wh_becomeDifference 33 = .ok (.lsub, 1) := by decide +kernel
theorem d_Wh_becomeDifference_34 : decode b_Wh_becomeDifference 34 = .ok (.lstore 7, 2) := by decide +kernel
theorem d_Wh_becomeDifference_36 : decode b_Wh_becomeDifference 36 = .ok (.lload 7, 2) := by decide +kernel
theorem d_Wh_becomeDifference_38 : decode b_Wh_becomeDifference 38 = .ok (.lconst 0, 1) := by decide +kernel
theorem d_Wh_becomeDifference_39 : decode b_Wh_becomeDifference 39 = .ok (.lcmp, 1) := by decide +kernel
theorem d_Wh_becomeDifference_40 : decode b_Wh_becomeDifference 40 = .ok (.ifCond .ge 7, 3) := by decide +kernel
theorem d_Wh_becomeDifference_43 : decode b_Wh_becomeDifference 43 = .ok (.lconst 1, 1) := by decide +kernel
theorem d_Wh_becomeDifference_44 : decode b_Wh_becomeDifference 44 = .ok (.goto 4, 3) := by decide +kernel
theorem d_Wh_becomeDifference_47 : decode b_Wh_becomeDifference 47 = .ok (.lconst 0, 1) := by decide +kernel
theorem d_Wh_becomeDifference_48 : decode b_Wh_becomeDifference 48 = .ok (.lstore 4, 2) := by decide +kernel
theorem d_Wh_becomeDifference_50 : decode b_Wh_becomeDifference 50 = .ok (.aload_n 0, 1) := by decide +kernel
theorem d_Wh_becomeDifference_51 : decode b_Wh_becomeDifference 51 = .ok (.getfield 9, 3) := by decide +kernel
theorem d_Wh_becomeDifference_54 : decode b_Wh_becomeDifference 54 = .ok (.iload 6, 2) := by decide +kernel
theorem d_Wh_becomeDifference_56 : decode b_Wh_becomeDifference 56 = .ok (.lload 7, 2) := by decide +kernel
theorem d_Wh_becomeDifference_58 : decode b_Wh_becomeDifference 58 = .ok (.lload 4, 2) := by decide +kernel
theorem d_Wh_becomeDifference_60 : decode b_Wh_becomeDifference 60 = .ok (.ldc2_w 28, 3) := by decide +kernel
theorem d_Wh_becomeDifference_63 : decode b_Wh_becomeDifference 63 = .ok (.lmul, 1) := by decide +kernel
theorem d_Wh_becomeDifference_64 : decode b_Wh_becomeDifference 64 = .ok (.ladd, 1) := by decide +kernel
theorem d_Wh_becomeDifference_65 : decode b_Wh_becomeDifference 65 = .ok (.lastore, 1) := by decide +kernel
theorem d_Wh_becomeDifference_66 : decode b_Wh_becomeDifference 66 = .ok (.iinc 6 1, 3) := by decide +kernel
theorem d_Wh_becomeDifference_69 : decode b_Wh_becomeDifference 69 = .ok (.goto (-58), 3) := by decide +kernel
theorem d_Wh_becomeDifference_72 : decode b_Wh_becomeDifference 72 = .ok (.aload_n 0, 1) := by decide +kernel
theorem d_Wh_becomeDifference_73 : decode b_Wh_becomeDifference 73 = .ok (.iload_n 3, 1) := by decide +kernel
theorem d_Wh_becomeDifference_74 : decode b_Wh_becomeDifference 74 = .ok (.invokevirtual 53, 3) := by decide +kernel
theorem d_Wh_becomeDifference_77 : decode b_Wh_becomeDifference 77 = .ok (.return_, 1) := by decide +kernel
theorem d_Wh_becomeProduct_0 : decode b_Wh_becomeProduct 0 = .ok (.aload_n 1, 1) := by decide +kernel
theorem d_Wh_becomeProduct_1 : decode b_Wh_becomeProduct 1 = .ok (.getfield 15, 3) := by decide +kernel
theorem d_Wh_becomeProduct_4 : decode b_Wh_becomeProduct 4 = .ok (.aload_n 2, 1) := by decide +kernel
theorem d_Wh_becomeProduct_5 : decode b_Wh_becomeProduct 5 = .ok (.getfield 15, 3) := by decide +kernel
theorem d_Wh_becomeProduct_8 : decode b_Wh_becomeProduct 8 = .ok (.iadd, 1) := by decide +kernel
theorem d_Wh_becomeProduct_9 : decode b_Wh_becomeProduct 9 = .ok (.istore_n 3, 1) := by decide +kernel
theorem d_Wh_becomeProduct_10 : decode b_Wh_becomeProduct 10 = .ok (.iload_n 3, 1) := by decide +kernel
theorem d_Wh_becomeProduct_11 : decode b_Wh_becomeProduct 11 = .ok (.invokestatic 30, 3) := by decide +kernel
theorem d_Wh_becomeProduct_14 : decode b_Wh_becomeProduct 14 = .ok (.iconst 0, 1) := by decide +kernel
theorem d_Wh_becomeProduct_15 : decode b_Wh_becomeProduct 15 = .ok (.istore 4, 2) := by decide +kernel
theorem d_Wh_becomeProduct_17 : decode b_Wh_becomeProduct 17 = .ok (.iload 4, 2) := by decide +kernel
theorem d_Wh_becomeProduct_19 : decode b_Wh_becomeProduct 19 = .ok (.iload_n 3, 1) := by decide +kernel
theorem d_Wh_becomeProduct_20 : decode b_Wh_becomeProduct 20 = .ok (.if_icmp .ge 17, 3) := by decide +kernel
theorem d_Wh_becomeProduct_23 : decode b_Wh_becomeProduct 23 = .ok (.aload_n 0, 1) := by decide +kernel
theorem d_Wh_becomeProduct_24 : decode b_Wh_becomeProduct 24 = .ok (.getfield 9, 3) := by decide +kernel
theorem d_Wh_becomeProduct_27 : decode b_Wh_becomeProduct 27 = .ok (.iload 4, 2) := by decide +kernel
theorem d_Wh_becomeProduct_29 : decode b_Wh_becomeProduct 29 = .ok (.lconst 0, 1) := by decide +kernel
theorem d_Wh_becomeProduct_30 : decode b_Wh_becomeProduct 30 = .ok (.lastore, 1) := by decide +kernel
theorem d_Wh_becomeProduct_31 : decode b_Wh_becomeProduct 31 = .ok (.iinc 4 1, 3) := by decide +kernel
theorem d_Wh_becomeProduct_34 : decode b_Wh_becomeProduct 34 = .ok (.goto (-17), 3) := by decide +kernel
theorem d_Wh_becomeProduct_37 : decode b_Wh_becomeProduct 37 = .ok (.iconst 0, 1) := by decide +kernel
theorem d_Wh_becomeProduct_38 : decode b_Wh_becomeProduct 38 = .ok (.istore 4, 2) := by decide +kernel
theorem d_Wh_becomeProduct_40 : decode b_Wh_becomeProduct 40 = .ok (.iload 4, 2) := by decide +kernel
theorem d_Wh_becomeProduct_42 : decode b_Wh_becomeProduct 42 = .ok (.aload_n 1, 1) := by decide +kernel
theorem d_Wh_becomeProduct_43 : decode b_Wh_becomeProduct 43 = .ok (.getfield 15, 3) := by decide +kernel
theorem d_Wh_becomeProduct_46 : decode b_Wh_becomeProduct 46 = .ok (.if_icmp .ge 106, 3) := by decide +kernel
theorem d_Wh_becomeProduct_49 : decode b_Wh_becomeProduct 49 = .ok (.aload_n 1, 1) := by decide +kernel
theorem d_Wh_becomeProduct_50 : decode b_Wh_becomeProduct 50 = .ok (.getfield 9, 3) := by decide +kernel
theorem d_Wh_becomeProduct_53 : decode b_Wh_becomeProduct 53 = .ok (.iload 4, 2) := by decide +kernel
theorem d_Wh_becomeProduct_55 : decode b_Wh_becomeProduct 55 = .ok (.laload, 1) := by decide +kernel
theorem d_Wh_becomeProduct_56 : decode b_Wh_becomeProduct 56 = .ok (.lstore 5, 2) := by decide +kernel
theorem d_Wh_becomeProduct_58 : decode b_Wh_becomeProduct 58 = .ok (.lconst 0, 1) := by decide +kernel
theorem d_Wh_becomeProduct_59 : decode b_Wh_becomeProduct 59 = .ok (.lstore 7, 2) := by decide +kernel
theorem d_Wh_becomeProduct_61 : decode b_Wh_becomeProduct 61 = .ok (.iconst 0, 1) := by decide +kernel
theorem d_Wh_becomeProduct_62 : decode b_Wh_becomeProduct 62 = .ok (.istore 9, 2) := by decide +kernel
theorem d_Wh_becomeProduct_64 : decode b_Wh_becomeProduct 64 = .ok (.iload 9, 2) := by decide +kernel
theorem d_Wh_becomeProduct_66 : decode b_Wh_becomeProduct 66 = .ok (.aload_n 2, 1) := by decide +kernel
theorem d_Wh_becomeProduct_67 : decode b_Wh_becomeProduct 67 = .ok (.getfield 15, 3) := by decide +kernel
theorem d_Wh_becomeProduct_70 : decode b_Wh_becomeProduct 70 = .ok (.if_icmp .ge 62, 3) := by decide +kernel
theorem d_Wh_becomeProduct_73 : decode b_Wh_becomeProduct 73 = .ok (.aload_n 0, 1) := by decide +kernel
theorem d_Wh_becomeProduct_74 : decode b_Wh_becomeProduct 74 = .ok (.getfield 9, 3) := by decide +kernel
theorem d_Wh_becomeProduct_77 : decode b_Wh_becomeProduct 77 = .ok (.iload 4, 2) := by decide +kernel
theorem d_Wh_becomeProduct_79 : decode b_Wh_becomeProduct 79 = .ok (.iload 9, 2) := by decide +kernel
theorem d_Wh_becomeProduct_81 : decode b_Wh_becomeProduct 81 = .ok (.iadd, 1) := by decide +kernel
theorem d_Wh_becomeProduct_82 : decode b_Wh_becomeProduct 82 = .ok (.laload, 1) := by decide +kernel
theorem d_Wh_becomeProduct_83 : decode b_Wh_becomeProduct 83 = .ok (.lload 5, 2) := by decide +kernel
theorem d_Wh_becomeProduct_85 : decode b_Wh_becomeProduct 85 = .ok (.aload_n 2, 1) := by decide +kernel
theorem d_Wh_becomeProduct_86 : decode b_Wh_becomeProduct 86 = .ok (.getfield 9, 3) := by decide +kernel
theorem d_Wh_becomeProduct_89 : decode b_Wh_becomeProduct 89 = .ok (.iload 9, 2) := by decide +kernel
theorem d_Wh_becomeProduct_91 : decode b_Wh_becomeProduct 91 = .ok (.laload, 1) := by decide +kernel
theorem d_Wh_becomeProduct_92 : decode b_Wh_becomeProduct 92 = .ok (.lmul, 1) := by decide +kernel
theorem d_Wh_becomeProduct_93 : decode b_Wh_becomeProduct 93 = .ok (.ladd, 1) := by decide +kernel
theorem d_Wh_becomeProduct_94 : decode b_Wh_becomeProduct 94 = .ok (.lload 7, 2) := by decide +kernel
theorem d_Wh_becomeProduct_96 : decode b_Wh_becomeProduct 96 = .ok (.ladd, 1) := by decide +kernel
theorem d_Wh_becomeProduct_97 : decode b_Wh_becomeProduct 97 = .ok (.lstore 10, 2) := by decide +kernel
theorem d_Wh_becomeProduct_99 : decode b_Wh_becomeProduct 99 = .ok (.lload 10, 2) := by decide +kernel
theorem d_Wh_becomeProduct_101 : decode b_Wh_becomeProduct 101 = .ok (.ldc2_w 28, 3) := by decide +kernel
theorem d_Wh_becomeProduct_104 : decode b_Wh_becomeProduct 104 = .ok (.ldiv, 1) := by decide +kernel
theorem d_Wh_becomeProduct_105 : decode b_Wh_becomeProduct 105 = .ok (.lstore 7, 2) := by decide +kernel
theorem d_Wh_becomeProduct_107 : decode b_Wh_becomeProduct 107 = .ok (.aload_n 0, 1) := by decide +kernel
theorem d_Wh_becomeProduct_108 : decode b_Wh_becomeProduct 108 = .ok (.getfield 9, 3) := by decide +kernel
theorem d_Wh_becomeProduct_111 : decode b_Wh_becomeProduct 111 = .ok (.iload 4, 2) := by decide +kernel
theorem d_Wh_becomeProduct_113 : decode b_Wh_becomeProduct 113 = .ok (.iload 9, 2) := by decide +kernel
theorem d_Wh_becomeProduct_115 : decode b_Wh_becomeProduct 115 = .ok (.iadd, 1) := by decide +kernel
theorem d_Wh_becomeProduct_116 : decode b_Wh_becomeProduct 116 = .ok (.lload 10, 2) := by decide +kernel
theorem d_Wh_becomeProduct_118 : decode b_Wh_becomeProduct 118 = .ok (.lload 7, 2) := by decide +kernel
theorem d_Wh_becomeProduct_120 : decode b_Wh_becomeProduct 120 = .ok (.ldc2_w 28, 3) := by decide +kernel
theorem d_Wh_becomeProduct_123 : decode b_Wh_becomeProduct 123 = .ok (.lmul, 1) := by decide +kernel
theorem d_Wh_becomeProduct_124 : decode b_Wh_becomeProduct 124 = .ok (.lsub, 1) := by decide +kernel
theorem d_Wh_becomeProduct_125 : decode b_Wh_becomeProduct 125 = .ok (.lastore, 1) := by decide +kernel
theorem d_Wh_becomeProduct_126 : decode b_Wh_becomeProduct 126 = .ok (.iinc 9 1, 3) := by decide +kernel
theorem d_Wh_becomeProduct_129 : decode b_Wh_becomeProduct 129 = .ok (.goto (-65), 3) := by decide +kernel
theorem d_Wh_becomeProduct_132 : decode b_Wh_becomeProduct 132 = .ok (.aload_n 0, 1) := by decide +kernel
theorem d_Wh_becomeProduct_133 : decode b_Wh_becomeProduct 133 = .ok (.getfield 9, 3) := by decide +kernel
theorem d_Wh_becomeProduct_136 : decode b_Wh_becomeProduct 136 = .ok (.iload 4, 2) := by decide +kernel
theorem d_Wh_becomeProduct_138 : decode b_Wh_becomeProduct 138 = .ok (.aload_n 2, 1) := by decide +kernel
theorem d_Wh_becomeProduct_139 : decode b_Wh_becomeProduct 139 = .ok (.getfield 15, 3) := by decide +kernel
theorem d_Wh_becomeProduct_142 : decode b_Wh_becomeProduct 142 = .ok (.iadd, 1) := by decide +kernel
theorem d_Wh_becomeProduct_143 : decode b_Wh_becomeProduct 143 = .ok (.lload 7, 2) := by decide +kernel
theorem d_Wh_becomeProduct_145 : decode b_Wh_becomeProduct 145 = .ok (.lastore, 1) := by decide +kernel
theorem d_Wh_becomeProduct_146 : decode b_Wh_becomeProduct 146 = .ok (.iinc 4 1, 3) := by decide +kernel
theorem d_Wh_becomeProduct_149 : decode b_Wh_becomeProduct 149 = .ok (.goto (-109), 3) := by decide +kernel
theorem d_Wh_becomeProduct_152 : decode b_Wh_becomeProduct 152 = .ok (.aload_n 0, 1) := by decide +kernel
theorem d_Wh_becomeProduct_153 : decode b_Wh_becomeProduct 153 = .ok (.iload_n 3, 1) := by decide +kernel
theorem d_Wh_becomeProduct_154 : decode b_Wh_becomeProduct 154 = .ok (.invokevirtual 53, 3) := by decide +kernel
theorem d_Wh_becomeProduct_157 : decode b_Wh_becomeProduct 157 = .ok (.return_, 1) := by decide +kernel
theorem d_Wh_grow_0 : decode b_Wh_grow 0 = .ok (.aload_n 0, 1) := by decide +kernel
theorem d_Wh_grow_1 : decode b_Wh_grow 1 = .ok (.getfield 15, 3) := by decide +kernel
theorem d_Wh_grow_4 : decode b_Wh_grow 4 = .ok (.iconst 1, 1) := by decide +kernel
theorem d_Wh_grow_5 : decode b_Wh_grow 5 = .ok (.iadd, 1) := by decide +kernel
theorem d_Wh_grow_6 : decode b_Wh_grow 6 = .ok (.invokestatic 30, 3) := by decide +kernel
theorem d_Wh_grow_9 : decode b_Wh_grow 9 = .ok (.lload_n 3, 1) := by decide +kernel
theorem d_Wh_grow_10 : decode b_Wh_grow 10 = .ok (.lstore 5, 2) := by decide +kernel
theorem d_Wh_grow_12 : decode b_Wh_grow 12 = .ok (.iconst 0, 1) := by decide +kernel
theorem d_Wh_grow_13 : decode b_Wh_grow 13 = .ok (.istore 7, 2) := by decide +kernel
theorem d_Wh_grow_15 : decode b_Wh_grow 15 = .ok (.iload 7, 2) := by decide +kernel
theorem d_Wh_grow_17 : decode b_Wh_grow 17 = .ok (.aload_n 0, 1) := by decide +kernel
theorem d_Wh_grow_18 : decode b_Wh_grow 18 = .ok (.getfield 15, 3) := by decide +kernel
theorem d_Wh_grow_21 : decode b_Wh_grow 21 = .ok (.if_icmp .ge 47, 3) := by decide +kernel
theorem d_Wh_grow_24 : decode b_Wh_grow 24 = .ok (.aload_n 0, 1) := by decide +kernel
theorem d_Wh_grow_25 : decode b_Wh_grow 25 = .ok (.getfield 9, 3) := by decide +kernel
theorem d_Wh_grow_28 : decode b_Wh_grow 28 = .ok (.iload 7, 2) := by decide +kernel
theorem d_Wh_grow_30 : decode b_Wh_grow 30 = .ok (.laload, 1) := by decide +kernel
theorem d_Wh_grow_31 : decode b_Wh_grow 31 = .ok (.lload_n 1, 1) := by decide +kernel
theorem d_Wh_grow_32 : decode b_Wh_grow 32 = .ok (.lmul, 1) := by decide +kernel
theorem d_Wh_grow_33 : decode b_Wh_grow 33 = .ok (.lload 5, 2) := by decide +kernel
theorem d_Wh_grow_35 : decode b_Wh_grow 35 = .ok (.ladd, 1) := by decide +kernel
theorem d_Wh_grow_36 : decode b_Wh_grow 36 = .ok (.lstore 8, 2) := by decide +kernel
theorem d_Wh_grow_38 : decode b_Wh_grow 38 = .ok (.lload 8, 2) := by decide +kernel
theorem d_Wh_grow_40 : decode b_Wh_grow 40 = .ok (.ldc2_w 28, 3) := by decide +kernel
theorem d_Wh_grow_43 : decode b_Wh_grow 43 = .ok (.ldiv, 1) := by decide +kernel
theorem d_Wh_grow_44 : decode b_Wh_grow 44 = .ok (.lstore 5, 2) := by decide +kernel
theorem d_Wh_grow_46 : decode b_Wh_grow 46 = .ok (.aload_n 0, 1) := by decide +kernel
theorem d_Wh_grow_47 : decode b_Wh_grow 47 = .ok (.getfield 9, 3) := by decide +kernel
theorem d_Wh_grow_50 : decode b_Wh_grow 50 = .ok (.iload 7, 2) := by decide +kernel
theorem d_Wh_grow_52 : decode b_Wh_grow 52 = .ok (.lload 8, 2) := by decide +kernel
theorem d_Wh_grow_54 : decode b_Wh_grow 54 = .ok (.lload 5, 2) := by decide +kernel
theorem d_Wh_grow_56 : decode b_Wh_grow 56 = .ok (.ldc2_w 28, 3) := by decide +kernel
theorem d_Wh_grow_59 : decode b_Wh_grow 59 = .ok (.lmul, 1) := by decide +kernel
theorem d_Wh_grow_60 : decode b_Wh_grow 60 = .ok (.lsub, 1) := by decide +kernel
theorem d_Wh_grow_61 : decode b_Wh_grow 61 = .ok (.lastore, 1) := by decide +kernel
theorem d_Wh_grow_62 : decode b_Wh_grow 62 = .ok (.iinc 7 1, 3) := by decide +kernel
theorem d_Wh_grow_65 : decode b_Wh_grow 65 = .ok (.goto (-50), 3) := by decide +kernel
theorem d_Wh_grow_68 : decode b_Wh_grow 68 = .ok (.aload_n 0, 1) := by decide +kernel
theorem d_Wh_grow_69 : decode b_Wh_grow 69 = .ok (.getfield 9, 3) := by decide +kernel
theorem d_Wh_grow_72 : decode b_Wh_grow 72 = .ok (.aload_n 0, 1) := by decide +kernel
theorem d_Wh_grow_73 : decode b_Wh_grow 73 = .ok (.getfield 15, 3) := by decide +kernel
theorem d_Wh_grow_76 : decode b_Wh_grow 76 = .ok (.lload 5, 2) := by decide +kernel
theorem d_Wh_grow_78 : decode b_Wh_grow 78 = .ok (.lastore, 1) := by decide +kernel
theorem d_Wh_grow_79 : decode b_Wh_grow 79 = .ok (.aload_n 0, 1) := by decide +kernel
theorem d_Wh_grow_80 : decode b_Wh_grow 80 = .ok (.aload_n 0, 1) := by decide +kernel
theorem d_Wh_grow_81 : decode b_Wh_grow 81 = .ok (.getfield 15, 3) := by decide +kernel
theorem d_Wh_grow_84 : decode b_Wh_grow 84 = .ok (.iconst 1, 1) := by decide +kernel
theorem d_Wh_grow_85 : decode b_Wh_grow 85 = .ok (.iadd, 1) := by decide +kernel
theorem d_Wh_grow_86 : decode b_Wh_grow 86 = .ok (.invokevirtual 53, 3) := by decide +kernel
theorem d_Wh_grow_89 : decode b_Wh_grow 89 = .ok (.return_, 1) := by decide +kernel
theorem d_Wh_becomeQuotient_0 : decode b_Wh_becomeQuotient 0 = .ok (.lload_n 2, 1) := by decide +kernel
theorem d_Wh_becomeQuotient_1 : decode b_Wh_becomeQuotient 1 = .ok (.invokestatic 56, 3) := by decide +kernel
theorem d_Wh_becomeQuotient_4 : decode b_Wh_becomeQuotient 4 = .ok (.lconst 0, 1) := by decide +kernel
theorem d_Wh_becomeQuotient_5 : decode b_Wh_becomeQuotient 5 = .ok (.lstore 4, 2) := by decide +kernel
theorem d_Wh_becomeQuotient_7 : decode b_Wh_becomeQuotient 7 = .ok (.aload_n 1, 1) := by decide +kernel
theorem d_Wh_becomeQuotient_8 : decode b_Wh_becomeQuotient 8 = .ok (.getfield 15, 3) := by decide +kernel
theorem d_Wh_becomeQuotient_11 : decode b_Wh_becomeQuotient 11 = .ok (.istore 6, 2) := by decide +kernel
theorem d_Wh_becomeQuotient_13 : decode b_Wh_becomeQuotient 13 = .ok (.iload 6, 2) := by decide +kernel
theorem d_Wh_becomeQuotient_15 : decode b_Wh_becomeQuotient 15 = .ok (.iconst 1, 1) := by decide +kernel
theorem d_Wh_becomeQuotient_16 : decode b_Wh_becomeQuotient 16 = .ok (.isub, 1) := by decide +kernel
theorem d_Wh_becomeQuotient_17 : decode b_Wh_becomeQuotient 17 = .ok (.istore 7, 2) := by decide +kernel
theorem d_Wh_becomeQuotient_19 : decode b_Wh_becomeQuotient 19 = .ok (.iload 7, 2) := by decide +kernel
theorem d_Wh_becomeQuotient_21 : decode b_Wh_becomeQuotient 21 = .ok (.ifCond .lt 42, 3) := by decide +kernel
theorem d_Wh_becomeQuotient_24 : decode b_Wh_becomeQuotient 24 = .ok (.lload 4, 2) := by decide +kernel
theorem d_Wh_becomeQuotient_26 : decode b_Wh_becomeQuotient 26 = .ok (.ldc2_w 28, 3) := by decide +kernel
theorem d_Wh_becomeQuotient_29 : decode b_Wh_becomeQuotient 29 = .ok (.lmul, 1) := by decide +kernel
theorem d_Wh_becomeQuotient_30 : decode b_Wh_becomeQuotient 30 = .ok (.aload_n 1, 1) := by decide +kernel
theorem d_Wh_becomeQuotient_31 : decode b_Wh_becomeQuotient 31 = .ok (.getfield 9, 3) := by decide +kernel
theorem d_Wh_becomeQuotient_34 : decode b_Wh_becomeQuotient 34 = .ok (.iload 7, 2) := by decide +kernel
theorem d_Wh_becomeQuotient_36 : decode b_Wh_becomeQuotient 36 = .ok (.laload, 1) := by decide +kernel
theorem d_Wh_becomeQuotient_37 : decode b_Wh_becomeQuotient 37 = .ok (.ladd, 1) := by decide +kernel
theorem d_Wh_becomeQuotient_38 : decode b_Wh_becomeQuotient 38 = .ok (.lstore 8, 2) := by decide +kernel
theorem d_Wh_becomeQuotient_40 : decode b_Wh_becomeQuotient 40 = .ok (.aload_n 0, 1) := by decide +kernel
theorem d_Wh_becomeQuotient_41 : decode b_Wh_becomeQuotient 41 = .ok (.getfield 9, 3) := by decide +kernel
theorem d_Wh_becomeQuotient_44 : decode b_Wh_becomeQuotient 44 = .ok (.iload 7, 2) := by decide +kernel
theorem d_Wh_becomeQuotient_46 : decode b_Wh_becomeQuotient 46 = .ok (.lload 8, 2) := by decide +kernel
theorem d_Wh_becomeQuotient_48 : decode b_Wh_becomeQuotient 48 = .ok (.lload_n 2, 1) := by decide +kernel
theorem d_Wh_becomeQuotient_49 : decode b_Wh_becomeQuotient 49 = .ok (.ldiv, 1) := by decide +kernel
theorem d_Wh_becomeQuotient_50 : decode b_Wh_becomeQuotient 50 = .ok (.lastore, 1) := by decide +kernel
theorem d_Wh_becomeQuotient_51 : decode b_Wh_becomeQuotient 51 = .ok (.lload 8, 2) := by decide +kernel
theorem d_Wh_becomeQuotient_53 : decode b_Wh_becomeQuotient 53 = .ok (.lload_n 2, 1) := by decide +kernel
theorem d_Wh_becomeQuotient_54 : decode b_Wh_becomeQuotient 54 = .ok (.lrem, 1) := by decide +kernel
theorem d_Wh_becomeQuotient_55 : decode b_Wh_becomeQuotient 55 = .ok (.lstore 4, 2) := by decide +kernel
theorem d_Wh_becomeQuotient_57 : decode b_Wh_becomeQuotient 57 = .ok (.iinc 7 (-1), 3) := by decide +kernel
theorem d_Wh_becomeQuotient_60 : decode b_Wh_becomeQuotient 60 = .ok (.goto (-41), 3) := by decide +kernel
theorem d_Wh_becomeQuotient_63 : decode b_Wh_becomeQuotient 63 = .ok (.aload_n 0, 1) := by decide +kernel
theorem d_Wh_becomeQuotient_64 : decode b_Wh_becomeQuotient 64 = .ok (.iload 6, 2) := by decide +kernel
theorem d_Wh_becomeQuotient_66 : decode b_Wh_becomeQuotient 66 = .ok (.invokevirtual 53, 3) := by decide +kernel
theorem d_Wh_becomeQuotient_69 : decode b_Wh_becomeQuotient 69 = .ok (.lload 4, 2) := by decide +kernel
theorem d_Wh_becomeQuotient_71 : decode b_Wh_becomeQuotient 71 = .ok (.lreturn, 1) := by decide +kernel
theorem d_Wh_restBy_0 : decode b_Wh_restBy 0 = .ok (.lload_n 1, 1) := by decide +kernel
theorem d_Wh_restBy_1 : decode b_Wh_restBy 1 = .ok (.invokestatic 56, 3) := by decide +kernel
theorem d_Wh_restBy_4 : decode b_Wh_restBy 4 = .ok (.lconst 0, 1) := by decide +kernel
theorem d_Wh_restBy_5 : decode b_Wh_restBy 5 = .ok (.lstore_n 3, 1) := by decide +kernel
theorem d_Wh_restBy_6 : decode b_Wh_restBy 6 = .ok (.aload_n 0, 1) := by decide +kernel
theorem d_Wh_restBy_7 : decode b_Wh_restBy 7 = .ok (.getfield 15, 3) := by decide +kernel
theorem d_Wh_restBy_10 : decode b_Wh_restBy 10 = .ok (.iconst 1, 1) := by decide +kernel
theorem d_Wh_restBy_11 : decode b_Wh_restBy 11 = .ok (.isub, 1) := by decide +kernel
theorem d_Wh_restBy_12 : decode b_Wh_restBy 12 = .ok (.istore 5, 2) := by decide +kernel
theorem d_Wh_restBy_14 : decode b_Wh_restBy 14 = .ok (.iload 5, 2) := by decide +kernel
theorem d_Wh_restBy_16 : decode b_Wh_restBy 16 = .ok (.ifCond .lt 25, 3) := by decide +kernel
theorem d_Wh_restBy_19 : decode b_Wh_restBy 19 = .ok (.lload_n 3, 1) := by decide +kernel
theorem d_Wh_restBy_20 : decode b_Wh_restBy 20 = .ok (.ldc2_w 28, 3) := by decide +kernel
theorem d_Wh_restBy_23 : decode b_Wh_restBy 23 = .ok (.lmul, 1) := by decide +kernel
theorem d_Wh_restBy_24 : decode b_Wh_restBy 24 = .ok (.aload_n 0, 1) := by decide +kernel
theorem d_Wh_restBy_25 : decode b_Wh_restBy 25 = .ok (.getfield 9, 3) := by decide +kernel
theorem d_Wh_restBy_28 : decode b_Wh_restBy 28 = .ok (.iload 5, 2) := by decide +kernel
theorem d_Wh_restBy_30 : decode b_Wh_restBy 30 = .ok (.laload, 1) := by decide +kernel
theorem d_Wh_restBy_31 : decode b_Wh_restBy 31 = .ok (.ladd, 1) := by decide +kernel
theorem d_Wh_restBy_32 : decode b_Wh_restBy 32 = .ok (.lload_n 1, 1) := by decide +kernel
theorem d_Wh_restBy_33 : decode b_Wh_restBy 33 = .ok (.lrem, 1) := by decide +kernel
theorem d_Wh_restBy_34 : decode b_Wh_restBy 34 = .ok (.lstore_n 3, 1) := by decide +kernel
theorem d_Wh_restBy_35 : decode b_Wh_restBy 35 = .ok (.iinc 5 (-1), 3) := by decide +kernel
theorem d_Wh_restBy_38 : decode b_Wh_restBy 38 = .ok (.goto (-24), 3) := by decide +kernel
theorem d_Wh_restBy_41 : decode b_Wh_restBy 41 = .ok (.lload_n 3, 1) := by decide +kernel
theorem d_Wh_restBy_42 : decode b_Wh_restBy 42 = .ok (.lreturn, 1) := by decide +kernel
theorem d_Wh_decimalLength_0 : decode b_Wh_decimalLength 0 = .ok (.aload_n 0, 1) := by decide +kernel
theorem d_Wh_decimalLength_1 : decode b_Wh_decimalLength 1 = .ok (.getfield 15, 3) := by decide +kernel
theorem d_Wh_decimalLength_4 : decode b_Wh_decimalLength 4 = .ok (.ifCond .ne 7, 3) := by decide +kernel
theorem d_Wh_decimalLength_7 : decode b_Wh_decimalLength 7 = .ok (.iconst 1, 1) := by decide +kernel
theorem d_Wh_decimalLength_8 : decode b_Wh_decimalLength 8 = .ok (.goto 17, 3) := by decide +kernel
theorem d_Wh_decimalLength_11 : decode b_Wh_decimalLength 11 = .ok (.aload_n 0, 1) := by decide +kernel
theorem d_Wh_decimalLength_12 : decode b_Wh_decimalLength 12 = .ok (.getfield 15, 3) := by decide +kernel
theorem d_Wh_decimalLength_15 : decode b_Wh_decimalLength 15 = .ok (.iconst 1, 1) := by decide +kernel
theorem d_Wh_decimalLength_16 : decode b_Wh_decimalLength 16 = .ok (.isub, 1) := by decide +kernel
theorem d_Wh_decimalLength_17 : decode b_Wh_decimalLength 17 = .ok (.bipush 9, 2) := by decide +kernel
theorem d_Wh_decimalLength_19 : decode b_Wh_decimalLength 19 = .ok (.imul, 1) := by decide +kernel
theorem d_Wh_decimalLength_20 : decode b_Wh_decimalLength 20 = .ok (.aload_n 0, 1) := by decide +kernel
theorem d_Wh_decimalLength_21 : decode b_Wh_decimalLength 21 = .ok (.invokevirtual 60, 3) := by decide +kernel
theorem d_Wh_decimalLength_24 : decode b_Wh_decimalLength 24 = .ok (.iadd, 1) := by decide +kernel
theorem d_Wh_decimalLength_25 : decode b_Wh_decimalLength 25 = .ok (.ireturn, 1) := by decide +kernel
theorem d_Wh_topLength_0 : decode b_Wh_topLength 0 = .ok (.aload_n 0, 1) := by decide +kernel
theorem d_Wh_topLength_1 : decode b_Wh_topLength 1 = .ok (.aload_n 0, 1) := by decide +kernel
theorem d_Wh_topLength_2 : decode b_Wh_topLength 2 = .ok (.getfield 15, 3) := by decide +kernel
theorem d_Wh_topLength_5 : decode b_Wh_topLength 5 = .ok (.iconst 1, 1) := by decide +kernel
theorem d_Wh_topLength_6 : decode b_Wh_topLength 6 = .ok (.isub, 1) := by decide +kernel
theorem d_Wh_topLength_7 : decode b_Wh_topLength 7 = .ok (.invokevirtual 43, 3) := by decide +kernel
theorem d_Wh_topLength_10 : decode b_Wh_topLength 10 = .ok (.lstore_n 1, 1) := by decide +kernel
theorem d_Wh_topLength_11 : decode b_Wh_topLength 11 = .ok (.iconst 1, 1) := by decide +kernel
theorem d_Wh_topLength_12 : decode b_Wh_topLength 12 = .ok (.istore_n 3, 1) := by decide +kernel
theorem d_Wh_topLength_13 : decode b_Wh_topLength 13 = .ok (.iload_n 3, 1) := by decide +kernel
theorem d_Wh_topLength_14 : decode b_Wh_topLength 14 = .ok (.bipush 9, 2) := by decide +kernel
theorem d_Wh_topLength_16 : decode b_Wh_topLength 16 = .ok (.if_icmp .ge 19, 3) := by decide +kernel
theorem d_Wh_topLength_19 : decode b_Wh_topLength 19 = .ok (.lload_n 1, 1) := by decide +kernel
theorem d_Wh_topLength_20 : decode b_Wh_topLength 20 = .ok (.getstatic 34, 3) := by decide +kernel
theorem d_Wh_topLength_23 : decode b_Wh_topLength 23 = .ok (.iload_n 3, 1) := by decide +kernel
theorem d_Wh_topLength_24 : decode b_Wh_topLength 24 = .ok (.laload, 1) := by decide +kernel
theorem d_Wh_topLength_25 : decode b_Wh_topLength 25 = .ok (.lcmp, 1) := by decide +kernel
theorem d_Wh_topLength_26 : decode b_Wh_topLength 26 = .ok (.ifCond .lt 9, 3) := by decide +kernel
theorem d_Wh_topLength_29 : decode b_Wh_topLength 29 = .ok (.iinc 3 1, 3) := by decide +kernel
theorem d_Wh_topLength_32 : decode b_Wh_topLength 32 = .ok (.goto (-19), 3) := by decide +kernel
theorem d_Wh_topLength_35 : decode b_Wh_topLength 35 = .ok (.iload_n 3, 1) := by decide +kernel
theorem d_Wh_topLength_36 : decode b_Wh_topLength 36 = .ok (.ireturn, 1) := by decide +kernel
theorem d_Wh_decimalAt_0 : decode b_Wh_decimalAt 0 = .ok (.aload_n 0, 1) := by decide +kernel
theorem d_Wh_decimalAt_1 : decode b_Wh_decimalAt 1 = .ok (.iload_n 1, 1) := by decide +kernel
theorem d_Wh_decimalAt_2 : decode b_Wh_decimalAt 2 = .ok (.bipush 9, 2) := by decide +kernel
theorem d_Wh_decimalAt_4 : decode b_Wh_decimalAt 4 = .ok (.idiv, 1) := by decide +kernel
theorem d_Wh_decimalAt_5 : decode b_Wh_decimalAt 5 = .ok (.invokevirtual 43, 3) := by decide +kernel
theorem d_Wh_decimalAt_8 : decode b_Wh_decimalAt 8 = .ok (.getstatic 34, 3) := by decide +kernel
theorem d_Wh_decimalAt_11 : decode b_Wh_decimalAt 11 = .ok (.iload_n 1, 1) := by decide +kernel
theorem d_Wh_decimalAt_12 : decode b_Wh_decimalAt 12 = .ok (.bipush 9, 2) := by decide +kernel
theorem d_Wh_decimalAt_14 : decode b_Wh_decimalAt 14 = .ok (.irem, 1) := by decide +kernel
theorem d_Wh_decimalAt_15 : decode b_Wh_decimalAt 15 = .ok (.laload, 1) := by decide +kernel
theorem d_Wh_decimalAt_16 : decode b_Wh_decimalAt 16 = .ok (.ldiv, 1) := by decide +kernel
theorem d_Wh_decimalAt_17 : decode b_Wh_decimalAt 17 = .ok (.ldc2_w 64, 3) := by decide +kernel
theorem d_Wh_decimalAt_20 : decode b_Wh_decimalAt 20 = .ok (.lrem, 1) := by decide +kernel
theorem d_Wh_decimalAt_21 : decode b_Wh_decimalAt 21 = .ok (.l2i, 1) := by decide +kernel
theorem d_Wh_decimalAt_22 : decode b_Wh_decimalAt 22 = .ok (.ireturn, 1) := by decide +kernel
