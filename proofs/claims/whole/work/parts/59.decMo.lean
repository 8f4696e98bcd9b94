theorem d_Mo_init_0 : decode b_Mo_init 0 = .ok (.aload_n 0, 1) := by decide +kernel
theorem d_Mo_init_1 : decode b_Mo_init 1 = .ok (.invokespecial 1, 3) := by decide +kernel
theorem d_Mo_init_4 : decode b_Mo_init 4 = .ok (.aload_n 0, 1) := by decide +kernel
theorem d_Mo_init_5 : decode b_Mo_init 5 = .ok (.sipush 6400, 3) := by decide +kernel
theorem d_Mo_init_8 : decode b_Mo_init 8 = .ok (.newarray .int, 2) := by decide +kernel
theorem d_Mo_init_10 : decode b_Mo_init 10 = .ok (.putfield 7, 3) := by decide +kernel
theorem d_Mo_init_13 : decode b_Mo_init 13 = .ok (.aload_n 0, 1) := by decide +kernel
theorem d_Mo_init_14 : decode b_Mo_init 14 = .ok (.bipush 50, 2) := by decide +kernel
theorem d_Mo_init_16 : decode b_Mo_init 16 = .ok (.newarray .int, 2) := by decide +kernel
theorem d_Mo_init_18 : decode b_Mo_init 18 = .ok (.putfield 13, 3) := by decide +kernel
theorem d_Mo_init_21 : decode b_Mo_init 21 = .ok (.aload_n 0, 1) := by decide +kernel
theorem d_Mo_init_22 : decode b_Mo_init 22 = .ok (.bipush 16, 2) := by decide +kernel
theorem d_Mo_init_24 : decode b_Mo_init 24 = .ok (.newarray .int, 2) := by decide +kernel
theorem d_Mo_init_26 : decode b_Mo_init 26 = .ok (.putfield 16, 3) := by decide +kernel
theorem d_Mo_init_29 : decode b_Mo_init 29 = .ok (.aload_n 0, 1) := by decide +kernel
theorem d_Mo_init_30 : decode b_Mo_init 30 = .ok (.bipush 10, 2) := by decide +kernel
theorem d_Mo_init_32 : decode b_Mo_init 32 = .ok (.newarray .int, 2) := by decide +kernel
theorem d_Mo_init_34 : decode b_Mo_init 34 = .ok (.putfield 19, 3) := by decide +kernel
theorem d_Mo_init_37 : decode b_Mo_init 37 = .ok (.aload_n 0, 1) := by decide +kernel
theorem d_Mo_init_38 : decode b_Mo_init 38 = .ok (.bipush 10, 2) := by decide +kernel
theorem d_Mo_init_40 : decode b_Mo_init 40 = .ok (.newarray .long, 2) := by decide +kernel
theorem d_Mo_init_42 : decode b_Mo_init 42 = .ok (.putfield 22, 3) := by decide +kernel
theorem d_Mo_init_45 : decode b_Mo_init 45 = .ok (.iconst 0, 1) := by decide +kernel
theorem d_Mo_init_46 : decode b_Mo_init 46 = .ok (.istore_n 1, 1) := by decide +kernel
theorem d_Mo_init_47 : decode b_Mo_init 47 = .ok (.iload_n 1, 1) := by decide +kernel
theorem d_Mo_init_48 : decode b_Mo_init 48 = .ok (.bipush 16, 2) := by decide +kernel
theorem d_Mo_init_50 : decode b_Mo_init 50 = .ok (.if_icmp .ge 18, 3) := by decide +kernel
theorem d_Mo_init_53 : decode b_Mo_init 53 = .ok (.aload_n 0, 1) := by decide +kernel
theorem d_Mo_init_54 : decode b_Mo_init 54 = .ok (.bipush 16, 2) := by decide +kernel
theorem d_Mo_init_56 : decode b_Mo_init 56 = .ok (.iload_n 1, 1) := by decide +kernel
theorem d_Mo_init_57 : decode b_Mo_init 57 = .ok (.iadd, 1) := by decide +kernel
theorem d_Mo_init_58 : decode b_Mo_init 58 = .ok (.lconst 1, 1) := by decide +kernel
theorem d_Mo_init_59 : decode b_Mo_init 59 = .ok (.invokevirtual 26, 3) := by decide +kernel
theorem d_Mo_init_62 : decode b_Mo_init 62 = .ok (.iinc 1 1, 3) := by decide +kernel
theorem d_Mo_init_65 : decode b_Mo_init 65 = .ok (.goto (-18), 3) := by decide +kernel
theorem d_Mo_init_68 : decode b_Mo_init 68 = .ok (.return_, 1) := by decide +kernel
theorem d_Mo_thrown_0 : decode b_Mo_thrown 0 = .ok (.aload_n 0, 1) := by decide +kernel
theorem d_Mo_thrown_1 : decode b_Mo_thrown 1 = .ok (.getfield 30, 3) := by decide +kernel
theorem d_Mo_thrown_4 : decode b_Mo_thrown 4 = .ok (.ireturn, 1) := by decide +kernel
theorem d_Mo_in_0 : decode b_Mo_in 0 = .ok (.lload_n 0, 1) := by decide +kernel
theorem d_Mo_in_1 : decode b_Mo_in 1 = .ok (.lload_n 2, 1) := by decide +kernel
theorem d_Mo_in_2 : decode b_Mo_in 2 = .ok (.lcmp, 1) := by decide +kernel
theorem d_Mo_in_3 : decode b_Mo_in 3 = .ok (.ifCond .lt 14, 3) := by decide +kernel
theorem d_Mo_in_6 : decode b_Mo_in 6 = .ok (.lload_n 0, 1) := by decide +kernel
theorem d_Mo_in_7 : decode b_Mo_in 7 = .ok (.lload 4, 2) := by decide +kernel
theorem d_Mo_in_9 : decode b_Mo_in 9 = .ok (.lcmp, 1) := by decide +kernel
theorem d_Mo_in_10 : decode b_Mo_in 10 = .ok (.ifCond .gt 7, 3) := by decide +kernel
theorem d_Mo_in_13 : decode b_Mo_in 13 = .ok (.iconst 1, 1) := by decide +kernel
theorem d_Mo_in_14 : decode b_Mo_in 14 = .ok (.goto 4, 3) := by decide +kernel
theorem d_Mo_in_17 : decode b_Mo_in 17 = .ok (.iconst 0, 1) := by decide +kernel
theorem d_Mo_in_18 : decode b_Mo_in 18 = .ok (.ireturn, 1) := by decide +kernel
theorem d_Mo_isRegister_0 : decode b_Mo_isRegister 0 = .ok (.iload_n 0, 1) := by decide +kernel
theorem d_Mo_isRegister_1 : decode b_Mo_isRegister 1 = .ok (.ifCond .lt 13, 3) := by decide +kernel
theorem d_Mo_isRegister_4 : decode b_Mo_isRegister 4 = .ok (.iload_n 0, 1) := by decide +kernel
theorem d_Mo_isRegister_5 : decode b_Mo_isRegister 5 = .ok (.bipush 16, 2) := by decide +kernel
theorem d_Mo_isRegister_7 : decode b_Mo_isRegister 7 = .ok (.if_icmp .ge 7, 3) := by decide +kernel
theorem d_Mo_isRegister_10 : decode b_Mo_isRegister 10 = .ok (.iconst 1, 1) := by decide +kernel
theorem d_Mo_isRegister_11 : decode b_Mo_isRegister 11 = .ok (.goto 4, 3) := by decide +kernel
theorem d_Mo_isRegister_14 : decode b_Mo_isRegister 14 = .ok (.iconst 0, 1) := by decide +kernel
theorem d_Mo_isRegister_15 : decode b_Mo_isRegister 15 = .ok (.ireturn, 1) := by decide +kernel
theorem d_Mo_cell_0 : decode b_Mo_cell 0 = .ok (.iload_n 2, 1) := by decide +kernel
theorem d_Mo_cell_1 : decode b_Mo_cell 1 = .ok (.ifCond .lt 28, 3) := by decide +kernel
theorem d_Mo_cell_4 : decode b_Mo_cell 4 = .ok (.iload_n 2, 1) := by decide +kernel
theorem d_Mo_cell_5 : decode b_Mo_cell 5 = .ok (.aload_n 0, 1) := by decide +kernel
theorem d_Mo_cell_6 : decode b_Mo_cell 6 = .ok (.getfield 13, 3) := by decide +kernel
theorem d_Mo_cell_9 : decode b_Mo_cell 9 = .ok (.iload_n 1, 1) := by decide +kernel
theorem d_Mo_cell_10 : decode b_Mo_cell 10 = .ok (.iaload, 1) := by decide +kernel
theorem d_Mo_cell_11 : decode b_Mo_cell 11 = .ok (.if_icmp .ge 18, 3) := by decide +kernel
theorem d_Mo_cell_14 : decode b_Mo_cell 14 = .ok (.aload_n 0, 1) := by decide +kernel
theorem d_Mo_cell_15 : decode b_Mo_cell 15 = .ok (.getfield 7, 3) := by decide +kernel
theorem d_Mo_cell_18 : decode b_Mo_cell 18 = .ok (.sipush 128, 3) := by decide +kernel
theorem d_Mo_cell_21 : decode b_Mo_cell 21 = .ok (.iload_n 1, 1) := by decide +kernel
theorem d_Mo_cell_22 : decode b_Mo_cell 22 = .ok (.imul, 1) := by decide +kernel
theorem d_Mo_cell_23 : decode b_Mo_cell 23 = .ok (.iload_n 2, 1) := by decide +kernel
theorem d_Mo_cell_24 : decode b_Mo_cell 24 = .ok (.iadd, 1) := by decide +kernel
theorem d_Mo_cell_25 : decode b_Mo_cell 25 = .ok (.iaload, 1) := by decide +kernel
theorem d_Mo_cell_26 : decode b_Mo_cell 26 = .ok (.goto 4, 3) := by decide +kernel
theorem d_Mo_cell_29 : decode b_Mo_cell 29 = .ok (.iconst 0, 1) := by decide +kernel
theorem d_Mo_cell_30 : decode b_Mo_cell 30 = .ok (.ireturn, 1) := by decide +kernel
theorem d_Mo_trim_0 : decode b_Mo_trim 0 = .ok (.iload_n 2, 1) := by decide +kernel
theorem d_Mo_trim_1 : decode b_Mo_trim 1 = .ok (.istore_n 3, 1) := by decide +kernel
theorem d_Mo_trim_2 : decode b_Mo_trim 2 = .ok (.iload_n 3, 1) := by decide +kernel
theorem d_Mo_trim_3 : decode b_Mo_trim 3 = .ok (.ifCond .le 26, 3) := by decide +kernel
theorem d_Mo_trim_6 : decode b_Mo_trim 6 = .ok (.aload_n 0, 1) := by decide +kernel
theorem d_Mo_trim_7 : decode b_Mo_trim 7 = .ok (.getfield 7, 3) := by decide +kernel
theorem d_Mo_trim_10 : decode b_Mo_trim 10 = .ok (.sipush 128, 3) := by decide +kernel
theorem d_Mo_trim_13 : decode b_Mo_trim 13 = .ok (.iload_n 1, 1) := by decide +kernel
theorem d_Mo_trim_14 : decode b_Mo_trim 14 = .ok (.imul, 1) := by decide +kernel
theorem d_Mo_trim_15 : decode b_Mo_trim 15 = .ok (.iload_n 3, 1) := by decide +kernel
theorem d_Mo_trim_16 : decode b_Mo_trim 16 = .ok (.iadd, 1) := by decide +kernel
theorem d_Mo_trim_17 : decode b_Mo_trim 17 = .ok (.iconst 1, 1) := by decide +kernel
theorem d_Mo_trim_18 : decode b_Mo_trim 18 = .ok (.isub, 1) := by decide +kernel
theorem d_Mo_trim_19 : decode b_Mo_trim 19 = .ok (.iaload, 1) := by decide +kernel
theorem d_Mo_trim_20 : decode b_Mo_trim 20 = .ok (.ifCond .ne 9, 3) := by decide +kernel
theorem d_Mo_trim_23 : decode b_Mo_trim 23 = .ok (.iinc 3 (-1), 3) := by decide +kernel
theorem d_Mo_trim_26 : decode b_Mo_trim 26 = .ok (.goto (-24), 3) := by decide +kernel
theorem d_Mo_trim_29 : decode b_Mo_trim 29 = .ok (.aload_n 0, 1) := by decide +kernel
theorem d_Mo_trim_30 : decode b_Mo_trim 30 = .ok (.getfield 13, 3) := by decide +kernel
theorem d_Mo_trim_33 : decode b_Mo_trim 33 = .ok (.iload_n 1, 1) := by decide +kernel
theorem d_Mo_trim_34 : decode b_Mo_trim 34 = .ok (.iload_n 3, 1) := by decide +kernel
theorem d_Mo_trim_35 : decode b_Mo_trim 35 = .ok (.iastore, 1) := by decide +kernel
theorem d_Mo_trim_36 : decode b_Mo_trim 36 = .ok (.return_, 1) := by decide +kernel
theorem d_Mo_setLong_0 : decode b_Mo_setLong 0 = .ok (.iconst 0, 1) := by decide +kernel
theorem d_Mo_setLong_1 : decode b_Mo_setLong 1 = .ok (.istore 4, 2) := by decide +kernel
theorem d_Mo_setLong_3 : decode b_Mo_setLong 3 = .ok (.lload_n 2, 1) := by decide +kernel
theorem d_Mo_setLong_4 : decode b_Mo_setLong 4 = .ok (.lstore 5, 2) := by decide +kernel
theorem d_Mo_setLong_6 : decode b_Mo_setLong 6 = .ok (.lload 5, 2) := by decide +kernel
theorem d_Mo_setLong_8 : decode b_Mo_setLong 8 = .ok (.lconst 0, 1) := by decide +kernel
theorem d_Mo_setLong_9 : decode b_Mo_setLong 9 = .ok (.lcmp, 1) := by decide +kernel
theorem d_Mo_setLong_10 : decode b_Mo_setLong 10 = .ok (.ifCond .le 37, 3) := by decide +kernel
theorem d_Mo_setLong_13 : decode b_Mo_setLong 13 = .ok (.aload_n 0, 1) := by decide +kernel
theorem d_Mo_setLong_14 : decode b_Mo_setLong 14 = .ok (.getfield 7, 3) := by decide +kernel
theorem d_Mo_setLong_17 : decode b_Mo_setLong 17 = .ok (.sipush 128, 3) := by decide +kernel
theorem d_Mo_setLong_20 : decode b_Mo_setLong 20 = .ok (.iload_n 1, 1) := by decide +kernel
theorem d_Mo_setLong_21 : decode b_Mo_setLong 21 = .ok (.imul, 1) := by decide +kernel
theorem d_Mo_setLong_22 : decode b_Mo_setLong 22 = .ok (.iload 4, 2) := by decide +kernel
theorem d_Mo_setLong_24 : decode b_Mo_setLong 24 = .ok (.iadd, 1) := by decide +kernel
theorem d_Mo_setLong_25 : decode b_Mo_setLong 25 = .ok (.lload 5, 2) := by decide +kernel
theorem d_Mo_setLong_27 : decode b_Mo_setLong 27 = .ok (.ldc2_w 34, 3) := by decide +kernel
theorem d_Mo_setLong_30 : decode b_Mo_setLong 30 = .ok (.lrem, 1) := by decide +kernel
theorem d_Mo_setLong_31 : decode b_Mo_setLong 31 = .ok (.l2i, 1) := by decide +kernel
theorem d_Mo_setLong_32 : decode b_Mo_setLong 32 = .ok (.iastore, 1) := by decide +kernel
theorem d_Mo_setLong_33 : decode b_Mo_setLong 33 = .ok (.iinc 4 1, 3) := by decide +kernel
theorem d_Mo_setLong_36 : decode b_Mo_setLong 36 = .ok (.lload 5, 2) := by decide +kernel
theorem d_Mo_setLong_38 : decode b_Mo_setLong 38 = .ok (.ldc2_w 34, 3) := by decide +kernel
theorem d_Mo_setLong_41 : decode b_Mo_setLong 41 = .ok (.ldiv, 1) := by decide +kernel
theorem d_Mo_setLong_42 : decode b_Mo_setLong 42 = .ok (.lstore 5, 2) := by decide +kernel
theorem d_Mo_setLong_44 : decode b_Mo_setLong 44 = .ok (.goto (-38), 3) := by decide +kernel
theorem d_Mo_setLong_47 : decode b_Mo_setLong 47 = .ok (.aload_n 0, 1) := by decide +kernel
theorem d_Mo_setLong_48 : decode b_Mo_setLong 48 = .ok (.getfield 13, 3) := by decide +kernel
theorem d_Mo_setLong_51 : decode b_Mo_setLong 51 = .ok (.iload_n 1, 1) := by decide +kernel
theorem d_Mo_setLong_52 : decode b_Mo_setLong 52 = .ok (.iload 4, 2) := by decide +kernel
theorem d_Mo_setLong_54 : decode b_Mo_setLong 54 = .ok (.iastore, 1) := by decide +kernel
theorem d_Mo_setLong_55 : decode b_Mo_setLong 55 = .ok (.return_, 1) := by decide +kernel
theorem d_Mo_copy_0 : decode b_Mo_copy 0 = .ok (.iconst 0, 1) := by decide +kernel
theorem d_Mo_copy_1 : decode b_Mo_copy 1 = .ok (.istore_n 3, 1) := by decide +kernel
theorem d_Mo_copy_2 : decode b_Mo_copy 2 = .ok (.iload_n 3, 1) := by decide +kernel
theorem d_Mo_copy_3 : decode b_Mo_copy 3 = .ok (.aload_n 0, 1) := by decide +kernel
theorem d_Mo_copy_4 : decode b_Mo_copy 4 = .ok (.getfield 13, 3) := by decide +kernel
theorem d_Mo_copy_7 : decode b_Mo_copy 7 = .ok (.iload_n 2, 1) := by decide +kernel
theorem d_Mo_copy_8 : decode b_Mo_copy 8 = .ok (.iaload, 1) := by decide +kernel
theorem d_Mo_copy_9 : decode b_Mo_copy 9 = .ok (.if_icmp .ge 33, 3) := by decide +kernel
theorem d_Mo_copy_12 : decode b_Mo_copy 12 = .ok (.aload_n 0, 1) := by decide +kernel
theorem d_Mo_copy_13 : decode b_Mo_copy 13 = .ok (.getfield 7, 3) := by decide +kernel
theorem d_Mo_copy_16 : decode b_Mo_copy 16 = .ok (.sipush 128, 3) := by decide +kernel
theorem d_Mo_copy_19 : decode b_Mo_copy 19 = .ok (.iload_n 1, 1) := by decide +kernel
theorem d_Mo_copy_20 : decode b_Mo_copy 20 = .ok (.imul, 1) := by decide +kernel
theorem d_Mo_copy_21 : decode b_Mo_copy 21 = .ok (.iload_n 3, 1) := by decide +kernel
theorem d_Mo_copy_22 : decode b_Mo_copy 22 = .ok (.iadd, 1) := by decide +kernel
theorem d_Mo_copy_23 : decode b_Mo_copy 23 = .ok (.aload_n 0, 1) := by decide +kernel
theorem d_Mo_copy_24 : decode b_Mo_copy 24 = .ok (.getfield 7, 3) := by decide +kernel
theorem d_Mo_copy_27 : decode b_Mo_copy 27 = .ok (.sipush 128, 3) := by decide +kernel
theorem d_Mo_copy_30 : decode b_Mo_copy 30 = .ok (.iload_n 2, 1) := by decide +kernel
theorem d_Mo_copy_31 : decode b_Mo_copy 31 = .ok (.imul, 1) := by decide +kernel
theorem d_Mo_copy_32 : decode b_Mo_copy 32 = .ok (.iload_n 3, 1) := by decide +kernel
theorem d_Mo_copy_33 : decode b_Mo_copy 33 = .ok (.iadd, 1) := by decide +kernel
theorem d_Mo_copy_34 : decode b_Mo_copy 34 = .ok (.iaload, 1) := by decide +kernel
theorem d_Mo_copy_35 : decode b_Mo_copy 35 = .ok (.iastore, 1) := by decide +kernel
theorem d_Mo_copy_36 : decode b_Mo_copy 36 = .ok (.iinc 3 1, 3) := by decide +kernel
theorem d_Mo_copy_39 : decode b_Mo_copy 39 = .ok (.goto (-37), 3) := by decide +kernel
theorem d_Mo_copy_42 : decode b_Mo_copy 42 = .ok (.aload_n 0, 1) := by decide +kernel
theorem d_Mo_copy_43 : decode b_Mo_copy 43 = .ok (.getfield 13, 3) := by decide +kernel
theorem d_Mo_copy_46 : decode b_Mo_copy 46 = .ok (.iload_n 1, 1) := by decide +kernel
theorem d_Mo_copy_47 : decode b_Mo_copy 47 = .ok (.aload_n 0, 1) := by decide +kernel
theorem d_Mo_copy_48 : decode b_Mo_copy 48 = .ok (.getfield 13, 3) := by decide +kernel
theorem d_Mo_copy_51 : decode b_Mo_copy 51 = .ok (.iload_n 2, 1) := by decide +kernel
theorem d_Mo_copy_52 : decode b_Mo_copy 52 = .ok (.iaload, 1) := by decide +kernel
theorem d_Mo_copy_53 : decode b_Mo_copy 53 = .ok (.iastore, 1) := by decide +kernel
theorem d_Mo_copy_54 : decode b_Mo_copy 54 = .ok (.return_, 1) := by decide +kernel
theorem d_Mo_isZero_0 : decode b_Mo_isZero 0 = .ok (.aload_n 0, 1) := by decide +kernel
theorem d_Mo_isZero_1 : decode b_Mo_isZero 1 = .ok (.getfield 13, 3) := by decide +kernel
theorem d_Mo_isZero_4 : decode b_Mo_isZero 4 = .ok (.iload_n 1, 1) := by decide +kernel
theorem d_Mo_isZero_5 : decode b_Mo_isZero 5 = .ok (.iaload, 1) := by decide +kernel
theorem d_Mo_isZero_6 : decode b_Mo_isZero 6 = .ok (.ifCond .ne 7, 3) := by decide +kernel
theorem d_Mo_isZero_9 : decode b_Mo_isZero 9 = .ok (.iconst 1, 1) := by decide +kernel
theorem d_Mo_isZero_10 : decode b_Mo_isZero 10 = .ok (.goto 4, 3) := by decide +kernel
theorem d_Mo_isZero_13 : decode b_Mo_isZero 13 = .ok (.iconst 0, 1) := by decide +kernel
theorem d_Mo_isZero_14 : decode b_Mo_isZero 14 = .ok (.ireturn, 1) := by decide +kernel
theorem d_Mo_order_0 : decode b_Mo_order 0 = .ok (.aload_n 0, 1) := by decide +kernel
theorem d_Mo_order_1 : decode b_Mo_order 1 = .ok (.getfield 13, 3) := by decide +kernel
theorem d_Mo_order_4 : decode b_Mo_order 4 = .ok (.iload_n 1, 1) := by decide +kernel
theorem d_Mo_order_5 : decode b_Mo_order 5 = .ok (.iaload, 1) := by decide +kernel
theorem d_Mo_order_6 : decode b_Mo_order 6 = .ok (.aload_n 0, 1) := by decide +kernel
theorem d_Mo_order_7 : decode b_Mo_order 7 = .ok (.getfield 13, 3) := by decide +kernel
theorem d_Mo_order_10 : decode b_Mo_order 10 = .ok (.iload_n 2, 1) := by decide +kernel
theorem d_Mo_order_11 : decode b_Mo_order 11 = .ok (.iaload, 1) := by decide +kernel
theorem d_Mo_order_12 : decode b_Mo_order 12 = .ok (.if_icmp .eq 24, 3) := by decide +kernel
theorem d_Mo_order_15 : decode b_Mo_order 15 = .ok (.aload_n 0, 1) := by decide +kernel
theorem d_Mo_order_16 : decode b_Mo_order 16 = .ok (.getfield 13, 3) := by decide +kernel
theorem d_Mo_order_19 : decode b_Mo_order 19 = .ok (.iload_n 1, 1) := by decide +kernel
theorem d_Mo_order_20 : decode b_Mo_order 20 = .ok (.iaload, 1) := by decide +kernel
theorem d_Mo_order_21 : decode b_Mo_order 21 = .ok (.aload_n 0, 1) := by decide +kernel
theorem d_Mo_order_22 : decode b_Mo_order 22 = .ok (.getfield 13, 3) := by decide +kernel
theorem d_Mo_order_25 : decode b_Mo_order 25 = .ok (.iload_n 2, 1) := by decide +kernel
theorem d_Mo_order_26 : decode b_Mo_order 26 = .ok (.iaload, 1) := by decide +kernel
theorem d_Mo_order_27 : decode b_Mo_order 27 = .ok (.if_icmp .ge 7, 3) := by decide +kernel
theorem d_Mo_order_30 : decode b_Mo_order 30 = .ok (.iconst (-1), 1) := by decide +kernel
theorem d_Mo_order_31 : decode b_Mo_order 31 = .ok (.goto 4, 3) := by decide +kernel
theorem d_Mo_order_34 : decode b_Mo_order 34 = .ok (.iconst 1, 1) := by decide +kernel
theorem d_Mo_order_35 : decode b_Mo_order 35 = .ok (.ireturn, 1) := by decide +kernel
theorem d_Mo_order_36 : decode b_Mo_order 36 = .ok (.aload_n 0, 1) := by decide +kernel
theorem d_Mo_order_37 : decode b_Mo_order 37 = .ok (.getfield 13, 3) := by decide +kernel
theorem d_Mo_order_40 : decode b_Mo_order 40 = .ok (.iload_n 1, 1) := by decide +kernel
theorem d_Mo_order_41 : decode b_Mo_order 41 = .ok (.iaload, 1) := by decide +kernel
theorem d_Mo_order_42 : decode b_Mo_order 42 = .ok (.iconst 1, 1) := by decide +kernel
theorem d_Mo_order_43 : decode b_Mo_order 43 = .ok (.isub, 1) := by decide +kernel
theorem d_Mo_order_44 : decode b_Mo_order 44 = .ok (.istore_n 3, 1) := by decide +kernel
theorem d_Mo_order_45 : decode b_Mo_order 45 = .ok (.iload_n 3, 1) := by decide +kernel
theorem d_Mo_order_46 : decode b_Mo_order 46 = .ok (.ifCond .lt 40, 3) := by decide +kernel
theorem d_Mo_order_49 : decode b_Mo_order 49 = .ok (.aload_n 0, 1) := by decide +kernel
theorem d_Mo_order_50 : decode b_Mo_order 50 = .ok (.iload_n 1, 1) := by decide +kernel
theorem d_Mo_order_51 : decode b_Mo_order 51 = .ok (.iload_n 3, 1) := by decide +kernel
theorem d_Mo_order_52 : decode b_Mo_order 52 = .ok (.invokevirtual 36, 3) := by decide +kernel
theorem d_Mo_order_55 : decode b_Mo_order 55 = .ok (.aload_n 0, 1) := by decide +kernel
theorem d_Mo_order_56 : decode b_Mo_order 56 = .ok (.iload_n 2, 1) := by decide +kernel
theorem d_Mo_order_57 : decode b_Mo_order 57 = .ok (.iload_n 3, 1) := by decide +kernel
theorem d_Mo_order_58 : decode b_Mo_order 58 = .ok (.invokevirtual 36, 3) := by decide +kernel
theorem d_Mo_order_61 : decode b_Mo_order 61 = .ok (.isub, 1) := by decide +kernel
theorem d_Mo_order_62 : decode b_Mo_order 62 = .ok (.istore 4, 2) := by decide +kernel
theorem d_Mo_order_64 : decode b_Mo_order 64 = .ok (.iload 4, 2) := by decide +kernel
theorem d_Mo_order_66 : decode b_Mo_order 66 = .ok (.ifCond .eq 14, 3) := by decide +kernel
theorem d_Mo_order_69 : decode b_Mo_order 69 = .ok (.iload 4, 2) := by decide +kernel
theorem d_Mo_order_71 : decode b_Mo_order 71 = .ok (.ifCond .ge 7, 3) := by decide +kernel
theorem d_Mo_order_74 : decode b_Mo_order 74 = .ok (.iconst (-1), 1) := by decide +kernel
theorem d_Mo_order_75 : decode b_Mo_order 75 = .ok (.goto 4, 3) := by decide +kernel
theorem d_Mo_order_78 : decode b_Mo_order 78 = .ok (.iconst 1, 1) := by decide +kernel
theorem d_Mo_order_79 : decode b_Mo_order 79 = .ok (.ireturn, 1) := by decide +kernel
theorem d_Mo_order_80 : decode b_Mo_order 80 = .ok (.iinc 3 (-1), 3) := by decide +kernel
theorem d_Mo_order_83 : decode b_Mo_order 83 = .ok (.goto (-38), 3) := by decide +kernel
theorem d_Mo_order_86 : decode b_Mo_order 86 = .ok (.iconst 0, 1) := by decide +kernel
theorem d_Mo_order_87 : decode b_Mo_order 87 = .ok (.ireturn, 1) := by decide +kernel
theorem d_Mo_plus_0 : decode b_Mo_plus 0 = .ok (.aload_n 0, 1) := by decide +kernel
theorem d_Mo_plus_1 : decode b_Mo_plus 1 = .ok (.getfield 13, 3) := by decide +kernel
theorem d_Mo_plus_4 : decode b_Mo_plus 4 = .ok (.iload_n 2, 1) := by decide +kernel
theorem d_Mo_plus_5 : decode b_Mo_plus 5 = .ok (.iaload, 1) := by decide +kernel
theorem d_Mo_plus_6 : decode b_Mo_plus 6 = .ok (.aload_n 0, 1) := by decide +kernel
theorem d_Mo_plus_7 : decode b_Mo_plus 7 = .ok (.getfield 13, 3) := by decide +kernel
theorem d_Mo_plus_10 : decode b_Mo_plus 10 = .ok (.iload_n 3, 1) := by decide +kernel
theorem d_Mo_plus_11 : decode b_Mo_plus 11 = .ok (.iaload, 1) := by decide +kernel
theorem d_Mo_plus_12 : decode b_Mo_plus 12 = .ok (.if_icmp .le 12, 3) := by decide +kernel
theorem d_Mo_plus_15 : decode b_Mo_plus 15 = .ok (.aload_n 0, 1) := by decide +kernel
theorem d_Mo_plus_16 : decode b_Mo_plus 16 = .ok (.getfield 13, 3) := by decide +kernel
theorem d_Mo_plus_19 : decode b_Mo_plus 19 = .ok (.iload_n 2, 1) := by decide +kernel
theorem d_Mo_plus_20 : decode b_Mo_plus 20 = .ok (.iaload, 1) := by decide +kernel
theorem d_Mo_plus_21 : decode b_Mo_plus 21 = .ok (.goto 9, 3) := by decide +kernel
theorem d_Mo_plus_24 : decode b_Mo_plus 24 = .ok (.aload_n 0, 1) := by decide +kernel
theorem d_Mo_plus_25 : decode b_Mo_plus 25 = .ok (.getfield 13, 3) := by decide +kernel
theorem d_Mo_plus_28 : decode b_Mo_plus 28 = .ok (.iload_n 3, 1) := by decide +kernel
theorem d_Mo_plus_29 : decode b_Mo_plus 29 = .ok (.iaload, 1) := by decide +kernel
theorem d_Mo_plus_30 : decode b_Mo_plus 30 = .ok (.istore 4, 2) := by decide +kernel
theorem d_Mo_plus_32 : decode b_Mo_plus 32 = .ok (.iconst 0, 1) := by decide +kernel
theorem d_Mo_plus_33 : decode b_Mo_plus 33 = .ok (.istore 5, 2) := by decide +kernel
theorem d_Mo_plus_35 : decode b_Mo_plus 35 = .ok (.iconst 0, 1) := by decide +kernel
theorem d_Mo_plus_36 : decode b_Mo_plus 36 = .ok (.istore 6, 2) := by decide +kernel
theorem d_Mo_plus_38 : decode b_Mo_plus 38 = .ok (.iload 6, 2) := by decide +kernel
theorem d_Mo_plus_40 : decode b_Mo_plus 40 = .ok (.iload 4, 2) := by decide +kernel
theorem d_Mo_plus_42 : decode b_Mo_plus 42 = .ok (.if_icmp .gt 56, 3) := by decide +kernel
theorem d_Mo_plus_45 : decode b_Mo_plus 45 = .ok (.aload_n 0, 1) := by decide +kernel
theorem d_Mo_plus_46 : decode b_Mo_plus 46 = .ok (.iload_n 2, 1) := by decide +kernel
theorem d_Mo_plus_47 : decode b_Mo_plus 47 = .ok (.iload 6, 2) := by decide +kernel
theorem d_Mo_plus_49 : decode b_Mo_plus 49 = .ok (.invokevirtual 36, 3) := by decide +kernel
theorem d_Mo_plus_52 : decode b_Mo_plus 52 = .ok (.aload_n 0, 1) := by decide +kernel
theorem d_Mo_plus_53 : decode b_Mo_plus 53 = .ok (.iload_n 3, 1) := by decide +kernel
theorem d_Mo_plus_54 : decode b_Mo_plus 54 = .ok (.iload 6, 2) := by decide +kernel
theorem d_Mo_plus_56 : decode b_Mo_plus 56 = .ok (.invokevirtual 36, 3) := by decide +kernel
theorem d_Mo_plus_59 : decode b_Mo_plus 59 = .ok (.iadd, 1) := by decide +kernel
theorem d_Mo_plus_60 : decode b_Mo_plus 60 = .ok (.iload 5, 2) := by decide +kernel
theorem d_Mo_plus_62 : decode b_Mo_plus 62 = .ok (.iadd, 1) := by decide +kernel
theorem d_Mo_plus_63 : decode b_Mo_plus 63 = .ok (.istore 7, 2) := by decide +kernel
theorem d_Mo_plus_65 : decode b_Mo_plus 65 = .ok (.aload_n 0, 1) := by decide +kernel
theorem d_Mo_plus_66 : decode b_Mo_plus 66 = .ok (.getfield 7, 3) := by decide +kernel
theorem d_Mo_plus_69 : decode b_Mo_plus 69 = .ok (.sipush 128, 3) := by decide +kernel
theorem d_Mo_plus_72 : decode b_Mo_plus 72 = .ok (.iload_n 1, 1) := by decide +kernel
theorem d_Mo_plus_73 : decode b_Mo_plus 73 = .ok (.imul, 1) := by decide +kernel
theorem d_Mo_plus_74 : decode b_Mo_plus 74 = .ok (.iload 6, 2) := by decide +kernel
theorem d_Mo_plus_76 : decode b_Mo_plus 76 = .ok (.iadd, 1) := by decide +kernel
theorem d_Mo_plus_77 : decode b_Mo_plus 77 = .ok (.iload 7, 2) := by decide +kernel
theorem d_Mo_plus_79 : decode b_Mo_plus 79 = .ok (.sipush 10000, 3) := by decide +kernel
theorem d_Mo_plus_82 : decode b_Mo_plus 82 = .ok (.irem, 1) := by decide +kernel
theorem d_Mo_plus_83 : decode b_Mo_plus 83 = .ok (.iastore, 1) := by decide +kernel
theorem d_Mo_plus_84 : decode b_Mo_plus 84 = .ok (.iload 7, 2) := by decide +kernel
theorem d_Mo_plus_86 : decode b_Mo_plus 86 = .ok (.sipush 10000, 3) := by decide +kernel
theorem d_Mo_plus_89 : decode b_Mo_plus 89 = .ok (.idiv, 1) := by decide +kernel
theorem d_Mo_plus_90 : decode b_Mo_plus 90 = .ok (.istore 5, 2) := by decide +kernel
theorem d_Mo_plus_92 : decode b_Mo_plus 92 = .ok (.iinc 6 1, 3) := by decide +kernel
theorem d_Mo_plus_95 : decode b_Mo_plus 95 = .ok (.goto (-57), 3) := by decide +kernel
theorem d_Mo_plus_98 : decode b_Mo_plus 98 = .ok (.aload_n 0, 1) := by decide +kernel
theorem d_Mo_plus_99 : decode b_Mo_plus 99 = .ok (.iload_n 1, 1) := by decide +kernel
theorem d_Mo_plus_100 : decode b_Mo_plus 100 = .ok (.iload 4, 2) := by decide +kernel
theorem d_Mo_plus_102 : decode b_Mo_plus 102 = .ok (.iconst 1, 1) := by decide +kernel
theorem d_Mo_plus_103 : decode b_Mo_plus 103 = .ok (.iadd, 1) := by decide +kernel
theorem d_Mo_plus_104 : decode b_Mo_plus 104 = .ok (.invokevirtual 40, 3) := by decide +kernel
theorem d_Mo_plus_107 : decode b_Mo_plus 107 = .ok (.return_, 1) := by decide +kernel
theorem d_Mo_less_0 : decode b_Mo_less 0 = .ok (.aload_n 0, 1) := by decide +kernel
theorem d_Mo_less_1 : decode b_Mo_less 1 = .ok (.getfield 13, 3) := by decide +kernel
theorem d_Mo_less_4 : decode b_Mo_less 4 = .ok (.iload_n 2, 1) := by decide +kernel
theorem d_Mo_less_5 : decode b_Mo_less 5 = .ok (.iaload, 1) := by decide +kernel
theorem d_Mo_less_6 : decode b_Mo_less 6 = .ok (.istore 4, 2) := by decide +kernel
theorem d_Mo_less_8 : decode b_Mo_less 8 = .ok (.iconst 0, 1) := by decide +kernel
theorem d_Mo_less_9 : decode b_Mo_less 9 = .ok (.istore 5, 2) := by decide +kernel
theorem d_Mo_less_11 : decode b_Mo_less 11 = .ok (.iconst 0, 1) := by decide +kernel
theorem d_Mo_less_12 : decode b_Mo_less 12 = .ok (.istore 6, 2) := by decide +kernel
theorem d_Mo_less_14 : decode b_Mo_less 14 = .ok (.iload 6, 2) := by decide +kernel
theorem d_Mo_less_16 : decode b_Mo_less 16 = .ok (.iload 4, 2) := by decide +kernel
theorem d_Mo_less_18 : decode b_Mo_less 18 = .ok (.if_icmp .ge 70, 3) := by decide +kernel
theorem d_Mo_less_21 : decode b_Mo_less 21 = .ok (.aload_n 0, 1) := by decide +kernel
theorem d_Mo_less_22 : decode b_Mo_less 22 = .ok (.iload_n 2, 1) := by decide +kernel
theorem d_Mo_less_23 : decode b_Mo_less 23 = .ok (.iload 6, 2) := by decide +kernel
theorem d_Mo_less_25 : decode b_Mo_less 25 = .ok (.invokevirtual 36, 3) := by decide +kernel
theorem d_Mo_less_28 : decode b_Mo_less 28 = .ok (.aload_n 0, 1) := by decide +kernel
theorem d_Mo_less_29 : decode b_Mo_less 29 = .ok (.iload_n 3, 1) := by decide +kernel
theorem d_Mo_less_30 : decode b_Mo_less 30 = .ok (.iload 6, 2) := by decide +kernel
theorem d_Mo_less_32 : decode b_Mo_less 32 = .ok (.invokevirtual 36, 3) := by decide +kernel
theorem d_Mo_less_35 : decode b_Mo_less 35 = .ok (.isub, 1) := by decide +kernel
theorem d_Mo_less_36 : decode b_Mo_less 36 = .ok (.iload 5, 2) := by decide +kernel
theorem d_Mo_less_38 : decode b_Mo_less 38 = .ok (.isub, 1) := by decide +kernel
theorem d_Mo_less_39 : decode b_Mo_less 39 = .ok (.istore 7, 2) := by decide +kernel
theorem d_Mo_less_41 : decode b_Mo_less 41 = .ok (.iload 7, 2) := by decide +kernel
theorem d_Mo_less_43 : decode b_Mo_less 43 = .ok (.ifCond .ge 7, 3) := by decide +kernel
theorem d_Mo_less_46 : decode b_Mo_less 46 = .ok (.iconst 1, 1) := by decide +kernel
theorem d_Mo_less_47 : decode b_Mo_less 47 = .ok (.goto 4, 3) := by decide +kernel
theorem d_Mo_less_50 : decode b_Mo_less 50 = .ok (.iconst 0, 1) := by decide +kernel
theorem d_Mo_less_51 : decode b_Mo_less 51 = .ok (.istore 5, 2) := by decide +kernel
theorem d_Mo_less_53 : decode b_Mo_less 53 = .ok (.aload_n 0, 1) := by decide +kernel
theorem d_Mo_less_54 : decode b_Mo_less 54 = .ok (.getfield 7, 3) := by decide +kernel
theorem d_Mo_less_57 : decode b_Mo_less 57 = .ok (.sipush 128, 3) := by decide +kernel
theorem d_Mo_less_60 : decode b_Mo_less 60 = .ok (.iload_n 1, 1) := by decide +kernel
theorem d_Mo_less_61 : decode b_Mo_less 61 = .ok (.imul, 1) := by decide +kernel
theorem d_Mo_less_62 : decode b_Mo_less 62 = .ok (.iload 6, 2) := by decide +kernel
theorem d_Mo_less_64 : decode b_Mo_less 64 = .ok (.iadd, 1) := by decide +kernel
theorem d_Mo_less_65 : decode b_Mo_less 65 = .ok (.iload 7, 2) := by decide +kernel
theorem d_Mo_less_67 : decode b_Mo_less 67 = .ok (.ifCond .ge 12, 3) := by decide +kernel
theorem d_Mo_less_70 : decode b_Mo_less 70 = .ok (.iload 7, 2) := by decide +kernel
theorem d_Mo_less_72 : decode b_Mo_less 72 = .ok (.sipush 10000, 3) := by decide +kernel
theorem d_Mo_less_75 : decode b_Mo_less 75 = .ok (.iadd, 1) := by decide +kernel
theorem d_Mo_less_76 : decode b_Mo_less 76 = .ok (.goto 5, 3) := by decide +kernel
theorem d_Mo_less_79 : decode b_Mo_less 79 = .ok (.iload 7, 2) := by decide +kernel
theorem d_Mo_less_81 : decode b_Mo_less 81 = .ok (.iastore, 1) := by decide +kernel
theorem d_Mo_less_82 : decode b_Mo_less 82 = .ok (.iinc 6 1, 3) := by decide +kernel
theorem d_Mo_less_85 : decode b_Mo_less 85 = .ok (.goto (-71), 3) := by decide +kernel
theorem d_Mo_less_88 : decode b_Mo_less 88 = .ok (.aload_n 0, 1) := by decide +kernel
theorem d_Mo_less_89 : decode b_Mo_less 89 = .ok (.iload_n 1, 1) := by decide +kernel
theorem d_Mo_less_90 : decode b_Mo_less 90 = .ok (.iload 4, 2) := by decide +kernel
theorem d_Mo_less_92 : decode b_Mo_less 92 = .ok (.invokevirtual 40, 3) := by decide +kernel
theorem d_Mo_less_95 : decode b_Mo_less 95 = .ok (.return_, 1) := by decide +kernel
theorem d_Mo_product_0 : decode b_Mo_product 0 = .ok (.aload_n 0, 1) := by decide +kernel
theorem d_Mo_product_1 : decode b_Mo_product 1 = .ok (.getfield 13, 3) := by decide +kernel
theorem d_Mo_product_4 : decode b_Mo_product 4 = .ok (.iload_n 2, 1) := by decide +kernel
theorem d_Mo_product_5 : decode b_Mo_product 5 = .ok (.iaload, 1) := by decide +kernel
theorem d_Mo_product_6 : decode b_Mo_product 6 = .ok (.aload_n 0, 1) := by decide +kernel
theorem d_Mo_product_7 : decode b_Mo_product 7 = .ok (.getfield 13, 3) := by decide +kernel
theorem d_Mo_product_10 : decode b_Mo_product 10 = .ok (.iload_n 3, 1) := by decide +kernel
theorem d_Mo_product_11 : decode b_Mo_product 11 = .ok (.iaload, 1) := by decide +kernel
theorem d_Mo_product_12 : decode b_Mo_product 12 = .ok (.iadd, 1) := by decide +kernel
theorem d_Mo_product_13 : decode b_Mo_product 13 = .ok (.istore 4, 2) := by decide +kernel
theorem d_Mo_product_15 : decode b_Mo_product 15 = .ok (.iconst 0, 1) := by decide +kernel
theorem d_Mo_product_16 : decode b_Mo_product 16 = .ok (.istore 5, 2) := by decide +kernel
theorem d_Mo_product_18 : decode b_Mo_product 18 = .ok (.iload 5, 2) := by decide +kernel
theorem d_Mo_product_20 : decode b_Mo_product 20 = .ok (.iload 4, 2) := by decide +kernel
theorem d_Mo_product_22 : decode b_Mo_product 22 = .ok (.if_icmp .ge 23, 3) := by decide +kernel
theorem d_Mo_product_25 : decode b_Mo_product 25 = .ok (.aload_n 0, 1) := by decide +kernel
theorem d_Mo_product_26 : decode b_Mo_product 26 = .ok (.getfield 7, 3) := by decide +kernel
theorem d_Mo_product_29 : decode b_Mo_product 29 = .ok (.sipush 128, 3) := by decide +kernel
theorem d_Mo_product_32 : decode b_Mo_product 32 = .ok (.iload_n 1, 1) := by decide +kernel
theorem d_Mo_product_33 : decode b_Mo_product 33 = .ok (.imul, 1) := by decide +kernel
theorem d_Mo_product_34 : decode b_Mo_product 34 = .ok (.iload 5, 2) := by decide +kernel
theorem d_Mo_product_36 : decode b_Mo_product 36 = .ok (.iadd, 1) := by decide +kernel
theorem d_Mo_product_37 : decode b_Mo_product 37 = .ok (.iconst 0, 1) := by decide +kernel
theorem d_Mo_product_38 : decode b_Mo_product 38 = .ok (.iastore, 1) := by decide +kernel
theorem d_Mo_product_39 : decode b_Mo_product 39 = .ok (.iinc 5 1, 3) := by decide +kernel
theorem d_Mo_product_42 : decode b_Mo_product 42 = .ok (.goto (-24), 3) := by decide +kernel
theorem d_Mo_product_45 : decode b_Mo_product 45 = .ok (.iconst 0, 1) := by decide +kernel
theorem d_Mo_product_46 : decode b_Mo_product 46 = .ok (.istore 5, 2) := by decide +kernel
theorem d_Mo_product_48 : decode b_Mo_product 48 = .ok (.iload 5, 2) := by decide +kernel
theorem d_Mo_product_50 : decode b_Mo_product 50 = .ok (.aload_n 0, 1) := by decide +kernel
theorem d_Mo_product_51 : decode b_Mo_product 51 = .ok (.getfield 13, 3) := by decide +kernel
theorem d_Mo_product_54 : decode b_Mo_product 54 = .ok (.iload_n 2, 1) := by decide +kernel
theorem d_Mo_product_55 : decode b_Mo_product 55 = .ok (.iaload, 1) := by decide +kernel
theorem d_Mo_product_56 : decode b_Mo_product 56 = .ok (.if_icmp .ge 121, 3) := by decide +kernel
theorem d_Mo_product_59 : decode b_Mo_product 59 = .ok (.iconst 0, 1) := by decide +kernel
theorem d_Mo_product_60 : decode b_Mo_product 60 = .ok (.istore 6, 2) := by decide +kernel
theorem d_Mo_product_62 : decode b_Mo_product 62 = .ok (.iconst 0, 1) := by decide +kernel
theorem d_Mo_product_63 : decode b_Mo_product 63 = .ok (.istore 7, 2) := by decide +kernel
theorem d_Mo_product_65 : decode b_Mo_product 65 = .ok (.iload 7, 2) := by decide +kernel
theorem d_Mo_product_67 : decode b_Mo_product 67 = .ok (.aload_n 0, 1) := by decide +kernel
theorem d_Mo_product_68 : decode b_Mo_product 68 = .ok (.getfield 13, 3) := by decide +kernel
theorem d_Mo_product_71 : decode b_Mo_product 71 = .ok (.iload_n 3, 1) := by decide +kernel
theorem d_Mo_product_72 : decode b_Mo_product 72 = .ok (.iaload, 1) := by decide +kernel
theorem d_Mo_product_73 : decode b_Mo_product 73 = .ok (.if_icmp .ge 76, 3) := by decide +kernel
theorem d_Mo_product_76 : decode b_Mo_product 76 = .ok (.aload_n 0, 1) := by decide +kernel
theorem d_Mo_product_77 : decode b_Mo_product 77 = .ok (.getfield 7, 3) := by decide +kernel
theorem d_Mo_product_80 : decode b_Mo_product 80 = .ok (.sipush 128, 3) := by decide +kernel
theorem d_Mo_product_83 : decode b_Mo_product 83 = .ok (.iload_n 1, 1) := by decide +kernel
theorem d_Mo_product_84 : decode b_Mo_product 84 = .ok (.imul, 1) := by decide +kernel
theorem d_Mo_product_85 : decode b_Mo_product 85 = .ok (.iload 5, 2) := by decide +kernel
theorem d_Mo_product_87 : decode b_Mo_product 87 = .ok (.iadd, 1) := by decide +kernel
theorem d_Mo_product_88 : decode b_Mo_product 88 = .ok (.iload 7, 2) := by decide +kernel
theorem d_Mo_product_90 : decode b_Mo_product 90 = .ok (.iadd, 1) := by decide +kernel
theorem d_Mo_product_91 : decode b_Mo_product 91 = .ok (.iaload, 1) := by decide +kernel
theorem d_Mo_product_92 : decode b_Mo_product 92 = .ok (.aload_n 0, 1) := by decide +kernel
theorem d_Mo_product_93 : decode b_Mo_product 93 = .ok (.iload_n 2, 1) := by decide +kernel
theorem d_Mo_product_94 : decode b_Mo_product 94 = .ok (.iload 5, 2) := by decide +kernel
theorem d_Mo_product_96 : decode b_Mo_product 96 = .ok (.invokevirtual 36, 3) := by decide +kernel
theorem d_Mo_product_99 : decode b_Mo_product 99 = .ok (.aload_n 0, 1) := by decide +kernel
theorem d_Mo_product_100 : decode b_Mo_product 100 = .ok (.iload_n 3, 1) := by decide +kernel
theorem d_Mo_product_101 : decode b_Mo_product 101 = .ok (.iload 7, 2) := by decide +kernel
theorem d_Mo_product_103 : decode b_Mo_product 103 = .ok (.invokevirtual 36, 3) := by decide +kernel
theorem d_Mo_product_106 : decode b_Mo_product 106 = .ok (.imul, 1) := by decide +kernel
theorem d_Mo_product_107 : decode b_Mo_product 107 = .ok (.iadd, 1) := by decide +kernel
theorem d_Mo_product_108 : decode b_Mo_product 108 = .ok (.iload 6, 2) := by decide +kernel
theorem d_Mo_product_110 : decode b_Mo_product 110 = .ok (.iadd, 1) := by decide +kernel
theorem d_Mo_product_111 : decode b_Mo_product 111 = .ok (.istore 8, 2) := by decide +kernel
theorem d_Mo_product_113 : decode b_Mo_product 113 = .ok (.aload_n 0, 1) := by decide +kernel
theorem d_Mo_product_114 : decode b_Mo_product 114 = .ok (.getfield 7, 3) := by decide +kernel
theorem d_Mo_product_117 : decode b_Mo_product 117 = .ok (.sipush 128, 3) := by decide +kernel
theorem d_Mo_product_120 : decode b_Mo_product 120 = .ok (.iload_n 1, 1) := by decide +kernel
theorem d_Mo_product_121 : decode b_Mo_product 121 = .ok (.imul, 1) := by decide +kernel
theorem d_Mo_product_122 : decode b_Mo_product 122 = .ok (.iload 5, 2) := by decide +kernel
theorem d_Mo_product_124 : decode b_Mo_product 124 = .ok (.iadd, 1) := by decide +kernel
theorem d_Mo_product_125 : decode b_Mo_product 125 = .ok (.iload 7, 2) := by decide +kernel
theorem d_Mo_product_127 : decode b_Mo_product 127 = .ok (.iadd, 1) := by decide +kernel
theorem d_Mo_product_128 : decode b_Mo_product 128 = .ok (.iload 8, 2) := by decide +kernel
theorem d_Mo_product_130 : decode b_Mo_product 130 = .ok (.sipush 10000, 3) := by decide +kernel
theorem d_Mo_product_133 : decode b_Mo_product 133 = .ok (.irem, 1) := by decide +kernel
theorem d_Mo_product_134 : decode b_Mo_product 134 = .ok (.iastore, 1) := by decide +kernel
theorem d_Mo_product_135 : decode b_Mo_product 135 = .ok (.iload 8, 2) := by decide +kernel
theorem d_Mo_product_137 : decode b_Mo_product 137 = .ok (.sipush 10000, 3) := by decide +kernel
theorem d_Mo_product_140 : decode b_Mo_product 140 = .ok (.idiv, 1) := by decide +kernel
theorem d_Mo_product_141 : decode b_Mo_product 141 = .ok (.istore 6, 2) := by decide +kernel
theorem d_Mo_product_143 : decode b_Mo_product 143 = .ok (.iinc 7 1, 3) := by decide +kernel
theorem d_Mo_product_146 : decode b_Mo_product 146 = .ok (.goto (-81), 3) := by decide +kernel
theorem d_Mo_product_149 : decode b_Mo_product 149 = .ok (.aload_n 0, 1) := by decide +kernel
theorem d_Mo_product_150 : decode b_Mo_product 150 = .ok (.getfield 7, 3) := by decide +kernel
theorem d_Mo_product_153 : decode b_Mo_product 153 = .ok (.sipush 128, 3) := by decide +kernel
theorem d_Mo_product_156 : decode b_Mo_product 156 = .ok (.iload_n 1, 1) := by decide +kernel
theorem d_Mo_product_157 : decode b_Mo_product 157 = .ok (.imul, 1) := by decide +kernel
theorem d_Mo_product_158 : decode b_Mo_product 158 = .ok (.iload 5, 2) := by decide +kernel
theorem d_Mo_product_160 : decode b_Mo_product 160 = .ok (.iadd, 1) := by decide +kernel
theorem d_Mo_product_161 : decode b_Mo_product 161 = .ok (.aload_n 0, 1) := by decide +kernel
theorem d_Mo_product_162 : decode b_Mo_product 162 = .ok (.getfield 13, 3) := by decide +kernel
theorem d_Mo_product_165 : decode b_Mo_product 165 = .ok (.iload_n 3, 1) := by decide +kernel
theorem d_Mo_product_166 : decode b_Mo_product 166 = .ok (.iaload, 1) := by decide +kernel
theorem d_Mo_product_167 : decode b_Mo_product 167 = .ok (.iadd, 1) := by decide +kernel
theorem d_Mo_product_168 : decode b_Mo_product 168 = .ok (.iload 6, 2) := by decide +kernel
theorem d_Mo_product_170 : decode b_Mo_product 170 = .ok (.iastore, 1) := by decide +kernel
theorem d_Mo_product_171 : decode b_Mo_product 171 = .ok (.iinc 5 1, 3) := by decide +kernel
theorem d_Mo_product_174 : decode b_Mo_product 174 = .ok (.goto (-126), 3) := by decide +kernel
theorem d_Mo_product_177 : decode b_Mo_product 177 = .ok (.aload_n 0, 1) := by decide +kernel
theorem d_Mo_product_178 : decode b_Mo_product 178 = .ok (.iload_n 1, 1) := by decide +kernel
theorem d_Mo_product_179 : decode b_Mo_product 179 = .ok (.iload 4, 2) := by decide +kernel
theorem d_Mo_product_181 : decode b_Mo_product 181 = .ok (.invokevirtual 40, 3) := by decide +kernel
theorem d_Mo_product_184 : decode b_Mo_product 184 = .ok (.return_, 1) := by decide +kernel
theorem d_Mo_times_0 : decode b_Mo_times 0 = .ok (.aload_n 0, 1) := by decide +kernel
theorem d_Mo_times_1 : decode b_Mo_times 1 = .ok (.getfield 13, 3) := by decide +kernel
theorem d_Mo_times_4 : decode b_Mo_times 4 = .ok (.iload_n 1, 1) := by decide +kernel
theorem d_Mo_times_5 : decode b_Mo_times 5 = .ok (.iaload, 1) := by decide +kernel
theorem d_Mo_times_6 : decode b_Mo_times 6 = .ok (.istore 6, 2) := by decide +kernel
theorem d_Mo_times_8 : decode b_Mo_times 8 = .ok (.lload 4, 2) := by decide +kernel
theorem d_Mo_times_10 : decode b_Mo_times 10 = .ok (.lstore 7, 2) := by decide +kernel
theorem d_Mo_times_12 : decode b_Mo_times 12 = .ok (.iconst 0, 1) := by decide +kernel
theorem d_Mo_times_13 : decode b_Mo_times 13 = .ok (.istore 9, 2) := by decide +kernel
theorem d_Mo_times_15 : decode b_Mo_times 15 = .ok (.iload 9, 2) := by decide +kernel
theorem d_Mo_times_17 : decode b_Mo_times 17 = .ok (.iload 6, 2) := by decide +kernel
theorem d_Mo_times_19 : decode b_Mo_times 19 = .ok (.if_icmp .ge 58, 3) := by decide +kernel
theorem d_Mo_times_22 : decode b_Mo_times 22 = .ok (.aload_n 0, 1) := by decide +kernel
theorem d_Mo_times_23 : decode b_Mo_times 23 = .ok (.getfield 7, 3) := by decide +kernel
theorem d_Mo_times_26 : decode b_Mo_times 26 = .ok (.sipush 128, 3) := by decide +kernel
theorem d_Mo_times_29 : decode b_Mo_times 29 = .ok (.iload_n 1, 1) := by decide +kernel
theorem d_Mo_times_30 : decode b_Mo_times 30 = .ok (.imul, 1) := by decide +kernel
theorem d_Mo_times_31 : decode b_Mo_times 31 = .ok (.iload 9, 2) := by decide +kernel
theorem d_Mo_times_33 : decode b_Mo_times 33 = .ok (.iadd, 1) := by decide +kernel
theorem d_Mo_times_34 : decode b_Mo_times 34 = .ok (.iaload, 1) := by decide +kernel
theorem d_Mo_times_35 : decode b_Mo_times 35 = .ok (.i2l, 1) := by decide +kernel
theorem d_Mo_times_36 : decode b_Mo_times 36 = .ok (.lload_n 2, 1) := by decide +kernel
theorem d_Mo_times_37 : decode b_Mo_times 37 = .ok (.lmul, 1) := by decide +kernel
theorem d_Mo_times_38 : decode b_Mo_times 38 = .ok (.lload 7, 2) := by decide +kernel
theorem d_Mo_times_40 : decode b_Mo_times 40 = .ok (.ladd, 1) := by decide +kernel
theorem d_Mo_times_41 : decode b_Mo_times 41 = .ok (.lstore 10, 2) := by decide +kernel
theorem d_Mo_times_43 : decode b_Mo_times 43 = .ok (.aload_n 0, 1) := by decide +kernel
theorem d_Mo_times_44 : decode b_Mo_times 44 = .ok (.getfield 7, 3) := by decide +kernel
theorem d_Mo_times_47 : decode b_Mo_times 47 = .ok (.sipush 128, 3) := by decide +kernel
theorem d_Mo_times_50 : decode b_Mo_times 50 = .ok (.iload_n 1, 1) := by decide +kernel
theorem d_Mo_times_51 : decode b_Mo_times 51 = .ok (.imul, 1) := by decide +kernel
theorem d_Mo_times_52 : decode b_Mo_times 52 = .ok (.iload 9, 2) := by decide +kernel
theorem d_Mo_times_54 : decode b_Mo_times 54 = .ok (.iadd, 1) := by decide +kernel
theorem d_Mo_times_55 : decode b_Mo_times 55 = .ok (.lload 10, 2) := by decide +kernel
theorem d_Mo_times_57 : decode b_Mo_times 57 = .ok (.ldc2_w 34, 3) := by decide +kernel
theorem d_Mo_times_60 : decode b_Mo_times 60 = .ok (.lrem, 1) := by decide +kernel
theorem d_Mo_times_61 : decode b_Mo_times 61 = .ok (.l2i, 1) := by decide +kernel
theorem d_Mo_times_62 : decode b_Mo_times 62 = .ok (.iastore, 1) := by decide +kernel
theorem d_Mo_times_63 : decode b_Mo_times 63 = .ok (.lload 10, 2) := by decide +kernel
theorem d_Mo_times_65 : decode b_Mo_times 65 = .ok (.ldc2_w 34, 3) := by decide +kernel
theorem d_Mo_times_68 : decode b_Mo_times 68 = .ok (.ldiv, 1) := by decide +kernel
theorem d_Mo_times_69 : decode b_Mo_times 69 = .ok (.lstore 7, 2) := by decide +kernel
theorem d_Mo_times_71 : decode b_Mo_times 71 = .ok (.iinc 9 1, 3) := by decide +kernel
theorem d_Mo_times_74 : decode b_Mo_times 74 = .ok (.goto (-59), 3) := by decide +kernel
theorem d_Mo_times_77 : decode b_Mo_times 77 = .ok (.lload 7, 2) := by decide +kernel
theorem d_Mo_times_79 : decode b_Mo_times 79 = .ok (.lconst 0, 1) := by decide +kernel
theorem d_Mo_times_80 : decode b_Mo_times 80 = .ok (.lcmp, 1) := by decide +kernel
theorem d_Mo_times_81 : decode b_Mo_times 81 = .ok (.ifCond .le 37, 3) := by decide +kernel
theorem d_Mo_times_84 : decode b_Mo_times 84 = .ok (.aload_n 0, 1) := by decide +kernel
theorem d_Mo_times_85 : decode b_Mo_times 85 = .ok (.getfield 7, 3) := by decide +kernel
theorem d_Mo_times_88 : decode b_Mo_times 88 = .ok (.sipush 128, 3) := by decide +kernel
theorem d_Mo_times_91 : decode b_Mo_times 91 = .ok (.iload_n 1, 1) := by decide +kernel
theorem d_Mo_times_92 : decode b_Mo_times 92 = .ok (.imul, 1) := by decide +kernel
theorem d_Mo_times_93 : decode b_Mo_times 93 = .ok (.iload 6, 2) := by decide +kernel
theorem d_Mo_times_95 : decode b_Mo_times 95 = .ok (.iadd, 1) := by decide +kernel
theorem d_Mo_times_96 : decode b_Mo_times 96 = .ok (.lload 7, 2) := by decide +kernel
theorem d_Mo_times_98 : decode b_Mo_times 98 = .ok (.ldc2_w 34, 3) := by decide +kernel
theorem d_Mo_times_101 : decode b_Mo_times 101 = .ok (.lrem, 1) := by decide +kernel
theorem d_Mo_times_102 : decode b_Mo_times 102 = .ok (.l2i, 1) := by decide +kernel
theorem d_Mo_times_103 : decode b_Mo_times 103 = .ok (.iastore, 1) := by decide +kernel
theorem d_Mo_times_104 : decode b_Mo_times 104 = .ok (.lload 7, 2) := by decide +kernel
theorem d_Mo_times_106 : decode b_Mo_times 106 = .ok (.ldc2_w 34, 3) := by decide +kernel
theorem d_Mo_times_109 : decode b_Mo_times 109 = .ok (.ldiv, 1) := by decide +kernel
theorem d_Mo_times_110 : decode b_Mo_times 110 = .ok (.lstore 7, 2) := by decide +kernel
theorem d_Mo_times_112 : decode b_Mo_times 112 = .ok (.iinc 6 1, 3) := by decide +kernel
theorem d_Mo_times_115 : decode b_Mo_times 115 = .ok (.goto (-38), 3) := by decide +kernel
theorem d_Mo_times_118 : decode b_Mo_times 118 = .ok (.aload_n 0, 1) := by decide +kernel
theorem d_Mo_times_119 : decode b_Mo_times 119 = .ok (.iload_n 1, 1) := by decide +kernel
theorem d_Mo_times_120 : decode b_Mo_times 120 = .ok (.iload 6, 2) := by decide +kernel
theorem d_Mo_times_122 : decode b_Mo_times 122 = .ok (.invokevirtual 40, 3) := by decide +kernel
theorem d_Mo_times_125 : decode b_Mo_times 125 = .ok (.return_, 1) := by decide +kernel
theorem d_Mo_tens_0 : decode b_Mo_tens 0 = .ok (.iconst 0, 1) := by decide +kernel
theorem d_Mo_tens_1 : decode b_Mo_tens 1 = .ok (.istore_n 3, 1) := by decide +kernel
theorem d_Mo_tens_2 : decode b_Mo_tens 2 = .ok (.iload_n 3, 1) := by decide +kernel
theorem d_Mo_tens_3 : decode b_Mo_tens 3 = .ok (.iload_n 2, 1) := by decide +kernel
theorem d_Mo_tens_4 : decode b_Mo_tens 4 = .ok (.if_icmp .ge 18, 3) := by decide +kernel
theorem d_Mo_tens_7 : decode b_Mo_tens 7 = .ok (.aload_n 0, 1) := by decide +kernel
theorem d_Mo_tens_8 : decode b_Mo_tens 8 = .ok (.iload_n 1, 1) := by decide +kernel
theorem d_Mo_tens_9 : decode b_Mo_tens 9 = .ok (.ldc2_w 44, 3) := by decide +kernel
theorem d_Mo_tens_12 : decode b_Mo_tens 12 = .ok (.lconst 0, 1) := by decide +kernel
theorem d_Mo_tens_13 : decode b_Mo_tens 13 = .ok (.invokevirtual 46, 3) := by decide +kernel
theorem d_Mo_tens_16 : decode b_Mo_tens 16 = .ok (.iinc 3 1, 3) := by decide +kernel
theorem d_Mo_tens_19 : decode b_Mo_tens 19 = .ok (.goto (-17), 3) := by decide +kernel
theorem d_Mo_tens_22 : decode b_Mo_tens 22 = .ok (.return_, 1) := by decide +kernel
theorem d_Mo_by_0 : decode b_Mo_by 0 = .ok (.lconst 0, 1) := by decide +kernel
theorem d_Mo_by_1 : decode b_Mo_by 1 = .ok (.lstore 4, 2) := by decide +kernel
theorem d_Mo_by_3 : decode b_Mo_by 3 = .ok (.aload_n 0, 1) := by decide +kernel
theorem d_Mo_by_4 : decode b_Mo_by 4 = .ok (.getfield 13, 3) := by decide +kernel
theorem d_Mo_by_7 : decode b_Mo_by 7 = .ok (.iload_n 1, 1) := by decide +kernel
theorem d_Mo_by_8 : decode b_Mo_by 8 = .ok (.iaload, 1) := by decide +kernel
theorem d_Mo_by_9 : decode b_Mo_by 9 = .ok (.iconst 1, 1) := by decide +kernel
theorem d_Mo_by_10 : decode b_Mo_by 10 = .ok (.isub, 1) := by decide +kernel
theorem d_Mo_by_11 : decode b_Mo_by 11 = .ok (.istore 6, 2) := by decide +kernel
theorem d_Mo_by_13 : decode b_Mo_by 13 = .ok (.iload 6, 2) := by decide +kernel
theorem d_Mo_by_15 : decode b_Mo_by 15 = .ok (.ifCond .lt 56, 3) := by decide +kernel
theorem d_Mo_by_18 : decode b_Mo_by 18 = .ok (.lload 4, 2) := by decide +kernel
theorem d_Mo_by_20 : decode b_Mo_by 20 = .ok (.ldc2_w 34, 3) := by decide +kernel
theorem d_Mo_by_23 : decode b_Mo_by 23 = .ok (.lmul, 1) := by decide +kernel
theorem d_Mo_by_24 : decode b_Mo_by 24 = .ok (.aload_n 0, 1) := by decide +kernel
theorem d_Mo_by_25 : decode b_Mo_by 25 = .ok (.getfield 7, 3) := by decide +kernel
theorem d_Mo_by_28 : decode b_Mo_by 28 = .ok (.sipush 128, 3) := by decide +kernel
theorem d_Mo_by_31 : decode b_Mo_by 31 = .ok (.iload_n 1, 1) := by decide +kernel
theorem d_Mo_by_32 : decode b_Mo_by 32 = .ok (.imul, 1) := by decide +kernel
theorem d_Mo_by_33 : decode b_Mo_by 33 = .ok (.iload 6, 2) := by decide +kernel
theorem d_Mo_by_35 : decode b_Mo_by 35 = .ok (.iadd, 1) := by decide +kernel
theorem d_Mo_by_36 : decode b_Mo_by 36 = .ok (.iaload, 1) := by decide +kernel
theorem d_Mo_by_37 : decode b_Mo_by 37 = .ok (.i2l, 1) := by decide +kernel
theorem d_Mo_by_38 : decode b_Mo_by 38 = .ok (.ladd, 1) := by decide +kernel
theorem d_Mo_by_39 : decode b_Mo_by 39 = .ok (.lstore 7, 2) := by decide +kernel
theorem d_Mo_by_41 : decode b_Mo_by 41 = .ok (.aload_n 0, 1) := by decide +kernel
theorem d_Mo_by_42 : decode b_Mo_by 42 = .ok (.getfield 7, 3) := by decide +kernel
theorem d_Mo_by_45 : decode b_Mo_by 45 = .ok (.sipush 128, 3) := by decide +kernel
theorem d_Mo_by_48 : decode b_Mo_by 48 = .ok (.iload_n 1, 1) := by decide +kernel
theorem d_Mo_by_49 : decode b_Mo_by 49 = .ok (.imul, 1) := by decide +kernel
theorem d_Mo_by_50 : decode b_Mo_by 50 = .ok (.iload 6, 2) := by decide +kernel
theorem d_Mo_by_52 : decode b_Mo_by 52 = .ok (.iadd, 1) := by decide +kernel
theorem d_Mo_by_53 : decode b_Mo_by 53 = .ok (.lload 7, 2) := by decide +kernel
theorem d_Mo_by_55 : decode b_Mo_by 55 = .ok (.lload_n 2, 1) := by decide +kernel
theorem d_Mo_by_56 : decode b_Mo_by 56 = .ok (.ldiv, 1) := by decide +kernel
theorem d_Mo_by_57 : decode b_Mo_by 57 = .ok (.l2i, 1) := by decide +kernel
theorem d_Mo_by_58 : decode b_Mo_by 58 = .ok (.iastore, 1) := by decide +kernel
theorem d_Mo_by_59 : decode b_Mo_by 59 = .ok (.lload 7, 2) := by decide +kernel
theorem d_Mo_by_61 : decode b_Mo_by 61 = .ok (.lload_n 2, 1) := by decide +kernel
theorem d_Mo_by_62 : decode b_Mo_by 62 = .ok (.lrem, 1) := by decide +kernel
theorem d_Mo_by_63 : decode b_Mo_by 63 = .ok (.lstore 4, 2) := by decide +kernel
theorem d_Mo_by_65 : decode b_Mo_by 65 = .ok (.iinc 6 (-1), 3) := by decide +kernel
theorem d_Mo_by_68 : decode b_Mo_by 68 = .ok (.goto (-55), 3) := by decide +kernel
theorem d_Mo_by_71 : decode b_Mo_by 71 = .ok (.aload_n 0, 1) := by decide +kernel
theorem d_Mo_by_72 : decode b_Mo_by 72 = .ok (.iload_n 1, 1) := by decide +kernel
theorem d_Mo_by_73 : decode b_Mo_by 73 = .ok (.aload_n 0, 1) := by decide +kernel
theorem d_Mo_by_74 : decode b_Mo_by 74 = .ok (.getfield 13, 3) := by decide +kernel
theorem d_Mo_by_77 : decode b_Mo_by 77 = .ok (.iload_n 1, 1) := by decide +kernel
theorem d_Mo_by_78 : decode b_Mo_by 78 = .ok (.iaload, 1) := by decide +kernel
theorem d_Mo_by_79 : decode b_Mo_by 79 = .ok (.invokevirtual 40, 3) := by decide +kernel
theorem d_Mo_by_82 : decode b_Mo_by 82 = .ok (.lload 4, 2) := by decide +kernel
theorem d_Mo_by_84 : decode b_Mo_by 84 = .ok (.lreturn, 1) := by decide +kernel
theorem d_Mo_holds_0 : decode b_Mo_holds 0 = .ok (.aload_n 0, 1) := by decide +kernel
theorem d_Mo_holds_1 : decode b_Mo_holds 1 = .ok (.getfield 13, 3) := by decide +kernel
theorem d_Mo_holds_4 : decode b_Mo_holds 4 = .ok (.iload_n 1, 1) := by decide +kernel
theorem d_Mo_holds_5 : decode b_Mo_holds 5 = .ok (.iaload, 1) := by decide +kernel
theorem d_Mo_holds_6 : decode b_Mo_holds 6 = .ok (.iconst 1, 1) := by decide +kernel
theorem d_Mo_holds_7 : decode b_Mo_holds 7 = .ok (.isub, 1) := by decide +kernel
theorem d_Mo_holds_8 : decode b_Mo_holds 8 = .ok (.istore 4, 2) := by decide +kernel
theorem d_Mo_holds_10 : decode b_Mo_holds 10 = .ok (.iload 4, 2) := by decide +kernel
theorem d_Mo_holds_12 : decode b_Mo_holds 12 = .ok (.iload_n 3, 1) := by decide +kernel
theorem d_Mo_holds_13 : decode b_Mo_holds 13 = .ok (.if_icmp .lt 44, 3) := by decide +kernel
theorem d_Mo_holds_16 : decode b_Mo_holds 16 = .ok (.aload_n 0, 1) := by decide +kernel
theorem d_Mo_holds_17 : decode b_Mo_holds 17 = .ok (.iload_n 1, 1) := by decide +kernel
theorem d_Mo_holds_18 : decode b_Mo_holds 18 = .ok (.iload 4, 2) := by decide +kernel
theorem d_Mo_holds_20 : decode b_Mo_holds 20 = .ok (.invokevirtual 36, 3) := by decide +kernel
theorem d_Mo_holds_23 : decode b_Mo_holds 23 = .ok (.aload_n 0, 1) := by decide +kernel
theorem d_Mo_holds_24 : decode b_Mo_holds 24 = .ok (.iload_n 2, 1) := by decide +kernel
theorem d_Mo_holds_25 : decode b_Mo_holds 25 = .ok (.iload 4, 2) := by decide +kernel
theorem d_Mo_holds_27 : decode b_Mo_holds 27 = .ok (.iload_n 3, 1) := by decide +kernel
theorem d_Mo_holds_28 : decode b_Mo_holds 28 = .ok (.isub, 1) := by decide +kernel
theorem d_Mo_holds_29 : decode b_Mo_holds 29 = .ok (.invokevirtual 36, 3) := by decide +kernel
theorem d_Mo_holds_32 : decode b_Mo_holds 32 = .ok (.isub, 1) := by decide +kernel
theorem d_Mo_holds_33 : decode b_Mo_holds 33 = .ok (.istore 5, 2) := by decide +kernel
theorem d_Mo_holds_35 : decode b_Mo_holds 35 = .ok (.iload 5, 2) := by decide +kernel
theorem d_Mo_holds_37 : decode b_Mo_holds 37 = .ok (.ifCond .eq 14, 3) := by decide +kernel
theorem d_Mo_holds_40 : decode b_Mo_holds 40 = .ok (.iload 5, 2) := by decide +kernel
theorem d_Mo_holds_42 : decode b_Mo_holds 42 = .ok (.ifCond .le 7, 3) := by decide +kernel
theorem d_Mo_holds_45 : decode b_Mo_holds 45 = .ok (.iconst 1, 1) := by decide +kernel
theorem d_Mo_holds_46 : decode b_Mo_holds 46 = .ok (.goto 4, 3) := by decide +kernel
theorem d_Mo_holds_49 : decode b_Mo_holds 49 = .ok (.iconst 0, 1) := by decide +kernel
theorem d_Mo_holds_50 : decode b_Mo_holds 50 = .ok (.ireturn, 1) := by decide +kernel
theorem d_Mo_holds_51 : decode b_Mo_holds 51 = .ok (.iinc 4 (-1), 3) := by decide +kernel
theorem d_Mo_holds_54 : decode b_Mo_holds 54 = .ok (.goto (-44), 3) := by decide +kernel
theorem d_Mo_holds_57 : decode b_Mo_holds 57 = .ok (.aload_n 0, 1) := by decide +kernel
theorem d_Mo_holds_58 : decode b_Mo_holds 58 = .ok (.getfield 13, 3) := by decide +kernel
theorem d_Mo_holds_61 : decode b_Mo_holds 61 = .ok (.iload_n 2, 1) := by decide +kernel
theorem d_Mo_holds_62 : decode b_Mo_holds 62 = .ok (.iaload, 1) := by decide +kernel
theorem d_Mo_holds_63 : decode b_Mo_holds 63 = .ok (.iload_n 3, 1) := by decide +kernel
theorem d_Mo_holds_64 : decode b_Mo_holds 64 = .ok (.iadd, 1) := by decide +kernel
theorem d_Mo_holds_65 : decode b_Mo_holds 65 = .ok (.aload_n 0, 1) := by decide +kernel
theorem d_Mo_holds_66 : decode b_Mo_holds 66 = .ok (.getfield 13, 3) := by decide +kernel
theorem d_Mo_holds_69 : decode b_Mo_holds 69 = .ok (.iload_n 1, 1) := by decide +kernel
theorem d_Mo_holds_70 : decode b_Mo_holds 70 = .ok (.iaload, 1) := by decide +kernel
theorem d_Mo_holds_71 : decode b_Mo_holds 71 = .ok (.if_icmp .gt 7, 3) := by decide +kernel
theorem d_Mo_holds_74 : decode b_Mo_holds 74 = .ok (.iconst 1, 1) := by decide +kernel
theorem d_Mo_holds_75 : decode b_Mo_holds 75 = .ok (.goto 4, 3) := by decide +kernel
theorem d_Mo_holds_78 : decode b_Mo_holds 78 = .ok (.iconst 0, 1) := by decide +kernel
theorem d_Mo_holds_79 : decode b_Mo_holds 79 = .ok (.ireturn, 1) := by decide +kernel
theorem d_Mo_takeOff_0 : decode b_Mo_takeOff 0 = .ok (.iconst 0, 1) := by decide +kernel
theorem d_Mo_takeOff_1 : decode b_Mo_takeOff 1 = .ok (.istore 5, 2) := by decide +kernel
theorem d_Mo_takeOff_3 : decode b_Mo_takeOff 3 = .ok (.iload_n 3, 1) := by decide +kernel
theorem d_Mo_takeOff_4 : decode b_Mo_takeOff 4 = .ok (.istore 6, 2) := by decide +kernel
theorem d_Mo_takeOff_6 : decode b_Mo_takeOff 6 = .ok (.iload 6, 2) := by decide +kernel
theorem d_Mo_takeOff_8 : decode b_Mo_takeOff 8 = .ok (.aload_n 0, 1) := by decide +kernel
theorem d_Mo_takeOff_9 : decode b_Mo_takeOff 9 = .ok (.getfield 13, 3) := by decide +kernel
theorem d_Mo_takeOff_12 : decode b_Mo_takeOff 12 = .ok (.iload_n 1, 1) := by decide +kernel
theorem d_Mo_takeOff_13 : decode b_Mo_takeOff 13 = .ok (.iaload, 1) := by decide +kernel
theorem d_Mo_takeOff_14 : decode b_Mo_takeOff 14 = .ok (.if_icmp .ge 92, 3) := by decide +kernel
theorem d_Mo_takeOff_17 : decode b_Mo_takeOff 17 = .ok (.aload_n 0, 1) := by decide +kernel
theorem d_Mo_takeOff_18 : decode b_Mo_takeOff 18 = .ok (.getfield 7, 3) := by decide +kernel
theorem d_Mo_takeOff_21 : decode b_Mo_takeOff 21 = .ok (.sipush 128, 3) := by decide +kernel
theorem d_Mo_takeOff_24 : decode b_Mo_takeOff 24 = .ok (.iload_n 1, 1) := by decide +kernel
theorem d_Mo_takeOff_25 : decode b_Mo_takeOff 25 = .ok (.imul, 1) := by decide +kernel
theorem d_Mo_takeOff_26 : decode b_Mo_takeOff 26 = .ok (.iload 6, 2) := by decide +kernel
theorem d_Mo_takeOff_28 : decode b_Mo_takeOff 28 = .ok (.iadd, 1) := by decide +kernel
theorem d_Mo_takeOff_29 : decode b_Mo_takeOff 29 = .ok (.iaload, 1) := by decide +kernel
theorem d_Mo_takeOff_30 : decode b_Mo_takeOff 30 = .ok (.iload 5, 2) := by decide +kernel
theorem d_Mo_takeOff_32 : decode b_Mo_takeOff 32 = .ok (.isub, 1) := by decide +kernel
theorem d_Mo_takeOff_33 : decode b_Mo_takeOff 33 = .ok (.iload 4, 2) := by decide +kernel
theorem d_Mo_takeOff_35 : decode b_Mo_takeOff 35 = .ok (.aload_n 0, 1) := by decide +kernel
theorem d_Mo_takeOff_36 : decode b_Mo_takeOff 36 = .ok (.iload_n 2, 1) := by decide +kernel
theorem d_Mo_takeOff_37 : decode b_Mo_takeOff 37 = .ok (.iload 6, 2) := by decide +kernel
theorem d_Mo_takeOff_39 : decode b_Mo_takeOff 39 = .ok (.iload_n 3, 1) := by decide +kernel
theorem d_Mo_takeOff_40 : decode b_Mo_takeOff 40 = .ok (.isub, 1) := by decide +kernel
theorem d_Mo_takeOff_41 : decode b_Mo_takeOff 41 = .ok (.invokevirtual 36, 3) := by decide +kernel
theorem d_Mo_takeOff_44 : decode b_Mo_takeOff 44 = .ok (.imul, 1) := by decide +kernel
theorem d_Mo_takeOff_45 : decode b_Mo_takeOff 45 = .ok (.isub, 1) := by decide +kernel
theorem d_Mo_takeOff_46 : decode b_Mo_takeOff 46 = .ok (.istore 7, 2) := by decide +kernel
theorem d_Mo_takeOff_48 : decode b_Mo_takeOff 48 = .ok (.iload 7, 2) := by decide +kernel
theorem d_Mo_takeOff_50 : decode b_Mo_takeOff 50 = .ok (.sipush 10000, 3) := by decide +kernel
theorem d_Mo_takeOff_53 : decode b_Mo_takeOff 53 = .ok (.irem, 1) := by decide +kernel
theorem d_Mo_takeOff_54 : decode b_Mo_takeOff 54 = .ok (.istore 8, 2) := by decide +kernel
theorem d_Mo_takeOff_56 : decode b_Mo_takeOff 56 = .ok (.iload 8, 2) := by decide +kernel
theorem d_Mo_takeOff_58 : decode b_Mo_takeOff 58 = .ok (.ifCond .ge 12, 3) := by decide +kernel
theorem d_Mo_takeOff_61 : decode b_Mo_takeOff 61 = .ok (.iload 8, 2) := by decide +kernel
theorem d_Mo_takeOff_63 : decode b_Mo_takeOff 63 = .ok (.sipush 10000, 3) := by decide +kernel
theorem d_Mo_takeOff_66 : decode b_Mo_takeOff 66 = .ok (.iadd, 1) := by decide +kernel
theorem d_Mo_takeOff_67 : decode b_Mo_takeOff 67 = .ok (.goto 5, 3) := by decide +kernel
theorem d_Mo_takeOff_70 : decode b_Mo_takeOff 70 = .ok (.iload 8, 2) := by decide +kernel
theorem d_Mo_takeOff_72 : decode b_Mo_takeOff 72 = .ok (.istore 8, 2) := by decide +kernel
theorem d_Mo_takeOff_74 : decode b_Mo_takeOff 74 = .ok (.iload 8, 2) := by decide +kernel
theorem d_Mo_takeOff_76 : decode b_Mo_takeOff 76 = .ok (.iload 7, 2) := by decide +kernel
theorem d_Mo_takeOff_78 : decode b_Mo_takeOff 78 = .ok (.isub, 1) := by decide +kernel
theorem d_Mo_takeOff_79 : decode b_Mo_takeOff 79 = .ok (.sipush 10000, 3) := by decide +kernel
theorem d_Mo_takeOff_82 : decode b_Mo_takeOff 82 = .ok (.idiv, 1) := by decide +kernel
theorem d_Mo_takeOff_83 : decode b_Mo_takeOff 83 = .ok (.istore 5, 2) := by decide +kernel
theorem d_Mo_takeOff_85 : decode b_Mo_takeOff 85 = .ok (.aload_n 0, 1) := by decide +kernel
theorem d_Mo_takeOff_86 : decode b_Mo_takeOff 86 = .ok (.getfield 7, 3) := by decide +kernel
theorem d_Mo_takeOff_89 : decode b_Mo_takeOff 89 = .ok (.sipush 128, 3) := by decide +kernel
theorem d_Mo_takeOff_92 : decode b_Mo_takeOff 92 = .ok (.iload_n 1, 1) := by decide +kernel
theorem d_Mo_takeOff_93 : decode b_Mo_takeOff 93 = .ok (.imul, 1) := by decide +kernel
theorem d_Mo_takeOff_94 : decode b_Mo_takeOff 94 = .ok (.iload 6, 2) := by decide +kernel
theorem d_Mo_takeOff_96 : decode b_Mo_takeOff 96 = .ok (.iadd, 1) := by decide +kernel
theorem d_Mo_takeOff_97 : decode b_Mo_takeOff 97 = .ok (.iload 8, 2) := by decide +kernel
theorem d_Mo_takeOff_99 : decode b_Mo_takeOff 99 = .ok (.iastore, 1) := by decide +kernel
theorem d_Mo_takeOff_100 : decode b_Mo_takeOff 100 = .ok (.iinc 6 1, 3) := by decide +kernel
theorem d_Mo_takeOff_103 : decode b_Mo_takeOff 103 = .ok (.goto (-97), 3) := by decide +kernel
theorem d_Mo_takeOff_106 : decode b_Mo_takeOff 106 = .ok (.return_, 1) := by decide +kernel
theorem d_Mo_part_0 : decode b_Mo_part 0 = .ok (.aload_n 0, 1) := by decide +kernel
theorem d_Mo_part_1 : decode b_Mo_part 1 = .ok (.getfield 13, 3) := by decide +kernel
theorem d_Mo_part_4 : decode b_Mo_part 4 = .ok (.iload_n 2, 1) := by decide +kernel
theorem d_Mo_part_5 : decode b_Mo_part 5 = .ok (.iaload, 1) := by decide +kernel
theorem d_Mo_part_6 : decode b_Mo_part 6 = .ok (.istore 4, 2) := by decide +kernel
theorem d_Mo_part_8 : decode b_Mo_part 8 = .ok (.aload_n 0, 1) := by decide +kernel
theorem d_Mo_part_9 : decode b_Mo_part 9 = .ok (.getfield 13, 3) := by decide +kernel
theorem d_Mo_part_12 : decode b_Mo_part 12 = .ok (.iload_n 1, 1) := by decide +kernel
theorem d_Mo_part_13 : decode b_Mo_part 13 = .ok (.iaload, 1) := by decide +kernel
theorem d_Mo_part_14 : decode b_Mo_part 14 = .ok (.iload 4, 2) := by decide +kernel
theorem d_Mo_part_16 : decode b_Mo_part 16 = .ok (.isub, 1) := by decide +kernel
theorem d_Mo_part_17 : decode b_Mo_part 17 = .ok (.istore 5, 2) := by decide +kernel
theorem d_Mo_part_19 : decode b_Mo_part 19 = .ok (.iconst 0, 1) := by decide +kernel
theorem d_Mo_part_20 : decode b_Mo_part 20 = .ok (.istore 6, 2) := by decide +kernel
theorem d_Mo_part_22 : decode b_Mo_part 22 = .ok (.iload 6, 2) := by decide +kernel
theorem d_Mo_part_24 : decode b_Mo_part 24 = .ok (.iload 5, 2) := by decide +kernel
theorem d_Mo_part_26 : decode b_Mo_part 26 = .ok (.if_icmp .gt 23, 3) := by decide +kernel
theorem d_Mo_part_29 : decode b_Mo_part 29 = .ok (.aload_n 0, 1) := by decide +kernel
theorem d_Mo_part_30 : decode b_Mo_part 30 = .ok (.getfield 7, 3) := by decide +kernel
theorem d_Mo_part_33 : decode b_Mo_part 33 = .ok (.sipush 128, 3) := by decide +kernel
theorem d_Mo_part_36 : decode b_Mo_part 36 = .ok (.iload_n 3, 1) := by decide +kernel
theorem d_Mo_part_37 : decode b_Mo_part 37 = .ok (.imul, 1) := by decide +kernel
theorem d_Mo_part_38 : decode b_Mo_part 38 = .ok (.iload 6, 2) := by decide +kernel
theorem d_Mo_part_40 : decode b_Mo_part 40 = .ok (.iadd, 1) := by decide +kernel
theorem d_Mo_part_41 : decode b_Mo_part 41 = .ok (.iconst 0, 1) := by decide +kernel
theorem d_Mo_part_42 : decode b_Mo_part 42 = .ok (.iastore, 1) := by decide +kernel
theorem d_Mo_part_43 : decode b_Mo_part 43 = .ok (.iinc 6 1, 3) := by decide +kernel
theorem d_Mo_part_46 : decode b_Mo_part 46 = .ok (.goto (-24), 3) := by decide +kernel
theorem d_Mo_part_49 : decode b_Mo_part 49 = .ok (.iload 5, 2) := by decide +kernel
theorem d_Mo_part_51 : decode b_Mo_part 51 = .ok (.istore 6, 2) := by decide +kernel
theorem d_Mo_part_53 : decode b_Mo_part 53 = .ok (.iload 6, 2) := by decide +kernel
theorem d_Mo_part_55 : decode b_Mo_part 55 = .ok (.ifCond .lt 212, 3) := by decide +kernel
theorem d_Mo_part_58 : decode b_Mo_part 58 = .ok (.iconst 0, 1) := by decide +kernel
theorem d_Mo_part_59 : decode b_Mo_part 59 = .ok (.istore 7, 2) := by decide +kernel
theorem d_Mo_part_61 : decode b_Mo_part 61 = .ok (.iconst 1, 1) := by decide +kernel
theorem d_Mo_part_62 : decode b_Mo_part 62 = .ok (.istore 8, 2) := by decide +kernel
theorem d_Mo_part_64 : decode b_Mo_part 64 = .ok (.iload 8, 2) := by decide +kernel
theorem d_Mo_part_66 : decode b_Mo_part 66 = .ok (.ifCond .eq 180, 3) := by decide +kernel
theorem d_Mo_part_69 : decode b_Mo_part 69 = .ok (.aload_n 0, 1) := by decide +kernel
theorem d_Mo_part_70 : decode b_Mo_part 70 = .ok (.iload_n 1, 1) := by decide +kernel
theorem d_Mo_part_71 : decode b_Mo_part 71 = .ok (.iload 6, 2) := by decide +kernel
theorem d_Mo_part_73 : decode b_Mo_part 73 = .ok (.iload 4, 2) := by decide +kernel
theorem d_Mo_part_75 : decode b_Mo_part 75 = .ok (.iadd, 1) := by decide +kernel
theorem d_Mo_part_76 : decode b_Mo_part 76 = .ok (.invokevirtual 36, 3) := by decide +kernel
theorem d_Mo_part_79 : decode b_Mo_part 79 = .ok (.i2l, 1) := by decide +kernel
theorem d_Mo_part_80 : decode b_Mo_part 80 = .ok (.ldc2_w 34, 3) := by decide +kernel
theorem d_Mo_part_83 : decode b_Mo_part 83 = .ok (.lmul, 1) := by decide +kernel
theorem d_Mo_part_84 : decode b_Mo_part 84 = .ok (.aload_n 0, 1) := by decide +kernel
theorem d_Mo_part_85 : decode b_Mo_part 85 = .ok (.iload_n 1, 1) := by decide +kernel
theorem d_Mo_part_86 : decode b_Mo_part 86 = .ok (.iload 6, 2) := by decide +kernel
theorem d_Mo_part_88 : decode b_Mo_part 88 = .ok (.iload 4, 2) := by decide +kernel
theorem d_Mo_part_90 : decode b_Mo_part 90 = .ok (.iadd, 1) := by decide +kernel
theorem d_Mo_part_91 : decode b_Mo_part 91 = .ok (.iconst 1, 1) := by decide +kernel
theorem d_Mo_part_92 : decode b_Mo_part 92 = .ok (.isub, 1) := by decide +kernel
theorem d_Mo_part_93 : decode b_Mo_part 93 = .ok (.invokevirtual 36, 3) := by decide +kernel
theorem d_Mo_part_96 : decode b_Mo_part 96 = .ok (.i2l, 1) := by decide +kernel
theorem d_Mo_part_97 : decode b_Mo_part 97 = .ok (.ladd, 1) := by decide +kernel
theorem d_Mo_part_98 : decode b_Mo_part 98 = .ok (.ldc2_w 34, 3) := by decide +kernel
theorem d_Mo_part_101 : decode b_Mo_part 101 = .ok (.lmul, 1) := by decide +kernel
theorem d_Mo_part_102 : decode b_Mo_part 102 = .ok (.aload_n 0, 1) := by decide +kernel
theorem d_Mo_part_103 : decode b_Mo_part 103 = .ok (.iload_n 1, 1) := by decide +kernel
theorem d_Mo_part_104 : decode b_Mo_part 104 = .ok (.iload 6, 2) := by decide +kernel
theorem d_Mo_part_106 : decode b_Mo_part 106 = .ok (.iload 4, 2) := by decide +kernel
theorem d_Mo_part_108 : decode b_Mo_part 108 = .ok (.iadd, 1) := by decide +kernel
theorem d_Mo_part_109 : decode b_Mo_part 109 = .ok (.iconst 2, 1) := by decide +kernel
theorem d_Mo_part_110 : decode b_Mo_part 110 = .ok (.isub, 1) := by decide +kernel
theorem d_Mo_part_111 : decode b_Mo_part 111 = .ok (.invokevirtual 36, 3) := by decide +kernel
theorem d_Mo_part_114 : decode b_Mo_part 114 = .ok (.i2l, 1) := by decide +kernel
theorem d_Mo_part_115 : decode b_Mo_part 115 = .ok (.ladd, 1) := by decide +kernel
theorem d_Mo_part_116 : decode b_Mo_part 116 = .ok (.lstore 9, 2) := by decide +kernel
theorem d_Mo_part_118 : decode b_Mo_part 118 = .ok (.aload_n 0, 1) := by decide +kernel
theorem d_Mo_part_119 : decode b_Mo_part 119 = .ok (.iload_n 2, 1) := by decide +kernel
theorem d_Mo_part_120 : decode b_Mo_part 120 = .ok (.iload 4, 2) := by decide +kernel
theorem d_Mo_part_122 : decode b_Mo_part 122 = .ok (.iconst 1, 1) := by decide +kernel
theorem d_Mo_part_123 : decode b_Mo_part 123 = .ok (.isub, 1) := by decide +kernel
theorem d_Mo_part_124 : decode b_Mo_part 124 = .ok (.invokevirtual 36, 3) := by decide +kernel
theorem d_Mo_part_127 : decode b_Mo_part 127 = .ok (.i2l, 1) := by decide +kernel
theorem d_Mo_part_128 : decode b_Mo_part 128 = .ok (.ldc2_w 34, 3) := by decide +kernel
theorem d_Mo_part_131 : decode b_Mo_part 131 = .ok (.lmul, 1) := by decide +kernel
theorem d_Mo_part_132 : decode b_Mo_part 132 = .ok (.aload_n 0, 1) := by decide +kernel
theorem d_Mo_part_133 : decode b_Mo_part 133 = .ok (.iload_n 2, 1) := by decide +kernel
theorem d_Mo_part_134 : decode b_Mo_part 134 = .ok (.iload 4, 2) := by decide +kernel
theorem d_Mo_part_136 : decode b_Mo_part 136 = .ok (.iconst 2, 1) := by decide +kernel
theorem d_Mo_part_137 : decode b_Mo_part 137 = .ok (.isub, 1) := by decide +kernel
theorem d_Mo_part_138 : decode b_Mo_part 138 = .ok (.invokevirtual 36, 3) := by decide +kernel
theorem d_Mo_part_141 : decode b_Mo_part 141 = .ok (.i2l, 1) := by decide +kernel
theorem d_Mo_part_142 : decode b_Mo_part 142 = .ok (.ladd, 1) := by decide +kernel
theorem d_Mo_part_143 : decode b_Mo_part 143 = .ok (.lconst 1, 1) := by decide +kernel
theorem d_Mo_part_144 : decode b_Mo_part 144 = .ok (.ladd, 1) := by decide +kernel
theorem d_Mo_part_145 : decode b_Mo_part 145 = .ok (.lstore 11, 2) := by decide +kernel
theorem d_Mo_part_147 : decode b_Mo_part 147 = .ok (.lload 9, 2) := by decide +kernel
theorem d_Mo_part_149 : decode b_Mo_part 149 = .ok (.lload 11, 2) := by decide +kernel
theorem d_Mo_part_151 : decode b_Mo_part 151 = .ok (.ldiv, 1) := by decide +kernel
theorem d_Mo_part_152 : decode b_Mo_part 152 = .ok (.l2i, 1) := by decide +kernel
theorem d_Mo_part_153 : decode b_Mo_part 153 = .ok (.istore 13, 2) := by decide +kernel
theorem d_Mo_part_155 : decode b_Mo_part 155 = .ok (.iload 4, 2) := by decide +kernel
theorem d_Mo_part_157 : decode b_Mo_part 157 = .ok (.iconst 1, 1) := by decide +kernel
theorem d_Mo_part_158 : decode b_Mo_part 158 = .ok (.if_icmp .ne 28, 3) := by decide +kernel
theorem d_Mo_part_161 : decode b_Mo_part 161 = .ok (.iload 6, 2) := by decide +kernel
theorem d_Mo_part_163 : decode b_Mo_part 163 = .ok (.ifCond .ne 23, 3) := by decide +kernel
theorem d_Mo_part_166 : decode b_Mo_part 166 = .ok (.lload 9, 2) := by decide +kernel
theorem d_Mo_part_168 : decode b_Mo_part 168 = .ok (.ldc2_w 34, 3) := by decide +kernel
theorem d_Mo_part_171 : decode b_Mo_part 171 = .ok (.ldiv, 1) := by decide +kernel
theorem d_Mo_part_172 : decode b_Mo_part 172 = .ok (.aload_n 0, 1) := by decide +kernel
theorem d_Mo_part_173 : decode b_Mo_part 173 = .ok (.iload_n 2, 1) := by decide +kernel
theorem d_Mo_part_174 : decode b_Mo_part 174 = .ok (.iconst 0, 1) := by decide +kernel
theorem d_Mo_part_175 : decode b_Mo_part 175 = .ok (.invokevirtual 36, 3) := by decide +kernel
theorem d_Mo_part_178 : decode b_Mo_part 178 = .ok (.i2l, 1) := by decide +kernel
theorem d_Mo_part_179 : decode b_Mo_part 179 = .ok (.lconst 1, 1) := by decide +kernel
theorem d_Mo_part_180 : decode b_Mo_part 180 = .ok (.ladd, 1) := by decide +kernel
theorem d_Mo_part_181 : decode b_Mo_part 181 = .ok (.ldiv, 1) := by decide +kernel
theorem d_Mo_part_182 : decode b_Mo_part 182 = .ok (.l2i, 1) := by decide +kernel
theorem d_Mo_part_183 : decode b_Mo_part 183 = .ok (.goto 5, 3) := by decide +kernel
theorem d_Mo_part_186 : decode b_Mo_part 186 = .ok (.iload 13, 2) := by decide +kernel
theorem d_Mo_part_188 : decode b_Mo_part 188 = .ok (.istore 13, 2) := by decide +kernel
theorem d_Mo_part_190 : decode b_Mo_part 190 = .ok (.iload 13, 2) := by decide +kernel
theorem d_Mo_part_192 : decode b_Mo_part 192 = .ok (.ifCond .ne 18, 3) := by decide +kernel
theorem d_Mo_part_195 : decode b_Mo_part 195 = .ok (.aload_n 0, 1) := by decide +kernel
theorem d_Mo_part_196 : decode b_Mo_part 196 = .ok (.iload_n 1, 1) := by decide +kernel
theorem d_Mo_part_197 : decode b_Mo_part 197 = .ok (.iload_n 2, 1) := by decide +kernel
theorem d_Mo_part_198 : decode b_Mo_part 198 = .ok (.iload 6, 2) := by decide +kernel
theorem d_Mo_part_200 : decode b_Mo_part 200 = .ok (.invokevirtual 50, 3) := by decide +kernel
theorem d_Mo_part_203 : decode b_Mo_part 203 = .ok (.ifCond .eq 7, 3) := by decide +kernel
theorem d_Mo_part_206 : decode b_Mo_part 206 = .ok (.iconst 1, 1) := by decide +kernel
theorem d_Mo_part_207 : decode b_Mo_part 207 = .ok (.goto 5, 3) := by decide +kernel
theorem d_Mo_part_210 : decode b_Mo_part 210 = .ok (.iload 13, 2) := by decide +kernel
theorem d_Mo_part_212 : decode b_Mo_part 212 = .ok (.istore 13, 2) := by decide +kernel
theorem d_Mo_part_214 : decode b_Mo_part 214 = .ok (.aload_n 0, 1) := by decide +kernel
theorem d_Mo_part_215 : decode b_Mo_part 215 = .ok (.iload_n 1, 1) := by decide +kernel
theorem d_Mo_part_216 : decode b_Mo_part 216 = .ok (.iload_n 2, 1) := by decide +kernel
theorem d_Mo_part_217 : decode b_Mo_part 217 = .ok (.iload 6, 2) := by decide +kernel
theorem d_Mo_part_219 : decode b_Mo_part 219 = .ok (.iload 13, 2) := by decide +kernel
theorem d_Mo_part_221 : decode b_Mo_part 221 = .ok (.invokevirtual 54, 3) := by decide +kernel
theorem d_Mo_part_224 : decode b_Mo_part 224 = .ok (.iload 7, 2) := by decide +kernel
theorem d_Mo_part_226 : decode b_Mo_part 226 = .ok (.iload 13, 2) := by decide +kernel
theorem d_Mo_part_228 : decode b_Mo_part 228 = .ok (.iadd, 1) := by decide +kernel
theorem d_Mo_part_229 : decode b_Mo_part 229 = .ok (.istore 7, 2) := by decide +kernel
theorem d_Mo_part_231 : decode b_Mo_part 231 = .ok (.iload 13, 2) := by decide +kernel
theorem d_Mo_part_233 : decode b_Mo_part 233 = .ok (.ifCond .le 7, 3) := by decide +kernel
theorem d_Mo_part_236 : decode b_Mo_part 236 = .ok (.iconst 1, 1) := by decide +kernel
theorem d_Mo_part_237 : decode b_Mo_part 237 = .ok (.goto 4, 3) := by decide +kernel
theorem d_Mo_part_240 : decode b_Mo_part 240 = .ok (.iconst 0, 1) := by decide +kernel
theorem d_Mo_part_241 : decode b_Mo_part 241 = .ok (.istore 8, 2) := by decide +kernel
theorem d_Mo_part_243 : decode b_Mo_part 243 = .ok (.goto (-179), 3) := by decide +kernel
theorem d_Mo_part_246 : decode b_Mo_part 246 = .ok (.aload_n 0, 1) := by decide +kernel
theorem d_Mo_part_247 : decode b_Mo_part 247 = .ok (.getfield 7, 3) := by decide +kernel
theorem d_Mo_part_250 : decode b_Mo_part 250 = .ok (.sipush 128, 3) := by decide +kernel
theorem d_Mo_part_253 : decode b_Mo_part 253 = .ok (.iload_n 3, 1) := by decide +kernel
theorem d_Mo_part_254 : decode b_Mo_part 254 = .ok (.imul, 1) := by decide +kernel
theorem d_Mo_part_255 : decode b_Mo_part 255 = .ok (.iload 6, 2) := by decide +kernel
theorem d_Mo_part_257 : decode b_Mo_part 257 = .ok (.iadd, 1) := by decide +kernel
theorem d_Mo_part_258 : decode b_Mo_part 258 = .ok (.iload 7, 2) := by decide +kernel
theorem d_Mo_part_260 : decode b_Mo_part 260 = .ok (.iastore, 1) := by decide +kernel
theorem d_Mo_part_261 : decode b_Mo_part 261 = .ok (.iinc 6 (-1), 3) := by decide +kernel
theorem d_Mo_part_264 : decode b_Mo_part 264 = .ok (.goto (-211), 3) := by decide +kernel
theorem d_Mo_part_267 : decode b_Mo_part 267 = .ok (.aload_n 0, 1) := by decide +kernel
theorem d_Mo_part_268 : decode b_Mo_part 268 = .ok (.iload_n 1, 1) := by decide +kernel
theorem d_Mo_part_269 : decode b_Mo_part 269 = .ok (.aload_n 0, 1) := by decide +kernel
theorem d_Mo_part_270 : decode b_Mo_part 270 = .ok (.getfield 13, 3) := by decide +kernel
theorem d_Mo_part_273 : decode b_Mo_part 273 = .ok (.iload_n 1, 1) := by decide +kernel
theorem d_Mo_part_274 : decode b_Mo_part 274 = .ok (.iaload, 1) := by decide +kernel
theorem d_Mo_part_275 : decode b_Mo_part 275 = .ok (.invokevirtual 40, 3) := by decide +kernel
theorem d_Mo_part_278 : decode b_Mo_part 278 = .ok (.aload_n 0, 1) := by decide +kernel
theorem d_Mo_part_279 : decode b_Mo_part 279 = .ok (.iload_n 3, 1) := by decide +kernel
theorem d_Mo_part_280 : decode b_Mo_part 280 = .ok (.iload 5, 2) := by decide +kernel
theorem d_Mo_part_282 : decode b_Mo_part 282 = .ok (.ifCond .ge 7, 3) := by decide +kernel
theorem d_Mo_part_285 : decode b_Mo_part 285 = .ok (.iconst 0, 1) := by decide +kernel
theorem d_Mo_part_286 : decode b_Mo_part 286 = .ok (.goto 7, 3) := by decide +kernel
theorem d_Mo_part_289 : decode b_Mo_part 289 = .ok (.iload 5, 2) := by decide +kernel
theorem d_Mo_part_291 : decode b_Mo_part 291 = .ok (.iconst 1, 1) := by decide +kernel
theorem d_Mo_part_292 : decode b_Mo_part 292 = .ok (.iadd, 1) := by decide +kernel
theorem d_Mo_part_293 : decode b_Mo_part 293 = .ok (.invokevirtual 40, 3) := by decide +kernel
theorem d_Mo_part_296 : decode b_Mo_part 296 = .ok (.return_, 1) := by decide +kernel
theorem d_Mo_divisor_0 : decode b_Mo_divisor 0 = .ok (.bipush 35, 2) := by decide +kernel
theorem d_Mo_divisor_2 : decode b_Mo_divisor 2 = .ok (.istore_n 3, 1) := by decide +kernel
theorem d_Mo_divisor_3 : decode b_Mo_divisor 3 = .ok (.bipush 36, 2) := by decide +kernel
theorem d_Mo_divisor_5 : decode b_Mo_divisor 5 = .ok (.istore 4, 2) := by decide +kernel
theorem d_Mo_divisor_7 : decode b_Mo_divisor 7 = .ok (.aload_n 0, 1) := by decide +kernel
theorem d_Mo_divisor_8 : decode b_Mo_divisor 8 = .ok (.iload_n 3, 1) := by decide +kernel
theorem d_Mo_divisor_9 : decode b_Mo_divisor 9 = .ok (.iload_n 1, 1) := by decide +kernel
theorem d_Mo_divisor_10 : decode b_Mo_divisor 10 = .ok (.invokevirtual 58, 3) := by decide +kernel
theorem d_Mo_divisor_13 : decode b_Mo_divisor 13 = .ok (.aload_n 0, 1) := by decide +kernel
theorem d_Mo_divisor_14 : decode b_Mo_divisor 14 = .ok (.iload 4, 2) := by decide +kernel
theorem d_Mo_divisor_16 : decode b_Mo_divisor 16 = .ok (.iload_n 2, 1) := by decide +kernel
theorem d_Mo_divisor_17 : decode b_Mo_divisor 17 = .ok (.invokevirtual 58, 3) := by decide +kernel
theorem d_Mo_divisor_20 : decode b_Mo_divisor 20 = .ok (.aload_n 0, 1) := by decide +kernel
theorem d_Mo_divisor_21 : decode b_Mo_divisor 21 = .ok (.iload 4, 2) := by decide +kernel
theorem d_Mo_divisor_23 : decode b_Mo_divisor 23 = .ok (.invokevirtual 61, 3) := by decide +kernel
theorem d_Mo_divisor_26 : decode b_Mo_divisor 26 = .ok (.ifCond .ne 25, 3) := by decide +kernel
theorem d_Mo_divisor_29 : decode b_Mo_divisor 29 = .ok (.aload_n 0, 1) := by decide +kernel
theorem d_Mo_divisor_30 : decode b_Mo_divisor 30 = .ok (.iload_n 3, 1) := by decide +kernel
theorem d_Mo_divisor_31 : decode b_Mo_divisor 31 = .ok (.iload 4, 2) := by decide +kernel
theorem d_Mo_divisor_33 : decode b_Mo_divisor 33 = .ok (.bipush 37, 2) := by decide +kernel
theorem d_Mo_divisor_35 : decode b_Mo_divisor 35 = .ok (.invokevirtual 65, 3) := by decide +kernel
theorem d_Mo_divisor_38 : decode b_Mo_divisor 38 = .ok (.iload_n 3, 1) := by decide +kernel
theorem d_Mo_divisor_39 : decode b_Mo_divisor 39 = .ok (.istore 5, 2) := by decide +kernel
theorem d_Mo_divisor_41 : decode b_Mo_divisor 41 = .ok (.iload 4, 2) := by decide +kernel
theorem d_Mo_divisor_43 : decode b_Mo_divisor 43 = .ok (.istore_n 3, 1) := by decide +kernel
theorem d_Mo_divisor_44 : decode b_Mo_divisor 44 = .ok (.iload 5, 2) := by decide +kernel
theorem d_Mo_divisor_46 : decode b_Mo_divisor 46 = .ok (.istore 4, 2) := by decide +kernel
theorem d_Mo_divisor_48 : decode b_Mo_divisor 48 = .ok (.goto (-28), 3) := by decide +kernel
theorem d_Mo_divisor_51 : decode b_Mo_divisor 51 = .ok (.iload_n 3, 1) := by decide +kernel
theorem d_Mo_divisor_52 : decode b_Mo_divisor 52 = .ok (.ireturn, 1) := by decide +kernel
theorem d_Mo_digitsIn_0 : decode b_Mo_digitsIn 0 = .ok (.aload_n 0, 1) := by decide +kernel
theorem d_Mo_digitsIn_1 : decode b_Mo_digitsIn 1 = .ok (.getfield 13, 3) := by decide +kernel
theorem d_Mo_digitsIn_4 : decode b_Mo_digitsIn 4 = .ok (.iload_n 1, 1) := by decide +kernel
theorem d_Mo_digitsIn_5 : decode b_Mo_digitsIn 5 = .ok (.iaload, 1) := by decide +kernel
theorem d_Mo_digitsIn_6 : decode b_Mo_digitsIn 6 = .ok (.istore_n 2, 1) := by decide +kernel
theorem d_Mo_digitsIn_7 : decode b_Mo_digitsIn 7 = .ok (.iload_n 2, 1) := by decide +kernel
theorem d_Mo_digitsIn_8 : decode b_Mo_digitsIn 8 = .ok (.ifCond .ne 5, 3) := by decide +kernel
theorem d_Mo_digitsIn_11 : decode b_Mo_digitsIn 11 = .ok (.iconst 1, 1) := by decide +kernel
theorem d_Mo_digitsIn_12 : decode b_Mo_digitsIn 12 = .ok (.ireturn, 1) := by decide +kernel
theorem d_Mo_digitsIn_13 : decode b_Mo_digitsIn 13 = .ok (.aload_n 0, 1) := by decide +kernel
theorem d_Mo_digitsIn_14 : decode b_Mo_digitsIn 14 = .ok (.iload_n 1, 1) := by decide +kernel
theorem d_Mo_digitsIn_15 : decode b_Mo_digitsIn 15 = .ok (.iload_n 2, 1) := by decide +kernel
theorem d_Mo_digitsIn_16 : decode b_Mo_digitsIn 16 = .ok (.iconst 1, 1) := by decide +kernel
theorem d_Mo_digitsIn_17 : decode b_Mo_digitsIn 17 = .ok (.isub, 1) := by decide +kernel
theorem d_Mo_digitsIn_18 : decode b_Mo_digitsIn 18 = .ok (.invokevirtual 36, 3) := by decide +kernel
theorem d_Mo_digitsIn_21 : decode b_Mo_digitsIn 21 = .ok (.istore_n 3, 1) := by decide +kernel
theorem d_Mo_digitsIn_22 : decode b_Mo_digitsIn 22 = .ok (.iconst 4, 1) := by decide +kernel
theorem d_Mo_digitsIn_23 : decode b_Mo_digitsIn 23 = .ok (.iload_n 2, 1) := by decide +kernel
theorem d_Mo_digitsIn_24 : decode b_Mo_digitsIn 24 = .ok (.imul, 1) := by decide +kernel
theorem d_Mo_digitsIn_25 : decode b_Mo_digitsIn 25 = .ok (.iload_n 3, 1) := by decide +kernel
theorem d_Mo_digitsIn_26 : decode b_Mo_digitsIn 26 = .ok (.bipush 10, 2) := by decide +kernel
theorem d_Mo_digitsIn_28 : decode b_Mo_digitsIn 28 = .ok (.if_icmp .ge 7, 3) := by decide +kernel
theorem d_Mo_digitsIn_31 : decode b_Mo_digitsIn 31 = .ok (.iconst 3, 1) := by decide +kernel
theorem d_Mo_digitsIn_32 : decode b_Mo_digitsIn 32 = .ok (.goto 25, 3) := by decide +kernel
theorem d_Mo_digitsIn_35 : decode b_Mo_digitsIn 35 = .ok (.iload_n 3, 1) := by decide +kernel
theorem d_Mo_digitsIn_36 : decode b_Mo_digitsIn 36 = .ok (.bipush 100, 2) := by decide +kernel
theorem d_Mo_digitsIn_38 : decode b_Mo_digitsIn 38 = .ok (.if_icmp .ge 7, 3) := by decide +kernel
theorem d_Mo_digitsIn_41 : decode b_Mo_digitsIn 41 = .ok (.iconst 2, 1) := by decide +kernel
theorem d_Mo_digitsIn_42 : decode b_Mo_digitsIn 42 = .ok (.goto 15, 3) := by decide +kernel
theorem d_Mo_digitsIn_45 : decode b_Mo_digitsIn 45 = .ok (.iload_n 3, 1) := by decide +kernel
theorem d_Mo_digitsIn_46 : decode b_Mo_digitsIn 46 = .ok (.sipush 1000, 3) := by decide +kernel
theorem d_Mo_digitsIn_49 : decode b_Mo_digitsIn 49 = .ok (.if_icmp .ge 7, 3) := by decide +kernel
theorem d_Mo_digitsIn_52 : decode b_Mo_digitsIn 52 = .ok (.iconst 1, 1) := by decide +kernel
theorem d_Mo_digitsIn_53 : decode b_Mo_digitsIn 53 = .ok (.goto 4, 3) := by decide +kernel
theorem d_Mo_digitsIn_56 : decode b_Mo_digitsIn 56 = .ok (.iconst 0, 1) := by decide +kernel
theorem d_Mo_digitsIn_57 : decode b_Mo_digitsIn 57 = .ok (.isub, 1) := by decide +kernel
theorem d_Mo_digitsIn_58 : decode b_Mo_digitsIn 58 = .ok (.ireturn, 1) := by decide +kernel
theorem d_Mo_finish_0 : decode b_Mo_finish 0 = .ok (.aload_n 0, 1) := by decide +kernel
theorem d_Mo_finish_1 : decode b_Mo_finish 1 = .ok (.bipush 32, 2) := by decide +kernel
theorem d_Mo_finish_3 : decode b_Mo_finish 3 = .ok (.bipush 34, 2) := by decide +kernel
theorem d_Mo_finish_5 : decode b_Mo_finish 5 = .ok (.invokevirtual 69, 3) := by decide +kernel
theorem d_Mo_finish_8 : decode b_Mo_finish 8 = .ok (.istore_n 3, 1) := by decide +kernel
theorem d_Mo_finish_9 : decode b_Mo_finish 9 = .ok (.aload_n 0, 1) := by decide +kernel
theorem d_Mo_finish_10 : decode b_Mo_finish 10 = .ok (.bipush 33, 2) := by decide +kernel
theorem d_Mo_finish_12 : decode b_Mo_finish 12 = .ok (.iload_n 3, 1) := by decide +kernel
theorem d_Mo_finish_13 : decode b_Mo_finish 13 = .ok (.invokevirtual 58, 3) := by decide +kernel
theorem d_Mo_finish_16 : decode b_Mo_finish 16 = .ok (.aload_n 0, 1) := by decide +kernel
theorem d_Mo_finish_17 : decode b_Mo_finish 17 = .ok (.bipush 32, 2) := by decide +kernel
theorem d_Mo_finish_19 : decode b_Mo_finish 19 = .ok (.bipush 33, 2) := by decide +kernel
theorem d_Mo_finish_21 : decode b_Mo_finish 21 = .ok (.bipush 37, 2) := by decide +kernel
theorem d_Mo_finish_23 : decode b_Mo_finish 23 = .ok (.invokevirtual 65, 3) := by decide +kernel
theorem d_Mo_finish_26 : decode b_Mo_finish 26 = .ok (.aload_n 0, 1) := by decide +kernel
theorem d_Mo_finish_27 : decode b_Mo_finish 27 = .ok (.bipush 32, 2) := by decide +kernel
theorem d_Mo_finish_29 : decode b_Mo_finish 29 = .ok (.bipush 37, 2) := by decide +kernel
theorem d_Mo_finish_31 : decode b_Mo_finish 31 = .ok (.invokevirtual 58, 3) := by decide +kernel
theorem d_Mo_finish_34 : decode b_Mo_finish 34 = .ok (.aload_n 0, 1) := by decide +kernel
theorem d_Mo_finish_35 : decode b_Mo_finish 35 = .ok (.bipush 34, 2) := by decide +kernel
theorem d_Mo_finish_37 : decode b_Mo_finish 37 = .ok (.bipush 33, 2) := by decide +kernel
theorem d_Mo_finish_39 : decode b_Mo_finish 39 = .ok (.bipush 37, 2) := by decide +kernel
theorem d_Mo_finish_41 : decode b_Mo_finish 41 = .ok (.invokevirtual 65, 3) := by decide +kernel
theorem d_Mo_finish_44 : decode b_Mo_finish 44 = .ok (.aload_n 0, 1) := by decide +kernel
theorem d_Mo_finish_45 : decode b_Mo_finish 45 = .ok (.bipush 34, 2) := by decide +kernel
theorem d_Mo_finish_47 : decode b_Mo_finish 47 = .ok (.bipush 37, 2) := by decide +kernel
theorem d_Mo_finish_49 : decode b_Mo_finish 49 = .ok (.invokevirtual 58, 3) := by decide +kernel
theorem d_Mo_finish_52 : decode b_Mo_finish 52 = .ok (.aload_n 0, 1) := by decide +kernel
theorem d_Mo_finish_53 : decode b_Mo_finish 53 = .ok (.getfield 13, 3) := by decide +kernel
theorem d_Mo_finish_56 : decode b_Mo_finish 56 = .ok (.bipush 32, 2) := by decide +kernel
theorem d_Mo_finish_58 : decode b_Mo_finish 58 = .ok (.iaload, 1) := by decide +kernel
theorem d_Mo_finish_59 : decode b_Mo_finish 59 = .ok (.bipush 45, 2) := by decide +kernel
theorem d_Mo_finish_61 : decode b_Mo_finish 61 = .ok (.if_icmp .gt 15, 3) := by decide +kernel
theorem d_Mo_finish_64 : decode b_Mo_finish 64 = .ok (.aload_n 0, 1) := by decide +kernel
theorem d_Mo_finish_65 : decode b_Mo_finish 65 = .ok (.getfield 13, 3) := by decide +kernel
theorem d_Mo_finish_68 : decode b_Mo_finish 68 = .ok (.bipush 34, 2) := by decide +kernel
theorem d_Mo_finish_70 : decode b_Mo_finish 70 = .ok (.iaload, 1) := by decide +kernel
theorem d_Mo_finish_71 : decode b_Mo_finish 71 = .ok (.bipush 45, 2) := by decide +kernel
theorem d_Mo_finish_73 : decode b_Mo_finish 73 = .ok (.if_icmp .le 5, 3) := by decide +kernel
theorem d_Mo_finish_76 : decode b_Mo_finish 76 = .ok (.iconst 0, 1) := by decide +kernel
theorem d_Mo_finish_77 : decode b_Mo_finish 77 = .ok (.ireturn, 1) := by decide +kernel
theorem d_Mo_finish_78 : decode b_Mo_finish 78 = .ok (.aload_n 0, 1) := by decide +kernel
theorem d_Mo_finish_79 : decode b_Mo_finish 79 = .ok (.iload_n 1, 1) := by decide +kernel
theorem d_Mo_finish_80 : decode b_Mo_finish 80 = .ok (.bipush 32, 2) := by decide +kernel
theorem d_Mo_finish_82 : decode b_Mo_finish 82 = .ok (.invokevirtual 58, 3) := by decide +kernel
theorem d_Mo_finish_85 : decode b_Mo_finish 85 = .ok (.aload_n 0, 1) := by decide +kernel
theorem d_Mo_finish_86 : decode b_Mo_finish 86 = .ok (.bipush 16, 2) := by decide +kernel
theorem d_Mo_finish_88 : decode b_Mo_finish 88 = .ok (.iload_n 1, 1) := by decide +kernel
theorem d_Mo_finish_89 : decode b_Mo_finish 89 = .ok (.iadd, 1) := by decide +kernel
theorem d_Mo_finish_90 : decode b_Mo_finish 90 = .ok (.bipush 34, 2) := by decide +kernel
theorem d_Mo_finish_92 : decode b_Mo_finish 92 = .ok (.invokevirtual 58, 3) := by decide +kernel
theorem d_Mo_finish_95 : decode b_Mo_finish 95 = .ok (.aload_n 0, 1) := by decide +kernel
theorem d_Mo_finish_96 : decode b_Mo_finish 96 = .ok (.getfield 16, 3) := by decide +kernel
theorem d_Mo_finish_99 : decode b_Mo_finish 99 = .ok (.iload_n 1, 1) := by decide +kernel
theorem d_Mo_finish_100 : decode b_Mo_finish 100 = .ok (.aload_n 0, 1) := by decide +kernel
theorem d_Mo_finish_101 : decode b_Mo_finish 101 = .ok (.bipush 32, 2) := by decide +kernel
theorem d_Mo_finish_103 : decode b_Mo_finish 103 = .ok (.invokevirtual 61, 3) := by decide +kernel
theorem d_Mo_finish_106 : decode b_Mo_finish 106 = .ok (.ifCond .eq 7, 3) := by decide +kernel
theorem d_Mo_finish_109 : decode b_Mo_finish 109 = .ok (.iconst 0, 1) := by decide +kernel
theorem d_Mo_finish_110 : decode b_Mo_finish 110 = .ok (.goto 4, 3) := by decide +kernel
theorem d_Mo_finish_113 : decode b_Mo_finish 113 = .ok (.iload_n 2, 1) := by decide +kernel
theorem d_Mo_finish_114 : decode b_Mo_finish 114 = .ok (.iastore, 1) := by decide +kernel
theorem d_Mo_finish_115 : decode b_Mo_finish 115 = .ok (.iconst 1, 1) := by decide +kernel
theorem d_Mo_finish_116 : decode b_Mo_finish 116 = .ok (.ireturn, 1) := by decide +kernel
theorem d_Mo_set_0 : decode b_Mo_set 0 = .ok (.ldc2_w 72, 3) := by decide +kernel
theorem d_Mo_set_3 : decode b_Mo_set 3 = .ok (.lstore 6, 2) := by decide +kernel
theorem d_Mo_set_5 : decode b_Mo_set 5 = .ok (.aload_n 0, 1) := by decide +kernel
theorem d_Mo_set_6 : decode b_Mo_set 6 = .ok (.iload_n 1, 1) := by decide +kernel
theorem d_Mo_set_7 : decode b_Mo_set 7 = .ok (.invokestatic 74, 3) := by decide +kernel
theorem d_Mo_set_10 : decode b_Mo_set 10 = .ok (.ifCond .eq 18, 3) := by decide +kernel
theorem d_Mo_set_13 : decode b_Mo_set 13 = .ok (.lload_n 2, 1) := by decide +kernel
theorem d_Mo_set_14 : decode b_Mo_set 14 = .ok (.lload 6, 2) := by decide +kernel
theorem d_Mo_set_16 : decode b_Mo_set 16 = .ok (.lcmp, 1) := by decide +kernel
theorem d_Mo_set_17 : decode b_Mo_set 17 = .ok (.ifCond .lt 11, 3) := by decide +kernel
theorem d_Mo_set_20 : decode b_Mo_set 20 = .ok (.lload 4, 2) := by decide +kernel
theorem d_Mo_set_22 : decode b_Mo_set 22 = .ok (.lload 6, 2) := by decide +kernel
theorem d_Mo_set_24 : decode b_Mo_set 24 = .ok (.lcmp, 1) := by decide +kernel
theorem d_Mo_set_25 : decode b_Mo_set 25 = .ok (.ifCond .ge 7, 3) := by decide +kernel
theorem d_Mo_set_28 : decode b_Mo_set 28 = .ok (.iconst 1, 1) := by decide +kernel
theorem d_Mo_set_29 : decode b_Mo_set 29 = .ok (.goto 15, 3) := by decide +kernel
theorem d_Mo_set_32 : decode b_Mo_set 32 = .ok (.lload 4, 2) := by decide +kernel
theorem d_Mo_set_34 : decode b_Mo_set 34 = .ok (.lconst 0, 1) := by decide +kernel
theorem d_Mo_set_35 : decode b_Mo_set 35 = .ok (.lcmp, 1) := by decide +kernel
theorem d_Mo_set_36 : decode b_Mo_set 36 = .ok (.ifCond .ne 7, 3) := by decide +kernel
theorem d_Mo_set_39 : decode b_Mo_set 39 = .ok (.iconst 2, 1) := by decide +kernel
theorem d_Mo_set_40 : decode b_Mo_set 40 = .ok (.goto 4, 3) := by decide +kernel
theorem d_Mo_set_43 : decode b_Mo_set 43 = .ok (.iconst 0, 1) := by decide +kernel
theorem d_Mo_set_44 : decode b_Mo_set 44 = .ok (.putfield 30, 3) := by decide +kernel
theorem d_Mo_set_47 : decode b_Mo_set 47 = .ok (.aload_n 0, 1) := by decide +kernel
theorem d_Mo_set_48 : decode b_Mo_set 48 = .ok (.getfield 30, 3) := by decide +kernel
theorem d_Mo_set_51 : decode b_Mo_set 51 = .ok (.ifCond .le 4, 3) := by decide +kernel
theorem d_Mo_set_54 : decode b_Mo_set 54 = .ok (.return_, 1) := by decide +kernel
theorem d_Mo_set_55 : decode b_Mo_set 55 = .ok (.aload_n 0, 1) := by decide +kernel
theorem d_Mo_set_56 : decode b_Mo_set 56 = .ok (.bipush 32, 2) := by decide +kernel
theorem d_Mo_set_58 : decode b_Mo_set 58 = .ok (.lload_n 2, 1) := by decide +kernel
theorem d_Mo_set_59 : decode b_Mo_set 59 = .ok (.lconst 0, 1) := by decide +kernel
theorem d_Mo_set_60 : decode b_Mo_set 60 = .ok (.lcmp, 1) := by decide +kernel
theorem d_Mo_set_61 : decode b_Mo_set 61 = .ok (.ifCond .ge 8, 3) := by decide +kernel
theorem d_Mo_set_64 : decode b_Mo_set 64 = .ok (.lload_n 2, 1) := by decide +kernel
theorem d_Mo_set_65 : decode b_Mo_set 65 = .ok (.lneg, 1) := by decide +kernel
theorem d_Mo_set_66 : decode b_Mo_set 66 = .ok (.goto 4, 3) := by decide +kernel
theorem d_Mo_set_69 : decode b_Mo_set 69 = .ok (.lload_n 2, 1) := by decide +kernel
theorem d_Mo_set_70 : decode b_Mo_set 70 = .ok (.invokevirtual 26, 3) := by decide +kernel
theorem d_Mo_set_73 : decode b_Mo_set 73 = .ok (.aload_n 0, 1) := by decide +kernel
theorem d_Mo_set_74 : decode b_Mo_set 74 = .ok (.bipush 34, 2) := by decide +kernel
theorem d_Mo_set_76 : decode b_Mo_set 76 = .ok (.lload 4, 2) := by decide +kernel
theorem d_Mo_set_78 : decode b_Mo_set 78 = .ok (.lconst 0, 1) := by decide +kernel
theorem d_Mo_set_79 : decode b_Mo_set 79 = .ok (.lcmp, 1) := by decide +kernel
theorem d_Mo_set_80 : decode b_Mo_set 80 = .ok (.ifCond .ge 9, 3) := by decide +kernel
theorem d_Mo_set_83 : decode b_Mo_set 83 = .ok (.lload 4, 2) := by decide +kernel
theorem d_Mo_set_85 : decode b_Mo_set 85 = .ok (.lneg, 1) := by decide +kernel
theorem d_Mo_set_86 : decode b_Mo_set 86 = .ok (.goto 5, 3) := by decide +kernel
theorem d_Mo_set_89 : decode b_Mo_set 89 = .ok (.lload 4, 2) := by decide +kernel
theorem d_Mo_set_91 : decode b_Mo_set 91 = .ok (.invokevirtual 26, 3) := by decide +kernel
theorem d_Mo_set_94 : decode b_Mo_set 94 = .ok (.aload_n 0, 1) := by decide +kernel
theorem d_Mo_set_95 : decode b_Mo_set 95 = .ok (.iload_n 1, 1) := by decide +kernel
theorem d_Mo_set_96 : decode b_Mo_set 96 = .ok (.lload_n 2, 1) := by decide +kernel
theorem d_Mo_set_97 : decode b_Mo_set 97 = .ok (.lconst 0, 1) := by decide +kernel
theorem d_Mo_set_98 : decode b_Mo_set 98 = .ok (.lcmp, 1) := by decide +kernel
theorem d_Mo_set_99 : decode b_Mo_set 99 = .ok (.ifCond .ge 7, 3) := by decide +kernel
theorem d_Mo_set_102 : decode b_Mo_set 102 = .ok (.iconst 1, 1) := by decide +kernel
theorem d_Mo_set_103 : decode b_Mo_set 103 = .ok (.goto 4, 3) := by decide +kernel
theorem d_Mo_set_106 : decode b_Mo_set 106 = .ok (.iconst 0, 1) := by decide +kernel
theorem d_Mo_set_107 : decode b_Mo_set 107 = .ok (.lload 4, 2) := by decide +kernel
theorem d_Mo_set_109 : decode b_Mo_set 109 = .ok (.lconst 0, 1) := by decide +kernel
theorem d_Mo_set_110 : decode b_Mo_set 110 = .ok (.lcmp, 1) := by decide +kernel
theorem d_Mo_set_111 : decode b_Mo_set 111 = .ok (.ifCond .ge 7, 3) := by decide +kernel
theorem d_Mo_set_114 : decode b_Mo_set 114 = .ok (.iconst 1, 1) := by decide +kernel
theorem d_Mo_set_115 : decode b_Mo_set 115 = .ok (.goto 4, 3) := by decide +kernel
theorem d_Mo_set_118 : decode b_Mo_set 118 = .ok (.iconst 0, 1) := by decide +kernel
theorem d_Mo_set_119 : decode b_Mo_set 119 = .ok (.if_icmp .ne 7, 3) := by decide +kernel
theorem d_Mo_set_122 : decode b_Mo_set 122 = .ok (.iconst 1, 1) := by decide +kernel
theorem d_Mo_set_123 : decode b_Mo_set 123 = .ok (.goto 4, 3) := by decide +kernel
theorem d_Mo_set_126 : decode b_Mo_set 126 = .ok (.iconst (-1), 1) := by decide +kernel
theorem d_Mo_set_127 : decode b_Mo_set 127 = .ok (.invokevirtual 77, 3) := by decide +kernel
theorem d_Mo_set_130 : decode b_Mo_set 130 = .ok (.istore 8, 2) := by decide +kernel
theorem d_Mo_set_132 : decode b_Mo_set 132 = .ok (.return_, 1) := by decide +kernel
theorem d_Mo_isWhole_0 : decode b_Mo_isWhole 0 = .ok (.aload_n 0, 1) := by decide +kernel
theorem d_Mo_isWhole_1 : decode b_Mo_isWhole 1 = .ok (.getfield 13, 3) := by decide +kernel
theorem d_Mo_isWhole_4 : decode b_Mo_isWhole 4 = .ok (.bipush 16, 2) := by decide +kernel
theorem d_Mo_isWhole_6 : decode b_Mo_isWhole 6 = .ok (.iload_n 1, 1) := by decide +kernel
theorem d_Mo_isWhole_7 : decode b_Mo_isWhole 7 = .ok (.iadd, 1) := by decide +kernel
theorem d_Mo_isWhole_8 : decode b_Mo_isWhole 8 = .ok (.iaload, 1) := by decide +kernel
theorem d_Mo_isWhole_9 : decode b_Mo_isWhole 9 = .ok (.iconst 1, 1) := by decide +kernel
theorem d_Mo_isWhole_10 : decode b_Mo_isWhole 10 = .ok (.if_icmp .ne 20, 3) := by decide +kernel
theorem d_Mo_isWhole_13 : decode b_Mo_isWhole 13 = .ok (.aload_n 0, 1) := by decide +kernel
theorem d_Mo_isWhole_14 : decode b_Mo_isWhole 14 = .ok (.bipush 16, 2) := by decide +kernel
theorem d_Mo_isWhole_16 : decode b_Mo_isWhole 16 = .ok (.iload_n 1, 1) := by decide +kernel
theorem d_Mo_isWhole_17 : decode b_Mo_isWhole 17 = .ok (.iadd, 1) := by decide +kernel
theorem d_Mo_isWhole_18 : decode b_Mo_isWhole 18 = .ok (.iconst 0, 1) := by decide +kernel
theorem d_Mo_isWhole_19 : decode b_Mo_isWhole 19 = .ok (.invokevirtual 36, 3) := by decide +kernel
theorem d_Mo_isWhole_22 : decode b_Mo_isWhole 22 = .ok (.iconst 1, 1) := by decide +kernel
theorem d_Mo_isWhole_23 : decode b_Mo_isWhole 23 = .ok (.if_icmp .ne 7, 3) := by decide +kernel
theorem d_Mo_isWhole_26 : decode b_Mo_isWhole 26 = .ok (.iconst 1, 1) := by decide +kernel
theorem d_Mo_isWhole_27 : decode b_Mo_isWhole 27 = .ok (.goto 4, 3) := by decide +kernel
theorem d_Mo_isWhole_30 : decode b_Mo_isWhole 30 = .ok (.iconst 0, 1) := by decide +kernel
theorem d_Mo_isWhole_31 : decode b_Mo_isWhole 31 = .ok (.ireturn, 1) := by decide +kernel
theorem d_Mo_more_0 : decode b_Mo_more 0 = .ok (.aload_n 0, 1) := by decide +kernel
theorem d_Mo_more_1 : decode b_Mo_more 1 = .ok (.iload_n 1, 1) := by decide +kernel
theorem d_Mo_more_2 : decode b_Mo_more 2 = .ok (.invokestatic 74, 3) := by decide +kernel
theorem d_Mo_more_5 : decode b_Mo_more 5 = .ok (.ifCond .eq 15, 3) := by decide +kernel
theorem d_Mo_more_8 : decode b_Mo_more 8 = .ok (.iload_n 2, 1) := by decide +kernel
theorem d_Mo_more_9 : decode b_Mo_more 9 = .ok (.i2l, 1) := by decide +kernel
theorem d_Mo_more_10 : decode b_Mo_more 10 = .ok (.lconst 0, 1) := by decide +kernel
theorem d_Mo_more_11 : decode b_Mo_more 11 = .ok (.ldc2_w 81, 3) := by decide +kernel
theorem d_Mo_more_14 : decode b_Mo_more 14 = .ok (.invokestatic 83, 3) := by decide +kernel
theorem d_Mo_more_17 : decode b_Mo_more 17 = .ok (.ifCond .ne 7, 3) := by decide +kernel
theorem d_Mo_more_20 : decode b_Mo_more 20 = .ok (.iconst 1, 1) := by decide +kernel
theorem d_Mo_more_21 : decode b_Mo_more 21 = .ok (.goto 16, 3) := by decide +kernel
theorem d_Mo_more_24 : decode b_Mo_more 24 = .ok (.aload_n 0, 1) := by decide +kernel
theorem d_Mo_more_25 : decode b_Mo_more 25 = .ok (.iload_n 1, 1) := by decide +kernel
theorem d_Mo_more_26 : decode b_Mo_more 26 = .ok (.invokevirtual 87, 3) := by decide +kernel
theorem d_Mo_more_29 : decode b_Mo_more 29 = .ok (.ifCond .ne 7, 3) := by decide +kernel
theorem d_Mo_more_32 : decode b_Mo_more 32 = .ok (.iconst 2, 1) := by decide +kernel
theorem d_Mo_more_33 : decode b_Mo_more 33 = .ok (.goto 4, 3) := by decide +kernel
theorem d_Mo_more_36 : decode b_Mo_more 36 = .ok (.iconst 0, 1) := by decide +kernel
theorem d_Mo_more_37 : decode b_Mo_more 37 = .ok (.putfield 30, 3) := by decide +kernel
theorem d_Mo_more_40 : decode b_Mo_more 40 = .ok (.aload_n 0, 1) := by decide +kernel
theorem d_Mo_more_41 : decode b_Mo_more 41 = .ok (.getfield 30, 3) := by decide +kernel
theorem d_Mo_more_44 : decode b_Mo_more 44 = .ok (.ifCond .le 4, 3) := by decide +kernel
theorem d_Mo_more_47 : decode b_Mo_more 47 = .ok (.return_, 1) := by decide +kernel
theorem d_Mo_more_48 : decode b_Mo_more 48 = .ok (.aload_n 0, 1) := by decide +kernel
theorem d_Mo_more_49 : decode b_Mo_more 49 = .ok (.bipush 32, 2) := by decide +kernel
theorem d_Mo_more_51 : decode b_Mo_more 51 = .ok (.iload_n 1, 1) := by decide +kernel
theorem d_Mo_more_52 : decode b_Mo_more 52 = .ok (.invokevirtual 58, 3) := by decide +kernel
theorem d_Mo_more_55 : decode b_Mo_more 55 = .ok (.aload_n 0, 1) := by decide +kernel
theorem d_Mo_more_56 : decode b_Mo_more 56 = .ok (.bipush 32, 2) := by decide +kernel
theorem d_Mo_more_58 : decode b_Mo_more 58 = .ok (.ldc2_w 90, 3) := by decide +kernel
theorem d_Mo_more_61 : decode b_Mo_more 61 = .ok (.iload_n 2, 1) := by decide +kernel
theorem d_Mo_more_62 : decode b_Mo_more 62 = .ok (.i2l, 1) := by decide +kernel
theorem d_Mo_more_63 : decode b_Mo_more 63 = .ok (.invokevirtual 46, 3) := by decide +kernel
theorem d_Mo_more_66 : decode b_Mo_more 66 = .ok (.aload_n 0, 1) := by decide +kernel
theorem d_Mo_more_67 : decode b_Mo_more 67 = .ok (.bipush 34, 2) := by decide +kernel
theorem d_Mo_more_69 : decode b_Mo_more 69 = .ok (.lconst 1, 1) := by decide +kernel
theorem d_Mo_more_70 : decode b_Mo_more 70 = .ok (.invokevirtual 26, 3) := by decide +kernel
theorem d_Mo_more_73 : decode b_Mo_more 73 = .ok (.aload_n 0, 1) := by decide +kernel
theorem d_Mo_more_74 : decode b_Mo_more 74 = .ok (.aload_n 0, 1) := by decide +kernel
theorem d_Mo_more_75 : decode b_Mo_more 75 = .ok (.iload_n 1, 1) := by decide +kernel
theorem d_Mo_more_76 : decode b_Mo_more 76 = .ok (.aload_n 0, 1) := by decide +kernel
theorem d_Mo_more_77 : decode b_Mo_more 77 = .ok (.getfield 16, 3) := by decide +kernel
theorem d_Mo_more_80 : decode b_Mo_more 80 = .ok (.iload_n 1, 1) := by decide +kernel
theorem d_Mo_more_81 : decode b_Mo_more 81 = .ok (.iaload, 1) := by decide +kernel
theorem d_Mo_more_82 : decode b_Mo_more 82 = .ok (.ifCond .ge 7, 3) := by decide +kernel
theorem d_Mo_more_85 : decode b_Mo_more 85 = .ok (.iconst (-1), 1) := by decide +kernel
theorem d_Mo_more_86 : decode b_Mo_more 86 = .ok (.goto 4, 3) := by decide +kernel
theorem d_Mo_more_89 : decode b_Mo_more 89 = .ok (.iconst 1, 1) := by decide +kernel
theorem d_Mo_more_90 : decode b_Mo_more 90 = .ok (.invokevirtual 77, 3) := by decide +kernel
theorem d_Mo_more_93 : decode b_Mo_more 93 = .ok (.ifCond .eq 7, 3) := by decide +kernel
theorem d_Mo_more_96 : decode b_Mo_more 96 = .ok (.iconst 0, 1) := by decide +kernel
theorem d_Mo_more_97 : decode b_Mo_more 97 = .ok (.goto 4, 3) := by decide +kernel
theorem d_Mo_more_100 : decode b_Mo_more 100 = .ok (.iconst 2, 1) := by decide +kernel
theorem d_Mo_more_101 : decode b_Mo_more 101 = .ok (.putfield 30, 3) := by decide +kernel
theorem d_Mo_more_104 : decode b_Mo_more 104 = .ok (.return_, 1) := by decide +kernel
theorem d_Mo_sum_0 : decode b_Mo_sum 0 = .ok (.aload_n 0, 1) := by decide +kernel
theorem d_Mo_sum_1 : decode b_Mo_sum 1 = .ok (.bipush 32, 2) := by decide +kernel
theorem d_Mo_sum_3 : decode b_Mo_sum 3 = .ok (.iload_n 2, 1) := by decide +kernel
theorem d_Mo_sum_4 : decode b_Mo_sum 4 = .ok (.bipush 16, 2) := by decide +kernel
theorem d_Mo_sum_6 : decode b_Mo_sum 6 = .ok (.iload_n 3, 1) := by decide +kernel
theorem d_Mo_sum_7 : decode b_Mo_sum 7 = .ok (.iadd, 1) := by decide +kernel
theorem d_Mo_sum_8 : decode b_Mo_sum 8 = .ok (.invokevirtual 92, 3) := by decide +kernel
theorem d_Mo_sum_11 : decode b_Mo_sum 11 = .ok (.aload_n 0, 1) := by decide +kernel
theorem d_Mo_sum_12 : decode b_Mo_sum 12 = .ok (.bipush 33, 2) := by decide +kernel
theorem d_Mo_sum_14 : decode b_Mo_sum 14 = .ok (.iload_n 3, 1) := by decide +kernel
theorem d_Mo_sum_15 : decode b_Mo_sum 15 = .ok (.bipush 16, 2) := by decide +kernel
theorem d_Mo_sum_17 : decode b_Mo_sum 17 = .ok (.iload_n 2, 1) := by decide +kernel
theorem d_Mo_sum_18 : decode b_Mo_sum 18 = .ok (.iadd, 1) := by decide +kernel
theorem d_Mo_sum_19 : decode b_Mo_sum 19 = .ok (.invokevirtual 92, 3) := by decide +kernel
theorem d_Mo_sum_22 : decode b_Mo_sum 22 = .ok (.aload_n 0, 1) := by decide +kernel
theorem d_Mo_sum_23 : decode b_Mo_sum 23 = .ok (.bipush 34, 2) := by decide +kernel
theorem d_Mo_sum_25 : decode b_Mo_sum 25 = .ok (.bipush 16, 2) := by decide +kernel
theorem d_Mo_sum_27 : decode b_Mo_sum 27 = .ok (.iload_n 2, 1) := by decide +kernel
theorem d_Mo_sum_28 : decode b_Mo_sum 28 = .ok (.iadd, 1) := by decide +kernel
theorem d_Mo_sum_29 : decode b_Mo_sum 29 = .ok (.bipush 16, 2) := by decide +kernel
theorem d_Mo_sum_31 : decode b_Mo_sum 31 = .ok (.iload_n 3, 1) := by decide +kernel
theorem d_Mo_sum_32 : decode b_Mo_sum 32 = .ok (.iadd, 1) := by decide +kernel
theorem d_Mo_sum_33 : decode b_Mo_sum 33 = .ok (.invokevirtual 92, 3) := by decide +kernel
theorem d_Mo_sum_36 : decode b_Mo_sum 36 = .ok (.aload_n 0, 1) := by decide +kernel
theorem d_Mo_sum_37 : decode b_Mo_sum 37 = .ok (.getfield 16, 3) := by decide +kernel
theorem d_Mo_sum_40 : decode b_Mo_sum 40 = .ok (.iload_n 2, 1) := by decide +kernel
theorem d_Mo_sum_41 : decode b_Mo_sum 41 = .ok (.iaload, 1) := by decide +kernel
theorem d_Mo_sum_42 : decode b_Mo_sum 42 = .ok (.istore 5, 2) := by decide +kernel
theorem d_Mo_sum_44 : decode b_Mo_sum 44 = .ok (.aload_n 0, 1) := by decide +kernel
theorem d_Mo_sum_45 : decode b_Mo_sum 45 = .ok (.getfield 16, 3) := by decide +kernel
theorem d_Mo_sum_48 : decode b_Mo_sum 48 = .ok (.iload_n 2, 1) := by decide +kernel
theorem d_Mo_sum_49 : decode b_Mo_sum 49 = .ok (.iaload, 1) := by decide +kernel
theorem d_Mo_sum_50 : decode b_Mo_sum 50 = .ok (.iload 4, 2) := by decide +kernel
theorem d_Mo_sum_52 : decode b_Mo_sum 52 = .ok (.if_icmp .eq 8, 3) := by decide +kernel
theorem d_Mo_sum_55 : decode b_Mo_sum 55 = .ok (.iload 4, 2) := by decide +kernel
theorem d_Mo_sum_57 : decode b_Mo_sum 57 = .ok (.ifCond .ne 16, 3) := by decide +kernel
theorem d_Mo_sum_60 : decode b_Mo_sum 60 = .ok (.aload_n 0, 1) := by decide +kernel
theorem d_Mo_sum_61 : decode b_Mo_sum 61 = .ok (.bipush 32, 2) := by decide +kernel
theorem d_Mo_sum_63 : decode b_Mo_sum 63 = .ok (.bipush 32, 2) := by decide +kernel
theorem d_Mo_sum_65 : decode b_Mo_sum 65 = .ok (.bipush 33, 2) := by decide +kernel
theorem d_Mo_sum_67 : decode b_Mo_sum 67 = .ok (.invokevirtual 95, 3) := by decide +kernel
theorem d_Mo_sum_70 : decode b_Mo_sum 70 = .ok (.goto 49, 3) := by decide +kernel
theorem d_Mo_sum_73 : decode b_Mo_sum 73 = .ok (.aload_n 0, 1) := by decide +kernel
theorem d_Mo_sum_74 : decode b_Mo_sum 74 = .ok (.bipush 32, 2) := by decide +kernel
theorem d_Mo_sum_76 : decode b_Mo_sum 76 = .ok (.bipush 33, 2) := by decide +kernel
theorem d_Mo_sum_78 : decode b_Mo_sum 78 = .ok (.invokevirtual 98, 3) := by decide +kernel
theorem d_Mo_sum_81 : decode b_Mo_sum 81 = .ok (.ifCond .lt 16, 3) := by decide +kernel
theorem d_Mo_sum_84 : decode b_Mo_sum 84 = .ok (.aload_n 0, 1) := by decide +kernel
theorem d_Mo_sum_85 : decode b_Mo_sum 85 = .ok (.bipush 32, 2) := by decide +kernel
theorem d_Mo_sum_87 : decode b_Mo_sum 87 = .ok (.bipush 32, 2) := by decide +kernel
theorem d_Mo_sum_89 : decode b_Mo_sum 89 = .ok (.bipush 33, 2) := by decide +kernel
theorem d_Mo_sum_91 : decode b_Mo_sum 91 = .ok (.invokevirtual 101, 3) := by decide +kernel
theorem d_Mo_sum_94 : decode b_Mo_sum 94 = .ok (.goto 25, 3) := by decide +kernel
theorem d_Mo_sum_97 : decode b_Mo_sum 97 = .ok (.aload_n 0, 1) := by decide +kernel
theorem d_Mo_sum_98 : decode b_Mo_sum 98 = .ok (.bipush 35, 2) := by decide +kernel
theorem d_Mo_sum_100 : decode b_Mo_sum 100 = .ok (.bipush 33, 2) := by decide +kernel
theorem d_Mo_sum_102 : decode b_Mo_sum 102 = .ok (.bipush 32, 2) := by decide +kernel
theorem d_Mo_sum_104 : decode b_Mo_sum 104 = .ok (.invokevirtual 101, 3) := by decide +kernel
theorem d_Mo_sum_107 : decode b_Mo_sum 107 = .ok (.aload_n 0, 1) := by decide +kernel
theorem d_Mo_sum_108 : decode b_Mo_sum 108 = .ok (.bipush 32, 2) := by decide +kernel
theorem d_Mo_sum_110 : decode b_Mo_sum 110 = .ok (.bipush 35, 2) := by decide +kernel
theorem d_Mo_sum_112 : decode b_Mo_sum 112 = .ok (.invokevirtual 58, 3) := by decide +kernel
theorem d_Mo_sum_115 : decode b_Mo_sum 115 = .ok (.iload 4, 2) := by decide +kernel
theorem d_Mo_sum_117 : decode b_Mo_sum 117 = .ok (.istore 5, 2) := by decide +kernel
theorem d_Mo_sum_119 : decode b_Mo_sum 119 = .ok (.aload_n 0, 1) := by decide +kernel
theorem d_Mo_sum_120 : decode b_Mo_sum 120 = .ok (.aload_n 0, 1) := by decide +kernel
theorem d_Mo_sum_121 : decode b_Mo_sum 121 = .ok (.iload_n 1, 1) := by decide +kernel
theorem d_Mo_sum_122 : decode b_Mo_sum 122 = .ok (.iload 5, 2) := by decide +kernel
theorem d_Mo_sum_124 : decode b_Mo_sum 124 = .ok (.invokevirtual 77, 3) := by decide +kernel
theorem d_Mo_sum_127 : decode b_Mo_sum 127 = .ok (.ifCond .eq 7, 3) := by decide +kernel
theorem d_Mo_sum_130 : decode b_Mo_sum 130 = .ok (.iconst 0, 1) := by decide +kernel
theorem d_Mo_sum_131 : decode b_Mo_sum 131 = .ok (.goto 4, 3) := by decide +kernel
theorem d_Mo_sum_134 : decode b_Mo_sum 134 = .ok (.iconst 2, 1) := by decide +kernel
theorem d_Mo_sum_135 : decode b_Mo_sum 135 = .ok (.putfield 30, 3) := by decide +kernel
theorem d_Mo_sum_138 : decode b_Mo_sum 138 = .ok (.return_, 1) := by decide +kernel
theorem d_Mo_areThere_0 : decode b_Mo_areThere 0 = .ok (.iload_n 0, 1) := by decide +kernel
theorem d_Mo_areThere_1 : decode b_Mo_areThere 1 = .ok (.invokestatic 74, 3) := by decide +kernel
theorem d_Mo_areThere_4 : decode b_Mo_areThere 4 = .ok (.ifCond .eq 21, 3) := by decide +kernel
theorem d_Mo_areThere_7 : decode b_Mo_areThere 7 = .ok (.iload_n 1, 1) := by decide +kernel
theorem d_Mo_areThere_8 : decode b_Mo_areThere 8 = .ok (.invokestatic 74, 3) := by decide +kernel
theorem d_Mo_areThere_11 : decode b_Mo_areThere 11 = .ok (.ifCond .eq 14, 3) := by decide +kernel
theorem d_Mo_areThere_14 : decode b_Mo_areThere 14 = .ok (.iload_n 2, 1) := by decide +kernel
theorem d_Mo_areThere_15 : decode b_Mo_areThere 15 = .ok (.invokestatic 74, 3) := by decide +kernel
theorem d_Mo_areThere_18 : decode b_Mo_areThere 18 = .ok (.ifCond .eq 7, 3) := by decide +kernel
theorem d_Mo_areThere_21 : decode b_Mo_areThere 21 = .ok (.iconst 1, 1) := by decide +kernel
theorem d_Mo_areThere_22 : decode b_Mo_areThere 22 = .ok (.goto 4, 3) := by decide +kernel
theorem d_Mo_areThere_25 : decode b_Mo_areThere 25 = .ok (.iconst 0, 1) := by decide +kernel
theorem d_Mo_areThere_26 : decode b_Mo_areThere 26 = .ok (.ireturn, 1) := by decide +kernel
theorem d_Mo_add_0 : decode b_Mo_add 0 = .ok (.aload_n 0, 1) := by decide +kernel
theorem d_Mo_add_1 : decode b_Mo_add 1 = .ok (.iload_n 1, 1) := by decide +kernel
theorem d_Mo_add_2 : decode b_Mo_add 2 = .ok (.iload_n 2, 1) := by decide +kernel
theorem d_Mo_add_3 : decode b_Mo_add 3 = .ok (.iload_n 3, 1) := by decide +kernel
theorem d_Mo_add_4 : decode b_Mo_add 4 = .ok (.invokestatic 104, 3) := by decide +kernel
theorem d_Mo_add_7 : decode b_Mo_add 7 = .ok (.ifCond .eq 7, 3) := by decide +kernel
theorem d_Mo_add_10 : decode b_Mo_add 10 = .ok (.iconst 0, 1) := by decide +kernel
theorem d_Mo_add_11 : decode b_Mo_add 11 = .ok (.goto 4, 3) := by decide +kernel
theorem d_Mo_add_14 : decode b_Mo_add 14 = .ok (.iconst 1, 1) := by decide +kernel
theorem d_Mo_add_15 : decode b_Mo_add 15 = .ok (.putfield 30, 3) := by decide +kernel
theorem d_Mo_add_18 : decode b_Mo_add 18 = .ok (.aload_n 0, 1) := by decide +kernel
theorem d_Mo_add_19 : decode b_Mo_add 19 = .ok (.getfield 30, 3) := by decide +kernel
theorem d_Mo_add_22 : decode b_Mo_add 22 = .ok (.ifCond .ne 16, 3) := by decide +kernel
theorem d_Mo_add_25 : decode b_Mo_add 25 = .ok (.aload_n 0, 1) := by decide +kernel
theorem d_Mo_add_26 : decode b_Mo_add 26 = .ok (.iload_n 1, 1) := by decide +kernel
theorem d_Mo_add_27 : decode b_Mo_add 27 = .ok (.iload_n 2, 1) := by decide +kernel
theorem d_Mo_add_28 : decode b_Mo_add 28 = .ok (.iload_n 3, 1) := by decide +kernel
theorem d_Mo_add_29 : decode b_Mo_add 29 = .ok (.aload_n 0, 1) := by decide +kernel
theorem d_Mo_add_30 : decode b_Mo_add 30 = .ok (.getfield 16, 3) := by decide +kernel
theorem d_Mo_add_33 : decode b_Mo_add 33 = .ok (.iload_n 3, 1) := by decide +kernel
theorem d_Mo_add_34 : decode b_Mo_add 34 = .ok (.iaload, 1) := by decide +kernel
theorem d_Mo_add_35 : decode b_Mo_add 35 = .ok (.invokevirtual 107, 3) := by decide +kernel
theorem d_Mo_add_38 : decode b_Mo_add 38 = .ok (.return_, 1) := by decide +kernel
theorem d_Mo_subtract_0 : decode b_Mo_subtract 0 = .ok (.aload_n 0, 1) := by decide +kernel
theorem d_Mo_subtract_1 : decode b_Mo_subtract 1 = .ok (.iload_n 1, 1) := by decide +kernel
theorem d_Mo_subtract_2 : decode b_Mo_subtract 2 = .ok (.iload_n 2, 1) := by decide +kernel
theorem d_Mo_subtract_3 : decode b_Mo_subtract 3 = .ok (.iload_n 3, 1) := by decide +kernel
theorem d_Mo_subtract_4 : decode b_Mo_subtract 4 = .ok (.invokestatic 104, 3) := by decide +kernel
theorem d_Mo_subtract_7 : decode b_Mo_subtract 7 = .ok (.ifCond .eq 7, 3) := by decide +kernel
theorem d_Mo_subtract_10 : decode b_Mo_subtract 10 = .ok (.iconst 0, 1) := by decide +kernel
theorem d_Mo_subtract_11 : decode b_Mo_subtract 11 = .ok (.goto 4, 3) := by decide +kernel
theorem d_Mo_subtract_14 : decode b_Mo_subtract 14 = .ok (.iconst 1, 1) := by decide +kernel
theorem d_Mo_subtract_15 : decode b_Mo_subtract 15 = .ok (.putfield 30, 3) := by decide +kernel
theorem d_Mo_subtract_18 : decode b_Mo_subtract 18 = .ok (.aload_n 0, 1) := by decide +kernel
theorem d_Mo_subtract_19 : decode b_Mo_subtract 19 = .ok (.getfield 30, 3) := by decide +kernel
theorem d_Mo_subtract_22 : decode b_Mo_subtract 22 = .ok (.ifCond .ne 17, 3) := by decide +kernel
theorem d_Mo_subtract_25 : decode b_Mo_subtract 25 = .ok (.aload_n 0, 1) := by decide +kernel
theorem d_Mo_subtract_26 : decode b_Mo_subtract 26 = .ok (.iload_n 1, 1) := by decide +kernel
theorem d_Mo_subtract_27 : decode b_Mo_subtract 27 = .ok (.iload_n 2, 1) := by decide +kernel
theorem d_Mo_subtract_28 : decode b_Mo_subtract 28 = .ok (.iload_n 3, 1) := by decide +kernel
theorem d_Mo_subtract_29 : decode b_Mo_subtract 29 = .ok (.aload_n 0, 1) := by decide +kernel
theorem d_Mo_subtract_30 : decode b_Mo_subtract 30 = .ok (.getfield 16, 3) := by decide +kernel
theorem d_Mo_subtract_33 : decode b_Mo_subtract 33 = .ok (.iload_n 3, 1) := by decide +kernel
theorem d_Mo_subtract_34 : decode b_Mo_subtract 34 = .ok (.iaload, 1) := by decide +kernel
theorem d_Mo_subtract_35 : decode b_Mo_subtract 35 = .ok (.ineg, 1) := by decide +kernel
theorem d_Mo_subtract_36 : decode b_Mo_subtract 36 = .ok (.invokevirtual 107, 3) := by decide +kernel
theorem d_Mo_subtract_39 : decode b_Mo_subtract 39 = .ok (.return_, 1) := by decide +kernel
theorem d_Mo_multiply_0 : decode b_Mo_multiply 0 = .ok (.aload_n 0, 1) := by decide +kernel
theorem d_Mo_multiply_1 : decode b_Mo_multiply 1 = .ok (.iload_n 1, 1) := by decide +kernel
theorem d_Mo_multiply_2 : decode b_Mo_multiply 2 = .ok (.iload_n 2, 1) := by decide +kernel
theorem d_Mo_multiply_3 : decode b_Mo_multiply 3 = .ok (.iload_n 3, 1) := by decide +kernel
theorem d_Mo_multiply_4 : decode b_Mo_multiply 4 = .ok (.invokestatic 104, 3) := by decide +kernel
theorem d_Mo_multiply_7 : decode b_Mo_multiply 7 = .ok (.ifCond .eq 7, 3) := by decide +kernel
theorem d_Mo_multiply_10 : decode b_Mo_multiply 10 = .ok (.iconst 0, 1) := by decide +kernel
theorem d_Mo_multiply_11 : decode b_Mo_multiply 11 = .ok (.goto 4, 3) := by decide +kernel
theorem d_Mo_multiply_14 : decode b_Mo_multiply 14 = .ok (.iconst 1, 1) := by decide +kernel
theorem d_Mo_multiply_15 : decode b_Mo_multiply 15 = .ok (.putfield 30, 3) := by decide +kernel
theorem d_Mo_multiply_18 : decode b_Mo_multiply 18 = .ok (.aload_n 0, 1) := by decide +kernel
theorem d_Mo_multiply_19 : decode b_Mo_multiply 19 = .ok (.getfield 30, 3) := by decide +kernel
theorem d_Mo_multiply_22 : decode b_Mo_multiply 22 = .ok (.ifCond .le 4, 3) := by decide +kernel
theorem d_Mo_multiply_25 : decode b_Mo_multiply 25 = .ok (.return_, 1) := by decide +kernel
theorem d_Mo_multiply_26 : decode b_Mo_multiply 26 = .ok (.aload_n 0, 1) := by decide +kernel
theorem d_Mo_multiply_27 : decode b_Mo_multiply 27 = .ok (.bipush 32, 2) := by decide +kernel
theorem d_Mo_multiply_29 : decode b_Mo_multiply 29 = .ok (.iload_n 2, 1) := by decide +kernel
theorem d_Mo_multiply_30 : decode b_Mo_multiply 30 = .ok (.iload_n 3, 1) := by decide +kernel
theorem d_Mo_multiply_31 : decode b_Mo_multiply 31 = .ok (.invokevirtual 92, 3) := by decide +kernel
theorem d_Mo_multiply_34 : decode b_Mo_multiply 34 = .ok (.aload_n 0, 1) := by decide +kernel
theorem d_Mo_multiply_35 : decode b_Mo_multiply 35 = .ok (.bipush 34, 2) := by decide +kernel
theorem d_Mo_multiply_37 : decode b_Mo_multiply 37 = .ok (.bipush 16, 2) := by decide +kernel
theorem d_Mo_multiply_39 : decode b_Mo_multiply 39 = .ok (.iload_n 2, 1) := by decide +kernel
theorem d_Mo_multiply_40 : decode b_Mo_multiply 40 = .ok (.iadd, 1) := by decide +kernel
theorem d_Mo_multiply_41 : decode b_Mo_multiply 41 = .ok (.bipush 16, 2) := by decide +kernel
theorem d_Mo_multiply_43 : decode b_Mo_multiply 43 = .ok (.iload_n 3, 1) := by decide +kernel
theorem d_Mo_multiply_44 : decode b_Mo_multiply 44 = .ok (.iadd, 1) := by decide +kernel
theorem d_Mo_multiply_45 : decode b_Mo_multiply 45 = .ok (.invokevirtual 92, 3) := by decide +kernel
theorem d_Mo_multiply_48 : decode b_Mo_multiply 48 = .ok (.aload_n 0, 1) := by decide +kernel
theorem d_Mo_multiply_49 : decode b_Mo_multiply 49 = .ok (.aload_n 0, 1) := by decide +kernel
theorem d_Mo_multiply_50 : decode b_Mo_multiply 50 = .ok (.iload_n 1, 1) := by decide +kernel
theorem d_Mo_multiply_51 : decode b_Mo_multiply 51 = .ok (.aload_n 0, 1) := by decide +kernel
theorem d_Mo_multiply_52 : decode b_Mo_multiply 52 = .ok (.getfield 16, 3) := by decide +kernel
theorem d_Mo_multiply_55 : decode b_Mo_multiply 55 = .ok (.iload_n 2, 1) := by decide +kernel
theorem d_Mo_multiply_56 : decode b_Mo_multiply 56 = .ok (.iaload, 1) := by decide +kernel
theorem d_Mo_multiply_57 : decode b_Mo_multiply 57 = .ok (.aload_n 0, 1) := by decide +kernel
theorem d_Mo_multiply_58 : decode b_Mo_multiply 58 = .ok (.getfield 16, 3) := by decide +kernel
theorem d_Mo_multiply_61 : decode b_Mo_multiply 61 = .ok (.iload_n 3, 1) := by decide +kernel
theorem d_Mo_multiply_62 : decode b_Mo_multiply 62 = .ok (.iaload, 1) := by decide +kernel
theorem d_Mo_multiply_63 : decode b_Mo_multiply 63 = .ok (.imul, 1) := by decide +kernel
theorem d_Mo_multiply_64 : decode b_Mo_multiply 64 = .ok (.invokevirtual 77, 3) := by decide +kernel
theorem d_Mo_multiply_67 : decode b_Mo_multiply 67 = .ok (.ifCond .eq 7, 3) := by decide +kernel
theorem d_Mo_multiply_70 : decode b_Mo_multiply 70 = .ok (.iconst 0, 1) := by decide +kernel
theorem d_Mo_multiply_71 : decode b_Mo_multiply 71 = .ok (.goto 4, 3) := by decide +kernel
theorem d_Mo_multiply_74 : decode b_Mo_multiply 74 = .ok (.iconst 2, 1) := by decide +kernel
theorem d_Mo_multiply_75 : decode b_Mo_multiply 75 = .ok (.putfield 30, 3) := by decide +kernel
theorem d_Mo_multiply_78 : decode b_Mo_multiply 78 = .ok (.return_, 1) := by decide +kernel
theorem d_Mo_divide_0 : decode b_Mo_divide 0 = .ok (.aload_n 0, 1) := by decide +kernel
theorem d_Mo_divide_1 : decode b_Mo_divide 1 = .ok (.iload_n 1, 1) := by decide +kernel
theorem d_Mo_divide_2 : decode b_Mo_divide 2 = .ok (.iload_n 2, 1) := by decide +kernel
theorem d_Mo_divide_3 : decode b_Mo_divide 3 = .ok (.iload_n 3, 1) := by decide +kernel
theorem d_Mo_divide_4 : decode b_Mo_divide 4 = .ok (.invokestatic 104, 3) := by decide +kernel
theorem d_Mo_divide_7 : decode b_Mo_divide 7 = .ok (.ifCond .ne 7, 3) := by decide +kernel
theorem d_Mo_divide_10 : decode b_Mo_divide 10 = .ok (.iconst 1, 1) := by decide +kernel
theorem d_Mo_divide_11 : decode b_Mo_divide 11 = .ok (.goto 17, 3) := by decide +kernel
theorem d_Mo_divide_14 : decode b_Mo_divide 14 = .ok (.aload_n 0, 1) := by decide +kernel
theorem d_Mo_divide_15 : decode b_Mo_divide 15 = .ok (.getfield 16, 3) := by decide +kernel
theorem d_Mo_divide_18 : decode b_Mo_divide 18 = .ok (.iload_n 3, 1) := by decide +kernel
theorem d_Mo_divide_19 : decode b_Mo_divide 19 = .ok (.iaload, 1) := by decide +kernel
theorem d_Mo_divide_20 : decode b_Mo_divide 20 = .ok (.ifCond .ne 7, 3) := by decide +kernel
theorem d_Mo_divide_23 : decode b_Mo_divide 23 = .ok (.iconst 2, 1) := by decide +kernel
theorem d_Mo_divide_24 : decode b_Mo_divide 24 = .ok (.goto 4, 3) := by decide +kernel
theorem d_Mo_divide_27 : decode b_Mo_divide 27 = .ok (.iconst 0, 1) := by decide +kernel
theorem d_Mo_divide_28 : decode b_Mo_divide 28 = .ok (.putfield 30, 3) := by decide +kernel
theorem d_Mo_divide_31 : decode b_Mo_divide 31 = .ok (.aload_n 0, 1) := by decide +kernel
theorem d_Mo_divide_32 : decode b_Mo_divide 32 = .ok (.getfield 30, 3) := by decide +kernel
theorem d_Mo_divide_35 : decode b_Mo_divide 35 = .ok (.ifCond .le 4, 3) := by decide +kernel
theorem d_Mo_divide_38 : decode b_Mo_divide 38 = .ok (.return_, 1) := by decide +kernel
theorem d_Mo_divide_39 : decode b_Mo_divide 39 = .ok (.aload_n 0, 1) := by decide +kernel
theorem d_Mo_divide_40 : decode b_Mo_divide 40 = .ok (.bipush 32, 2) := by decide +kernel
theorem d_Mo_divide_42 : decode b_Mo_divide 42 = .ok (.iload_n 2, 1) := by decide +kernel
theorem d_Mo_divide_43 : decode b_Mo_divide 43 = .ok (.bipush 16, 2) := by decide +kernel
theorem d_Mo_divide_45 : decode b_Mo_divide 45 = .ok (.iload_n 3, 1) := by decide +kernel
theorem d_Mo_divide_46 : decode b_Mo_divide 46 = .ok (.iadd, 1) := by decide +kernel
theorem d_Mo_divide_47 : decode b_Mo_divide 47 = .ok (.invokevirtual 92, 3) := by decide +kernel
theorem d_Mo_divide_50 : decode b_Mo_divide 50 = .ok (.aload_n 0, 1) := by decide +kernel
theorem d_Mo_divide_51 : decode b_Mo_divide 51 = .ok (.bipush 34, 2) := by decide +kernel
theorem d_Mo_divide_53 : decode b_Mo_divide 53 = .ok (.bipush 16, 2) := by decide +kernel
theorem d_Mo_divide_55 : decode b_Mo_divide 55 = .ok (.iload_n 2, 1) := by decide +kernel
theorem d_Mo_divide_56 : decode b_Mo_divide 56 = .ok (.iadd, 1) := by decide +kernel
theorem d_Mo_divide_57 : decode b_Mo_divide 57 = .ok (.iload_n 3, 1) := by decide +kernel
theorem d_Mo_divide_58 : decode b_Mo_divide 58 = .ok (.invokevirtual 92, 3) := by decide +kernel
theorem d_Mo_divide_61 : decode b_Mo_divide 61 = .ok (.aload_n 0, 1) := by decide +kernel
theorem d_Mo_divide_62 : decode b_Mo_divide 62 = .ok (.aload_n 0, 1) := by decide +kernel
theorem d_Mo_divide_63 : decode b_Mo_divide 63 = .ok (.iload_n 1, 1) := by decide +kernel
theorem d_Mo_divide_64 : decode b_Mo_divide 64 = .ok (.aload_n 0, 1) := by decide +kernel
theorem d_Mo_divide_65 : decode b_Mo_divide 65 = .ok (.getfield 16, 3) := by decide +kernel
theorem d_Mo_divide_68 : decode b_Mo_divide 68 = .ok (.iload_n 2, 1) := by decide +kernel
theorem d_Mo_divide_69 : decode b_Mo_divide 69 = .ok (.iaload, 1) := by decide +kernel
theorem d_Mo_divide_70 : decode b_Mo_divide 70 = .ok (.aload_n 0, 1) := by decide +kernel
theorem d_Mo_divide_71 : decode b_Mo_divide 71 = .ok (.getfield 16, 3) := by decide +kernel
theorem d_Mo_divide_74 : decode b_Mo_divide 74 = .ok (.iload_n 3, 1) := by decide +kernel
theorem d_Mo_divide_75 : decode b_Mo_divide 75 = .ok (.iaload, 1) := by decide +kernel
theorem d_Mo_divide_76 : decode b_Mo_divide 76 = .ok (.imul, 1) := by decide +kernel
theorem d_Mo_divide_77 : decode b_Mo_divide 77 = .ok (.invokevirtual 77, 3) := by decide +kernel
theorem d_Mo_divide_80 : decode b_Mo_divide 80 = .ok (.ifCond .eq 7, 3) := by decide +kernel
theorem d_Mo_divide_83 : decode b_Mo_divide 83 = .ok (.iconst 0, 1) := by decide +kernel
theorem d_Mo_divide_84 : decode b_Mo_divide 84 = .ok (.goto 4, 3) := by decide +kernel
theorem d_Mo_divide_87 : decode b_Mo_divide 87 = .ok (.iconst 3, 1) := by decide +kernel
theorem d_Mo_divide_88 : decode b_Mo_divide 88 = .ok (.putfield 30, 3) := by decide +kernel
theorem d_Mo_divide_91 : decode b_Mo_divide 91 = .ok (.return_, 1) := by decide +kernel
theorem d_Mo_power_0 : decode b_Mo_power 0 = .ok (.aload_n 0, 1) := by decide +kernel
theorem d_Mo_power_1 : decode b_Mo_power 1 = .ok (.iload_n 1, 1) := by decide +kernel
theorem d_Mo_power_2 : decode b_Mo_power 2 = .ok (.invokestatic 74, 3) := by decide +kernel
theorem d_Mo_power_5 : decode b_Mo_power 5 = .ok (.ifCond .eq 26, 3) := by decide +kernel
theorem d_Mo_power_8 : decode b_Mo_power 8 = .ok (.iload_n 2, 1) := by decide +kernel
theorem d_Mo_power_9 : decode b_Mo_power 9 = .ok (.invokestatic 74, 3) := by decide +kernel
theorem d_Mo_power_12 : decode b_Mo_power 12 = .ok (.ifCond .eq 19, 3) := by decide +kernel
theorem d_Mo_power_15 : decode b_Mo_power 15 = .ok (.iload_n 3, 1) := by decide +kernel
theorem d_Mo_power_16 : decode b_Mo_power 16 = .ok (.i2l, 1) := by decide +kernel
theorem d_Mo_power_17 : decode b_Mo_power 17 = .ok (.lconst 0, 1) := by decide +kernel
theorem d_Mo_power_18 : decode b_Mo_power 18 = .ok (.ldc2_w 110, 3) := by decide +kernel
theorem d_Mo_power_21 : decode b_Mo_power 21 = .ok (.invokestatic 83, 3) := by decide +kernel
theorem d_Mo_power_24 : decode b_Mo_power 24 = .ok (.ifCond .eq 7, 3) := by decide +kernel
theorem d_Mo_power_27 : decode b_Mo_power 27 = .ok (.iconst 0, 1) := by decide +kernel
theorem d_Mo_power_28 : decode b_Mo_power 28 = .ok (.goto 4, 3) := by decide +kernel
theorem d_Mo_power_31 : decode b_Mo_power 31 = .ok (.iconst 1, 1) := by decide +kernel
theorem d_Mo_power_32 : decode b_Mo_power 32 = .ok (.putfield 30, 3) := by decide +kernel
theorem d_Mo_power_35 : decode b_Mo_power 35 = .ok (.aload_n 0, 1) := by decide +kernel
theorem d_Mo_power_36 : decode b_Mo_power 36 = .ok (.getfield 30, 3) := by decide +kernel
theorem d_Mo_power_39 : decode b_Mo_power 39 = .ok (.ifCond .le 4, 3) := by decide +kernel
theorem d_Mo_power_42 : decode b_Mo_power 42 = .ok (.return_, 1) := by decide +kernel
theorem d_Mo_power_43 : decode b_Mo_power 43 = .ok (.aload_n 0, 1) := by decide +kernel
theorem d_Mo_power_44 : decode b_Mo_power 44 = .ok (.bipush 32, 2) := by decide +kernel
theorem d_Mo_power_46 : decode b_Mo_power 46 = .ok (.lconst 1, 1) := by decide +kernel
theorem d_Mo_power_47 : decode b_Mo_power 47 = .ok (.invokevirtual 26, 3) := by decide +kernel
theorem d_Mo_power_50 : decode b_Mo_power 50 = .ok (.aload_n 0, 1) := by decide +kernel
theorem d_Mo_power_51 : decode b_Mo_power 51 = .ok (.bipush 34, 2) := by decide +kernel
theorem d_Mo_power_53 : decode b_Mo_power 53 = .ok (.lconst 1, 1) := by decide +kernel
theorem d_Mo_power_54 : decode b_Mo_power 54 = .ok (.invokevirtual 26, 3) := by decide +kernel
theorem d_Mo_power_57 : decode b_Mo_power 57 = .ok (.iconst 0, 1) := by decide +kernel
theorem d_Mo_power_58 : decode b_Mo_power 58 = .ok (.istore 4, 2) := by decide +kernel
theorem d_Mo_power_60 : decode b_Mo_power 60 = .ok (.iload 4, 2) := by decide +kernel
theorem d_Mo_power_62 : decode b_Mo_power 62 = .ok (.iload_n 3, 1) := by decide +kernel
theorem d_Mo_power_63 : decode b_Mo_power 63 = .ok (.if_icmp .ge 76, 3) := by decide +kernel
theorem d_Mo_power_66 : decode b_Mo_power 66 = .ok (.aload_n 0, 1) := by decide +kernel
theorem d_Mo_power_67 : decode b_Mo_power 67 = .ok (.bipush 35, 2) := by decide +kernel
theorem d_Mo_power_69 : decode b_Mo_power 69 = .ok (.bipush 32, 2) := by decide +kernel
theorem d_Mo_power_71 : decode b_Mo_power 71 = .ok (.iload_n 2, 1) := by decide +kernel
theorem d_Mo_power_72 : decode b_Mo_power 72 = .ok (.invokevirtual 92, 3) := by decide +kernel
theorem d_Mo_power_75 : decode b_Mo_power 75 = .ok (.aload_n 0, 1) := by decide +kernel
theorem d_Mo_power_76 : decode b_Mo_power 76 = .ok (.bipush 32, 2) := by decide +kernel
theorem d_Mo_power_78 : decode b_Mo_power 78 = .ok (.bipush 35, 2) := by decide +kernel
theorem d_Mo_power_80 : decode b_Mo_power 80 = .ok (.invokevirtual 58, 3) := by decide +kernel
theorem d_Mo_power_83 : decode b_Mo_power 83 = .ok (.aload_n 0, 1) := by decide +kernel
theorem d_Mo_power_84 : decode b_Mo_power 84 = .ok (.bipush 35, 2) := by decide +kernel
theorem d_Mo_power_86 : decode b_Mo_power 86 = .ok (.bipush 34, 2) := by decide +kernel
theorem d_Mo_power_88 : decode b_Mo_power 88 = .ok (.bipush 16, 2) := by decide +kernel
theorem d_Mo_power_90 : decode b_Mo_power 90 = .ok (.iload_n 2, 1) := by decide +kernel
theorem d_Mo_power_91 : decode b_Mo_power 91 = .ok (.iadd, 1) := by decide +kernel
theorem d_Mo_power_92 : decode b_Mo_power 92 = .ok (.invokevirtual 92, 3) := by decide +kernel
theorem d_Mo_power_95 : decode b_Mo_power 95 = .ok (.aload_n 0, 1) := by decide +kernel
theorem d_Mo_power_96 : decode b_Mo_power 96 = .ok (.bipush 34, 2) := by decide +kernel
theorem d_Mo_power_98 : decode b_Mo_power 98 = .ok (.bipush 35, 2) := by decide +kernel
theorem d_Mo_power_100 : decode b_Mo_power 100 = .ok (.invokevirtual 58, 3) := by decide +kernel
theorem d_Mo_power_103 : decode b_Mo_power 103 = .ok (.aload_n 0, 1) := by decide +kernel
theorem d_Mo_power_104 : decode b_Mo_power 104 = .ok (.getfield 13, 3) := by decide +kernel
theorem d_Mo_power_107 : decode b_Mo_power 107 = .ok (.bipush 32, 2) := by decide +kernel
theorem d_Mo_power_109 : decode b_Mo_power 109 = .ok (.iaload, 1) := by decide +kernel
theorem d_Mo_power_110 : decode b_Mo_power 110 = .ok (.bipush 45, 2) := by decide +kernel
theorem d_Mo_power_112 : decode b_Mo_power 112 = .ok (.if_icmp .gt 15, 3) := by decide +kernel
theorem d_Mo_power_115 : decode b_Mo_power 115 = .ok (.aload_n 0, 1) := by decide +kernel
theorem d_Mo_power_116 : decode b_Mo_power 116 = .ok (.getfield 13, 3) := by decide +kernel
theorem d_Mo_power_119 : decode b_Mo_power 119 = .ok (.bipush 34, 2) := by decide +kernel
theorem d_Mo_power_121 : decode b_Mo_power 121 = .ok (.iaload, 1) := by decide +kernel
theorem d_Mo_power_122 : decode b_Mo_power 122 = .ok (.bipush 45, 2) := by decide +kernel
theorem d_Mo_power_124 : decode b_Mo_power 124 = .ok (.if_icmp .le 9, 3) := by decide +kernel
theorem d_Mo_power_127 : decode b_Mo_power 127 = .ok (.aload_n 0, 1) := by decide +kernel
theorem d_Mo_power_128 : decode b_Mo_power 128 = .ok (.iconst 2, 1) := by decide +kernel
theorem d_Mo_power_129 : decode b_Mo_power 129 = .ok (.putfield 30, 3) := by decide +kernel
theorem d_Mo_power_132 : decode b_Mo_power 132 = .ok (.return_, 1) := by decide +kernel
theorem d_Mo_power_133 : decode b_Mo_power 133 = .ok (.iinc 4 1, 3) := by decide +kernel
theorem d_Mo_power_136 : decode b_Mo_power 136 = .ok (.goto (-76), 3) := by decide +kernel
theorem d_Mo_power_139 : decode b_Mo_power 139 = .ok (.aload_n 0, 1) := by decide +kernel
theorem d_Mo_power_140 : decode b_Mo_power 140 = .ok (.aload_n 0, 1) := by decide +kernel
theorem d_Mo_power_141 : decode b_Mo_power 141 = .ok (.iload_n 1, 1) := by decide +kernel
theorem d_Mo_power_142 : decode b_Mo_power 142 = .ok (.aload_n 0, 1) := by decide +kernel
theorem d_Mo_power_143 : decode b_Mo_power 143 = .ok (.getfield 16, 3) := by decide +kernel
theorem d_Mo_power_146 : decode b_Mo_power 146 = .ok (.iload_n 2, 1) := by decide +kernel
theorem d_Mo_power_147 : decode b_Mo_power 147 = .ok (.iaload, 1) := by decide +kernel
theorem d_Mo_power_148 : decode b_Mo_power 148 = .ok (.ifCond .ge 14, 3) := by decide +kernel
theorem d_Mo_power_151 : decode b_Mo_power 151 = .ok (.iload_n 3, 1) := by decide +kernel
theorem d_Mo_power_152 : decode b_Mo_power 152 = .ok (.iconst 2, 1) := by decide +kernel
theorem d_Mo_power_153 : decode b_Mo_power 153 = .ok (.irem, 1) := by decide +kernel
theorem d_Mo_power_154 : decode b_Mo_power 154 = .ok (.iconst 1, 1) := by decide +kernel
theorem d_Mo_power_155 : decode b_Mo_power 155 = .ok (.if_icmp .ne 7, 3) := by decide +kernel
theorem d_Mo_power_158 : decode b_Mo_power 158 = .ok (.iconst (-1), 1) := by decide +kernel
theorem d_Mo_power_159 : decode b_Mo_power 159 = .ok (.goto 4, 3) := by decide +kernel
theorem d_Mo_power_162 : decode b_Mo_power 162 = .ok (.iconst 1, 1) := by decide +kernel
theorem d_Mo_power_163 : decode b_Mo_power 163 = .ok (.invokevirtual 77, 3) := by decide +kernel
theorem d_Mo_power_166 : decode b_Mo_power 166 = .ok (.ifCond .eq 7, 3) := by decide +kernel
theorem d_Mo_power_169 : decode b_Mo_power 169 = .ok (.iconst 0, 1) := by decide +kernel
theorem d_Mo_power_170 : decode b_Mo_power 170 = .ok (.goto 4, 3) := by decide +kernel
theorem d_Mo_power_173 : decode b_Mo_power 173 = .ok (.iconst 2, 1) := by decide +kernel
theorem d_Mo_power_174 : decode b_Mo_power 174 = .ok (.putfield 30, 3) := by decide +kernel
theorem d_Mo_power_177 : decode b_Mo_power 177 = .ok (.return_, 1) := by decide +kernel
theorem d_Mo_binomial_0 : decode b_Mo_binomial 0 = .ok (.aload_n 0, 1) := by decide +kernel
theorem d_Mo_binomial_1 : decode b_Mo_binomial 1 = .ok (.iload_n 1, 1) := by decide +kernel
theorem d_Mo_binomial_2 : decode b_Mo_binomial 2 = .ok (.invokestatic 74, 3) := by decide +kernel
theorem d_Mo_binomial_5 : decode b_Mo_binomial 5 = .ok (.ifCond .eq 19, 3) := by decide +kernel
theorem d_Mo_binomial_8 : decode b_Mo_binomial 8 = .ok (.iload_n 2, 1) := by decide +kernel
theorem d_Mo_binomial_9 : decode b_Mo_binomial 9 = .ok (.i2l, 1) := by decide +kernel
theorem d_Mo_binomial_10 : decode b_Mo_binomial 10 = .ok (.lconst 0, 1) := by decide +kernel
theorem d_Mo_binomial_11 : decode b_Mo_binomial 11 = .ok (.ldc2_w 112, 3) := by decide +kernel
theorem d_Mo_binomial_14 : decode b_Mo_binomial 14 = .ok (.invokestatic 83, 3) := by decide +kernel
theorem d_Mo_binomial_17 : decode b_Mo_binomial 17 = .ok (.ifCond .eq 7, 3) := by decide +kernel
theorem d_Mo_binomial_20 : decode b_Mo_binomial 20 = .ok (.iconst 0, 1) := by decide +kernel
theorem d_Mo_binomial_21 : decode b_Mo_binomial 21 = .ok (.goto 4, 3) := by decide +kernel
theorem d_Mo_binomial_24 : decode b_Mo_binomial 24 = .ok (.iconst 1, 1) := by decide +kernel
theorem d_Mo_binomial_25 : decode b_Mo_binomial 25 = .ok (.putfield 30, 3) := by decide +kernel
theorem d_Mo_binomial_28 : decode b_Mo_binomial 28 = .ok (.aload_n 0, 1) := by decide +kernel
theorem d_Mo_binomial_29 : decode b_Mo_binomial 29 = .ok (.getfield 30, 3) := by decide +kernel
theorem d_Mo_binomial_32 : decode b_Mo_binomial 32 = .ok (.ifCond .le 4, 3) := by decide +kernel
theorem d_Mo_binomial_35 : decode b_Mo_binomial 35 = .ok (.return_, 1) := by decide +kernel
theorem d_Mo_binomial_36 : decode b_Mo_binomial 36 = .ok (.aload_n 0, 1) := by decide +kernel
theorem d_Mo_binomial_37 : decode b_Mo_binomial 37 = .ok (.bipush 32, 2) := by decide +kernel
theorem d_Mo_binomial_39 : decode b_Mo_binomial 39 = .ok (.iload_n 3, 1) := by decide +kernel
theorem d_Mo_binomial_40 : decode b_Mo_binomial 40 = .ok (.ifCond .lt 8, 3) := by decide +kernel
theorem d_Mo_binomial_43 : decode b_Mo_binomial 43 = .ok (.iload_n 3, 1) := by decide +kernel
theorem d_Mo_binomial_44 : decode b_Mo_binomial 44 = .ok (.iload_n 2, 1) := by decide +kernel
theorem d_Mo_binomial_45 : decode b_Mo_binomial 45 = .ok (.if_icmp .le 7, 3) := by decide +kernel
theorem d_Mo_binomial_48 : decode b_Mo_binomial 48 = .ok (.lconst 0, 1) := by decide +kernel
theorem d_Mo_binomial_49 : decode b_Mo_binomial 49 = .ok (.goto 4, 3) := by decide +kernel
theorem d_Mo_binomial_52 : decode b_Mo_binomial 52 = .ok (.lconst 1, 1) := by decide +kernel
theorem d_Mo_binomial_53 : decode b_Mo_binomial 53 = .ok (.invokevirtual 26, 3) := by decide +kernel
theorem d_Mo_binomial_56 : decode b_Mo_binomial 56 = .ok (.iload_n 3, 1) := by decide +kernel
theorem d_Mo_binomial_57 : decode b_Mo_binomial 57 = .ok (.iload_n 2, 1) := by decide +kernel
theorem d_Mo_binomial_58 : decode b_Mo_binomial 58 = .ok (.iload_n 3, 1) := by decide +kernel
theorem d_Mo_binomial_59 : decode b_Mo_binomial 59 = .ok (.isub, 1) := by decide +kernel
theorem d_Mo_binomial_60 : decode b_Mo_binomial 60 = .ok (.if_icmp .le 9, 3) := by decide +kernel
theorem d_Mo_binomial_63 : decode b_Mo_binomial 63 = .ok (.iload_n 2, 1) := by decide +kernel
theorem d_Mo_binomial_64 : decode b_Mo_binomial 64 = .ok (.iload_n 3, 1) := by decide +kernel
theorem d_Mo_binomial_65 : decode b_Mo_binomial 65 = .ok (.isub, 1) := by decide +kernel
theorem d_Mo_binomial_66 : decode b_Mo_binomial 66 = .ok (.goto 4, 3) := by decide +kernel
theorem d_Mo_binomial_69 : decode b_Mo_binomial 69 = .ok (.iload_n 3, 1) := by decide +kernel
theorem d_Mo_binomial_70 : decode b_Mo_binomial 70 = .ok (.istore 4, 2) := by decide +kernel
theorem d_Mo_binomial_72 : decode b_Mo_binomial 72 = .ok (.iconst 0, 1) := by decide +kernel
theorem d_Mo_binomial_73 : decode b_Mo_binomial 73 = .ok (.istore 5, 2) := by decide +kernel
theorem d_Mo_binomial_75 : decode b_Mo_binomial 75 = .ok (.iload 5, 2) := by decide +kernel
theorem d_Mo_binomial_77 : decode b_Mo_binomial 77 = .ok (.iload 4, 2) := by decide +kernel
theorem d_Mo_binomial_79 : decode b_Mo_binomial 79 = .ok (.if_icmp .ge 39, 3) := by decide +kernel
theorem d_Mo_binomial_82 : decode b_Mo_binomial 82 = .ok (.iload_n 3, 1) := by decide +kernel
theorem d_Mo_binomial_83 : decode b_Mo_binomial 83 = .ok (.iload_n 2, 1) := by decide +kernel
theorem d_Mo_binomial_84 : decode b_Mo_binomial 84 = .ok (.if_icmp .gt 34, 3) := by decide +kernel
theorem d_Mo_binomial_87 : decode b_Mo_binomial 87 = .ok (.aload_n 0, 1) := by decide +kernel
theorem d_Mo_binomial_88 : decode b_Mo_binomial 88 = .ok (.bipush 32, 2) := by decide +kernel
theorem d_Mo_binomial_90 : decode b_Mo_binomial 90 = .ok (.iload_n 2, 1) := by decide +kernel
theorem d_Mo_binomial_91 : decode b_Mo_binomial 91 = .ok (.iload 5, 2) := by decide +kernel
theorem d_Mo_binomial_93 : decode b_Mo_binomial 93 = .ok (.isub, 1) := by decide +kernel
theorem d_Mo_binomial_94 : decode b_Mo_binomial 94 = .ok (.i2l, 1) := by decide +kernel
theorem d_Mo_binomial_95 : decode b_Mo_binomial 95 = .ok (.lconst 0, 1) := by decide +kernel
theorem d_Mo_binomial_96 : decode b_Mo_binomial 96 = .ok (.invokevirtual 46, 3) := by decide +kernel
theorem d_Mo_binomial_99 : decode b_Mo_binomial 99 = .ok (.aload_n 0, 1) := by decide +kernel
theorem d_Mo_binomial_100 : decode b_Mo_binomial 100 = .ok (.bipush 32, 2) := by decide +kernel
theorem d_Mo_binomial_102 : decode b_Mo_binomial 102 = .ok (.iload 5, 2) := by decide +kernel
theorem d_Mo_binomial_104 : decode b_Mo_binomial 104 = .ok (.i2l, 1) := by decide +kernel
theorem d_Mo_binomial_105 : decode b_Mo_binomial 105 = .ok (.lconst 1, 1) := by decide +kernel
theorem d_Mo_binomial_106 : decode b_Mo_binomial 106 = .ok (.ladd, 1) := by decide +kernel
theorem d_Mo_binomial_107 : decode b_Mo_binomial 107 = .ok (.invokevirtual 114, 3) := by decide +kernel
theorem d_Mo_binomial_110 : decode b_Mo_binomial 110 = .ok (.lstore 6, 2) := by decide +kernel
theorem d_Mo_binomial_112 : decode b_Mo_binomial 112 = .ok (.iinc 5 1, 3) := by decide +kernel
theorem d_Mo_binomial_115 : decode b_Mo_binomial 115 = .ok (.goto (-40), 3) := by decide +kernel
theorem d_Mo_binomial_118 : decode b_Mo_binomial 118 = .ok (.aload_n 0, 1) := by decide +kernel
theorem d_Mo_binomial_119 : decode b_Mo_binomial 119 = .ok (.bipush 34, 2) := by decide +kernel
theorem d_Mo_binomial_121 : decode b_Mo_binomial 121 = .ok (.lconst 1, 1) := by decide +kernel
theorem d_Mo_binomial_122 : decode b_Mo_binomial 122 = .ok (.invokevirtual 26, 3) := by decide +kernel
theorem d_Mo_binomial_125 : decode b_Mo_binomial 125 = .ok (.aload_n 0, 1) := by decide +kernel
theorem d_Mo_binomial_126 : decode b_Mo_binomial 126 = .ok (.aload_n 0, 1) := by decide +kernel
theorem d_Mo_binomial_127 : decode b_Mo_binomial 127 = .ok (.iload_n 1, 1) := by decide +kernel
theorem d_Mo_binomial_128 : decode b_Mo_binomial 128 = .ok (.iconst 1, 1) := by decide +kernel
theorem d_Mo_binomial_129 : decode b_Mo_binomial 129 = .ok (.invokevirtual 77, 3) := by decide +kernel
theorem d_Mo_binomial_132 : decode b_Mo_binomial 132 = .ok (.ifCond .eq 7, 3) := by decide +kernel
theorem d_Mo_binomial_135 : decode b_Mo_binomial 135 = .ok (.iconst 0, 1) := by decide +kernel
theorem d_Mo_binomial_136 : decode b_Mo_binomial 136 = .ok (.goto 4, 3) := by decide +kernel
theorem d_Mo_binomial_139 : decode b_Mo_binomial 139 = .ok (.iconst 2, 1) := by decide +kernel
theorem d_Mo_binomial_140 : decode b_Mo_binomial 140 = .ok (.putfield 30, 3) := by decide +kernel
theorem d_Mo_binomial_143 : decode b_Mo_binomial 143 = .ok (.return_, 1) := by decide +kernel
theorem d_Mo_floor_0 : decode b_Mo_floor 0 = .ok (.aload_n 0, 1) := by decide +kernel
theorem d_Mo_floor_1 : decode b_Mo_floor 1 = .ok (.bipush 32, 2) := by decide +kernel
theorem d_Mo_floor_3 : decode b_Mo_floor 3 = .ok (.bipush 34, 2) := by decide +kernel
theorem d_Mo_floor_5 : decode b_Mo_floor 5 = .ok (.bipush 37, 2) := by decide +kernel
theorem d_Mo_floor_7 : decode b_Mo_floor 7 = .ok (.invokevirtual 65, 3) := by decide +kernel
theorem d_Mo_floor_10 : decode b_Mo_floor 10 = .ok (.aload_n 0, 1) := by decide +kernel
theorem d_Mo_floor_11 : decode b_Mo_floor 11 = .ok (.bipush 32, 2) := by decide +kernel
theorem d_Mo_floor_13 : decode b_Mo_floor 13 = .ok (.invokevirtual 61, 3) := by decide +kernel
theorem d_Mo_floor_16 : decode b_Mo_floor 16 = .ok (.ifCond .ne 7, 3) := by decide +kernel
theorem d_Mo_floor_19 : decode b_Mo_floor 19 = .ok (.iconst 1, 1) := by decide +kernel
theorem d_Mo_floor_20 : decode b_Mo_floor 20 = .ok (.goto 4, 3) := by decide +kernel
theorem d_Mo_floor_23 : decode b_Mo_floor 23 = .ok (.iconst 0, 1) := by decide +kernel
theorem d_Mo_floor_24 : decode b_Mo_floor 24 = .ok (.istore_n 3, 1) := by decide +kernel
theorem d_Mo_floor_25 : decode b_Mo_floor 25 = .ok (.aload_n 0, 1) := by decide +kernel
theorem d_Mo_floor_26 : decode b_Mo_floor 26 = .ok (.bipush 32, 2) := by decide +kernel
theorem d_Mo_floor_28 : decode b_Mo_floor 28 = .ok (.bipush 37, 2) := by decide +kernel
theorem d_Mo_floor_30 : decode b_Mo_floor 30 = .ok (.invokevirtual 58, 3) := by decide +kernel
theorem d_Mo_floor_33 : decode b_Mo_floor 33 = .ok (.iload_n 2, 1) := by decide +kernel
theorem d_Mo_floor_34 : decode b_Mo_floor 34 = .ok (.ifCond .eq 19, 3) := by decide +kernel
theorem d_Mo_floor_37 : decode b_Mo_floor 37 = .ok (.iload_n 3, 1) := by decide +kernel
theorem d_Mo_floor_38 : decode b_Mo_floor 38 = .ok (.ifCond .eq 15, 3) := by decide +kernel
theorem d_Mo_floor_41 : decode b_Mo_floor 41 = .ok (.iload_n 1, 1) := by decide +kernel
theorem d_Mo_floor_42 : decode b_Mo_floor 42 = .ok (.ifCond .ge 11, 3) := by decide +kernel
theorem d_Mo_floor_45 : decode b_Mo_floor 45 = .ok (.aload_n 0, 1) := by decide +kernel
theorem d_Mo_floor_46 : decode b_Mo_floor 46 = .ok (.bipush 32, 2) := by decide +kernel
theorem d_Mo_floor_48 : decode b_Mo_floor 48 = .ok (.lconst 1, 1) := by decide +kernel
theorem d_Mo_floor_49 : decode b_Mo_floor 49 = .ok (.lconst 1, 1) := by decide +kernel
theorem d_Mo_floor_50 : decode b_Mo_floor 50 = .ok (.invokevirtual 46, 3) := by decide +kernel
theorem d_Mo_floor_53 : decode b_Mo_floor 53 = .ok (.return_, 1) := by decide +kernel
theorem d_Mo_units_0 : decode b_Mo_units 0 = .ok (.aload_n 0, 1) := by decide +kernel
theorem d_Mo_units_1 : decode b_Mo_units 1 = .ok (.bipush 34, 2) := by decide +kernel
theorem d_Mo_units_3 : decode b_Mo_units 3 = .ok (.lconst 1, 1) := by decide +kernel
theorem d_Mo_units_4 : decode b_Mo_units 4 = .ok (.invokevirtual 26, 3) := by decide +kernel
theorem d_Mo_units_7 : decode b_Mo_units 7 = .ok (.aload_n 0, 1) := by decide +kernel
theorem d_Mo_units_8 : decode b_Mo_units 8 = .ok (.bipush 34, 2) := by decide +kernel
theorem d_Mo_units_10 : decode b_Mo_units 10 = .ok (.iload_n 3, 1) := by decide +kernel
theorem d_Mo_units_11 : decode b_Mo_units 11 = .ok (.invokevirtual 118, 3) := by decide +kernel
theorem d_Mo_units_14 : decode b_Mo_units 14 = .ok (.aload_n 0, 1) := by decide +kernel
theorem d_Mo_units_15 : decode b_Mo_units 15 = .ok (.iload_n 1, 1) := by decide +kernel
theorem d_Mo_units_16 : decode b_Mo_units 16 = .ok (.iload_n 2, 1) := by decide +kernel
theorem d_Mo_units_17 : decode b_Mo_units 17 = .ok (.invokevirtual 77, 3) := by decide +kernel
theorem d_Mo_units_20 : decode b_Mo_units 20 = .ok (.ireturn, 1) := by decide +kernel
theorem d_Mo_round_0 : decode b_Mo_round 0 = .ok (.aload_n 0, 1) := by decide +kernel
theorem d_Mo_round_1 : decode b_Mo_round 1 = .ok (.iload_n 1, 1) := by decide +kernel
theorem d_Mo_round_2 : decode b_Mo_round 2 = .ok (.invokestatic 74, 3) := by decide +kernel
theorem d_Mo_round_5 : decode b_Mo_round 5 = .ok (.ifCond .eq 39, 3) := by decide +kernel
theorem d_Mo_round_8 : decode b_Mo_round 8 = .ok (.iload_n 2, 1) := by decide +kernel
theorem d_Mo_round_9 : decode b_Mo_round 9 = .ok (.invokestatic 74, 3) := by decide +kernel
theorem d_Mo_round_12 : decode b_Mo_round 12 = .ok (.ifCond .eq 32, 3) := by decide +kernel
theorem d_Mo_round_15 : decode b_Mo_round 15 = .ok (.iload_n 3, 1) := by decide +kernel
theorem d_Mo_round_16 : decode b_Mo_round 16 = .ok (.i2l, 1) := by decide +kernel
theorem d_Mo_round_17 : decode b_Mo_round 17 = .ok (.lconst 0, 1) := by decide +kernel
theorem d_Mo_round_18 : decode b_Mo_round 18 = .ok (.ldc2_w 121, 3) := by decide +kernel
theorem d_Mo_round_21 : decode b_Mo_round 21 = .ok (.invokestatic 83, 3) := by decide +kernel
theorem d_Mo_round_24 : decode b_Mo_round 24 = .ok (.ifCond .eq 20, 3) := by decide +kernel
theorem d_Mo_round_27 : decode b_Mo_round 27 = .ok (.iload 4, 2) := by decide +kernel
theorem d_Mo_round_29 : decode b_Mo_round 29 = .ok (.i2l, 1) := by decide +kernel
theorem d_Mo_round_30 : decode b_Mo_round 30 = .ok (.lconst 0, 1) := by decide +kernel
theorem d_Mo_round_31 : decode b_Mo_round 31 = .ok (.ldc2_w 123, 3) := by decide +kernel
theorem d_Mo_round_34 : decode b_Mo_round 34 = .ok (.invokestatic 83, 3) := by decide +kernel
theorem d_Mo_round_37 : decode b_Mo_round 37 = .ok (.ifCond .eq 7, 3) := by decide +kernel
theorem d_Mo_round_40 : decode b_Mo_round 40 = .ok (.iconst 0, 1) := by decide +kernel
theorem d_Mo_round_41 : decode b_Mo_round 41 = .ok (.goto 4, 3) := by decide +kernel
theorem d_Mo_round_44 : decode b_Mo_round 44 = .ok (.iconst 1, 1) := by decide +kernel
theorem d_Mo_round_45 : decode b_Mo_round 45 = .ok (.putfield 30, 3) := by decide +kernel
theorem d_Mo_round_48 : decode b_Mo_round 48 = .ok (.aload_n 0, 1) := by decide +kernel
theorem d_Mo_round_49 : decode b_Mo_round 49 = .ok (.getfield 30, 3) := by decide +kernel
theorem d_Mo_round_52 : decode b_Mo_round 52 = .ok (.ifCond .le 4, 3) := by decide +kernel
theorem d_Mo_round_55 : decode b_Mo_round 55 = .ok (.return_, 1) := by decide +kernel
theorem d_Mo_round_56 : decode b_Mo_round 56 = .ok (.aload_n 0, 1) := by decide +kernel
theorem d_Mo_round_57 : decode b_Mo_round 57 = .ok (.getfield 16, 3) := by decide +kernel
theorem d_Mo_round_60 : decode b_Mo_round 60 = .ok (.iload_n 2, 1) := by decide +kernel
theorem d_Mo_round_61 : decode b_Mo_round 61 = .ok (.iaload, 1) := by decide +kernel
theorem d_Mo_round_62 : decode b_Mo_round 62 = .ok (.istore 5, 2) := by decide +kernel
theorem d_Mo_round_64 : decode b_Mo_round 64 = .ok (.aload_n 0, 1) := by decide +kernel
theorem d_Mo_round_65 : decode b_Mo_round 65 = .ok (.bipush 32, 2) := by decide +kernel
theorem d_Mo_round_67 : decode b_Mo_round 67 = .ok (.iload_n 2, 1) := by decide +kernel
theorem d_Mo_round_68 : decode b_Mo_round 68 = .ok (.invokevirtual 58, 3) := by decide +kernel
theorem d_Mo_round_71 : decode b_Mo_round 71 = .ok (.aload_n 0, 1) := by decide +kernel
theorem d_Mo_round_72 : decode b_Mo_round 72 = .ok (.bipush 32, 2) := by decide +kernel
theorem d_Mo_round_74 : decode b_Mo_round 74 = .ok (.iload_n 3, 1) := by decide +kernel
theorem d_Mo_round_75 : decode b_Mo_round 75 = .ok (.invokevirtual 118, 3) := by decide +kernel
theorem d_Mo_round_78 : decode b_Mo_round 78 = .ok (.aload_n 0, 1) := by decide +kernel
theorem d_Mo_round_79 : decode b_Mo_round 79 = .ok (.bipush 34, 2) := by decide +kernel
theorem d_Mo_round_81 : decode b_Mo_round 81 = .ok (.bipush 16, 2) := by decide +kernel
theorem d_Mo_round_83 : decode b_Mo_round 83 = .ok (.iload_n 2, 1) := by decide +kernel
theorem d_Mo_round_84 : decode b_Mo_round 84 = .ok (.iadd, 1) := by decide +kernel
theorem d_Mo_round_85 : decode b_Mo_round 85 = .ok (.invokevirtual 58, 3) := by decide +kernel
theorem d_Mo_round_88 : decode b_Mo_round 88 = .ok (.iload 4, 2) := by decide +kernel
theorem d_Mo_round_90 : decode b_Mo_round 90 = .ok (.iconst 1, 1) := by decide +kernel
theorem d_Mo_round_91 : decode b_Mo_round 91 = .ok (.if_icmp .ne 89, 3) := by decide +kernel
theorem d_Mo_round_94 : decode b_Mo_round 94 = .ok (.aload_n 0, 1) := by decide +kernel
theorem d_Mo_round_95 : decode b_Mo_round 95 = .ok (.bipush 32, 2) := by decide +kernel
theorem d_Mo_round_97 : decode b_Mo_round 97 = .ok (.ldc2_w 123, 3) := by decide +kernel
theorem d_Mo_round_100 : decode b_Mo_round 100 = .ok (.lconst 0, 1) := by decide +kernel
theorem d_Mo_round_101 : decode b_Mo_round 101 = .ok (.invokevirtual 46, 3) := by decide +kernel
theorem d_Mo_round_104 : decode b_Mo_round 104 = .ok (.iload 5, 2) := by decide +kernel
theorem d_Mo_round_106 : decode b_Mo_round 106 = .ok (.ifCond .lt 19, 3) := by decide +kernel
theorem d_Mo_round_109 : decode b_Mo_round 109 = .ok (.aload_n 0, 1) := by decide +kernel
theorem d_Mo_round_110 : decode b_Mo_round 110 = .ok (.bipush 32, 2) := by decide +kernel
theorem d_Mo_round_112 : decode b_Mo_round 112 = .ok (.bipush 32, 2) := by decide +kernel
theorem d_Mo_round_114 : decode b_Mo_round 114 = .ok (.bipush 34, 2) := by decide +kernel
theorem d_Mo_round_116 : decode b_Mo_round 116 = .ok (.invokevirtual 95, 3) := by decide +kernel
theorem d_Mo_round_119 : decode b_Mo_round 119 = .ok (.iconst 1, 1) := by decide +kernel
theorem d_Mo_round_120 : decode b_Mo_round 120 = .ok (.istore 5, 2) := by decide +kernel
theorem d_Mo_round_122 : decode b_Mo_round 122 = .ok (.goto 48, 3) := by decide +kernel
theorem d_Mo_round_125 : decode b_Mo_round 125 = .ok (.aload_n 0, 1) := by decide +kernel
theorem d_Mo_round_126 : decode b_Mo_round 126 = .ok (.bipush 32, 2) := by decide +kernel
theorem d_Mo_round_128 : decode b_Mo_round 128 = .ok (.bipush 34, 2) := by decide +kernel
theorem d_Mo_round_130 : decode b_Mo_round 130 = .ok (.invokevirtual 98, 3) := by decide +kernel
theorem d_Mo_round_133 : decode b_Mo_round 133 = .ok (.ifCond .le 16, 3) := by decide +kernel
theorem d_Mo_round_136 : decode b_Mo_round 136 = .ok (.aload_n 0, 1) := by decide +kernel
theorem d_Mo_round_137 : decode b_Mo_round 137 = .ok (.bipush 32, 2) := by decide +kernel
theorem d_Mo_round_139 : decode b_Mo_round 139 = .ok (.bipush 32, 2) := by decide +kernel
theorem d_Mo_round_141 : decode b_Mo_round 141 = .ok (.bipush 34, 2) := by decide +kernel
theorem d_Mo_round_143 : decode b_Mo_round 143 = .ok (.invokevirtual 101, 3) := by decide +kernel
theorem d_Mo_round_146 : decode b_Mo_round 146 = .ok (.goto 24, 3) := by decide +kernel
theorem d_Mo_round_149 : decode b_Mo_round 149 = .ok (.aload_n 0, 1) := by decide +kernel
theorem d_Mo_round_150 : decode b_Mo_round 150 = .ok (.bipush 35, 2) := by decide +kernel
theorem d_Mo_round_152 : decode b_Mo_round 152 = .ok (.bipush 34, 2) := by decide +kernel
theorem d_Mo_round_154 : decode b_Mo_round 154 = .ok (.bipush 32, 2) := by decide +kernel
theorem d_Mo_round_156 : decode b_Mo_round 156 = .ok (.invokevirtual 101, 3) := by decide +kernel
theorem d_Mo_round_159 : decode b_Mo_round 159 = .ok (.aload_n 0, 1) := by decide +kernel
theorem d_Mo_round_160 : decode b_Mo_round 160 = .ok (.bipush 32, 2) := by decide +kernel
theorem d_Mo_round_162 : decode b_Mo_round 162 = .ok (.bipush 35, 2) := by decide +kernel
theorem d_Mo_round_164 : decode b_Mo_round 164 = .ok (.invokevirtual 58, 3) := by decide +kernel
theorem d_Mo_round_167 : decode b_Mo_round 167 = .ok (.iconst 1, 1) := by decide +kernel
theorem d_Mo_round_168 : decode b_Mo_round 168 = .ok (.istore 5, 2) := by decide +kernel
theorem d_Mo_round_170 : decode b_Mo_round 170 = .ok (.aload_n 0, 1) := by decide +kernel
theorem d_Mo_round_171 : decode b_Mo_round 171 = .ok (.bipush 34, 2) := by decide +kernel
theorem d_Mo_round_173 : decode b_Mo_round 173 = .ok (.ldc2_w 123, 3) := by decide +kernel
theorem d_Mo_round_176 : decode b_Mo_round 176 = .ok (.lconst 0, 1) := by decide +kernel
theorem d_Mo_round_177 : decode b_Mo_round 177 = .ok (.invokevirtual 46, 3) := by decide +kernel
theorem d_Mo_round_180 : decode b_Mo_round 180 = .ok (.aload_n 0, 1) := by decide +kernel
theorem d_Mo_round_181 : decode b_Mo_round 181 = .ok (.iload 5, 2) := by decide +kernel
theorem d_Mo_round_183 : decode b_Mo_round 183 = .ok (.iload 4, 2) := by decide +kernel
theorem d_Mo_round_185 : decode b_Mo_round 185 = .ok (.iconst 2, 1) := by decide +kernel
theorem d_Mo_round_186 : decode b_Mo_round 186 = .ok (.if_icmp .ge 7, 3) := by decide +kernel
theorem d_Mo_round_189 : decode b_Mo_round 189 = .ok (.iconst 1, 1) := by decide +kernel
theorem d_Mo_round_190 : decode b_Mo_round 190 = .ok (.goto 4, 3) := by decide +kernel
theorem d_Mo_round_193 : decode b_Mo_round 193 = .ok (.iconst 0, 1) := by decide +kernel
theorem d_Mo_round_194 : decode b_Mo_round 194 = .ok (.invokevirtual 125, 3) := by decide +kernel
theorem d_Mo_round_197 : decode b_Mo_round 197 = .ok (.aload_n 0, 1) := by decide +kernel
theorem d_Mo_round_198 : decode b_Mo_round 198 = .ok (.aload_n 0, 1) := by decide +kernel
theorem d_Mo_round_199 : decode b_Mo_round 199 = .ok (.iload_n 1, 1) := by decide +kernel
theorem d_Mo_round_200 : decode b_Mo_round 200 = .ok (.iload 5, 2) := by decide +kernel
theorem d_Mo_round_202 : decode b_Mo_round 202 = .ok (.iload_n 3, 1) := by decide +kernel
theorem d_Mo_round_203 : decode b_Mo_round 203 = .ok (.invokevirtual 129, 3) := by decide +kernel
theorem d_Mo_round_206 : decode b_Mo_round 206 = .ok (.ifCond .eq 7, 3) := by decide +kernel
theorem d_Mo_round_209 : decode b_Mo_round 209 = .ok (.iconst 0, 1) := by decide +kernel
theorem d_Mo_round_210 : decode b_Mo_round 210 = .ok (.goto 4, 3) := by decide +kernel
theorem d_Mo_round_213 : decode b_Mo_round 213 = .ok (.iconst 2, 1) := by decide +kernel
theorem d_Mo_round_214 : decode b_Mo_round 214 = .ok (.putfield 30, 3) := by decide +kernel
theorem d_Mo_round_217 : decode b_Mo_round 217 = .ok (.return_, 1) := by decide +kernel
theorem d_Mo_takeRoot_0 : decode b_Mo_takeRoot 0 = .ok (.aload_n 0, 1) := by decide +kernel
theorem d_Mo_takeRoot_1 : decode b_Mo_takeRoot 1 = .ok (.bipush 32, 2) := by decide +kernel
theorem d_Mo_takeRoot_3 : decode b_Mo_takeRoot 3 = .ok (.invokevirtual 61, 3) := by decide +kernel
theorem d_Mo_takeRoot_6 : decode b_Mo_takeRoot 6 = .ok (.ifCond .eq 4, 3) := by decide +kernel
theorem d_Mo_takeRoot_9 : decode b_Mo_takeRoot 9 = .ok (.return_, 1) := by decide +kernel
theorem d_Mo_takeRoot_10 : decode b_Mo_takeRoot 10 = .ok (.aload_n 0, 1) := by decide +kernel
theorem d_Mo_takeRoot_11 : decode b_Mo_takeRoot 11 = .ok (.bipush 32, 2) := by decide +kernel
theorem d_Mo_takeRoot_13 : decode b_Mo_takeRoot 13 = .ok (.invokevirtual 132, 3) := by decide +kernel
theorem d_Mo_takeRoot_16 : decode b_Mo_takeRoot 16 = .ok (.istore_n 1, 1) := by decide +kernel
theorem d_Mo_takeRoot_17 : decode b_Mo_takeRoot 17 = .ok (.aload_n 0, 1) := by decide +kernel
theorem d_Mo_takeRoot_18 : decode b_Mo_takeRoot 18 = .ok (.bipush 33, 2) := by decide +kernel
theorem d_Mo_takeRoot_20 : decode b_Mo_takeRoot 20 = .ok (.lconst 1, 1) := by decide +kernel
theorem d_Mo_takeRoot_21 : decode b_Mo_takeRoot 21 = .ok (.invokevirtual 26, 3) := by decide +kernel
theorem d_Mo_takeRoot_24 : decode b_Mo_takeRoot 24 = .ok (.aload_n 0, 1) := by decide +kernel
theorem d_Mo_takeRoot_25 : decode b_Mo_takeRoot 25 = .ok (.bipush 33, 2) := by decide +kernel
theorem d_Mo_takeRoot_27 : decode b_Mo_takeRoot 27 = .ok (.iload_n 1, 1) := by decide +kernel
theorem d_Mo_takeRoot_28 : decode b_Mo_takeRoot 28 = .ok (.iconst 1, 1) := by decide +kernel
theorem d_Mo_takeRoot_29 : decode b_Mo_takeRoot 29 = .ok (.iadd, 1) := by decide +kernel
theorem d_Mo_takeRoot_30 : decode b_Mo_takeRoot 30 = .ok (.iconst 2, 1) := by decide +kernel
theorem d_Mo_takeRoot_31 : decode b_Mo_takeRoot 31 = .ok (.idiv, 1) := by decide +kernel
theorem d_Mo_takeRoot_32 : decode b_Mo_takeRoot 32 = .ok (.invokevirtual 118, 3) := by decide +kernel
theorem d_Mo_takeRoot_35 : decode b_Mo_takeRoot 35 = .ok (.iconst 1, 1) := by decide +kernel
theorem d_Mo_takeRoot_36 : decode b_Mo_takeRoot 36 = .ok (.istore_n 2, 1) := by decide +kernel
theorem d_Mo_takeRoot_37 : decode b_Mo_takeRoot 37 = .ok (.iload_n 2, 1) := by decide +kernel
theorem d_Mo_takeRoot_38 : decode b_Mo_takeRoot 38 = .ok (.ifCond .eq 73, 3) := by decide +kernel
theorem d_Mo_takeRoot_41 : decode b_Mo_takeRoot 41 = .ok (.aload_n 0, 1) := by decide +kernel
theorem d_Mo_takeRoot_42 : decode b_Mo_takeRoot 42 = .ok (.bipush 35, 2) := by decide +kernel
theorem d_Mo_takeRoot_44 : decode b_Mo_takeRoot 44 = .ok (.bipush 32, 2) := by decide +kernel
theorem d_Mo_takeRoot_46 : decode b_Mo_takeRoot 46 = .ok (.invokevirtual 58, 3) := by decide +kernel
theorem d_Mo_takeRoot_49 : decode b_Mo_takeRoot 49 = .ok (.aload_n 0, 1) := by decide +kernel
theorem d_Mo_takeRoot_50 : decode b_Mo_takeRoot 50 = .ok (.bipush 35, 2) := by decide +kernel
theorem d_Mo_takeRoot_52 : decode b_Mo_takeRoot 52 = .ok (.bipush 33, 2) := by decide +kernel
theorem d_Mo_takeRoot_54 : decode b_Mo_takeRoot 54 = .ok (.bipush 37, 2) := by decide +kernel
theorem d_Mo_takeRoot_56 : decode b_Mo_takeRoot 56 = .ok (.invokevirtual 65, 3) := by decide +kernel
theorem d_Mo_takeRoot_59 : decode b_Mo_takeRoot 59 = .ok (.aload_n 0, 1) := by decide +kernel
theorem d_Mo_takeRoot_60 : decode b_Mo_takeRoot 60 = .ok (.bipush 37, 2) := by decide +kernel
theorem d_Mo_takeRoot_62 : decode b_Mo_takeRoot 62 = .ok (.bipush 37, 2) := by decide +kernel
theorem d_Mo_takeRoot_64 : decode b_Mo_takeRoot 64 = .ok (.bipush 33, 2) := by decide +kernel
theorem d_Mo_takeRoot_66 : decode b_Mo_takeRoot 66 = .ok (.invokevirtual 95, 3) := by decide +kernel
theorem d_Mo_takeRoot_69 : decode b_Mo_takeRoot 69 = .ok (.aload_n 0, 1) := by decide +kernel
theorem d_Mo_takeRoot_70 : decode b_Mo_takeRoot 70 = .ok (.bipush 37, 2) := by decide +kernel
theorem d_Mo_takeRoot_72 : decode b_Mo_takeRoot 72 = .ok (.ldc2_w 123, 3) := by decide +kernel
theorem d_Mo_takeRoot_75 : decode b_Mo_takeRoot 75 = .ok (.invokevirtual 114, 3) := by decide +kernel
theorem d_Mo_takeRoot_78 : decode b_Mo_takeRoot 78 = .ok (.lstore_n 3, 1) := by decide +kernel
theorem d_Mo_takeRoot_79 : decode b_Mo_takeRoot 79 = .ok (.aload_n 0, 1) := by decide +kernel
theorem d_Mo_takeRoot_80 : decode b_Mo_takeRoot 80 = .ok (.bipush 37, 2) := by decide +kernel
theorem d_Mo_takeRoot_82 : decode b_Mo_takeRoot 82 = .ok (.bipush 33, 2) := by decide +kernel
theorem d_Mo_takeRoot_84 : decode b_Mo_takeRoot 84 = .ok (.invokevirtual 98, 3) := by decide +kernel
theorem d_Mo_takeRoot_87 : decode b_Mo_takeRoot 87 = .ok (.ifCond .ge 7, 3) := by decide +kernel
theorem d_Mo_takeRoot_90 : decode b_Mo_takeRoot 90 = .ok (.iconst 1, 1) := by decide +kernel
theorem d_Mo_takeRoot_91 : decode b_Mo_takeRoot 91 = .ok (.goto 4, 3) := by decide +kernel
theorem d_Mo_takeRoot_94 : decode b_Mo_takeRoot 94 = .ok (.iconst 0, 1) := by decide +kernel
theorem d_Mo_takeRoot_95 : decode b_Mo_takeRoot 95 = .ok (.istore_n 2, 1) := by decide +kernel
theorem d_Mo_takeRoot_96 : decode b_Mo_takeRoot 96 = .ok (.iload_n 2, 1) := by decide +kernel
theorem d_Mo_takeRoot_97 : decode b_Mo_takeRoot 97 = .ok (.ifCond .eq 11, 3) := by decide +kernel
theorem d_Mo_takeRoot_100 : decode b_Mo_takeRoot 100 = .ok (.aload_n 0, 1) := by decide +kernel
theorem d_Mo_takeRoot_101 : decode b_Mo_takeRoot 101 = .ok (.bipush 33, 2) := by decide +kernel
theorem d_Mo_takeRoot_103 : decode b_Mo_takeRoot 103 = .ok (.bipush 37, 2) := by decide +kernel
theorem d_Mo_takeRoot_105 : decode b_Mo_takeRoot 105 = .ok (.invokevirtual 58, 3) := by decide +kernel
theorem d_Mo_takeRoot_108 : decode b_Mo_takeRoot 108 = .ok (.goto (-71), 3) := by decide +kernel
theorem d_Mo_takeRoot_111 : decode b_Mo_takeRoot 111 = .ok (.aload_n 0, 1) := by decide +kernel
theorem d_Mo_takeRoot_112 : decode b_Mo_takeRoot 112 = .ok (.bipush 32, 2) := by decide +kernel
theorem d_Mo_takeRoot_114 : decode b_Mo_takeRoot 114 = .ok (.bipush 33, 2) := by decide +kernel
theorem d_Mo_takeRoot_116 : decode b_Mo_takeRoot 116 = .ok (.invokevirtual 58, 3) := by decide +kernel
theorem d_Mo_takeRoot_119 : decode b_Mo_takeRoot 119 = .ok (.return_, 1) := by decide +kernel
theorem d_Mo_root_0 : decode b_Mo_root 0 = .ok (.aload_n 0, 1) := by decide +kernel
theorem d_Mo_root_1 : decode b_Mo_root 1 = .ok (.iload_n 1, 1) := by decide +kernel
theorem d_Mo_root_2 : decode b_Mo_root 2 = .ok (.invokestatic 74, 3) := by decide +kernel
theorem d_Mo_root_5 : decode b_Mo_root 5 = .ok (.ifCond .eq 22, 3) := by decide +kernel
theorem d_Mo_root_8 : decode b_Mo_root 8 = .ok (.iload_n 2, 1) := by decide +kernel
theorem d_Mo_root_9 : decode b_Mo_root 9 = .ok (.invokestatic 74, 3) := by decide +kernel
theorem d_Mo_root_12 : decode b_Mo_root 12 = .ok (.ifCond .eq 15, 3) := by decide +kernel
theorem d_Mo_root_15 : decode b_Mo_root 15 = .ok (.iload_n 3, 1) := by decide +kernel
theorem d_Mo_root_16 : decode b_Mo_root 16 = .ok (.i2l, 1) := by decide +kernel
theorem d_Mo_root_17 : decode b_Mo_root 17 = .ok (.lconst 0, 1) := by decide +kernel
theorem d_Mo_root_18 : decode b_Mo_root 18 = .ok (.ldc2_w 121, 3) := by decide +kernel
theorem d_Mo_root_21 : decode b_Mo_root 21 = .ok (.invokestatic 83, 3) := by decide +kernel
theorem d_Mo_root_24 : decode b_Mo_root 24 = .ok (.ifCond .ne 7, 3) := by decide +kernel
theorem d_Mo_root_27 : decode b_Mo_root 27 = .ok (.iconst 1, 1) := by decide +kernel
theorem d_Mo_root_28 : decode b_Mo_root 28 = .ok (.goto 17, 3) := by decide +kernel
theorem d_Mo_root_31 : decode b_Mo_root 31 = .ok (.aload_n 0, 1) := by decide +kernel
theorem d_Mo_root_32 : decode b_Mo_root 32 = .ok (.getfield 16, 3) := by decide +kernel
theorem d_Mo_root_35 : decode b_Mo_root 35 = .ok (.iload_n 2, 1) := by decide +kernel
theorem d_Mo_root_36 : decode b_Mo_root 36 = .ok (.iaload, 1) := by decide +kernel
theorem d_Mo_root_37 : decode b_Mo_root 37 = .ok (.ifCond .ge 7, 3) := by decide +kernel
theorem d_Mo_root_40 : decode b_Mo_root 40 = .ok (.iconst 2, 1) := by decide +kernel
theorem d_Mo_root_41 : decode b_Mo_root 41 = .ok (.goto 4, 3) := by decide +kernel
theorem d_Mo_root_44 : decode b_Mo_root 44 = .ok (.iconst 0, 1) := by decide +kernel
theorem d_Mo_root_45 : decode b_Mo_root 45 = .ok (.putfield 30, 3) := by decide +kernel
theorem d_Mo_root_48 : decode b_Mo_root 48 = .ok (.aload_n 0, 1) := by decide +kernel
theorem d_Mo_root_49 : decode b_Mo_root 49 = .ok (.getfield 30, 3) := by decide +kernel
theorem d_Mo_root_52 : decode b_Mo_root 52 = .ok (.ifCond .le 4, 3) := by decide +kernel
theorem d_Mo_root_55 : decode b_Mo_root 55 = .ok (.return_, 1) := by decide +kernel
theorem d_Mo_root_56 : decode b_Mo_root 56 = .ok (.aload_n 0, 1) := by decide +kernel
theorem d_Mo_root_57 : decode b_Mo_root 57 = .ok (.bipush 32, 2) := by decide +kernel
theorem d_Mo_root_59 : decode b_Mo_root 59 = .ok (.iload_n 2, 1) := by decide +kernel
theorem d_Mo_root_60 : decode b_Mo_root 60 = .ok (.invokevirtual 58, 3) := by decide +kernel
theorem d_Mo_root_63 : decode b_Mo_root 63 = .ok (.aload_n 0, 1) := by decide +kernel
theorem d_Mo_root_64 : decode b_Mo_root 64 = .ok (.bipush 32, 2) := by decide +kernel
theorem d_Mo_root_66 : decode b_Mo_root 66 = .ok (.iconst 2, 1) := by decide +kernel
theorem d_Mo_root_67 : decode b_Mo_root 67 = .ok (.iload_n 3, 1) := by decide +kernel
theorem d_Mo_root_68 : decode b_Mo_root 68 = .ok (.imul, 1) := by decide +kernel
theorem d_Mo_root_69 : decode b_Mo_root 69 = .ok (.invokevirtual 118, 3) := by decide +kernel
theorem d_Mo_root_72 : decode b_Mo_root 72 = .ok (.aload_n 0, 1) := by decide +kernel
theorem d_Mo_root_73 : decode b_Mo_root 73 = .ok (.bipush 34, 2) := by decide +kernel
theorem d_Mo_root_75 : decode b_Mo_root 75 = .ok (.bipush 16, 2) := by decide +kernel
theorem d_Mo_root_77 : decode b_Mo_root 77 = .ok (.iload_n 2, 1) := by decide +kernel
theorem d_Mo_root_78 : decode b_Mo_root 78 = .ok (.iadd, 1) := by decide +kernel
theorem d_Mo_root_79 : decode b_Mo_root 79 = .ok (.invokevirtual 58, 3) := by decide +kernel
theorem d_Mo_root_82 : decode b_Mo_root 82 = .ok (.aload_n 0, 1) := by decide +kernel
theorem d_Mo_root_83 : decode b_Mo_root 83 = .ok (.iconst 1, 1) := by decide +kernel
theorem d_Mo_root_84 : decode b_Mo_root 84 = .ok (.iconst 0, 1) := by decide +kernel
theorem d_Mo_root_85 : decode b_Mo_root 85 = .ok (.invokevirtual 125, 3) := by decide +kernel
theorem d_Mo_root_88 : decode b_Mo_root 88 = .ok (.aload_n 0, 1) := by decide +kernel
theorem d_Mo_root_89 : decode b_Mo_root 89 = .ok (.invokevirtual 136, 3) := by decide +kernel
theorem d_Mo_root_92 : decode b_Mo_root 92 = .ok (.aload_n 0, 1) := by decide +kernel
theorem d_Mo_root_93 : decode b_Mo_root 93 = .ok (.aload_n 0, 1) := by decide +kernel
theorem d_Mo_root_94 : decode b_Mo_root 94 = .ok (.iload_n 1, 1) := by decide +kernel
theorem d_Mo_root_95 : decode b_Mo_root 95 = .ok (.iconst 1, 1) := by decide +kernel
theorem d_Mo_root_96 : decode b_Mo_root 96 = .ok (.iload_n 3, 1) := by decide +kernel
theorem d_Mo_root_97 : decode b_Mo_root 97 = .ok (.invokevirtual 129, 3) := by decide +kernel
theorem d_Mo_root_100 : decode b_Mo_root 100 = .ok (.ifCond .eq 7, 3) := by decide +kernel
theorem d_Mo_root_103 : decode b_Mo_root 103 = .ok (.iconst 0, 1) := by decide +kernel
theorem d_Mo_root_104 : decode b_Mo_root 104 = .ok (.goto 4, 3) := by decide +kernel
theorem d_Mo_root_107 : decode b_Mo_root 107 = .ok (.iconst 3, 1) := by decide +kernel
theorem d_Mo_root_108 : decode b_Mo_root 108 = .ok (.putfield 30, 3) := by decide +kernel
theorem d_Mo_root_111 : decode b_Mo_root 111 = .ok (.return_, 1) := by decide +kernel
theorem d_Mo_compare_0 : decode b_Mo_compare 0 = .ok (.aload_n 0, 1) := by decide +kernel
theorem d_Mo_compare_1 : decode b_Mo_compare 1 = .ok (.iload_n 1, 1) := by decide +kernel
theorem d_Mo_compare_2 : decode b_Mo_compare 2 = .ok (.invokestatic 74, 3) := by decide +kernel
theorem d_Mo_compare_5 : decode b_Mo_compare 5 = .ok (.ifCond .eq 14, 3) := by decide +kernel
theorem d_Mo_compare_8 : decode b_Mo_compare 8 = .ok (.iload_n 2, 1) := by decide +kernel
theorem d_Mo_compare_9 : decode b_Mo_compare 9 = .ok (.invokestatic 74, 3) := by decide +kernel
theorem d_Mo_compare_12 : decode b_Mo_compare 12 = .ok (.ifCond .eq 7, 3) := by decide +kernel
theorem d_Mo_compare_15 : decode b_Mo_compare 15 = .ok (.iconst 0, 1) := by decide +kernel
theorem d_Mo_compare_16 : decode b_Mo_compare 16 = .ok (.goto 4, 3) := by decide +kernel
theorem d_Mo_compare_19 : decode b_Mo_compare 19 = .ok (.iconst 1, 1) := by decide +kernel
theorem d_Mo_compare_20 : decode b_Mo_compare 20 = .ok (.putfield 30, 3) := by decide +kernel
theorem d_Mo_compare_23 : decode b_Mo_compare 23 = .ok (.aload_n 0, 1) := by decide +kernel
theorem d_Mo_compare_24 : decode b_Mo_compare 24 = .ok (.getfield 30, 3) := by decide +kernel
theorem d_Mo_compare_27 : decode b_Mo_compare 27 = .ok (.ifCond .le 5, 3) := by decide +kernel
theorem d_Mo_compare_30 : decode b_Mo_compare 30 = .ok (.iconst 0, 1) := by decide +kernel
theorem d_Mo_compare_31 : decode b_Mo_compare 31 = .ok (.ireturn, 1) := by decide +kernel
theorem d_Mo_compare_32 : decode b_Mo_compare 32 = .ok (.aload_n 0, 1) := by decide +kernel
theorem d_Mo_compare_33 : decode b_Mo_compare 33 = .ok (.getfield 16, 3) := by decide +kernel
theorem d_Mo_compare_36 : decode b_Mo_compare 36 = .ok (.iload_n 1, 1) := by decide +kernel
theorem d_Mo_compare_37 : decode b_Mo_compare 37 = .ok (.iaload, 1) := by decide +kernel
theorem d_Mo_compare_38 : decode b_Mo_compare 38 = .ok (.aload_n 0, 1) := by decide +kernel
theorem d_Mo_compare_39 : decode b_Mo_compare 39 = .ok (.getfield 16, 3) := by decide +kernel
theorem d_Mo_compare_42 : decode b_Mo_compare 42 = .ok (.iload_n 2, 1) := by decide +kernel
theorem d_Mo_compare_43 : decode b_Mo_compare 43 = .ok (.iaload, 1) := by decide +kernel
theorem d_Mo_compare_44 : decode b_Mo_compare 44 = .ok (.if_icmp .eq 24, 3) := by decide +kernel
theorem d_Mo_compare_47 : decode b_Mo_compare 47 = .ok (.aload_n 0, 1) := by decide +kernel
theorem d_Mo_compare_48 : decode b_Mo_compare 48 = .ok (.getfield 16, 3) := by decide +kernel
theorem d_Mo_compare_51 : decode b_Mo_compare 51 = .ok (.iload_n 1, 1) := by decide +kernel
theorem d_Mo_compare_52 : decode b_Mo_compare 52 = .ok (.iaload, 1) := by decide +kernel
theorem d_Mo_compare_53 : decode b_Mo_compare 53 = .ok (.aload_n 0, 1) := by decide +kernel
theorem d_Mo_compare_54 : decode b_Mo_compare 54 = .ok (.getfield 16, 3) := by decide +kernel
theorem d_Mo_compare_57 : decode b_Mo_compare 57 = .ok (.iload_n 2, 1) := by decide +kernel
theorem d_Mo_compare_58 : decode b_Mo_compare 58 = .ok (.iaload, 1) := by decide +kernel
theorem d_Mo_compare_59 : decode b_Mo_compare 59 = .ok (.if_icmp .ge 7, 3) := by decide +kernel
theorem d_Mo_compare_62 : decode b_Mo_compare 62 = .ok (.iconst (-1), 1) := by decide +kernel
theorem d_Mo_compare_63 : decode b_Mo_compare 63 = .ok (.goto 4, 3) := by decide +kernel
theorem d_Mo_compare_66 : decode b_Mo_compare 66 = .ok (.iconst 1, 1) := by decide +kernel
theorem d_Mo_compare_67 : decode b_Mo_compare 67 = .ok (.ireturn, 1) := by decide +kernel
theorem d_Mo_compare_68 : decode b_Mo_compare 68 = .ok (.aload_n 0, 1) := by decide +kernel
theorem d_Mo_compare_69 : decode b_Mo_compare 69 = .ok (.bipush 32, 2) := by decide +kernel
theorem d_Mo_compare_71 : decode b_Mo_compare 71 = .ok (.iload_n 1, 1) := by decide +kernel
theorem d_Mo_compare_72 : decode b_Mo_compare 72 = .ok (.bipush 16, 2) := by decide +kernel
theorem d_Mo_compare_74 : decode b_Mo_compare 74 = .ok (.iload_n 2, 1) := by decide +kernel
theorem d_Mo_compare_75 : decode b_Mo_compare 75 = .ok (.iadd, 1) := by decide +kernel
theorem d_Mo_compare_76 : decode b_Mo_compare 76 = .ok (.invokevirtual 92, 3) := by decide +kernel
theorem d_Mo_compare_79 : decode b_Mo_compare 79 = .ok (.aload_n 0, 1) := by decide +kernel
theorem d_Mo_compare_80 : decode b_Mo_compare 80 = .ok (.bipush 33, 2) := by decide +kernel
theorem d_Mo_compare_82 : decode b_Mo_compare 82 = .ok (.iload_n 2, 1) := by decide +kernel
theorem d_Mo_compare_83 : decode b_Mo_compare 83 = .ok (.bipush 16, 2) := by decide +kernel
theorem d_Mo_compare_85 : decode b_Mo_compare 85 = .ok (.iload_n 1, 1) := by decide +kernel
theorem d_Mo_compare_86 : decode b_Mo_compare 86 = .ok (.iadd, 1) := by decide +kernel
theorem d_Mo_compare_87 : decode b_Mo_compare 87 = .ok (.invokevirtual 92, 3) := by decide +kernel
theorem d_Mo_compare_90 : decode b_Mo_compare 90 = .ok (.aload_n 0, 1) := by decide +kernel
theorem d_Mo_compare_91 : decode b_Mo_compare 91 = .ok (.getfield 16, 3) := by decide +kernel
theorem d_Mo_compare_94 : decode b_Mo_compare 94 = .ok (.iload_n 1, 1) := by decide +kernel
theorem d_Mo_compare_95 : decode b_Mo_compare 95 = .ok (.iaload, 1) := by decide +kernel
theorem d_Mo_compare_96 : decode b_Mo_compare 96 = .ok (.aload_n 0, 1) := by decide +kernel
theorem d_Mo_compare_97 : decode b_Mo_compare 97 = .ok (.bipush 32, 2) := by decide +kernel
theorem d_Mo_compare_99 : decode b_Mo_compare 99 = .ok (.bipush 33, 2) := by decide +kernel
theorem d_Mo_compare_101 : decode b_Mo_compare 101 = .ok (.invokevirtual 98, 3) := by decide +kernel
theorem d_Mo_compare_104 : decode b_Mo_compare 104 = .ok (.imul, 1) := by decide +kernel
theorem d_Mo_compare_105 : decode b_Mo_compare 105 = .ok (.ireturn, 1) := by decide +kernel
theorem d_Mo_sign_0 : decode b_Mo_sign 0 = .ok (.aload_n 0, 1) := by decide +kernel
theorem d_Mo_sign_1 : decode b_Mo_sign 1 = .ok (.iload_n 1, 1) := by decide +kernel
theorem d_Mo_sign_2 : decode b_Mo_sign 2 = .ok (.invokestatic 74, 3) := by decide +kernel
theorem d_Mo_sign_5 : decode b_Mo_sign 5 = .ok (.ifCond .eq 7, 3) := by decide +kernel
theorem d_Mo_sign_8 : decode b_Mo_sign 8 = .ok (.iconst 0, 1) := by decide +kernel
theorem d_Mo_sign_9 : decode b_Mo_sign 9 = .ok (.goto 4, 3) := by decide +kernel
theorem d_Mo_sign_12 : decode b_Mo_sign 12 = .ok (.iconst 1, 1) := by decide +kernel
theorem d_Mo_sign_13 : decode b_Mo_sign 13 = .ok (.putfield 30, 3) := by decide +kernel
theorem d_Mo_sign_16 : decode b_Mo_sign 16 = .ok (.aload_n 0, 1) := by decide +kernel
theorem d_Mo_sign_17 : decode b_Mo_sign 17 = .ok (.getfield 30, 3) := by decide +kernel
theorem d_Mo_sign_20 : decode b_Mo_sign 20 = .ok (.ifCond .le 7, 3) := by decide +kernel
theorem d_Mo_sign_23 : decode b_Mo_sign 23 = .ok (.iconst 0, 1) := by decide +kernel
theorem d_Mo_sign_24 : decode b_Mo_sign 24 = .ok (.goto 9, 3) := by decide +kernel
theorem d_Mo_sign_27 : decode b_Mo_sign 27 = .ok (.aload_n 0, 1) := by decide +kernel
theorem d_Mo_sign_28 : decode b_Mo_sign 28 = .ok (.getfield 16, 3) := by decide +kernel
theorem d_Mo_sign_31 : decode b_Mo_sign 31 = .ok (.iload_n 1, 1) := by decide +kernel
theorem d_Mo_sign_32 : decode b_Mo_sign 32 = .ok (.iaload, 1) := by decide +kernel
theorem d_Mo_sign_33 : decode b_Mo_sign 33 = .ok (.ireturn, 1) := by decide +kernel
theorem d_Mo_digits_0 : decode b_Mo_digits 0 = .ok (.aload_n 0, 1) := by decide +kernel
theorem d_Mo_digits_1 : decode b_Mo_digits 1 = .ok (.iload_n 1, 1) := by decide +kernel
theorem d_Mo_digits_2 : decode b_Mo_digits 2 = .ok (.invokestatic 74, 3) := by decide +kernel
theorem d_Mo_digits_5 : decode b_Mo_digits 5 = .ok (.ifCond .eq 17, 3) := by decide +kernel
theorem d_Mo_digits_8 : decode b_Mo_digits 8 = .ok (.iload_n 2, 1) := by decide +kernel
theorem d_Mo_digits_9 : decode b_Mo_digits 9 = .ok (.i2l, 1) := by decide +kernel
theorem d_Mo_digits_10 : decode b_Mo_digits 10 = .ok (.lconst 0, 1) := by decide +kernel
theorem d_Mo_digits_11 : decode b_Mo_digits 11 = .ok (.lconst 1, 1) := by decide +kernel
theorem d_Mo_digits_12 : decode b_Mo_digits 12 = .ok (.invokestatic 83, 3) := by decide +kernel
theorem d_Mo_digits_15 : decode b_Mo_digits 15 = .ok (.ifCond .eq 7, 3) := by decide +kernel
theorem d_Mo_digits_18 : decode b_Mo_digits 18 = .ok (.iconst 0, 1) := by decide +kernel
theorem d_Mo_digits_19 : decode b_Mo_digits 19 = .ok (.goto 4, 3) := by decide +kernel
theorem d_Mo_digits_22 : decode b_Mo_digits 22 = .ok (.iconst 1, 1) := by decide +kernel
theorem d_Mo_digits_23 : decode b_Mo_digits 23 = .ok (.putfield 30, 3) := by decide +kernel
theorem d_Mo_digits_26 : decode b_Mo_digits 26 = .ok (.aload_n 0, 1) := by decide +kernel
theorem d_Mo_digits_27 : decode b_Mo_digits 27 = .ok (.getfield 30, 3) := by decide +kernel
theorem d_Mo_digits_30 : decode b_Mo_digits 30 = .ok (.ifCond .le 7, 3) := by decide +kernel
theorem d_Mo_digits_33 : decode b_Mo_digits 33 = .ok (.iconst 0, 1) := by decide +kernel
theorem d_Mo_digits_34 : decode b_Mo_digits 34 = .ok (.goto 13, 3) := by decide +kernel
theorem d_Mo_digits_37 : decode b_Mo_digits 37 = .ok (.aload_n 0, 1) := by decide +kernel
theorem d_Mo_digits_38 : decode b_Mo_digits 38 = .ok (.bipush 16, 2) := by decide +kernel
theorem d_Mo_digits_40 : decode b_Mo_digits 40 = .ok (.iload_n 2, 1) := by decide +kernel
theorem d_Mo_digits_41 : decode b_Mo_digits 41 = .ok (.imul, 1) := by decide +kernel
theorem d_Mo_digits_42 : decode b_Mo_digits 42 = .ok (.iload_n 1, 1) := by decide +kernel
theorem d_Mo_digits_43 : decode b_Mo_digits 43 = .ok (.iadd, 1) := by decide +kernel
theorem d_Mo_digits_44 : decode b_Mo_digits 44 = .ok (.invokevirtual 132, 3) := by decide +kernel
theorem d_Mo_digits_47 : decode b_Mo_digits 47 = .ok (.ireturn, 1) := by decide +kernel
theorem d_Mo_digit_0 : decode b_Mo_digit 0 = .ok (.aload_n 0, 1) := by decide +kernel
theorem d_Mo_digit_1 : decode b_Mo_digit 1 = .ok (.iload_n 1, 1) := by decide +kernel
theorem d_Mo_digit_2 : decode b_Mo_digit 2 = .ok (.invokestatic 74, 3) := by decide +kernel
theorem d_Mo_digit_5 : decode b_Mo_digit 5 = .ok (.ifCond .eq 13, 3) := by decide +kernel
theorem d_Mo_digit_8 : decode b_Mo_digit 8 = .ok (.iload_n 2, 1) := by decide +kernel
theorem d_Mo_digit_9 : decode b_Mo_digit 9 = .ok (.i2l, 1) := by decide +kernel
theorem d_Mo_digit_10 : decode b_Mo_digit 10 = .ok (.lconst 0, 1) := by decide +kernel
theorem d_Mo_digit_11 : decode b_Mo_digit 11 = .ok (.lconst 1, 1) := by decide +kernel
theorem d_Mo_digit_12 : decode b_Mo_digit 12 = .ok (.invokestatic 83, 3) := by decide +kernel
theorem d_Mo_digit_15 : decode b_Mo_digit 15 = .ok (.ifCond .ne 7, 3) := by decide +kernel
theorem d_Mo_digit_18 : decode b_Mo_digit 18 = .ok (.iconst 1, 1) := by decide +kernel
theorem d_Mo_digit_19 : decode b_Mo_digit 19 = .ok (.goto 30, 3) := by decide +kernel
theorem d_Mo_digit_22 : decode b_Mo_digit 22 = .ok (.iload_n 3, 1) := by decide +kernel
theorem d_Mo_digit_23 : decode b_Mo_digit 23 = .ok (.i2l, 1) := by decide +kernel
theorem d_Mo_digit_24 : decode b_Mo_digit 24 = .ok (.lconst 0, 1) := by decide +kernel
theorem d_Mo_digit_25 : decode b_Mo_digit 25 = .ok (.aload_n 0, 1) := by decide +kernel
theorem d_Mo_digit_26 : decode b_Mo_digit 26 = .ok (.bipush 16, 2) := by decide +kernel
theorem d_Mo_digit_28 : decode b_Mo_digit 28 = .ok (.iload_n 2, 1) := by decide +kernel
theorem d_Mo_digit_29 : decode b_Mo_digit 29 = .ok (.imul, 1) := by decide +kernel
theorem d_Mo_digit_30 : decode b_Mo_digit 30 = .ok (.iload_n 1, 1) := by decide +kernel
theorem d_Mo_digit_31 : decode b_Mo_digit 31 = .ok (.iadd, 1) := by decide +kernel
theorem d_Mo_digit_32 : decode b_Mo_digit 32 = .ok (.invokevirtual 132, 3) := by decide +kernel
theorem d_Mo_digit_35 : decode b_Mo_digit 35 = .ok (.i2l, 1) := by decide +kernel
theorem d_Mo_digit_36 : decode b_Mo_digit 36 = .ok (.lconst 1, 1) := by decide +kernel
theorem d_Mo_digit_37 : decode b_Mo_digit 37 = .ok (.lsub, 1) := by decide +kernel
theorem d_Mo_digit_38 : decode b_Mo_digit 38 = .ok (.invokestatic 83, 3) := by decide +kernel
theorem d_Mo_digit_41 : decode b_Mo_digit 41 = .ok (.ifCond .ne 7, 3) := by decide +kernel
theorem d_Mo_digit_44 : decode b_Mo_digit 44 = .ok (.iconst 2, 1) := by decide +kernel
theorem d_Mo_digit_45 : decode b_Mo_digit 45 = .ok (.goto 4, 3) := by decide +kernel
theorem d_Mo_digit_48 : decode b_Mo_digit 48 = .ok (.iconst 0, 1) := by decide +kernel
theorem d_Mo_digit_49 : decode b_Mo_digit 49 = .ok (.putfield 30, 3) := by decide +kernel
theorem d_Mo_digit_52 : decode b_Mo_digit 52 = .ok (.aload_n 0, 1) := by decide +kernel
theorem d_Mo_digit_53 : decode b_Mo_digit 53 = .ok (.getfield 30, 3) := by decide +kernel
theorem d_Mo_digit_56 : decode b_Mo_digit 56 = .ok (.ifCond .le 5, 3) := by decide +kernel
theorem d_Mo_digit_59 : decode b_Mo_digit 59 = .ok (.iconst 0, 1) := by decide +kernel
theorem d_Mo_digit_60 : decode b_Mo_digit 60 = .ok (.ireturn, 1) := by decide +kernel
theorem d_Mo_digit_61 : decode b_Mo_digit 61 = .ok (.aload_n 0, 1) := by decide +kernel
theorem d_Mo_digit_62 : decode b_Mo_digit 62 = .ok (.bipush 16, 2) := by decide +kernel
theorem d_Mo_digit_64 : decode b_Mo_digit 64 = .ok (.iload_n 2, 1) := by decide +kernel
theorem d_Mo_digit_65 : decode b_Mo_digit 65 = .ok (.imul, 1) := by decide +kernel
theorem d_Mo_digit_66 : decode b_Mo_digit 66 = .ok (.iload_n 1, 1) := by decide +kernel
theorem d_Mo_digit_67 : decode b_Mo_digit 67 = .ok (.iadd, 1) := by decide +kernel
theorem d_Mo_digit_68 : decode b_Mo_digit 68 = .ok (.iload_n 3, 1) := by decide +kernel
theorem d_Mo_digit_69 : decode b_Mo_digit 69 = .ok (.iconst 4, 1) := by decide +kernel
theorem d_Mo_digit_70 : decode b_Mo_digit 70 = .ok (.idiv, 1) := by decide +kernel
theorem d_Mo_digit_71 : decode b_Mo_digit 71 = .ok (.invokevirtual 36, 3) := by decide +kernel
theorem d_Mo_digit_74 : decode b_Mo_digit 74 = .ok (.istore 4, 2) := by decide +kernel
theorem d_Mo_digit_76 : decode b_Mo_digit 76 = .ok (.iconst 0, 1) := by decide +kernel
theorem d_Mo_digit_77 : decode b_Mo_digit 77 = .ok (.istore 5, 2) := by decide +kernel
theorem d_Mo_digit_79 : decode b_Mo_digit 79 = .ok (.iload 5, 2) := by decide +kernel
theorem d_Mo_digit_81 : decode b_Mo_digit 81 = .ok (.iload_n 3, 1) := by decide +kernel
theorem d_Mo_digit_82 : decode b_Mo_digit 82 = .ok (.iconst 4, 1) := by decide +kernel
theorem d_Mo_digit_83 : decode b_Mo_digit 83 = .ok (.irem, 1) := by decide +kernel
theorem d_Mo_digit_84 : decode b_Mo_digit 84 = .ok (.if_icmp .ge 16, 3) := by decide +kernel
theorem d_Mo_digit_87 : decode b_Mo_digit 87 = .ok (.iload 4, 2) := by decide +kernel
theorem d_Mo_digit_89 : decode b_Mo_digit 89 = .ok (.bipush 10, 2) := by decide +kernel
theorem d_Mo_digit_91 : decode b_Mo_digit 91 = .ok (.idiv, 1) := by decide +kernel
theorem d_Mo_digit_92 : decode b_Mo_digit 92 = .ok (.istore 4, 2) := by decide +kernel
theorem d_Mo_digit_94 : decode b_Mo_digit 94 = .ok (.iinc 5 1, 3) := by decide +kernel
theorem d_Mo_digit_97 : decode b_Mo_digit 97 = .ok (.goto (-18), 3) := by decide +kernel
theorem d_Mo_digit_100 : decode b_Mo_digit 100 = .ok (.iload 4, 2) := by decide +kernel
theorem d_Mo_digit_102 : decode b_Mo_digit 102 = .ok (.bipush 10, 2) := by decide +kernel
theorem d_Mo_digit_104 : decode b_Mo_digit 104 = .ok (.irem, 1) := by decide +kernel
theorem d_Mo_digit_105 : decode b_Mo_digit 105 = .ok (.ireturn, 1) := by decide +kernel
theorem d_Mo_behind_0 : decode b_Mo_behind 0 = .ok (.aload_n 0, 1) := by decide +kernel
theorem d_Mo_behind_1 : decode b_Mo_behind 1 = .ok (.iload_n 1, 1) := by decide +kernel
theorem d_Mo_behind_2 : decode b_Mo_behind 2 = .ok (.invokestatic 74, 3) := by decide +kernel
theorem d_Mo_behind_5 : decode b_Mo_behind 5 = .ok (.ifCond .eq 19, 3) := by decide +kernel
theorem d_Mo_behind_8 : decode b_Mo_behind 8 = .ok (.iload_n 2, 1) := by decide +kernel
theorem d_Mo_behind_9 : decode b_Mo_behind 9 = .ok (.i2l, 1) := by decide +kernel
theorem d_Mo_behind_10 : decode b_Mo_behind 10 = .ok (.lconst 1, 1) := by decide +kernel
theorem d_Mo_behind_11 : decode b_Mo_behind 11 = .ok (.ldc2_w 139, 3) := by decide +kernel
theorem d_Mo_behind_14 : decode b_Mo_behind 14 = .ok (.invokestatic 83, 3) := by decide +kernel
theorem d_Mo_behind_17 : decode b_Mo_behind 17 = .ok (.ifCond .eq 7, 3) := by decide +kernel
theorem d_Mo_behind_20 : decode b_Mo_behind 20 = .ok (.iconst 0, 1) := by decide +kernel
theorem d_Mo_behind_21 : decode b_Mo_behind 21 = .ok (.goto 4, 3) := by decide +kernel
theorem d_Mo_behind_24 : decode b_Mo_behind 24 = .ok (.iconst 1, 1) := by decide +kernel
theorem d_Mo_behind_25 : decode b_Mo_behind 25 = .ok (.putfield 30, 3) := by decide +kernel
theorem d_Mo_behind_28 : decode b_Mo_behind 28 = .ok (.aload_n 0, 1) := by decide +kernel
theorem d_Mo_behind_29 : decode b_Mo_behind 29 = .ok (.getfield 30, 3) := by decide +kernel
theorem d_Mo_behind_32 : decode b_Mo_behind 32 = .ok (.ifCond .le 5, 3) := by decide +kernel
theorem d_Mo_behind_35 : decode b_Mo_behind 35 = .ok (.iconst 0, 1) := by decide +kernel
theorem d_Mo_behind_36 : decode b_Mo_behind 36 = .ok (.ireturn, 1) := by decide +kernel
theorem d_Mo_behind_37 : decode b_Mo_behind 37 = .ok (.aload_n 0, 1) := by decide +kernel
theorem d_Mo_behind_38 : decode b_Mo_behind 38 = .ok (.bipush 32, 2) := by decide +kernel
theorem d_Mo_behind_40 : decode b_Mo_behind 40 = .ok (.iload_n 1, 1) := by decide +kernel
theorem d_Mo_behind_41 : decode b_Mo_behind 41 = .ok (.invokevirtual 58, 3) := by decide +kernel
theorem d_Mo_behind_44 : decode b_Mo_behind 44 = .ok (.aload_n 0, 1) := by decide +kernel
theorem d_Mo_behind_45 : decode b_Mo_behind 45 = .ok (.bipush 32, 2) := by decide +kernel
theorem d_Mo_behind_47 : decode b_Mo_behind 47 = .ok (.bipush 16, 2) := by decide +kernel
theorem d_Mo_behind_49 : decode b_Mo_behind 49 = .ok (.iload_n 1, 1) := by decide +kernel
theorem d_Mo_behind_50 : decode b_Mo_behind 50 = .ok (.iadd, 1) := by decide +kernel
theorem d_Mo_behind_51 : decode b_Mo_behind 51 = .ok (.bipush 37, 2) := by decide +kernel
theorem d_Mo_behind_53 : decode b_Mo_behind 53 = .ok (.invokevirtual 65, 3) := by decide +kernel
theorem d_Mo_behind_56 : decode b_Mo_behind 56 = .ok (.iconst 0, 1) := by decide +kernel
theorem d_Mo_behind_57 : decode b_Mo_behind 57 = .ok (.istore_n 3, 1) := by decide +kernel
theorem d_Mo_behind_58 : decode b_Mo_behind 58 = .ok (.iload_n 3, 1) := by decide +kernel
theorem d_Mo_behind_59 : decode b_Mo_behind 59 = .ok (.iload_n 2, 1) := by decide +kernel
theorem d_Mo_behind_60 : decode b_Mo_behind 60 = .ok (.if_icmp .ge 31, 3) := by decide +kernel
theorem d_Mo_behind_63 : decode b_Mo_behind 63 = .ok (.aload_n 0, 1) := by decide +kernel
theorem d_Mo_behind_64 : decode b_Mo_behind 64 = .ok (.bipush 32, 2) := by decide +kernel
theorem d_Mo_behind_66 : decode b_Mo_behind 66 = .ok (.ldc2_w 44, 3) := by decide +kernel
theorem d_Mo_behind_69 : decode b_Mo_behind 69 = .ok (.lconst 0, 1) := by decide +kernel
theorem d_Mo_behind_70 : decode b_Mo_behind 70 = .ok (.invokevirtual 46, 3) := by decide +kernel
theorem d_Mo_behind_73 : decode b_Mo_behind 73 = .ok (.aload_n 0, 1) := by decide +kernel
theorem d_Mo_behind_74 : decode b_Mo_behind 74 = .ok (.bipush 32, 2) := by decide +kernel
theorem d_Mo_behind_76 : decode b_Mo_behind 76 = .ok (.bipush 16, 2) := by decide +kernel
theorem d_Mo_behind_78 : decode b_Mo_behind 78 = .ok (.iload_n 1, 1) := by decide +kernel
theorem d_Mo_behind_79 : decode b_Mo_behind 79 = .ok (.iadd, 1) := by decide +kernel
theorem d_Mo_behind_80 : decode b_Mo_behind 80 = .ok (.bipush 37, 2) := by decide +kernel
theorem d_Mo_behind_82 : decode b_Mo_behind 82 = .ok (.invokevirtual 65, 3) := by decide +kernel
theorem d_Mo_behind_85 : decode b_Mo_behind 85 = .ok (.iinc 3 1, 3) := by decide +kernel
theorem d_Mo_behind_88 : decode b_Mo_behind 88 = .ok (.goto (-30), 3) := by decide +kernel
theorem d_Mo_behind_91 : decode b_Mo_behind 91 = .ok (.aload_n 0, 1) := by decide +kernel
theorem d_Mo_behind_92 : decode b_Mo_behind 92 = .ok (.bipush 37, 2) := by decide +kernel
theorem d_Mo_behind_94 : decode b_Mo_behind 94 = .ok (.iconst 0, 1) := by decide +kernel
theorem d_Mo_behind_95 : decode b_Mo_behind 95 = .ok (.invokevirtual 36, 3) := by decide +kernel
theorem d_Mo_behind_98 : decode b_Mo_behind 98 = .ok (.ireturn, 1) := by decide +kernel
theorem d_Mo_modulo_0 : decode b_Mo_modulo 0 = .ok (.aload_n 0, 1) := by decide +kernel
theorem d_Mo_modulo_1 : decode b_Mo_modulo 1 = .ok (.iload_n 1, 1) := by decide +kernel
theorem d_Mo_modulo_2 : decode b_Mo_modulo 2 = .ok (.invokestatic 74, 3) := by decide +kernel
theorem d_Mo_modulo_5 : decode b_Mo_modulo 5 = .ok (.ifCond .eq 29, 3) := by decide +kernel
theorem d_Mo_modulo_8 : decode b_Mo_modulo 8 = .ok (.iload_n 2, 1) := by decide +kernel
theorem d_Mo_modulo_9 : decode b_Mo_modulo 9 = .ok (.i2l, 1) := by decide +kernel
theorem d_Mo_modulo_10 : decode b_Mo_modulo 10 = .ok (.lconst 0, 1) := by decide +kernel
theorem d_Mo_modulo_11 : decode b_Mo_modulo 11 = .ok (.lconst 1, 1) := by decide +kernel
theorem d_Mo_modulo_12 : decode b_Mo_modulo 12 = .ok (.invokestatic 83, 3) := by decide +kernel
theorem d_Mo_modulo_15 : decode b_Mo_modulo 15 = .ok (.ifCond .eq 19, 3) := by decide +kernel
theorem d_Mo_modulo_18 : decode b_Mo_modulo 18 = .ok (.iload_n 3, 1) := by decide +kernel
theorem d_Mo_modulo_19 : decode b_Mo_modulo 19 = .ok (.i2l, 1) := by decide +kernel
theorem d_Mo_modulo_20 : decode b_Mo_modulo 20 = .ok (.lconst 1, 1) := by decide +kernel
theorem d_Mo_modulo_21 : decode b_Mo_modulo 21 = .ok (.ldc2_w 90, 3) := by decide +kernel
theorem d_Mo_modulo_24 : decode b_Mo_modulo 24 = .ok (.invokestatic 83, 3) := by decide +kernel
theorem d_Mo_modulo_27 : decode b_Mo_modulo 27 = .ok (.ifCond .eq 7, 3) := by decide +kernel
theorem d_Mo_modulo_30 : decode b_Mo_modulo 30 = .ok (.iconst 0, 1) := by decide +kernel
theorem d_Mo_modulo_31 : decode b_Mo_modulo 31 = .ok (.goto 4, 3) := by decide +kernel
theorem d_Mo_modulo_34 : decode b_Mo_modulo 34 = .ok (.iconst 1, 1) := by decide +kernel
theorem d_Mo_modulo_35 : decode b_Mo_modulo 35 = .ok (.putfield 30, 3) := by decide +kernel
theorem d_Mo_modulo_38 : decode b_Mo_modulo 38 = .ok (.aload_n 0, 1) := by decide +kernel
theorem d_Mo_modulo_39 : decode b_Mo_modulo 39 = .ok (.getfield 30, 3) := by decide +kernel
theorem d_Mo_modulo_42 : decode b_Mo_modulo 42 = .ok (.ifCond .le 5, 3) := by decide +kernel
theorem d_Mo_modulo_45 : decode b_Mo_modulo 45 = .ok (.iconst 0, 1) := by decide +kernel
theorem d_Mo_modulo_46 : decode b_Mo_modulo 46 = .ok (.ireturn, 1) := by decide +kernel
theorem d_Mo_modulo_47 : decode b_Mo_modulo 47 = .ok (.aload_n 0, 1) := by decide +kernel
theorem d_Mo_modulo_48 : decode b_Mo_modulo 48 = .ok (.bipush 32, 2) := by decide +kernel
theorem d_Mo_modulo_50 : decode b_Mo_modulo 50 = .ok (.bipush 16, 2) := by decide +kernel
theorem d_Mo_modulo_52 : decode b_Mo_modulo 52 = .ok (.iload_n 2, 1) := by decide +kernel
theorem d_Mo_modulo_53 : decode b_Mo_modulo 53 = .ok (.imul, 1) := by decide +kernel
theorem d_Mo_modulo_54 : decode b_Mo_modulo 54 = .ok (.iload_n 1, 1) := by decide +kernel
theorem d_Mo_modulo_55 : decode b_Mo_modulo 55 = .ok (.iadd, 1) := by decide +kernel
theorem d_Mo_modulo_56 : decode b_Mo_modulo 56 = .ok (.invokevirtual 58, 3) := by decide +kernel
theorem d_Mo_modulo_59 : decode b_Mo_modulo 59 = .ok (.aload_n 0, 1) := by decide +kernel
theorem d_Mo_modulo_60 : decode b_Mo_modulo 60 = .ok (.bipush 32, 2) := by decide +kernel
theorem d_Mo_modulo_62 : decode b_Mo_modulo 62 = .ok (.iload_n 3, 1) := by decide +kernel
theorem d_Mo_modulo_63 : decode b_Mo_modulo 63 = .ok (.i2l, 1) := by decide +kernel
theorem d_Mo_modulo_64 : decode b_Mo_modulo 64 = .ok (.invokevirtual 114, 3) := by decide +kernel
theorem d_Mo_modulo_67 : decode b_Mo_modulo 67 = .ok (.l2i, 1) := by decide +kernel
theorem d_Mo_modulo_68 : decode b_Mo_modulo 68 = .ok (.ireturn, 1) := by decide +kernel
theorem d_Mo_weight_0 : decode b_Mo_weight 0 = .ok (.aload_n 0, 1) := by decide +kernel
theorem d_Mo_weight_1 : decode b_Mo_weight 1 = .ok (.iload_n 1, 1) := by decide +kernel
theorem d_Mo_weight_2 : decode b_Mo_weight 2 = .ok (.i2l, 1) := by decide +kernel
theorem d_Mo_weight_3 : decode b_Mo_weight 3 = .ok (.lconst 0, 1) := by decide +kernel
theorem d_Mo_weight_4 : decode b_Mo_weight 4 = .ok (.ldc2_w 141, 3) := by decide +kernel
theorem d_Mo_weight_7 : decode b_Mo_weight 7 = .ok (.invokestatic 83, 3) := by decide +kernel
theorem d_Mo_weight_10 : decode b_Mo_weight 10 = .ok (.ifCond .eq 19, 3) := by decide +kernel
theorem d_Mo_weight_13 : decode b_Mo_weight 13 = .ok (.iload_n 2, 1) := by decide +kernel
theorem d_Mo_weight_14 : decode b_Mo_weight 14 = .ok (.i2l, 1) := by decide +kernel
theorem d_Mo_weight_15 : decode b_Mo_weight 15 = .ok (.lconst 0, 1) := by decide +kernel
theorem d_Mo_weight_16 : decode b_Mo_weight 16 = .ok (.ldc2_w 90, 3) := by decide +kernel
theorem d_Mo_weight_19 : decode b_Mo_weight 19 = .ok (.invokestatic 83, 3) := by decide +kernel
theorem d_Mo_weight_22 : decode b_Mo_weight 22 = .ok (.ifCond .eq 7, 3) := by decide +kernel
theorem d_Mo_weight_25 : decode b_Mo_weight 25 = .ok (.iconst 0, 1) := by decide +kernel
theorem d_Mo_weight_26 : decode b_Mo_weight 26 = .ok (.goto 4, 3) := by decide +kernel
theorem d_Mo_weight_29 : decode b_Mo_weight 29 = .ok (.iconst 1, 1) := by decide +kernel
theorem d_Mo_weight_30 : decode b_Mo_weight 30 = .ok (.putfield 30, 3) := by decide +kernel
theorem d_Mo_weight_33 : decode b_Mo_weight 33 = .ok (.aload_n 0, 1) := by decide +kernel
theorem d_Mo_weight_34 : decode b_Mo_weight 34 = .ok (.getfield 30, 3) := by decide +kernel
theorem d_Mo_weight_37 : decode b_Mo_weight 37 = .ok (.ifCond .le 5, 3) := by decide +kernel
theorem d_Mo_weight_40 : decode b_Mo_weight 40 = .ok (.iconst 0, 1) := by decide +kernel
theorem d_Mo_weight_41 : decode b_Mo_weight 41 = .ok (.ireturn, 1) := by decide +kernel
theorem d_Mo_weight_42 : decode b_Mo_weight 42 = .ok (.aload_n 0, 1) := by decide +kernel
theorem d_Mo_weight_43 : decode b_Mo_weight 43 = .ok (.getfield 19, 3) := by decide +kernel
theorem d_Mo_weight_46 : decode b_Mo_weight 46 = .ok (.iload_n 1, 1) := by decide +kernel
theorem d_Mo_weight_47 : decode b_Mo_weight 47 = .ok (.iaload, 1) := by decide +kernel
theorem d_Mo_weight_48 : decode b_Mo_weight 48 = .ok (.istore_n 3, 1) := by decide +kernel
theorem d_Mo_weight_49 : decode b_Mo_weight 49 = .ok (.aload_n 0, 1) := by decide +kernel
theorem d_Mo_weight_50 : decode b_Mo_weight 50 = .ok (.getfield 19, 3) := by decide +kernel
theorem d_Mo_weight_53 : decode b_Mo_weight 53 = .ok (.iload_n 1, 1) := by decide +kernel
theorem d_Mo_weight_54 : decode b_Mo_weight 54 = .ok (.iload_n 2, 1) := by decide +kernel
theorem d_Mo_weight_55 : decode b_Mo_weight 55 = .ok (.iastore, 1) := by decide +kernel
theorem d_Mo_weight_56 : decode b_Mo_weight 56 = .ok (.iload_n 3, 1) := by decide +kernel
theorem d_Mo_weight_57 : decode b_Mo_weight 57 = .ok (.ireturn, 1) := by decide +kernel
theorem d_Mo_share_0 : decode b_Mo_share 0 = .ok (.lconst 0, 1) := by decide +kernel
theorem d_Mo_share_1 : decode b_Mo_share 1 = .ok (.lstore 4, 2) := by decide +kernel
theorem d_Mo_share_3 : decode b_Mo_share 3 = .ok (.iconst 0, 1) := by decide +kernel
theorem d_Mo_share_4 : decode b_Mo_share 4 = .ok (.istore 6, 2) := by decide +kernel
theorem d_Mo_share_6 : decode b_Mo_share 6 = .ok (.iload 6, 2) := by decide +kernel
theorem d_Mo_share_8 : decode b_Mo_share 8 = .ok (.bipush 10, 2) := by decide +kernel
theorem d_Mo_share_10 : decode b_Mo_share 10 = .ok (.if_icmp .ge 22, 3) := by decide +kernel
theorem d_Mo_share_13 : decode b_Mo_share 13 = .ok (.lload 4, 2) := by decide +kernel
theorem d_Mo_share_15 : decode b_Mo_share 15 = .ok (.aload_n 0, 1) := by decide +kernel
theorem d_Mo_share_16 : decode b_Mo_share 16 = .ok (.getfield 19, 3) := by decide +kernel
theorem d_Mo_share_19 : decode b_Mo_share 19 = .ok (.iload 6, 2) := by decide +kernel
theorem d_Mo_share_21 : decode b_Mo_share 21 = .ok (.iaload, 1) := by decide +kernel
theorem d_Mo_share_22 : decode b_Mo_share 22 = .ok (.i2l, 1) := by decide +kernel
theorem d_Mo_share_23 : decode b_Mo_share 23 = .ok (.ladd, 1) := by decide +kernel
theorem d_Mo_share_24 : decode b_Mo_share 24 = .ok (.lstore 4, 2) := by decide +kernel
theorem d_Mo_share_26 : decode b_Mo_share 26 = .ok (.iinc 6 1, 3) := by decide +kernel
theorem d_Mo_share_29 : decode b_Mo_share 29 = .ok (.goto (-23), 3) := by decide +kernel
theorem d_Mo_share_32 : decode b_Mo_share 32 = .ok (.aload_n 0, 1) := by decide +kernel
theorem d_Mo_share_33 : decode b_Mo_share 33 = .ok (.iload_n 1, 1) := by decide +kernel
theorem d_Mo_share_34 : decode b_Mo_share 34 = .ok (.invokestatic 74, 3) := by decide +kernel
theorem d_Mo_share_37 : decode b_Mo_share 37 = .ok (.ifCond .eq 22, 3) := by decide +kernel
theorem d_Mo_share_40 : decode b_Mo_share 40 = .ok (.iload_n 2, 1) := by decide +kernel
theorem d_Mo_share_41 : decode b_Mo_share 41 = .ok (.invokestatic 74, 3) := by decide +kernel
theorem d_Mo_share_44 : decode b_Mo_share 44 = .ok (.ifCond .eq 15, 3) := by decide +kernel
theorem d_Mo_share_47 : decode b_Mo_share 47 = .ok (.iload_n 3, 1) := by decide +kernel
theorem d_Mo_share_48 : decode b_Mo_share 48 = .ok (.i2l, 1) := by decide +kernel
theorem d_Mo_share_49 : decode b_Mo_share 49 = .ok (.lconst 0, 1) := by decide +kernel
theorem d_Mo_share_50 : decode b_Mo_share 50 = .ok (.ldc2_w 141, 3) := by decide +kernel
theorem d_Mo_share_53 : decode b_Mo_share 53 = .ok (.invokestatic 83, 3) := by decide +kernel
theorem d_Mo_share_56 : decode b_Mo_share 56 = .ok (.ifCond .ne 7, 3) := by decide +kernel
theorem d_Mo_share_59 : decode b_Mo_share 59 = .ok (.iconst 1, 1) := by decide +kernel
theorem d_Mo_share_60 : decode b_Mo_share 60 = .ok (.goto 36, 3) := by decide +kernel
theorem d_Mo_share_63 : decode b_Mo_share 63 = .ok (.lload 4, 2) := by decide +kernel
theorem d_Mo_share_65 : decode b_Mo_share 65 = .ok (.lconst 0, 1) := by decide +kernel
theorem d_Mo_share_66 : decode b_Mo_share 66 = .ok (.lcmp, 1) := by decide +kernel
theorem d_Mo_share_67 : decode b_Mo_share 67 = .ok (.ifCond .ne 7, 3) := by decide +kernel
theorem d_Mo_share_70 : decode b_Mo_share 70 = .ok (.iconst 2, 1) := by decide +kernel
theorem d_Mo_share_71 : decode b_Mo_share 71 = .ok (.goto 25, 3) := by decide +kernel
theorem d_Mo_share_74 : decode b_Mo_share 74 = .ok (.aload_n 0, 1) := by decide +kernel
theorem d_Mo_share_75 : decode b_Mo_share 75 = .ok (.getfield 16, 3) := by decide +kernel
theorem d_Mo_share_78 : decode b_Mo_share 78 = .ok (.iload_n 2, 1) := by decide +kernel
theorem d_Mo_share_79 : decode b_Mo_share 79 = .ok (.iaload, 1) := by decide +kernel
theorem d_Mo_share_80 : decode b_Mo_share 80 = .ok (.ifCond .lt 11, 3) := by decide +kernel
theorem d_Mo_share_83 : decode b_Mo_share 83 = .ok (.aload_n 0, 1) := by decide +kernel
theorem d_Mo_share_84 : decode b_Mo_share 84 = .ok (.iload_n 2, 1) := by decide +kernel
theorem d_Mo_share_85 : decode b_Mo_share 85 = .ok (.invokevirtual 87, 3) := by decide +kernel
theorem d_Mo_share_88 : decode b_Mo_share 88 = .ok (.ifCond .ne 7, 3) := by decide +kernel
theorem d_Mo_share_91 : decode b_Mo_share 91 = .ok (.iconst 3, 1) := by decide +kernel
theorem d_Mo_share_92 : decode b_Mo_share 92 = .ok (.goto 4, 3) := by decide +kernel
theorem d_Mo_share_95 : decode b_Mo_share 95 = .ok (.iconst 0, 1) := by decide +kernel
theorem d_Mo_share_96 : decode b_Mo_share 96 = .ok (.putfield 30, 3) := by decide +kernel
theorem d_Mo_share_99 : decode b_Mo_share 99 = .ok (.aload_n 0, 1) := by decide +kernel
theorem d_Mo_share_100 : decode b_Mo_share 100 = .ok (.getfield 30, 3) := by decide +kernel
theorem d_Mo_share_103 : decode b_Mo_share 103 = .ok (.ifCond .le 4, 3) := by decide +kernel
theorem d_Mo_share_106 : decode b_Mo_share 106 = .ok (.return_, 1) := by decide +kernel
theorem d_Mo_share_107 : decode b_Mo_share 107 = .ok (.aload_n 0, 1) := by decide +kernel
theorem d_Mo_share_108 : decode b_Mo_share 108 = .ok (.bipush 33, 2) := by decide +kernel
theorem d_Mo_share_110 : decode b_Mo_share 110 = .ok (.lconst 0, 1) := by decide +kernel
theorem d_Mo_share_111 : decode b_Mo_share 111 = .ok (.invokevirtual 26, 3) := by decide +kernel
theorem d_Mo_share_114 : decode b_Mo_share 114 = .ok (.iconst 0, 1) := by decide +kernel
theorem d_Mo_share_115 : decode b_Mo_share 115 = .ok (.istore 6, 2) := by decide +kernel
theorem d_Mo_share_117 : decode b_Mo_share 117 = .ok (.iload 6, 2) := by decide +kernel
theorem d_Mo_share_119 : decode b_Mo_share 119 = .ok (.bipush 10, 2) := by decide +kernel
theorem d_Mo_share_121 : decode b_Mo_share 121 = .ok (.if_icmp .ge 68, 3) := by decide +kernel
theorem d_Mo_share_124 : decode b_Mo_share 124 = .ok (.aload_n 0, 1) := by decide +kernel
theorem d_Mo_share_125 : decode b_Mo_share 125 = .ok (.bipush 38, 2) := by decide +kernel
theorem d_Mo_share_127 : decode b_Mo_share 127 = .ok (.iload 6, 2) := by decide +kernel
theorem d_Mo_share_129 : decode b_Mo_share 129 = .ok (.iadd, 1) := by decide +kernel
theorem d_Mo_share_130 : decode b_Mo_share 130 = .ok (.iload_n 2, 1) := by decide +kernel
theorem d_Mo_share_131 : decode b_Mo_share 131 = .ok (.invokevirtual 58, 3) := by decide +kernel
theorem d_Mo_share_134 : decode b_Mo_share 134 = .ok (.aload_n 0, 1) := by decide +kernel
theorem d_Mo_share_135 : decode b_Mo_share 135 = .ok (.bipush 38, 2) := by decide +kernel
theorem d_Mo_share_137 : decode b_Mo_share 137 = .ok (.iload 6, 2) := by decide +kernel
theorem d_Mo_share_139 : decode b_Mo_share 139 = .ok (.iadd, 1) := by decide +kernel
theorem d_Mo_share_140 : decode b_Mo_share 140 = .ok (.aload_n 0, 1) := by decide +kernel
theorem d_Mo_share_141 : decode b_Mo_share 141 = .ok (.getfield 19, 3) := by decide +kernel
theorem d_Mo_share_144 : decode b_Mo_share 144 = .ok (.iload 6, 2) := by decide +kernel
theorem d_Mo_share_146 : decode b_Mo_share 146 = .ok (.iaload, 1) := by decide +kernel
theorem d_Mo_share_147 : decode b_Mo_share 147 = .ok (.i2l, 1) := by decide +kernel
theorem d_Mo_share_148 : decode b_Mo_share 148 = .ok (.lconst 0, 1) := by decide +kernel
theorem d_Mo_share_149 : decode b_Mo_share 149 = .ok (.invokevirtual 46, 3) := by decide +kernel
theorem d_Mo_share_152 : decode b_Mo_share 152 = .ok (.aload_n 0, 1) := by decide +kernel
theorem d_Mo_share_153 : decode b_Mo_share 153 = .ok (.getfield 22, 3) := by decide +kernel
theorem d_Mo_share_156 : decode b_Mo_share 156 = .ok (.iload 6, 2) := by decide +kernel
theorem d_Mo_share_158 : decode b_Mo_share 158 = .ok (.aload_n 0, 1) := by decide +kernel
theorem d_Mo_share_159 : decode b_Mo_share 159 = .ok (.bipush 38, 2) := by decide +kernel
theorem d_Mo_share_161 : decode b_Mo_share 161 = .ok (.iload 6, 2) := by decide +kernel
theorem d_Mo_share_163 : decode b_Mo_share 163 = .ok (.iadd, 1) := by decide +kernel
theorem d_Mo_share_164 : decode b_Mo_share 164 = .ok (.lload 4, 2) := by decide +kernel
theorem d_Mo_share_166 : decode b_Mo_share 166 = .ok (.invokevirtual 114, 3) := by decide +kernel
theorem d_Mo_share_169 : decode b_Mo_share 169 = .ok (.lastore, 1) := by decide +kernel
theorem d_Mo_share_170 : decode b_Mo_share 170 = .ok (.aload_n 0, 1) := by decide +kernel
theorem d_Mo_share_171 : decode b_Mo_share 171 = .ok (.bipush 33, 2) := by decide +kernel
theorem d_Mo_share_173 : decode b_Mo_share 173 = .ok (.bipush 33, 2) := by decide +kernel
theorem d_Mo_share_175 : decode b_Mo_share 175 = .ok (.bipush 38, 2) := by decide +kernel
theorem d_Mo_share_177 : decode b_Mo_share 177 = .ok (.iload 6, 2) := by decide +kernel
theorem d_Mo_share_179 : decode b_Mo_share 179 = .ok (.iadd, 1) := by decide +kernel
theorem d_Mo_share_180 : decode b_Mo_share 180 = .ok (.invokevirtual 95, 3) := by decide +kernel
theorem d_Mo_share_183 : decode b_Mo_share 183 = .ok (.iinc 6 1, 3) := by decide +kernel
theorem d_Mo_share_186 : decode b_Mo_share 186 = .ok (.goto (-69), 3) := by decide +kernel
theorem d_Mo_share_189 : decode b_Mo_share 189 = .ok (.aload_n 0, 1) := by decide +kernel
theorem d_Mo_share_190 : decode b_Mo_share 190 = .ok (.bipush 32, 2) := by decide +kernel
theorem d_Mo_share_192 : decode b_Mo_share 192 = .ok (.iload_n 2, 1) := by decide +kernel
theorem d_Mo_share_193 : decode b_Mo_share 193 = .ok (.invokevirtual 58, 3) := by decide +kernel
theorem d_Mo_share_196 : decode b_Mo_share 196 = .ok (.aload_n 0, 1) := by decide +kernel
theorem d_Mo_share_197 : decode b_Mo_share 197 = .ok (.bipush 32, 2) := by decide +kernel
theorem d_Mo_share_199 : decode b_Mo_share 199 = .ok (.bipush 32, 2) := by decide +kernel
theorem d_Mo_share_201 : decode b_Mo_share 201 = .ok (.bipush 33, 2) := by decide +kernel
theorem d_Mo_share_203 : decode b_Mo_share 203 = .ok (.invokevirtual 101, 3) := by decide +kernel
theorem d_Mo_share_206 : decode b_Mo_share 206 = .ok (.aload_n 0, 1) := by decide +kernel
theorem d_Mo_share_207 : decode b_Mo_share 207 = .ok (.bipush 32, 2) := by decide +kernel
theorem d_Mo_share_209 : decode b_Mo_share 209 = .ok (.iconst 0, 1) := by decide +kernel
theorem d_Mo_share_210 : decode b_Mo_share 210 = .ok (.invokevirtual 36, 3) := by decide +kernel
theorem d_Mo_share_213 : decode b_Mo_share 213 = .ok (.istore 6, 2) := by decide +kernel
theorem d_Mo_share_215 : decode b_Mo_share 215 = .ok (.iconst 0, 1) := by decide +kernel
theorem d_Mo_share_216 : decode b_Mo_share 216 = .ok (.istore 7, 2) := by decide +kernel
theorem d_Mo_share_218 : decode b_Mo_share 218 = .ok (.iconst 0, 1) := by decide +kernel
theorem d_Mo_share_219 : decode b_Mo_share 219 = .ok (.istore 8, 2) := by decide +kernel
theorem d_Mo_share_221 : decode b_Mo_share 221 = .ok (.iload 8, 2) := by decide +kernel
theorem d_Mo_share_223 : decode b_Mo_share 223 = .ok (.bipush 10, 2) := by decide +kernel
theorem d_Mo_share_225 : decode b_Mo_share 225 = .ok (.if_icmp .ge 60, 3) := by decide +kernel
theorem d_Mo_share_228 : decode b_Mo_share 228 = .ok (.aload_n 0, 1) := by decide +kernel
theorem d_Mo_share_229 : decode b_Mo_share 229 = .ok (.getfield 22, 3) := by decide +kernel
theorem d_Mo_share_232 : decode b_Mo_share 232 = .ok (.iload 8, 2) := by decide +kernel
theorem d_Mo_share_234 : decode b_Mo_share 234 = .ok (.laload, 1) := by decide +kernel
theorem d_Mo_share_235 : decode b_Mo_share 235 = .ok (.aload_n 0, 1) := by decide +kernel
theorem d_Mo_share_236 : decode b_Mo_share 236 = .ok (.getfield 22, 3) := by decide +kernel
theorem d_Mo_share_239 : decode b_Mo_share 239 = .ok (.iload_n 3, 1) := by decide +kernel
theorem d_Mo_share_240 : decode b_Mo_share 240 = .ok (.laload, 1) := by decide +kernel
theorem d_Mo_share_241 : decode b_Mo_share 241 = .ok (.lcmp, 1) := by decide +kernel
theorem d_Mo_share_242 : decode b_Mo_share 242 = .ok (.ifCond .gt 26, 3) := by decide +kernel
theorem d_Mo_share_245 : decode b_Mo_share 245 = .ok (.aload_n 0, 1) := by decide +kernel
theorem d_Mo_share_246 : decode b_Mo_share 246 = .ok (.getfield 22, 3) := by decide +kernel
theorem d_Mo_share_249 : decode b_Mo_share 249 = .ok (.iload 8, 2) := by decide +kernel
theorem d_Mo_share_251 : decode b_Mo_share 251 = .ok (.laload, 1) := by decide +kernel
theorem d_Mo_share_252 : decode b_Mo_share 252 = .ok (.aload_n 0, 1) := by decide +kernel
theorem d_Mo_share_253 : decode b_Mo_share 253 = .ok (.getfield 22, 3) := by decide +kernel
theorem d_Mo_share_256 : decode b_Mo_share 256 = .ok (.iload_n 3, 1) := by decide +kernel
theorem d_Mo_share_257 : decode b_Mo_share 257 = .ok (.laload, 1) := by decide +kernel
theorem d_Mo_share_258 : decode b_Mo_share 258 = .ok (.lcmp, 1) := by decide +kernel
theorem d_Mo_share_259 : decode b_Mo_share 259 = .ok (.ifCond .ne 16, 3) := by decide +kernel
theorem d_Mo_share_262 : decode b_Mo_share 262 = .ok (.iload 8, 2) := by decide +kernel
theorem d_Mo_share_264 : decode b_Mo_share 264 = .ok (.iload_n 3, 1) := by decide +kernel
theorem d_Mo_share_265 : decode b_Mo_share 265 = .ok (.if_icmp .ge 10, 3) := by decide +kernel
theorem d_Mo_share_268 : decode b_Mo_share 268 = .ok (.iload 7, 2) := by decide +kernel
theorem d_Mo_share_270 : decode b_Mo_share 270 = .ok (.iconst 1, 1) := by decide +kernel
theorem d_Mo_share_271 : decode b_Mo_share 271 = .ok (.iadd, 1) := by decide +kernel
theorem d_Mo_share_272 : decode b_Mo_share 272 = .ok (.goto 5, 3) := by decide +kernel
theorem d_Mo_share_275 : decode b_Mo_share 275 = .ok (.iload 7, 2) := by decide +kernel
theorem d_Mo_share_277 : decode b_Mo_share 277 = .ok (.istore 7, 2) := by decide +kernel
theorem d_Mo_share_279 : decode b_Mo_share 279 = .ok (.iinc 8 1, 3) := by decide +kernel
theorem d_Mo_share_282 : decode b_Mo_share 282 = .ok (.goto (-61), 3) := by decide +kernel
theorem d_Mo_share_285 : decode b_Mo_share 285 = .ok (.aload_n 0, 1) := by decide +kernel
theorem d_Mo_share_286 : decode b_Mo_share 286 = .ok (.bipush 32, 2) := by decide +kernel
theorem d_Mo_share_288 : decode b_Mo_share 288 = .ok (.bipush 38, 2) := by decide +kernel
theorem d_Mo_share_290 : decode b_Mo_share 290 = .ok (.iload_n 3, 1) := by decide +kernel
theorem d_Mo_share_291 : decode b_Mo_share 291 = .ok (.iadd, 1) := by decide +kernel
theorem d_Mo_share_292 : decode b_Mo_share 292 = .ok (.invokevirtual 58, 3) := by decide +kernel
theorem d_Mo_share_295 : decode b_Mo_share 295 = .ok (.iload 7, 2) := by decide +kernel
theorem d_Mo_share_297 : decode b_Mo_share 297 = .ok (.iload 6, 2) := by decide +kernel
theorem d_Mo_share_299 : decode b_Mo_share 299 = .ok (.if_icmp .ge 11, 3) := by decide +kernel
theorem d_Mo_share_302 : decode b_Mo_share 302 = .ok (.aload_n 0, 1) := by decide +kernel
theorem d_Mo_share_303 : decode b_Mo_share 303 = .ok (.bipush 32, 2) := by decide +kernel
theorem d_Mo_share_305 : decode b_Mo_share 305 = .ok (.lconst 1, 1) := by decide +kernel
theorem d_Mo_share_306 : decode b_Mo_share 306 = .ok (.lconst 1, 1) := by decide +kernel
theorem d_Mo_share_307 : decode b_Mo_share 307 = .ok (.invokevirtual 46, 3) := by decide +kernel
theorem d_Mo_share_310 : decode b_Mo_share 310 = .ok (.aload_n 0, 1) := by decide +kernel
theorem d_Mo_share_311 : decode b_Mo_share 311 = .ok (.bipush 34, 2) := by decide +kernel
theorem d_Mo_share_313 : decode b_Mo_share 313 = .ok (.lconst 1, 1) := by decide +kernel
theorem d_Mo_share_314 : decode b_Mo_share 314 = .ok (.invokevirtual 26, 3) := by decide +kernel
theorem d_Mo_share_317 : decode b_Mo_share 317 = .ok (.aload_n 0, 1) := by decide +kernel
theorem d_Mo_share_318 : decode b_Mo_share 318 = .ok (.aload_n 0, 1) := by decide +kernel
theorem d_Mo_share_319 : decode b_Mo_share 319 = .ok (.iload_n 1, 1) := by decide +kernel
theorem d_Mo_share_320 : decode b_Mo_share 320 = .ok (.iconst 1, 1) := by decide +kernel
theorem d_Mo_share_321 : decode b_Mo_share 321 = .ok (.invokevirtual 77, 3) := by decide +kernel
theorem d_Mo_share_324 : decode b_Mo_share 324 = .ok (.ifCond .eq 7, 3) := by decide +kernel
theorem d_Mo_share_327 : decode b_Mo_share 327 = .ok (.iconst 0, 1) := by decide +kernel
theorem d_Mo_share_328 : decode b_Mo_share 328 = .ok (.goto 4, 3) := by decide +kernel
theorem d_Mo_share_331 : decode b_Mo_share 331 = .ok (.iconst 3, 1) := by decide +kernel
theorem d_Mo_share_332 : decode b_Mo_share 332 = .ok (.putfield 30, 3) := by decide +kernel
theorem d_Mo_share_335 : decode b_Mo_share 335 = .ok (.return_, 1) := by decide +kernel
