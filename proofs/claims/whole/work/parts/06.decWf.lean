theorem d_Wf_init_0 : decode b_Wf_init 0 = .ok (.aload_n 0, 1) := by decide +kernel
theorem d_Wf_init_1 : decode b_Wf_init 1 = .ok (.invokespecial 3, 3) := by decide +kernel
theorem d_Wf_init_4 : decode b_Wf_init 4 = .ok (.aload_n 0, 1) := by decide +kernel
theorem d_Wf_init_5 : decode b_Wf_init 5 = .ok (.bipush 16, 2) := by decide +kernel
theorem d_Wf_init_7 : decode b_Wf_init 7 = .ok (.anewarray 9, 3) := by decide +kernel
theorem d_Wf_init_10 : decode b_Wf_init 10 = .ok (.putfield 11, 3) := by decide +kernel
theorem d_Wf_init_13 : decode b_Wf_init 13 = .ok (.iconst 0, 1) := by decide +kernel
theorem d_Wf_init_14 : decode b_Wf_init 14 = .ok (.istore_n 1, 1) := by decide +kernel
theorem d_Wf_init_15 : decode b_Wf_init 15 = .ok (.iload_n 1, 1) := by decide +kernel
theorem d_Wf_init_16 : decode b_Wf_init 16 = .ok (.bipush 16, 2) := by decide +kernel
theorem d_Wf_init_18 : decode b_Wf_init 18 = .ok (.if_icmp .ge 22, 3) := by decide +kernel
theorem d_Wf_init_21 : decode b_Wf_init 21 = .ok (.aload_n 0, 1) := by decide +kernel
theorem d_Wf_init_22 : decode b_Wf_init 22 = .ok (.getfield 11, 3) := by decide +kernel
theorem d_Wf_init_25 : decode b_Wf_init 25 = .ok (.iload_n 1, 1) := by decide +kernel
theorem d_Wf_init_26 : decode b_Wf_init 26 = .ok (.new 9, 3) := by decide +kernel
theorem d_Wf_init_29 : decode b_Wf_init 29 = .ok (.dup, 1) := by decide +kernel
theorem d_Wf_init_30 : decode b_Wf_init 30 = .ok (.invokespecial 15, 3) := by decide +kernel
theorem d_Wf_init_33 : decode b_Wf_init 33 = .ok (.aastore, 1) := by decide +kernel
theorem d_Wf_init_34 : decode b_Wf_init 34 = .ok (.iinc 1 1, 3) := by decide +kernel
theorem d_Wf_init_37 : decode b_Wf_init 37 = .ok (.goto (-22), 3) := by decide +kernel
theorem d_Wf_init_40 : decode b_Wf_init 40 = .ok (.new 16, 3) := by decide +kernel
theorem d_Wf_init_43 : decode b_Wf_init 43 = .ok (.dup, 1) := by decide +kernel
theorem d_Wf_init_44 : decode b_Wf_init 44 = .ok (.invokespecial 18, 3) := by decide +kernel
theorem d_Wf_init_47 : decode b_Wf_init 47 = .ok (.astore_n 1, 1) := by decide +kernel
theorem d_Wf_init_48 : decode b_Wf_init 48 = .ok (.aload_n 0, 1) := by decide +kernel
theorem d_Wf_init_49 : decode b_Wf_init 49 = .ok (.new 19, 3) := by decide +kernel
theorem d_Wf_init_52 : decode b_Wf_init 52 = .ok (.dup, 1) := by decide +kernel
theorem d_Wf_init_53 : decode b_Wf_init 53 = .ok (.aload_n 1, 1) := by decide +kernel
theorem d_Wf_init_54 : decode b_Wf_init 54 = .ok (.invokespecial 21, 3) := by decide +kernel
theorem d_Wf_init_57 : decode b_Wf_init 57 = .ok (.putfield 24, 3) := by decide +kernel
theorem d_Wf_init_60 : decode b_Wf_init 60 = .ok (.aload_n 0, 1) := by decide +kernel
theorem d_Wf_init_61 : decode b_Wf_init 61 = .ok (.new 28, 3) := by decide +kernel
theorem d_Wf_init_64 : decode b_Wf_init 64 = .ok (.dup, 1) := by decide +kernel
theorem d_Wf_init_65 : decode b_Wf_init 65 = .ok (.aload_n 1, 1) := by decide +kernel
theorem d_Wf_init_66 : decode b_Wf_init 66 = .ok (.invokespecial 30, 3) := by decide +kernel
theorem d_Wf_init_69 : decode b_Wf_init 69 = .ok (.putfield 31, 3) := by decide +kernel
theorem d_Wf_init_72 : decode b_Wf_init 72 = .ok (.return_, 1) := by decide +kernel
theorem d_Wf_set_0 : decode b_Wf_set 0 = .ok (.iload_n 1, 1) := by decide +kernel
theorem d_Wf_set_1 : decode b_Wf_set 1 = .ok (.invokestatic 35, 3) := by decide +kernel
theorem d_Wf_set_4 : decode b_Wf_set 4 = .ok (.lload_n 2, 1) := by decide +kernel
theorem d_Wf_set_5 : decode b_Wf_set 5 = .ok (.ldc2_w 41, 3) := by decide +kernel
theorem d_Wf_set_8 : decode b_Wf_set 8 = .ok (.ldc2_w 43, 3) := by decide +kernel
theorem d_Wf_set_11 : decode b_Wf_set 11 = .ok (.invokestatic 45, 3) := by decide +kernel
theorem d_Wf_set_14 : decode b_Wf_set 14 = .ok (.lload 4, 2) := by decide +kernel
theorem d_Wf_set_16 : decode b_Wf_set 16 = .ok (.ldc2_w 41, 3) := by decide +kernel
theorem d_Wf_set_19 : decode b_Wf_set 19 = .ok (.ldc2_w 43, 3) := by decide +kernel
theorem d_Wf_set_22 : decode b_Wf_set 22 = .ok (.invokestatic 45, 3) := by decide +kernel
theorem d_Wf_set_25 : decode b_Wf_set 25 = .ok (.lload 4, 2) := by decide +kernel
theorem d_Wf_set_27 : decode b_Wf_set 27 = .ok (.lconst 0, 1) := by decide +kernel
theorem d_Wf_set_28 : decode b_Wf_set 28 = .ok (.lcmp, 1) := by decide +kernel
theorem d_Wf_set_29 : decode b_Wf_set 29 = .ok (.ifCond .ne 13, 3) := by decide +kernel
theorem d_Wf_set_32 : decode b_Wf_set 32 = .ok (.new 49, 3) := by decide +kernel
theorem d_Wf_set_35 : decode b_Wf_set 35 = .ok (.dup, 1) := by decide +kernel
theorem d_Wf_set_36 : decode b_Wf_set 36 = .ok (.ldc 51, 2) := by decide +kernel
theorem d_Wf_set_38 : decode b_Wf_set 38 = .ok (.invokespecial 53, 3) := by decide +kernel
theorem d_Wf_set_41 : decode b_Wf_set 41 = .ok (.athrow, 1) := by decide +kernel
theorem d_Wf_set_42 : decode b_Wf_set 42 = .ok (.aload_n 0, 1) := by decide +kernel
theorem d_Wf_set_43 : decode b_Wf_set 43 = .ok (.getfield 24, 3) := by decide +kernel
theorem d_Wf_set_46 : decode b_Wf_set 46 = .ok (.lload_n 2, 1) := by decide +kernel
theorem d_Wf_set_47 : decode b_Wf_set 47 = .ok (.lload 4, 2) := by decide +kernel
theorem d_Wf_set_49 : decode b_Wf_set 49 = .ok (.invokevirtual 56, 3) := by decide +kernel
theorem d_Wf_set_52 : decode b_Wf_set 52 = .ok (.aload_n 0, 1) := by decide +kernel
theorem d_Wf_set_53 : decode b_Wf_set 53 = .ok (.iload_n 1, 1) := by decide +kernel
theorem d_Wf_set_54 : decode b_Wf_set 54 = .ok (.invokevirtual 60, 3) := by decide +kernel
theorem d_Wf_set_57 : decode b_Wf_set 57 = .ok (.return_, 1) := by decide +kernel
theorem d_Wf_more_0 : decode b_Wf_more 0 = .ok (.iload_n 1, 1) := by decide +kernel
theorem d_Wf_more_1 : decode b_Wf_more 1 = .ok (.invokestatic 35, 3) := by decide +kernel
theorem d_Wf_more_4 : decode b_Wf_more 4 = .ok (.iload_n 2, 1) := by decide +kernel
theorem d_Wf_more_5 : decode b_Wf_more 5 = .ok (.i2l, 1) := by decide +kernel
theorem d_Wf_more_6 : decode b_Wf_more 6 = .ok (.lconst 0, 1) := by decide +kernel
theorem d_Wf_more_7 : decode b_Wf_more 7 = .ok (.ldc2_w 63, 3) := by decide +kernel
theorem d_Wf_more_10 : decode b_Wf_more 10 = .ok (.invokestatic 45, 3) := by decide +kernel
theorem d_Wf_more_13 : decode b_Wf_more 13 = .ok (.aload_n 0, 1) := by decide +kernel
theorem d_Wf_more_14 : decode b_Wf_more 14 = .ok (.getfield 11, 3) := by decide +kernel
theorem d_Wf_more_17 : decode b_Wf_more 17 = .ok (.iload_n 1, 1) := by decide +kernel
theorem d_Wf_more_18 : decode b_Wf_more 18 = .ok (.aaload, 1) := by decide +kernel
theorem d_Wf_more_19 : decode b_Wf_more 19 = .ok (.invokestatic 65, 3) := by decide +kernel
theorem d_Wf_more_22 : decode b_Wf_more 22 = .ok (.aload_n 0, 1) := by decide +kernel
theorem d_Wf_more_23 : decode b_Wf_more 23 = .ok (.getfield 24, 3) := by decide +kernel
theorem d_Wf_more_26 : decode b_Wf_more 26 = .ok (.aload_n 0, 1) := by decide +kernel
theorem d_Wf_more_27 : decode b_Wf_more 27 = .ok (.getfield 11, 3) := by decide +kernel
theorem d_Wf_more_30 : decode b_Wf_more 30 = .ok (.iload_n 1, 1) := by decide +kernel
theorem d_Wf_more_31 : decode b_Wf_more 31 = .ok (.aaload, 1) := by decide +kernel
theorem d_Wf_more_32 : decode b_Wf_more 32 = .ok (.iload_n 2, 1) := by decide +kernel
theorem d_Wf_more_33 : decode b_Wf_more 33 = .ok (.invokevirtual 69, 3) := by decide +kernel
theorem d_Wf_more_36 : decode b_Wf_more 36 = .ok (.aload_n 0, 1) := by decide +kernel
theorem d_Wf_more_37 : decode b_Wf_more 37 = .ok (.iload_n 1, 1) := by decide +kernel
theorem d_Wf_more_38 : decode b_Wf_more 38 = .ok (.invokevirtual 60, 3) := by decide +kernel
theorem d_Wf_more_41 : decode b_Wf_more 41 = .ok (.return_, 1) := by decide +kernel
theorem d_Wf_add_0 : decode b_Wf_add 0 = .ok (.iload_n 1, 1) := by decide +kernel
theorem d_Wf_add_1 : decode b_Wf_add 1 = .ok (.iload_n 2, 1) := by decide +kernel
theorem d_Wf_add_2 : decode b_Wf_add 2 = .ok (.iload_n 3, 1) := by decide +kernel
theorem d_Wf_add_3 : decode b_Wf_add 3 = .ok (.invokestatic 73, 3) := by decide +kernel
theorem d_Wf_add_6 : decode b_Wf_add 6 = .ok (.aload_n 0, 1) := by decide +kernel
theorem d_Wf_add_7 : decode b_Wf_add 7 = .ok (.getfield 24, 3) := by decide +kernel
theorem d_Wf_add_10 : decode b_Wf_add 10 = .ok (.aload_n 0, 1) := by decide +kernel
theorem d_Wf_add_11 : decode b_Wf_add 11 = .ok (.getfield 11, 3) := by decide +kernel
theorem d_Wf_add_14 : decode b_Wf_add 14 = .ok (.iload_n 2, 1) := by decide +kernel
theorem d_Wf_add_15 : decode b_Wf_add 15 = .ok (.aaload, 1) := by decide +kernel
theorem d_Wf_add_16 : decode b_Wf_add 16 = .ok (.aload_n 0, 1) := by decide +kernel
theorem d_Wf_add_17 : decode b_Wf_add 17 = .ok (.getfield 11, 3) := by decide +kernel
theorem d_Wf_add_20 : decode b_Wf_add 20 = .ok (.iload_n 3, 1) := by decide +kernel
theorem d_Wf_add_21 : decode b_Wf_add 21 = .ok (.aaload, 1) := by decide +kernel
theorem d_Wf_add_22 : decode b_Wf_add 22 = .ok (.aload_n 0, 1) := by decide +kernel
theorem d_Wf_add_23 : decode b_Wf_add 23 = .ok (.getfield 11, 3) := by decide +kernel
theorem d_Wf_add_26 : decode b_Wf_add 26 = .ok (.iload_n 3, 1) := by decide +kernel
theorem d_Wf_add_27 : decode b_Wf_add 27 = .ok (.aaload, 1) := by decide +kernel
theorem d_Wf_add_28 : decode b_Wf_add 28 = .ok (.getfield 77, 3) := by decide +kernel
theorem d_Wf_add_31 : decode b_Wf_add 31 = .ok (.invokevirtual 81, 3) := by decide +kernel
theorem d_Wf_add_34 : decode b_Wf_add 34 = .ok (.aload_n 0, 1) := by decide +kernel
theorem d_Wf_add_35 : decode b_Wf_add 35 = .ok (.getfield 24, 3) := by decide +kernel
theorem d_Wf_add_38 : decode b_Wf_add 38 = .ok (.invokevirtual 85, 3) := by decide +kernel
theorem d_Wf_add_41 : decode b_Wf_add 41 = .ok (.aload_n 0, 1) := by decide +kernel
theorem d_Wf_add_42 : decode b_Wf_add 42 = .ok (.iload_n 1, 1) := by decide +kernel
theorem d_Wf_add_43 : decode b_Wf_add 43 = .ok (.invokevirtual 60, 3) := by decide +kernel
theorem d_Wf_add_46 : decode b_Wf_add 46 = .ok (.return_, 1) := by decide +kernel
theorem d_Wf_subtract_0 : decode b_Wf_subtract 0 = .ok (.iload_n 1, 1) := by decide +kernel
theorem d_Wf_subtract_1 : decode b_Wf_subtract 1 = .ok (.iload_n 2, 1) := by decide +kernel
theorem d_Wf_subtract_2 : decode b_Wf_subtract 2 = .ok (.iload_n 3, 1) := by decide +kernel
theorem d_Wf_subtract_3 : decode b_Wf_subtract 3 = .ok (.invokestatic 73, 3) := by decide +kernel
theorem d_Wf_subtract_6 : decode b_Wf_subtract 6 = .ok (.aload_n 0, 1) := by decide +kernel
theorem d_Wf_subtract_7 : decode b_Wf_subtract 7 = .ok (.getfield 24, 3) := by decide +kernel
theorem d_Wf_subtract_10 : decode b_Wf_subtract 10 = .ok (.aload_n 0, 1) := by decide +kernel
theorem d_Wf_subtract_11 : decode b_Wf_subtract 11 = .ok (.getfield 11, 3) := by decide +kernel
theorem d_Wf_subtract_14 : decode b_Wf_subtract 14 = .ok (.iload_n 2, 1) := by decide +kernel
theorem d_Wf_subtract_15 : decode b_Wf_subtract 15 = .ok (.aaload, 1) := by decide +kernel
theorem d_Wf_subtract_16 : decode b_Wf_subtract 16 = .ok (.aload_n 0, 1) := by decide +kernel
theorem d_Wf_subtract_17 : decode b_Wf_subtract 17 = .ok (.getfield 11, 3) := by decide +kernel
theorem d_Wf_subtract_20 : decode b_Wf_subtract 20 = .ok (.iload_n 3, 1) := by decide +kernel
theorem d_Wf_subtract_21 : decode b_Wf_subtract 21 = .ok (.aaload, 1) := by decide +kernel
theorem d_Wf_subtract_22 : decode b_Wf_subtract 22 = .ok (.aload_n 0, 1) := by decide +kernel
theorem d_Wf_subtract_23 : decode b_Wf_subtract 23 = .ok (.getfield 11, 3) := by decide +kernel
theorem d_Wf_subtract_26 : decode b_Wf_subtract 26 = .ok (.iload_n 3, 1) := by decide +kernel
theorem d_Wf_subtract_27 : decode b_Wf_subtract 27 = .ok (.aaload, 1) := by decide +kernel
theorem d_Wf_subtract_28 : decode b_Wf_subtract 28 = .ok (.getfield 77, 3) := by decide +kernel
theorem d_Wf_subtract_31 : decode b_Wf_subtract 31 = .ok (.ifCond .ne 7, 3) := by decide +kernel
theorem d_Wf_subtract_34 : decode b_Wf_subtract 34 = .ok (.iconst 1, 1) := by decide +kernel
theorem d_Wf_subtract_35 : decode b_Wf_subtract 35 = .ok (.goto 4, 3) := by decide +kernel
theorem d_Wf_subtract_38 : decode b_Wf_subtract 38 = .ok (.iconst 0, 1) := by decide +kernel
theorem d_Wf_subtract_39 : decode b_Wf_subtract 39 = .ok (.invokevirtual 81, 3) := by decide +kernel
theorem d_Wf_subtract_42 : decode b_Wf_subtract 42 = .ok (.aload_n 0, 1) := by decide +kernel
theorem d_Wf_subtract_43 : decode b_Wf_subtract 43 = .ok (.getfield 24, 3) := by decide +kernel
theorem d_Wf_subtract_46 : decode b_Wf_subtract 46 = .ok (.invokevirtual 85, 3) := by decide +kernel
theorem d_Wf_subtract_49 : decode b_Wf_subtract 49 = .ok (.aload_n 0, 1) := by decide +kernel
theorem d_Wf_subtract_50 : decode b_Wf_subtract 50 = .ok (.iload_n 1, 1) := by decide +kernel
theorem d_Wf_subtract_51 : decode b_Wf_subtract 51 = .ok (.invokevirtual 60, 3) := by decide +kernel
theorem d_Wf_subtract_54 : decode b_Wf_subtract 54 = .ok (.return_, 1) := by decide +kernel
theorem d_Wf_multiply_0 : decode b_Wf_multiply 0 = .ok (.iload_n 1, 1) := by decide +kernel
theorem d_Wf_multiply_1 : decode b_Wf_multiply 1 = .ok (.iload_n 2, 1) := by decide +kernel
theorem d_Wf_multiply_2 : decode b_Wf_multiply 2 = .ok (.iload_n 3, 1) := by decide +kernel
theorem d_Wf_multiply_3 : decode b_Wf_multiply 3 = .ok (.invokestatic 73, 3) := by decide +kernel
theorem d_Wf_multiply_6 : decode b_Wf_multiply 6 = .ok (.aload_n 0, 1) := by decide +kernel
theorem d_Wf_multiply_7 : decode b_Wf_multiply 7 = .ok (.getfield 24, 3) := by decide +kernel
theorem d_Wf_multiply_10 : decode b_Wf_multiply 10 = .ok (.aload_n 0, 1) := by decide +kernel
theorem d_Wf_multiply_11 : decode b_Wf_multiply 11 = .ok (.getfield 11, 3) := by decide +kernel
theorem d_Wf_multiply_14 : decode b_Wf_multiply 14 = .ok (.iload_n 2, 1) := by decide +kernel
theorem d_Wf_multiply_15 : decode b_Wf_multiply 15 = .ok (.aaload, 1) := by decide +kernel
theorem d_Wf_multiply_16 : decode b_Wf_multiply 16 = .ok (.aload_n 0, 1) := by decide +kernel
theorem d_Wf_multiply_17 : decode b_Wf_multiply 17 = .ok (.getfield 11, 3) := by decide +kernel
theorem d_Wf_multiply_20 : decode b_Wf_multiply 20 = .ok (.iload_n 3, 1) := by decide +kernel
theorem d_Wf_multiply_21 : decode b_Wf_multiply 21 = .ok (.aaload, 1) := by decide +kernel
theorem d_Wf_multiply_22 : decode b_Wf_multiply 22 = .ok (.getfield 88, 3) := by decide +kernel
theorem d_Wf_multiply_25 : decode b_Wf_multiply 25 = .ok (.aload_n 0, 1) := by decide +kernel
theorem d_Wf_multiply_26 : decode b_Wf_multiply 26 = .ok (.getfield 11, 3) := by decide +kernel
theorem d_Wf_multiply_29 : decode b_Wf_multiply 29 = .ok (.iload_n 3, 1) := by decide +kernel
theorem d_Wf_multiply_30 : decode b_Wf_multiply 30 = .ok (.aaload, 1) := by decide +kernel
theorem d_Wf_multiply_31 : decode b_Wf_multiply 31 = .ok (.getfield 92, 3) := by decide +kernel
theorem d_Wf_multiply_34 : decode b_Wf_multiply 34 = .ok (.aload_n 0, 1) := by decide +kernel
theorem d_Wf_multiply_35 : decode b_Wf_multiply 35 = .ok (.getfield 11, 3) := by decide +kernel
theorem d_Wf_multiply_38 : decode b_Wf_multiply 38 = .ok (.iload_n 3, 1) := by decide +kernel
theorem d_Wf_multiply_39 : decode b_Wf_multiply 39 = .ok (.aaload, 1) := by decide +kernel
theorem d_Wf_multiply_40 : decode b_Wf_multiply 40 = .ok (.getfield 77, 3) := by decide +kernel
theorem d_Wf_multiply_43 : decode b_Wf_multiply 43 = .ok (.invokevirtual 95, 3) := by decide +kernel
theorem d_Wf_multiply_46 : decode b_Wf_multiply 46 = .ok (.aload_n 0, 1) := by decide +kernel
theorem d_Wf_multiply_47 : decode b_Wf_multiply 47 = .ok (.getfield 24, 3) := by decide +kernel
theorem d_Wf_multiply_50 : decode b_Wf_multiply 50 = .ok (.invokevirtual 85, 3) := by decide +kernel
theorem d_Wf_multiply_53 : decode b_Wf_multiply 53 = .ok (.aload_n 0, 1) := by decide +kernel
theorem d_Wf_multiply_54 : decode b_Wf_multiply 54 = .ok (.iload_n 1, 1) := by decide +kernel
theorem d_Wf_multiply_55 : decode b_Wf_multiply 55 = .ok (.invokevirtual 60, 3) := by decide +kernel
theorem d_Wf_multiply_58 : decode b_Wf_multiply 58 = .ok (.return_, 1) := by decide +kernel
theorem d_Wf_divide_0 : decode b_Wf_divide 0 = .ok (.iload_n 1, 1) := by decide +kernel
theorem d_Wf_divide_1 : decode b_Wf_divide 1 = .ok (.iload_n 2, 1) := by decide +kernel
theorem d_Wf_divide_2 : decode b_Wf_divide 2 = .ok (.iload_n 3, 1) := by decide +kernel
theorem d_Wf_divide_3 : decode b_Wf_divide 3 = .ok (.invokestatic 73, 3) := by decide +kernel
theorem d_Wf_divide_6 : decode b_Wf_divide 6 = .ok (.aload_n 0, 1) := by decide +kernel
theorem d_Wf_divide_7 : decode b_Wf_divide 7 = .ok (.getfield 11, 3) := by decide +kernel
theorem d_Wf_divide_10 : decode b_Wf_divide 10 = .ok (.iload_n 3, 1) := by decide +kernel
theorem d_Wf_divide_11 : decode b_Wf_divide 11 = .ok (.aaload, 1) := by decide +kernel
theorem d_Wf_divide_12 : decode b_Wf_divide 12 = .ok (.getfield 88, 3) := by decide +kernel
theorem d_Wf_divide_15 : decode b_Wf_divide 15 = .ok (.invokevirtual 99, 3) := by decide +kernel
theorem d_Wf_divide_18 : decode b_Wf_divide 18 = .ok (.ifCond .eq 13, 3) := by decide +kernel
theorem d_Wf_divide_21 : decode b_Wf_divide 21 = .ok (.new 49, 3) := by decide +kernel
theorem d_Wf_divide_24 : decode b_Wf_divide 24 = .ok (.dup, 1) := by decide +kernel
theorem d_Wf_divide_25 : decode b_Wf_divide 25 = .ok (.ldc 105, 2) := by decide +kernel
theorem d_Wf_divide_27 : decode b_Wf_divide 27 = .ok (.invokespecial 53, 3) := by decide +kernel
theorem d_Wf_divide_30 : decode b_Wf_divide 30 = .ok (.athrow, 1) := by decide +kernel
theorem d_Wf_divide_31 : decode b_Wf_divide 31 = .ok (.aload_n 0, 1) := by decide +kernel
theorem d_Wf_divide_32 : decode b_Wf_divide 32 = .ok (.getfield 24, 3) := by decide +kernel
theorem d_Wf_divide_35 : decode b_Wf_divide 35 = .ok (.aload_n 0, 1) := by decide +kernel
theorem d_Wf_divide_36 : decode b_Wf_divide 36 = .ok (.getfield 11, 3) := by decide +kernel
theorem d_Wf_divide_39 : decode b_Wf_divide 39 = .ok (.iload_n 2, 1) := by decide +kernel
theorem d_Wf_divide_40 : decode b_Wf_divide 40 = .ok (.aaload, 1) := by decide +kernel
theorem d_Wf_divide_41 : decode b_Wf_divide 41 = .ok (.aload_n 0, 1) := by decide +kernel
theorem d_Wf_divide_42 : decode b_Wf_divide 42 = .ok (.getfield 11, 3) := by decide +kernel
theorem d_Wf_divide_45 : decode b_Wf_divide 45 = .ok (.iload_n 3, 1) := by decide +kernel
theorem d_Wf_divide_46 : decode b_Wf_divide 46 = .ok (.aaload, 1) := by decide +kernel
theorem d_Wf_divide_47 : decode b_Wf_divide 47 = .ok (.getfield 92, 3) := by decide +kernel
theorem d_Wf_divide_50 : decode b_Wf_divide 50 = .ok (.aload_n 0, 1) := by decide +kernel
theorem d_Wf_divide_51 : decode b_Wf_divide 51 = .ok (.getfield 11, 3) := by decide +kernel
theorem d_Wf_divide_54 : decode b_Wf_divide 54 = .ok (.iload_n 3, 1) := by decide +kernel
theorem d_Wf_divide_55 : decode b_Wf_divide 55 = .ok (.aaload, 1) := by decide +kernel
theorem d_Wf_divide_56 : decode b_Wf_divide 56 = .ok (.getfield 88, 3) := by decide +kernel
theorem d_Wf_divide_59 : decode b_Wf_divide 59 = .ok (.aload_n 0, 1) := by decide +kernel
theorem d_Wf_divide_60 : decode b_Wf_divide 60 = .ok (.getfield 11, 3) := by decide +kernel
theorem d_Wf_divide_63 : decode b_Wf_divide 63 = .ok (.iload_n 3, 1) := by decide +kernel
theorem d_Wf_divide_64 : decode b_Wf_divide 64 = .ok (.aaload, 1) := by decide +kernel
theorem d_Wf_divide_65 : decode b_Wf_divide 65 = .ok (.getfield 77, 3) := by decide +kernel
theorem d_Wf_divide_68 : decode b_Wf_divide 68 = .ok (.invokevirtual 95, 3) := by decide +kernel
theorem d_Wf_divide_71 : decode b_Wf_divide 71 = .ok (.aload_n 0, 1) := by decide +kernel
theorem d_Wf_divide_72 : decode b_Wf_divide 72 = .ok (.getfield 24, 3) := by decide +kernel
theorem d_Wf_divide_75 : decode b_Wf_divide 75 = .ok (.invokevirtual 85, 3) := by decide +kernel
theorem d_Wf_divide_78 : decode b_Wf_divide 78 = .ok (.aload_n 0, 1) := by decide +kernel
theorem d_Wf_divide_79 : decode b_Wf_divide 79 = .ok (.iload_n 1, 1) := by decide +kernel
theorem d_Wf_divide_80 : decode b_Wf_divide 80 = .ok (.invokevirtual 60, 3) := by decide +kernel
theorem d_Wf_divide_83 : decode b_Wf_divide 83 = .ok (.return_, 1) := by decide +kernel
theorem d_Wf_power_0 : decode b_Wf_power 0 = .ok (.iload_n 1, 1) := by decide +kernel
theorem d_Wf_power_1 : decode b_Wf_power 1 = .ok (.invokestatic 35, 3) := by decide +kernel
theorem d_Wf_power_4 : decode b_Wf_power 4 = .ok (.iload_n 2, 1) := by decide +kernel
theorem d_Wf_power_5 : decode b_Wf_power 5 = .ok (.invokestatic 35, 3) := by decide +kernel
theorem d_Wf_power_8 : decode b_Wf_power 8 = .ok (.iload_n 3, 1) := by decide +kernel
theorem d_Wf_power_9 : decode b_Wf_power 9 = .ok (.i2l, 1) := by decide +kernel
theorem d_Wf_power_10 : decode b_Wf_power 10 = .ok (.lconst 0, 1) := by decide +kernel
theorem d_Wf_power_11 : decode b_Wf_power 11 = .ok (.ldc2_w 107, 3) := by decide +kernel
theorem d_Wf_power_14 : decode b_Wf_power 14 = .ok (.invokestatic 45, 3) := by decide +kernel
theorem d_Wf_power_17 : decode b_Wf_power 17 = .ok (.aload_n 0, 1) := by decide +kernel
theorem d_Wf_power_18 : decode b_Wf_power 18 = .ok (.getfield 24, 3) := by decide +kernel
theorem d_Wf_power_21 : decode b_Wf_power 21 = .ok (.aload_n 0, 1) := by decide +kernel
theorem d_Wf_power_22 : decode b_Wf_power 22 = .ok (.getfield 11, 3) := by decide +kernel
theorem d_Wf_power_25 : decode b_Wf_power 25 = .ok (.iload_n 2, 1) := by decide +kernel
theorem d_Wf_power_26 : decode b_Wf_power 26 = .ok (.aaload, 1) := by decide +kernel
theorem d_Wf_power_27 : decode b_Wf_power 27 = .ok (.iload_n 3, 1) := by decide +kernel
theorem d_Wf_power_28 : decode b_Wf_power 28 = .ok (.invokevirtual 109, 3) := by decide +kernel
theorem d_Wf_power_31 : decode b_Wf_power 31 = .ok (.aload_n 0, 1) := by decide +kernel
theorem d_Wf_power_32 : decode b_Wf_power 32 = .ok (.iload_n 1, 1) := by decide +kernel
theorem d_Wf_power_33 : decode b_Wf_power 33 = .ok (.invokevirtual 60, 3) := by decide +kernel
theorem d_Wf_power_36 : decode b_Wf_power 36 = .ok (.return_, 1) := by decide +kernel
theorem d_Wf_binomial_0 : decode b_Wf_binomial 0 = .ok (.iload_n 1, 1) := by decide +kernel
theorem d_Wf_binomial_1 : decode b_Wf_binomial 1 = .ok (.invokestatic 35, 3) := by decide +kernel
theorem d_Wf_binomial_4 : decode b_Wf_binomial 4 = .ok (.iload_n 2, 1) := by decide +kernel
theorem d_Wf_binomial_5 : decode b_Wf_binomial 5 = .ok (.i2l, 1) := by decide +kernel
theorem d_Wf_binomial_6 : decode b_Wf_binomial 6 = .ok (.lconst 0, 1) := by decide +kernel
theorem d_Wf_binomial_7 : decode b_Wf_binomial 7 = .ok (.ldc2_w 112, 3) := by decide +kernel
theorem d_Wf_binomial_10 : decode b_Wf_binomial 10 = .ok (.invokestatic 45, 3) := by decide +kernel
theorem d_Wf_binomial_13 : decode b_Wf_binomial 13 = .ok (.aload_n 0, 1) := by decide +kernel
theorem d_Wf_binomial_14 : decode b_Wf_binomial 14 = .ok (.getfield 24, 3) := by decide +kernel
theorem d_Wf_binomial_17 : decode b_Wf_binomial 17 = .ok (.iload_n 2, 1) := by decide +kernel
theorem d_Wf_binomial_18 : decode b_Wf_binomial 18 = .ok (.iload_n 3, 1) := by decide +kernel
theorem d_Wf_binomial_19 : decode b_Wf_binomial 19 = .ok (.invokevirtual 114, 3) := by decide +kernel
theorem d_Wf_binomial_22 : decode b_Wf_binomial 22 = .ok (.aload_n 0, 1) := by decide +kernel
theorem d_Wf_binomial_23 : decode b_Wf_binomial 23 = .ok (.iload_n 1, 1) := by decide +kernel
theorem d_Wf_binomial_24 : decode b_Wf_binomial 24 = .ok (.invokevirtual 60, 3) := by decide +kernel
theorem d_Wf_binomial_27 : decode b_Wf_binomial 27 = .ok (.return_, 1) := by decide +kernel
theorem d_Wf_round_0 : decode b_Wf_round 0 = .ok (.iload_n 1, 1) := by decide +kernel
theorem d_Wf_round_1 : decode b_Wf_round 1 = .ok (.invokestatic 35, 3) := by decide +kernel
theorem d_Wf_round_4 : decode b_Wf_round 4 = .ok (.iload_n 2, 1) := by decide +kernel
theorem d_Wf_round_5 : decode b_Wf_round 5 = .ok (.invokestatic 35, 3) := by decide +kernel
theorem d_Wf_round_8 : decode b_Wf_round 8 = .ok (.iload_n 3, 1) := by decide +kernel
theorem d_Wf_round_9 : decode b_Wf_round 9 = .ok (.i2l, 1) := by decide +kernel
theorem d_Wf_round_10 : decode b_Wf_round 10 = .ok (.lconst 0, 1) := by decide +kernel
theorem d_Wf_round_11 : decode b_Wf_round 11 = .ok (.ldc2_w 118, 3) := by decide +kernel
theorem d_Wf_round_14 : decode b_Wf_round 14 = .ok (.invokestatic 45, 3) := by decide +kernel
theorem d_Wf_round_17 : decode b_Wf_round 17 = .ok (.iload 4, 2) := by decide +kernel
theorem d_Wf_round_19 : decode b_Wf_round 19 = .ok (.i2l, 1) := by decide +kernel
theorem d_Wf_round_20 : decode b_Wf_round 20 = .ok (.lconst 0, 1) := by decide +kernel
theorem d_Wf_round_21 : decode b_Wf_round 21 = .ok (.ldc2_w 120, 3) := by decide +kernel
theorem d_Wf_round_24 : decode b_Wf_round 24 = .ok (.invokestatic 45, 3) := by decide +kernel
theorem d_Wf_round_27 : decode b_Wf_round 27 = .ok (.aload_n 0, 1) := by decide +kernel
theorem d_Wf_round_28 : decode b_Wf_round 28 = .ok (.getfield 24, 3) := by decide +kernel
theorem d_Wf_round_31 : decode b_Wf_round 31 = .ok (.aload_n 0, 1) := by decide +kernel
theorem d_Wf_round_32 : decode b_Wf_round 32 = .ok (.getfield 11, 3) := by decide +kernel
theorem d_Wf_round_35 : decode b_Wf_round 35 = .ok (.iload_n 2, 1) := by decide +kernel
theorem d_Wf_round_36 : decode b_Wf_round 36 = .ok (.aaload, 1) := by decide +kernel
theorem d_Wf_round_37 : decode b_Wf_round 37 = .ok (.iload_n 3, 1) := by decide +kernel
theorem d_Wf_round_38 : decode b_Wf_round 38 = .ok (.iload 4, 2) := by decide +kernel
theorem d_Wf_round_40 : decode b_Wf_round 40 = .ok (.invokevirtual 122, 3) := by decide +kernel
theorem d_Wf_round_43 : decode b_Wf_round 43 = .ok (.aload_n 0, 1) := by decide +kernel
theorem d_Wf_round_44 : decode b_Wf_round 44 = .ok (.getfield 24, 3) := by decide +kernel
theorem d_Wf_round_47 : decode b_Wf_round 47 = .ok (.invokevirtual 85, 3) := by decide +kernel
theorem d_Wf_round_50 : decode b_Wf_round 50 = .ok (.aload_n 0, 1) := by decide +kernel
theorem d_Wf_round_51 : decode b_Wf_round 51 = .ok (.iload_n 1, 1) := by decide +kernel
theorem d_Wf_round_52 : decode b_Wf_round 52 = .ok (.invokevirtual 60, 3) := by decide +kernel
theorem d_Wf_round_55 : decode b_Wf_round 55 = .ok (.return_, 1) := by decide +kernel
theorem d_Wf_root_0 : decode b_Wf_root 0 = .ok (.iload_n 1, 1) := by decide +kernel
theorem d_Wf_root_1 : decode b_Wf_root 1 = .ok (.invokestatic 35, 3) := by decide +kernel
theorem d_Wf_root_4 : decode b_Wf_root 4 = .ok (.iload_n 2, 1) := by decide +kernel
theorem d_Wf_root_5 : decode b_Wf_root 5 = .ok (.invokestatic 35, 3) := by decide +kernel
theorem d_Wf_root_8 : decode b_Wf_root 8 = .ok (.iload_n 3, 1) := by decide +kernel
theorem d_Wf_root_9 : decode b_Wf_root 9 = .ok (.i2l, 1) := by decide +kernel
theorem d_Wf_root_10 : decode b_Wf_root 10 = .ok (.lconst 0, 1) := by decide +kernel
theorem d_Wf_root_11 : decode b_Wf_root 11 = .ok (.ldc2_w 118, 3) := by decide +kernel
theorem d_Wf_root_14 : decode b_Wf_root 14 = .ok (.invokestatic 45, 3) := by decide +kernel
theorem d_Wf_root_17 : decode b_Wf_root 17 = .ok (.aload_n 0, 1) := by decide +kernel
theorem d_Wf_root_18 : decode b_Wf_root 18 = .ok (.getfield 11, 3) := by decide +kernel
theorem d_Wf_root_21 : decode b_Wf_root 21 = .ok (.iload_n 2, 1) := by decide +kernel
theorem d_Wf_root_22 : decode b_Wf_root 22 = .ok (.aaload, 1) := by decide +kernel
theorem d_Wf_root_23 : decode b_Wf_root 23 = .ok (.getfield 77, 3) := by decide +kernel
theorem d_Wf_root_26 : decode b_Wf_root 26 = .ok (.ifCond .eq 13, 3) := by decide +kernel
theorem d_Wf_root_29 : decode b_Wf_root 29 = .ok (.new 49, 3) := by decide +kernel
theorem d_Wf_root_32 : decode b_Wf_root 32 = .ok (.dup, 1) := by decide +kernel
theorem d_Wf_root_33 : decode b_Wf_root 33 = .ok (.ldc 126, 2) := by decide +kernel
theorem d_Wf_root_35 : decode b_Wf_root 35 = .ok (.invokespecial 53, 3) := by decide +kernel
theorem d_Wf_root_38 : decode b_Wf_root 38 = .ok (.athrow, 1) := by decide +kernel
theorem d_Wf_root_39 : decode b_Wf_root 39 = .ok (.aload_n 0, 1) := by decide +kernel
theorem d_Wf_root_40 : decode b_Wf_root 40 = .ok (.getfield 24, 3) := by decide +kernel
theorem d_Wf_root_43 : decode b_Wf_root 43 = .ok (.aload_n 0, 1) := by decide +kernel
theorem d_Wf_root_44 : decode b_Wf_root 44 = .ok (.getfield 11, 3) := by decide +kernel
theorem d_Wf_root_47 : decode b_Wf_root 47 = .ok (.iload_n 2, 1) := by decide +kernel
theorem d_Wf_root_48 : decode b_Wf_root 48 = .ok (.aaload, 1) := by decide +kernel
theorem d_Wf_root_49 : decode b_Wf_root 49 = .ok (.iload_n 3, 1) := by decide +kernel
theorem d_Wf_root_50 : decode b_Wf_root 50 = .ok (.invokevirtual 128, 3) := by decide +kernel
theorem d_Wf_root_53 : decode b_Wf_root 53 = .ok (.aload_n 0, 1) := by decide +kernel
theorem d_Wf_root_54 : decode b_Wf_root 54 = .ok (.getfield 24, 3) := by decide +kernel
theorem d_Wf_root_57 : decode b_Wf_root 57 = .ok (.invokevirtual 85, 3) := by decide +kernel
theorem d_Wf_root_60 : decode b_Wf_root 60 = .ok (.aload_n 0, 1) := by decide +kernel
theorem d_Wf_root_61 : decode b_Wf_root 61 = .ok (.iload_n 1, 1) := by decide +kernel
theorem d_Wf_root_62 : decode b_Wf_root 62 = .ok (.invokevirtual 60, 3) := by decide +kernel
theorem d_Wf_root_65 : decode b_Wf_root 65 = .ok (.return_, 1) := by decide +kernel
theorem d_Wf_compare_0 : decode b_Wf_compare 0 = .ok (.iload_n 1, 1) := by decide +kernel
theorem d_Wf_compare_1 : decode b_Wf_compare 1 = .ok (.invokestatic 35, 3) := by decide +kernel
theorem d_Wf_compare_4 : decode b_Wf_compare 4 = .ok (.iload_n 2, 1) := by decide +kernel
theorem d_Wf_compare_5 : decode b_Wf_compare 5 = .ok (.invokestatic 35, 3) := by decide +kernel
theorem d_Wf_compare_8 : decode b_Wf_compare 8 = .ok (.aload_n 0, 1) := by decide +kernel
theorem d_Wf_compare_9 : decode b_Wf_compare 9 = .ok (.getfield 24, 3) := by decide +kernel
theorem d_Wf_compare_12 : decode b_Wf_compare 12 = .ok (.aload_n 0, 1) := by decide +kernel
theorem d_Wf_compare_13 : decode b_Wf_compare 13 = .ok (.getfield 11, 3) := by decide +kernel
theorem d_Wf_compare_16 : decode b_Wf_compare 16 = .ok (.iload_n 1, 1) := by decide +kernel
theorem d_Wf_compare_17 : decode b_Wf_compare 17 = .ok (.aaload, 1) := by decide +kernel
theorem d_Wf_compare_18 : decode b_Wf_compare 18 = .ok (.aload_n 0, 1) := by decide +kernel
theorem d_Wf_compare_19 : decode b_Wf_compare 19 = .ok (.getfield 11, 3) := by decide +kernel
theorem d_Wf_compare_22 : decode b_Wf_compare 22 = .ok (.iload_n 2, 1) := by decide +kernel
theorem d_Wf_compare_23 : decode b_Wf_compare 23 = .ok (.aaload, 1) := by decide +kernel
theorem d_Wf_compare_24 : decode b_Wf_compare 24 = .ok (.invokevirtual 131, 3) := by decide +kernel
theorem d_Wf_compare_27 : decode b_Wf_compare 27 = .ok (.ireturn, 1) := by decide +kernel
theorem d_Wf_sign_0 : decode b_Wf_sign 0 = .ok (.iload_n 1, 1) := by decide +kernel
theorem d_Wf_sign_1 : decode b_Wf_sign 1 = .ok (.invokestatic 35, 3) := by decide +kernel
theorem d_Wf_sign_4 : decode b_Wf_sign 4 = .ok (.aload_n 0, 1) := by decide +kernel
theorem d_Wf_sign_5 : decode b_Wf_sign 5 = .ok (.getfield 11, 3) := by decide +kernel
theorem d_Wf_sign_8 : decode b_Wf_sign 8 = .ok (.iload_n 1, 1) := by decide +kernel
theorem d_Wf_sign_9 : decode b_Wf_sign 9 = .ok (.aaload, 1) := by decide +kernel
theorem d_Wf_sign_10 : decode b_Wf_sign 10 = .ok (.invokevirtual 135, 3) := by decide +kernel
theorem d_Wf_sign_13 : decode b_Wf_sign 13 = .ok (.ireturn, 1) := by decide +kernel
theorem d_Wf_digits_0 : decode b_Wf_digits 0 = .ok (.aload_n 0, 1) := by decide +kernel
theorem d_Wf_digits_1 : decode b_Wf_digits 1 = .ok (.iload_n 1, 1) := by decide +kernel
theorem d_Wf_digits_2 : decode b_Wf_digits 2 = .ok (.iload_n 2, 1) := by decide +kernel
theorem d_Wf_digits_3 : decode b_Wf_digits 3 = .ok (.invokevirtual 139, 3) := by decide +kernel
theorem d_Wf_digits_6 : decode b_Wf_digits 6 = .ok (.invokevirtual 143, 3) := by decide +kernel
theorem d_Wf_digits_9 : decode b_Wf_digits 9 = .ok (.ireturn, 1) := by decide +kernel
theorem d_Wf_digit_0 : decode b_Wf_digit 0 = .ok (.aload_n 0, 1) := by decide +kernel
theorem d_Wf_digit_1 : decode b_Wf_digit 1 = .ok (.iload_n 1, 1) := by decide +kernel
theorem d_Wf_digit_2 : decode b_Wf_digit 2 = .ok (.iload_n 2, 1) := by decide +kernel
theorem d_Wf_digit_3 : decode b_Wf_digit 3 = .ok (.invokevirtual 139, 3) := by decide +kernel
theorem d_Wf_digit_6 : decode b_Wf_digit 6 = .ok (.astore 4, 2) := by decide +kernel
theorem d_Wf_digit_8 : decode b_Wf_digit 8 = .ok (.iload_n 3, 1) := by decide +kernel
theorem d_Wf_digit_9 : decode b_Wf_digit 9 = .ok (.ifCond .lt 12, 3) := by decide +kernel
theorem d_Wf_digit_12 : decode b_Wf_digit 12 = .ok (.iload_n 3, 1) := by decide +kernel
theorem d_Wf_digit_13 : decode b_Wf_digit 13 = .ok (.aload 4, 2) := by decide +kernel
theorem d_Wf_digit_15 : decode b_Wf_digit 15 = .ok (.invokevirtual 143, 3) := by decide +kernel
theorem d_Wf_digit_18 : decode b_Wf_digit 18 = .ok (.if_icmp .lt 13, 3) := by decide +kernel
theorem d_Wf_digit_21 : decode b_Wf_digit 21 = .ok (.new 146, 3) := by decide +kernel
theorem d_Wf_digit_24 : decode b_Wf_digit 24 = .ok (.dup, 1) := by decide +kernel
theorem d_Wf_digit_25 : decode b_Wf_digit 25 = .ok (.ldc 148, 2) := by decide +kernel
theorem d_Wf_digit_27 : decode b_Wf_digit 27 = .ok (.invokespecial 150, 3) := by decide +kernel
theorem d_Wf_digit_30 : decode b_Wf_digit 30 = .ok (.athrow, 1) := by decide +kernel
theorem d_Wf_digit_31 : decode b_Wf_digit 31 = .ok (.aload 4, 2) := by decide +kernel
theorem d_Wf_digit_33 : decode b_Wf_digit 33 = .ok (.iload_n 3, 1) := by decide +kernel
theorem d_Wf_digit_34 : decode b_Wf_digit 34 = .ok (.invokevirtual 151, 3) := by decide +kernel
theorem d_Wf_digit_37 : decode b_Wf_digit 37 = .ok (.ireturn, 1) := by decide +kernel
theorem d_Wf_behind_0 : decode b_Wf_behind 0 = .ok (.iload_n 1, 1) := by decide +kernel
theorem d_Wf_behind_1 : decode b_Wf_behind 1 = .ok (.invokestatic 35, 3) := by decide +kernel
theorem d_Wf_behind_4 : decode b_Wf_behind 4 = .ok (.iload_n 2, 1) := by decide +kernel
theorem d_Wf_behind_5 : decode b_Wf_behind 5 = .ok (.i2l, 1) := by decide +kernel
theorem d_Wf_behind_6 : decode b_Wf_behind 6 = .ok (.lconst 1, 1) := by decide +kernel
theorem d_Wf_behind_7 : decode b_Wf_behind 7 = .ok (.ldc2_w 155, 3) := by decide +kernel
theorem d_Wf_behind_10 : decode b_Wf_behind 10 = .ok (.invokestatic 45, 3) := by decide +kernel
theorem d_Wf_behind_13 : decode b_Wf_behind 13 = .ok (.aload_n 0, 1) := by decide +kernel
theorem d_Wf_behind_14 : decode b_Wf_behind 14 = .ok (.getfield 24, 3) := by decide +kernel
theorem d_Wf_behind_17 : decode b_Wf_behind 17 = .ok (.aload_n 0, 1) := by decide +kernel
theorem d_Wf_behind_18 : decode b_Wf_behind 18 = .ok (.getfield 11, 3) := by decide +kernel
theorem d_Wf_behind_21 : decode b_Wf_behind 21 = .ok (.iload_n 1, 1) := by decide +kernel
theorem d_Wf_behind_22 : decode b_Wf_behind 22 = .ok (.aaload, 1) := by decide +kernel
theorem d_Wf_behind_23 : decode b_Wf_behind 23 = .ok (.iload_n 2, 1) := by decide +kernel
theorem d_Wf_behind_24 : decode b_Wf_behind 24 = .ok (.invokevirtual 157, 3) := by decide +kernel
theorem d_Wf_behind_27 : decode b_Wf_behind 27 = .ok (.ireturn, 1) := by decide +kernel
theorem d_Wf_modulo_0 : decode b_Wf_modulo 0 = .ok (.aload_n 0, 1) := by decide +kernel
theorem d_Wf_modulo_1 : decode b_Wf_modulo 1 = .ok (.iload_n 1, 1) := by decide +kernel
theorem d_Wf_modulo_2 : decode b_Wf_modulo 2 = .ok (.iload_n 2, 1) := by decide +kernel
theorem d_Wf_modulo_3 : decode b_Wf_modulo 3 = .ok (.invokevirtual 139, 3) := by decide +kernel
theorem d_Wf_modulo_6 : decode b_Wf_modulo 6 = .ok (.astore 4, 2) := by decide +kernel
theorem d_Wf_modulo_8 : decode b_Wf_modulo 8 = .ok (.iload_n 3, 1) := by decide +kernel
theorem d_Wf_modulo_9 : decode b_Wf_modulo 9 = .ok (.i2l, 1) := by decide +kernel
theorem d_Wf_modulo_10 : decode b_Wf_modulo 10 = .ok (.lconst 1, 1) := by decide +kernel
theorem d_Wf_modulo_11 : decode b_Wf_modulo 11 = .ok (.ldc2_w 161, 3) := by decide +kernel
theorem d_Wf_modulo_14 : decode b_Wf_modulo 14 = .ok (.invokestatic 45, 3) := by decide +kernel
theorem d_Wf_modulo_17 : decode b_Wf_modulo 17 = .ok (.aload 4, 2) := by decide +kernel
theorem d_Wf_modulo_19 : decode b_Wf_modulo 19 = .ok (.iload_n 3, 1) := by decide +kernel
theorem d_Wf_modulo_20 : decode b_Wf_modulo 20 = .ok (.i2l, 1) := by decide +kernel
theorem d_Wf_modulo_21 : decode b_Wf_modulo 21 = .ok (.invokevirtual 163, 3) := by decide +kernel
theorem d_Wf_modulo_24 : decode b_Wf_modulo 24 = .ok (.l2i, 1) := by decide +kernel
theorem d_Wf_modulo_25 : decode b_Wf_modulo 25 = .ok (.ireturn, 1) := by decide +kernel
theorem d_Wf_weight_0 : decode b_Wf_weight 0 = .ok (.iload_n 1, 1) := by decide +kernel
theorem d_Wf_weight_1 : decode b_Wf_weight 1 = .ok (.i2l, 1) := by decide +kernel
theorem d_Wf_weight_2 : decode b_Wf_weight 2 = .ok (.lconst 0, 1) := by decide +kernel
theorem d_Wf_weight_3 : decode b_Wf_weight 3 = .ok (.ldc2_w 167, 3) := by decide +kernel
theorem d_Wf_weight_6 : decode b_Wf_weight 6 = .ok (.invokestatic 45, 3) := by decide +kernel
theorem d_Wf_weight_9 : decode b_Wf_weight 9 = .ok (.iload_n 2, 1) := by decide +kernel
theorem d_Wf_weight_10 : decode b_Wf_weight 10 = .ok (.i2l, 1) := by decide +kernel
theorem d_Wf_weight_11 : decode b_Wf_weight 11 = .ok (.lconst 0, 1) := by decide +kernel
theorem d_Wf_weight_12 : decode b_Wf_weight 12 = .ok (.ldc2_w 161, 3) := by decide +kernel
theorem d_Wf_weight_15 : decode b_Wf_weight 15 = .ok (.invokestatic 45, 3) := by decide +kernel
theorem d_Wf_weight_18 : decode b_Wf_weight 18 = .ok (.aload_n 0, 1) := by decide +kernel
theorem d_Wf_weight_19 : decode b_Wf_weight 19 = .ok (.getfield 31, 3) := by decide +kernel
theorem d_Wf_weight_22 : decode b_Wf_weight 22 = .ok (.iload_n 1, 1) := by decide +kernel
theorem d_Wf_weight_23 : decode b_Wf_weight 23 = .ok (.iload_n 2, 1) := by decide +kernel
theorem d_Wf_weight_24 : decode b_Wf_weight 24 = .ok (.invokevirtual 169, 3) := by decide +kernel
theorem d_Wf_weight_27 : decode b_Wf_weight 27 = .ok (.ireturn, 1) := by decide +kernel
theorem d_Wf_share_0 : decode b_Wf_share 0 = .ok (.iload_n 1, 1) := by decide +kernel
theorem d_Wf_share_1 : decode b_Wf_share 1 = .ok (.invokestatic 35, 3) := by decide +kernel
theorem d_Wf_share_4 : decode b_Wf_share 4 = .ok (.iload_n 2, 1) := by decide +kernel
theorem d_Wf_share_5 : decode b_Wf_share 5 = .ok (.invokestatic 35, 3) := by decide +kernel
theorem d_Wf_share_8 : decode b_Wf_share 8 = .ok (.iload_n 3, 1) := by decide +kernel
theorem d_Wf_share_9 : decode b_Wf_share 9 = .ok (.i2l, 1) := by decide +kernel
theorem d_Wf_share_10 : decode b_Wf_share 10 = .ok (.lconst 0, 1) := by decide +kernel
theorem d_Wf_share_11 : decode b_Wf_share 11 = .ok (.ldc2_w 167, 3) := by decide +kernel
theorem d_Wf_share_14 : decode b_Wf_share 14 = .ok (.invokestatic 45, 3) := by decide +kernel
theorem d_Wf_share_17 : decode b_Wf_share 17 = .ok (.aload_n 0, 1) := by decide +kernel
theorem d_Wf_share_18 : decode b_Wf_share 18 = .ok (.getfield 31, 3) := by decide +kernel
theorem d_Wf_share_21 : decode b_Wf_share 21 = .ok (.invokevirtual 173, 3) := by decide +kernel
theorem d_Wf_share_24 : decode b_Wf_share 24 = .ok (.lconst 0, 1) := by decide +kernel
theorem d_Wf_share_25 : decode b_Wf_share 25 = .ok (.lcmp, 1) := by decide +kernel
theorem d_Wf_share_26 : decode b_Wf_share 26 = .ok (.ifCond .ne 13, 3) := by decide +kernel
theorem d_Wf_share_29 : decode b_Wf_share 29 = .ok (.new 49, 3) := by decide +kernel
theorem d_Wf_share_32 : decode b_Wf_share 32 = .ok (.dup, 1) := by decide +kernel
theorem d_Wf_share_33 : decode b_Wf_share 33 = .ok (.ldc 177, 2) := by decide +kernel
theorem d_Wf_share_35 : decode b_Wf_share 35 = .ok (.invokespecial 53, 3) := by decide +kernel
theorem d_Wf_share_38 : decode b_Wf_share 38 = .ok (.athrow, 1) := by decide +kernel
theorem d_Wf_share_39 : decode b_Wf_share 39 = .ok (.aload_n 0, 1) := by decide +kernel
theorem d_Wf_share_40 : decode b_Wf_share 40 = .ok (.getfield 11, 3) := by decide +kernel
theorem d_Wf_share_43 : decode b_Wf_share 43 = .ok (.iload_n 2, 1) := by decide +kernel
theorem d_Wf_share_44 : decode b_Wf_share 44 = .ok (.aaload, 1) := by decide +kernel
theorem d_Wf_share_45 : decode b_Wf_share 45 = .ok (.invokestatic 65, 3) := by decide +kernel
theorem d_Wf_share_48 : decode b_Wf_share 48 = .ok (.aload_n 0, 1) := by decide +kernel
theorem d_Wf_share_49 : decode b_Wf_share 49 = .ok (.getfield 11, 3) := by decide +kernel
theorem d_Wf_share_52 : decode b_Wf_share 52 = .ok (.iload_n 2, 1) := by decide +kernel
theorem d_Wf_share_53 : decode b_Wf_share 53 = .ok (.aaload, 1) := by decide +kernel
theorem d_Wf_share_54 : decode b_Wf_share 54 = .ok (.getfield 77, 3) := by decide +kernel
theorem d_Wf_share_57 : decode b_Wf_share 57 = .ok (.ifCond .eq 13, 3) := by decide +kernel
theorem d_Wf_share_60 : decode b_Wf_share 60 = .ok (.new 179, 3) := by decide +kernel
theorem d_Wf_share_63 : decode b_Wf_share 63 = .ok (.dup, 1) := by decide +kernel
theorem d_Wf_share_64 : decode b_Wf_share 64 = .ok (.ldc 126, 2) := by decide +kernel
theorem d_Wf_share_66 : decode b_Wf_share 66 = .ok (.invokespecial 181, 3) := by decide +kernel
theorem d_Wf_share_69 : decode b_Wf_share 69 = .ok (.athrow, 1) := by decide +kernel
theorem d_Wf_share_70 : decode b_Wf_share 70 = .ok (.aload_n 0, 1) := by decide +kernel
theorem d_Wf_share_71 : decode b_Wf_share 71 = .ok (.getfield 24, 3) := by decide +kernel
theorem d_Wf_share_74 : decode b_Wf_share 74 = .ok (.aload_n 0, 1) := by decide +kernel
theorem d_Wf_share_75 : decode b_Wf_share 75 = .ok (.getfield 31, 3) := by decide +kernel
theorem d_Wf_share_78 : decode b_Wf_share 78 = .ok (.aload_n 0, 1) := by decide +kernel
theorem d_Wf_share_79 : decode b_Wf_share 79 = .ok (.getfield 11, 3) := by decide +kernel
theorem d_Wf_share_82 : decode b_Wf_share 82 = .ok (.iload_n 2, 1) := by decide +kernel
theorem d_Wf_share_83 : decode b_Wf_share 83 = .ok (.aaload, 1) := by decide +kernel
theorem d_Wf_share_84 : decode b_Wf_share 84 = .ok (.getfield 88, 3) := by decide +kernel
theorem d_Wf_share_87 : decode b_Wf_share 87 = .ok (.iload_n 3, 1) := by decide +kernel
theorem d_Wf_share_88 : decode b_Wf_share 88 = .ok (.invokevirtual 182, 3) := by decide +kernel
theorem d_Wf_share_91 : decode b_Wf_share 91 = .ok (.iconst 0, 1) := by decide +kernel
theorem d_Wf_share_92 : decode b_Wf_share 92 = .ok (.iconst 0, 1) := by decide +kernel
theorem d_Wf_share_93 : decode b_Wf_share 93 = .ok (.invokevirtual 186, 3) := by decide +kernel
theorem d_Wf_share_96 : decode b_Wf_share 96 = .ok (.aload_n 0, 1) := by decide +kernel
theorem d_Wf_share_97 : decode b_Wf_share 97 = .ok (.iload_n 1, 1) := by decide +kernel
theorem d_Wf_share_98 : decode b_Wf_share 98 = .ok (.invokevirtual 60, 3) := by decide +kernel
theorem d_Wf_share_101 : decode b_Wf_share 101 = .ok (.return_, 1) := by decide +kernel
theorem d_Wf_requireWithin_0 : decode b_Wf_requireWithin 0 = .ok (.lload_n 0, 1) := by decide +kernel
theorem d_Wf_requireWithin_1 : decode b_Wf_requireWithin 1 = .ok (.lload_n 2, 1) := by decide +kernel
theorem d_Wf_requireWithin_2 : decode b_Wf_requireWithin 2 = .ok (.lcmp, 1) := by decide +kernel
theorem d_Wf_requireWithin_3 : decode b_Wf_requireWithin 3 = .ok (.ifCond .lt 10, 3) := by decide +kernel
theorem d_Wf_requireWithin_6 : decode b_Wf_requireWithin 6 = .ok (.lload_n 0, 1) := by decide +kernel
theorem d_Wf_requireWithin_7 : decode b_Wf_requireWithin 7 = .ok (.lload 4, 2) := by decide +kernel
theorem d_Wf_requireWithin_9 : decode b_Wf_requireWithin 9 = .ok (.lcmp, 1) := by decide +kernel
theorem d_Wf_requireWithin_10 : decode b_Wf_requireWithin 10 = .ok (.ifCond .le 13, 3) := by decide +kernel
theorem d_Wf_requireWithin_13 : decode b_Wf_requireWithin 13 = .ok (.new 190, 3) := by decide +kernel
theorem d_Wf_requireWithin_16 : decode b_Wf_requireWithin 16 = .ok (.dup, 1) := by decide +kernel
theorem d_Wf_requireWithin_17 : decode b_Wf_requireWithin 17 = .ok (.ldc 192, 2) := by decide +kernel
theorem d_Wf_requireWithin_19 : decode b_Wf_requireWithin 19 = .ok (.invokespecial 194, 3) := by decide +kernel
theorem d_Wf_requireWithin_22 : decode b_Wf_requireWithin 22 = .ok (.athrow, 1) := by decide +kernel
theorem d_Wf_requireWithin_23 : decode b_Wf_requireWithin 23 = .ok (.return_, 1) := by decide +kernel
theorem d_Wf_requireRegister_0 : decode b_Wf_requireRegister 0 = .ok (.iload_n 0, 1) := by decide +kernel
theorem d_Wf_requireRegister_1 : decode b_Wf_requireRegister 1 = .ok (.ifCond .lt 9, 3) := by decide +kernel
theorem d_Wf_requireRegister_4 : decode b_Wf_requireRegister 4 = .ok (.iload_n 0, 1) := by decide +kernel
theorem d_Wf_requireRegister_5 : decode b_Wf_requireRegister 5 = .ok (.bipush 16, 2) := by decide +kernel
theorem d_Wf_requireRegister_7 : decode b_Wf_requireRegister 7 = .ok (.if_icmp .lt 13, 3) := by decide +kernel
theorem d_Wf_requireRegister_10 : decode b_Wf_requireRegister 10 = .ok (.new 190, 3) := by decide +kernel
theorem d_Wf_requireRegister_13 : decode b_Wf_requireRegister 13 = .ok (.dup, 1) := by decide +kernel
theorem d_Wf_requireRegister_14 : decode b_Wf_requireRegister 14 = .ok (.ldc 195, 2) := by decide +kernel
theorem d_Wf_requireRegister_16 : decode b_Wf_requireRegister 16 = .ok (.invokespecial 194, 3) := by decide +kernel
theorem d_Wf_requireRegister_19 : decode b_Wf_requireRegister 19 = .ok (.athrow, 1) := by decide +kernel
theorem d_Wf_requireRegister_20 : decode b_Wf_requireRegister 20 = .ok (.return_, 1) := by decide +kernel
theorem d_Wf_requireRegisters_0 : decode b_Wf_requireRegisters 0 = .ok (.iload_n 0, 1) := by decide +kernel
theorem d_Wf_requireRegisters_1 : decode b_Wf_requireRegisters 1 = .ok (.invokestatic 35, 3) := by decide +kernel
theorem d_Wf_requireRegisters_4 : decode b_Wf_requireRegisters 4 = .ok (.iload_n 1, 1) := by decide +kernel
theorem d_Wf_requireRegisters_5 : decode b_Wf_requireRegisters 5 = .ok (.invokestatic 35, 3) := by decide +kernel
theorem d_Wf_requireRegisters_8 : decode b_Wf_requireRegisters 8 = .ok (.iload_n 2, 1) := by decide +kernel
theorem d_Wf_requireRegisters_9 : decode b_Wf_requireRegisters 9 = .ok (.invokestatic 35, 3) := by decide +kernel
theorem d_Wf_requireRegisters_12 : decode b_Wf_requireRegisters 12 = .ok (.return_, 1) := by decide +kernel
theorem d_Wf_requireWhole_0 : decode b_Wf_requireWhole 0 = .ok (.aload_n 0, 1) := by decide +kernel
theorem d_Wf_requireWhole_1 : decode b_Wf_requireWhole 1 = .ok (.getfield 92, 3) := by decide +kernel
theorem d_Wf_requireWhole_4 : decode b_Wf_requireWhole 4 = .ok (.invokevirtual 197, 3) := by decide +kernel
theorem d_Wf_requireWhole_7 : decode b_Wf_requireWhole 7 = .ok (.ifCond .ne 13, 3) := by decide +kernel
theorem d_Wf_requireWhole_10 : decode b_Wf_requireWhole 10 = .ok (.new 179, 3) := by decide +kernel
theorem d_Wf_requireWhole_13 : decode b_Wf_requireWhole 13 = .ok (.dup, 1) := by decide +kernel
theorem d_Wf_requireWhole_14 : decode b_Wf_requireWhole 14 = .ok (.ldc 200, 2) := by decide +kernel
theorem d_Wf_requireWhole_16 : decode b_Wf_requireWhole 16 = .ok (.invokespecial 181, 3) := by decide +kernel
theorem d_Wf_requireWhole_19 : decode b_Wf_requireWhole 19 = .ok (.athrow, 1) := by decide +kernel
theorem d_Wf_requireWhole_20 : decode b_Wf_requireWhole 20 = .ok (.return_, 1) := by decide +kernel
theorem d_Wf_partOf_0 : decode b_Wf_partOf 0 = .ok (.iload_n 1, 1) := by decide +kernel
theorem d_Wf_partOf_1 : decode b_Wf_partOf 1 = .ok (.invokestatic 35, 3) := by decide +kernel
theorem d_Wf_partOf_4 : decode b_Wf_partOf 4 = .ok (.iload_n 2, 1) := by decide +kernel
theorem d_Wf_partOf_5 : decode b_Wf_partOf 5 = .ok (.i2l, 1) := by decide +kernel
theorem d_Wf_partOf_6 : decode b_Wf_partOf 6 = .ok (.lconst 0, 1) := by decide +kernel
theorem d_Wf_partOf_7 : decode b_Wf_partOf 7 = .ok (.lconst 1, 1) := by decide +kernel
theorem d_Wf_partOf_8 : decode b_Wf_partOf 8 = .ok (.invokestatic 45, 3) := by decide +kernel
theorem d_Wf_partOf_11 : decode b_Wf_partOf 11 = .ok (.iload_n 2, 1) := by decide +kernel
theorem d_Wf_partOf_12 : decode b_Wf_partOf 12 = .ok (.ifCond .ne 15, 3) := by decide +kernel
theorem d_Wf_partOf_15 : decode b_Wf_partOf 15 = .ok (.aload_n 0, 1) := by decide +kernel
theorem d_Wf_partOf_16 : decode b_Wf_partOf 16 = .ok (.getfield 11, 3) := by decide +kernel
theorem d_Wf_partOf_19 : decode b_Wf_partOf 19 = .ok (.iload_n 1, 1) := by decide +kernel
theorem d_Wf_partOf_20 : decode b_Wf_partOf 20 = .ok (.aaload, 1) := by decide +kernel
theorem d_Wf_partOf_21 : decode b_Wf_partOf 21 = .ok (.getfield 88, 3) := by decide +kernel
theorem d_Wf_partOf_24 : decode b_Wf_partOf 24 = .ok (.goto 12, 3) := by decide +kernel
theorem d_Wf_partOf_27 : decode b_Wf_partOf 27 = .ok (.aload_n 0, 1) := by decide +kernel
theorem d_Wf_partOf_28 : decode b_Wf_partOf 28 = .ok (.getfield 11, 3) := by decide +kernel
theorem d_Wf_partOf_31 : decode b_Wf_partOf 31 = .ok (.iload_n 1, 1) := by decide +kernel
theorem d_Wf_partOf_32 : decode b_Wf_partOf 32 = .ok (.aaload, 1) := by decide +kernel
theorem d_Wf_partOf_33 : decode b_Wf_partOf 33 = .ok (.getfield 92, 3) := by decide +kernel
theorem d_Wf_partOf_36 : decode b_Wf_partOf 36 = .ok (.areturn, 1) := by decide +kernel
theorem d_Wf_keep_0 : decode b_Wf_keep 0 = .ok (.aload_n 0, 1) := by decide +kernel
theorem d_Wf_keep_1 : decode b_Wf_keep 1 = .ok (.getfield 24, 3) := by decide +kernel
theorem d_Wf_keep_4 : decode b_Wf_keep 4 = .ok (.invokevirtual 202, 3) := by decide +kernel
theorem d_Wf_keep_7 : decode b_Wf_keep 7 = .ok (.aload_n 0, 1) := by decide +kernel
theorem d_Wf_keep_8 : decode b_Wf_keep 8 = .ok (.getfield 11, 3) := by decide +kernel
theorem d_Wf_keep_11 : decode b_Wf_keep 11 = .ok (.iload_n 1, 1) := by decide +kernel
theorem d_Wf_keep_12 : decode b_Wf_keep 12 = .ok (.aaload, 1) := by decide +kernel
theorem d_Wf_keep_13 : decode b_Wf_keep 13 = .ok (.aload_n 0, 1) := by decide +kernel
theorem d_Wf_keep_14 : decode b_Wf_keep 14 = .ok (.getfield 24, 3) := by decide +kernel
theorem d_Wf_keep_17 : decode b_Wf_keep 17 = .ok (.getfield 205, 3) := by decide +kernel
theorem d_Wf_keep_20 : decode b_Wf_keep 20 = .ok (.invokevirtual 209, 3) := by decide +kernel
theorem d_Wf_keep_23 : decode b_Wf_keep 23 = .ok (.return_, 1) := by decide +kernel
