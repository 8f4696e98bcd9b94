theorem d_Ms_init_0 : decode b_Ms_init 0 = .ok (.aload_n 0, 1) := by decide +kernel
theorem d_Ms_init_1 : decode b_Ms_init 1 = .ok (.invokespecial 3, 3) := by decide +kernel
theorem d_Ms_init_4 : decode b_Ms_init 4 = .ok (.aload_n 0, 1) := by decide +kernel
theorem d_Ms_init_5 : decode b_Ms_init 5 = .ok (.aload_n 1, 1) := by decide +kernel
theorem d_Ms_init_6 : decode b_Ms_init 6 = .ok (.putfield 9, 3) := by decide +kernel
theorem d_Ms_init_9 : decode b_Ms_init 9 = .ok (.aload_n 0, 1) := by decide +kernel
theorem d_Ms_init_10 : decode b_Ms_init 10 = .ok (.new 15, 3) := by decide +kernel
theorem d_Ms_init_13 : decode b_Ms_init 13 = .ok (.dup, 1) := by decide +kernel
theorem d_Ms_init_14 : decode b_Ms_init 14 = .ok (.invokespecial 17, 3) := by decide +kernel
theorem d_Ms_init_17 : decode b_Ms_init 17 = .ok (.putfield 18, 3) := by decide +kernel
theorem d_Ms_init_20 : decode b_Ms_init 20 = .ok (.aload_n 0, 1) := by decide +kernel
theorem d_Ms_init_21 : decode b_Ms_init 21 = .ok (.new 15, 3) := by decide +kernel
theorem d_Ms_init_24 : decode b_Ms_init 24 = .ok (.dup, 1) := by decide +kernel
theorem d_Ms_init_25 : decode b_Ms_init 25 = .ok (.invokespecial 17, 3) := by decide +kernel
theorem d_Ms_init_28 : decode b_Ms_init 28 = .ok (.putfield 22, 3) := by decide +kernel
theorem d_Ms_init_31 : decode b_Ms_init 31 = .ok (.aload_n 0, 1) := by decide +kernel
theorem d_Ms_init_32 : decode b_Ms_init 32 = .ok (.new 15, 3) := by decide +kernel
theorem d_Ms_init_35 : decode b_Ms_init 35 = .ok (.dup, 1) := by decide +kernel
theorem d_Ms_init_36 : decode b_Ms_init 36 = .ok (.invokespecial 17, 3) := by decide +kernel
theorem d_Ms_init_39 : decode b_Ms_init 39 = .ok (.putfield 25, 3) := by decide +kernel
theorem d_Ms_init_42 : decode b_Ms_init 42 = .ok (.aload_n 0, 1) := by decide +kernel
theorem d_Ms_init_43 : decode b_Ms_init 43 = .ok (.new 15, 3) := by decide +kernel
theorem d_Ms_init_46 : decode b_Ms_init 46 = .ok (.dup, 1) := by decide +kernel
theorem d_Ms_init_47 : decode b_Ms_init 47 = .ok (.invokespecial 17, 3) := by decide +kernel
theorem d_Ms_init_50 : decode b_Ms_init 50 = .ok (.putfield 28, 3) := by decide +kernel
theorem d_Ms_init_53 : decode b_Ms_init 53 = .ok (.return_, 1) := by decide +kernel
theorem d_Ms_of_0 : decode b_Ms_of 0 = .ok (.aload_n 1, 1) := by decide +kernel
theorem d_Ms_of_1 : decode b_Ms_of 1 = .ok (.aload_n 2, 1) := by decide +kernel
theorem d_Ms_of_2 : decode b_Ms_of 2 = .ok (.invokevirtual 31, 3) := by decide +kernel
theorem d_Ms_of_5 : decode b_Ms_of 5 = .ok (.ifCond .lt 7, 3) := by decide +kernel
theorem d_Ms_of_8 : decode b_Ms_of 8 = .ok (.iconst 1, 1) := by decide +kernel
theorem d_Ms_of_9 : decode b_Ms_of 9 = .ok (.goto 4, 3) := by decide +kernel
theorem d_Ms_of_12 : decode b_Ms_of 12 = .ok (.iconst 0, 1) := by decide +kernel
theorem d_Ms_of_13 : decode b_Ms_of 13 = .ok (.istore_n 3, 1) := by decide +kernel
theorem d_Ms_of_14 : decode b_Ms_of 14 = .ok (.aload_n 0, 1) := by decide +kernel
theorem d_Ms_of_15 : decode b_Ms_of 15 = .ok (.getfield 22, 3) := by decide +kernel
theorem d_Ms_of_18 : decode b_Ms_of 18 = .ok (.iload_n 3, 1) := by decide +kernel
theorem d_Ms_of_19 : decode b_Ms_of 19 = .ok (.ifCond .eq 7, 3) := by decide +kernel
theorem d_Ms_of_22 : decode b_Ms_of 22 = .ok (.aload_n 1, 1) := by decide +kernel
theorem d_Ms_of_23 : decode b_Ms_of 23 = .ok (.goto 4, 3) := by decide +kernel
theorem d_Ms_of_26 : decode b_Ms_of 26 = .ok (.aload_n 2, 1) := by decide +kernel
theorem d_Ms_of_27 : decode b_Ms_of 27 = .ok (.invokevirtual 35, 3) := by decide +kernel
theorem d_Ms_of_30 : decode b_Ms_of 30 = .ok (.aload_n 0, 1) := by decide +kernel
theorem d_Ms_of_31 : decode b_Ms_of 31 = .ok (.getfield 25, 3) := by decide +kernel
theorem d_Ms_of_34 : decode b_Ms_of 34 = .ok (.iload_n 3, 1) := by decide +kernel
theorem d_Ms_of_35 : decode b_Ms_of 35 = .ok (.ifCond .eq 7, 3) := by decide +kernel
theorem d_Ms_of_38 : decode b_Ms_of 38 = .ok (.aload_n 2, 1) := by decide +kernel
theorem d_Ms_of_39 : decode b_Ms_of 39 = .ok (.goto 4, 3) := by decide +kernel
theorem d_Ms_of_42 : decode b_Ms_of 42 = .ok (.aload_n 1, 1) := by decide +kernel
theorem d_Ms_of_43 : decode b_Ms_of 43 = .ok (.invokevirtual 35, 3) := by decide +kernel
theorem d_Ms_of_46 : decode b_Ms_of 46 = .ok (.iconst 0, 1) := by decide +kernel
theorem d_Ms_of_47 : decode b_Ms_of 47 = .ok (.istore 4, 2) := by decide +kernel
theorem d_Ms_of_49 : decode b_Ms_of 49 = .ok (.iload 4, 2) := by decide +kernel
theorem d_Ms_of_51 : decode b_Ms_of 51 = .ok (.ldc 39, 2) := by decide +kernel
theorem d_Ms_of_53 : decode b_Ms_of 53 = .ok (.if_icmp .ge 77, 3) := by decide +kernel
theorem d_Ms_of_56 : decode b_Ms_of 56 = .ok (.aload_n 0, 1) := by decide +kernel
theorem d_Ms_of_57 : decode b_Ms_of 57 = .ok (.getfield 22, 3) := by decide +kernel
theorem d_Ms_of_60 : decode b_Ms_of 60 = .ok (.getfield 40, 3) := by decide +kernel
theorem d_Ms_of_63 : decode b_Ms_of 63 = .ok (.iconst 2, 1) := by decide +kernel
theorem d_Ms_of_64 : decode b_Ms_of 64 = .ok (.if_icmp .le 66, 3) := by decide +kernel
theorem d_Ms_of_67 : decode b_Ms_of 67 = .ok (.aload_n 0, 1) := by decide +kernel
theorem d_Ms_of_68 : decode b_Ms_of 68 = .ok (.getfield 25, 3) := by decide +kernel
theorem d_Ms_of_71 : decode b_Ms_of 71 = .ok (.invokevirtual 44, 3) := by decide +kernel
theorem d_Ms_of_74 : decode b_Ms_of 74 = .ok (.ifCond .ne 56, 3) := by decide +kernel
theorem d_Ms_of_77 : decode b_Ms_of 77 = .ok (.aload_n 0, 1) := by decide +kernel
theorem d_Ms_of_78 : decode b_Ms_of 78 = .ok (.invokevirtual 48, 3) := by decide +kernel
theorem d_Ms_of_81 : decode b_Ms_of 81 = .ok (.aload_n 0, 1) := by decide +kernel
theorem d_Ms_of_82 : decode b_Ms_of 82 = .ok (.getfield 51, 3) := by decide +kernel
theorem d_Ms_of_85 : decode b_Ms_of 85 = .ok (.lconst 0, 1) := by decide +kernel
theorem d_Ms_of_86 : decode b_Ms_of 86 = .ok (.lcmp, 1) := by decide +kernel
theorem d_Ms_of_87 : decode b_Ms_of 87 = .ok (.ifCond .ne 33, 3) := by decide +kernel
theorem d_Ms_of_90 : decode b_Ms_of 90 = .ok (.aload_n 0, 1) := by decide +kernel
theorem d_Ms_of_91 : decode b_Ms_of 91 = .ok (.getfield 9, 3) := by decide +kernel
theorem d_Ms_of_94 : decode b_Ms_of 94 = .ok (.aload_n 0, 1) := by decide +kernel
theorem d_Ms_of_95 : decode b_Ms_of 95 = .ok (.getfield 22, 3) := by decide +kernel
theorem d_Ms_of_98 : decode b_Ms_of 98 = .ok (.aload_n 0, 1) := by decide +kernel
theorem d_Ms_of_99 : decode b_Ms_of 99 = .ok (.getfield 25, 3) := by decide +kernel
theorem d_Ms_of_102 : decode b_Ms_of 102 = .ok (.aload_n 0, 1) := by decide +kernel
theorem d_Ms_of_103 : decode b_Ms_of 103 = .ok (.getfield 18, 3) := by decide +kernel
theorem d_Ms_of_106 : decode b_Ms_of 106 = .ok (.aload_n 0, 1) := by decide +kernel
theorem d_Ms_of_107 : decode b_Ms_of 107 = .ok (.getfield 28, 3) := by decide +kernel
theorem d_Ms_of_110 : decode b_Ms_of 110 = .ok (.invokevirtual 55, 3) := by decide +kernel
theorem d_Ms_of_113 : decode b_Ms_of 113 = .ok (.aload_n 0, 1) := by decide +kernel
theorem d_Ms_of_114 : decode b_Ms_of 114 = .ok (.invokevirtual 61, 3) := by decide +kernel
theorem d_Ms_of_117 : decode b_Ms_of 117 = .ok (.goto 7, 3) := by decide +kernel
theorem d_Ms_of_120 : decode b_Ms_of 120 = .ok (.aload_n 0, 1) := by decide +kernel
theorem d_Ms_of_121 : decode b_Ms_of 121 = .ok (.invokevirtual 64, 3) := by decide +kernel
theorem d_Ms_of_124 : decode b_Ms_of 124 = .ok (.iinc 4 1, 3) := by decide +kernel
theorem d_Ms_of_127 : decode b_Ms_of 127 = .ok (.goto (-78), 3) := by decide +kernel
theorem d_Ms_of_130 : decode b_Ms_of 130 = .ok (.aload_n 0, 1) := by decide +kernel
theorem d_Ms_of_131 : decode b_Ms_of 131 = .ok (.getfield 25, 3) := by decide +kernel
theorem d_Ms_of_134 : decode b_Ms_of 134 = .ok (.invokevirtual 44, 3) := by decide +kernel
theorem d_Ms_of_137 : decode b_Ms_of 137 = .ok (.ifCond .ne 27, 3) := by decide +kernel
theorem d_Ms_of_140 : decode b_Ms_of 140 = .ok (.aload_n 0, 1) := by decide +kernel
theorem d_Ms_of_141 : decode b_Ms_of 141 = .ok (.getfield 22, 3) := by decide +kernel
theorem d_Ms_of_144 : decode b_Ms_of 144 = .ok (.aload_n 0, 1) := by decide +kernel
theorem d_Ms_of_145 : decode b_Ms_of 145 = .ok (.getfield 22, 3) := by decide +kernel
theorem d_Ms_of_148 : decode b_Ms_of 148 = .ok (.invokevirtual 67, 3) := by decide +kernel
theorem d_Ms_of_151 : decode b_Ms_of 151 = .ok (.aload_n 0, 1) := by decide +kernel
theorem d_Ms_of_152 : decode b_Ms_of 152 = .ok (.getfield 25, 3) := by decide +kernel
theorem d_Ms_of_155 : decode b_Ms_of 155 = .ok (.invokevirtual 67, 3) := by decide +kernel
theorem d_Ms_of_158 : decode b_Ms_of 158 = .ok (.invokestatic 71, 3) := by decide +kernel
theorem d_Ms_of_161 : decode b_Ms_of 161 = .ok (.invokevirtual 75, 3) := by decide +kernel
theorem d_Ms_of_164 : decode b_Ms_of 164 = .ok (.aload_n 0, 1) := by decide +kernel
theorem d_Ms_of_165 : decode b_Ms_of 165 = .ok (.getfield 22, 3) := by decide +kernel
theorem d_Ms_of_168 : decode b_Ms_of 168 = .ok (.areturn, 1) := by decide +kernel
theorem d_Ms_ofShort_0 : decode b_Ms_ofShort 0 = .ok (.lload_n 0, 1) := by decide +kernel
theorem d_Ms_ofShort_1 : decode b_Ms_ofShort 1 = .ok (.lstore 4, 2) := by decide +kernel
theorem d_Ms_ofShort_3 : decode b_Ms_ofShort 3 = .ok (.lload_n 2, 1) := by decide +kernel
theorem d_Ms_ofShort_4 : decode b_Ms_ofShort 4 = .ok (.lstore 6, 2) := by decide +kernel
theorem d_Ms_ofShort_6 : decode b_Ms_ofShort 6 = .ok (.iconst 0, 1) := by decide +kernel
theorem d_Ms_ofShort_7 : decode b_Ms_ofShort 7 = .ok (.istore 8, 2) := by decide +kernel
theorem d_Ms_ofShort_9 : decode b_Ms_ofShort 9 = .ok (.iload 8, 2) := by decide +kernel
theorem d_Ms_ofShort_11 : decode b_Ms_ofShort 11 = .ok (.ldc 39, 2) := by decide +kernel
theorem d_Ms_ofShort_13 : decode b_Ms_ofShort 13 = .ok (.if_icmp .ge 31, 3) := by decide +kernel
theorem d_Ms_ofShort_16 : decode b_Ms_ofShort 16 = .ok (.lload 6, 2) := by decide +kernel
theorem d_Ms_ofShort_18 : decode b_Ms_ofShort 18 = .ok (.lconst 0, 1) := by decide +kernel
theorem d_Ms_ofShort_19 : decode b_Ms_ofShort 19 = .ok (.lcmp, 1) := by decide +kernel
theorem d_Ms_ofShort_20 : decode b_Ms_ofShort 20 = .ok (.ifCond .eq 24, 3) := by decide +kernel
theorem d_Ms_ofShort_23 : decode b_Ms_ofShort 23 = .ok (.lload 4, 2) := by decide +kernel
theorem d_Ms_ofShort_25 : decode b_Ms_ofShort 25 = .ok (.lload 6, 2) := by decide +kernel
theorem d_Ms_ofShort_27 : decode b_Ms_ofShort 27 = .ok (.lrem, 1) := by decide +kernel
theorem d_Ms_ofShort_28 : decode b_Ms_ofShort 28 = .ok (.lstore 9, 2) := by decide +kernel
theorem d_Ms_ofShort_30 : decode b_Ms_ofShort 30 = .ok (.lload 6, 2) := by decide +kernel
theorem d_Ms_ofShort_32 : decode b_Ms_ofShort 32 = .ok (.lstore 4, 2) := by decide +kernel
theorem d_Ms_ofShort_34 : decode b_Ms_ofShort 34 = .ok (.lload 9, 2) := by decide +kernel
theorem d_Ms_ofShort_36 : decode b_Ms_ofShort 36 = .ok (.lstore 6, 2) := by decide +kernel
theorem d_Ms_ofShort_38 : decode b_Ms_ofShort 38 = .ok (.iinc 8 1, 3) := by decide +kernel
theorem d_Ms_ofShort_41 : decode b_Ms_ofShort 41 = .ok (.goto (-32), 3) := by decide +kernel
theorem d_Ms_ofShort_44 : decode b_Ms_ofShort 44 = .ok (.lload 4, 2) := by decide +kernel
theorem d_Ms_ofShort_46 : decode b_Ms_ofShort 46 = .ok (.lreturn, 1) := by decide +kernel
theorem d_Ms_shift_0 : decode b_Ms_shift 0 = .ok (.aload_n 0, 1) := by decide +kernel
theorem d_Ms_shift_1 : decode b_Ms_shift 1 = .ok (.getfield 22, 3) := by decide +kernel
theorem d_Ms_shift_4 : decode b_Ms_shift 4 = .ok (.astore_n 1, 1) := by decide +kernel
theorem d_Ms_shift_5 : decode b_Ms_shift 5 = .ok (.aload_n 0, 1) := by decide +kernel
theorem d_Ms_shift_6 : decode b_Ms_shift 6 = .ok (.aload_n 0, 1) := by decide +kernel
theorem d_Ms_shift_7 : decode b_Ms_shift 7 = .ok (.getfield 25, 3) := by decide +kernel
theorem d_Ms_shift_10 : decode b_Ms_shift 10 = .ok (.putfield 22, 3) := by decide +kernel
theorem d_Ms_shift_13 : decode b_Ms_shift 13 = .ok (.aload_n 0, 1) := by decide +kernel
theorem d_Ms_shift_14 : decode b_Ms_shift 14 = .ok (.aload_n 0, 1) := by decide +kernel
theorem d_Ms_shift_15 : decode b_Ms_shift 15 = .ok (.getfield 28, 3) := by decide +kernel
theorem d_Ms_shift_18 : decode b_Ms_shift 18 = .ok (.putfield 25, 3) := by decide +kernel
theorem d_Ms_shift_21 : decode b_Ms_shift 21 = .ok (.aload_n 0, 1) := by decide +kernel
theorem d_Ms_shift_22 : decode b_Ms_shift 22 = .ok (.aload_n 1, 1) := by decide +kernel
theorem d_Ms_shift_23 : decode b_Ms_shift 23 = .ok (.putfield 28, 3) := by decide +kernel
theorem d_Ms_shift_26 : decode b_Ms_shift 26 = .ok (.return_, 1) := by decide +kernel
theorem d_Ms_gather_0 : decode b_Ms_gather 0 = .ok (.getstatic 79, 3) := by decide +kernel
theorem d_Ms_gather_3 : decode b_Ms_gather 3 = .ok (.aload_n 0, 1) := by decide +kernel
theorem d_Ms_gather_4 : decode b_Ms_gather 4 = .ok (.getfield 22, 3) := by decide +kernel
theorem d_Ms_gather_7 : decode b_Ms_gather 7 = .ok (.invokevirtual 83, 3) := by decide +kernel
theorem d_Ms_gather_10 : decode b_Ms_gather 10 = .ok (.laload, 1) := by decide +kernel
theorem d_Ms_gather_11 : decode b_Ms_gather 11 = .ok (.lstore_n 1, 1) := by decide +kernel
theorem d_Ms_gather_12 : decode b_Ms_gather 12 = .ok (.aload_n 0, 1) := by decide +kernel
theorem d_Ms_gather_13 : decode b_Ms_gather 13 = .ok (.aload_n 0, 1) := by decide +kernel
theorem d_Ms_gather_14 : decode b_Ms_gather 14 = .ok (.getfield 22, 3) := by decide +kernel
theorem d_Ms_gather_17 : decode b_Ms_gather 17 = .ok (.lload_n 1, 1) := by decide +kernel
theorem d_Ms_gather_18 : decode b_Ms_gather 18 = .ok (.invokevirtual 87, 3) := by decide +kernel
theorem d_Ms_gather_21 : decode b_Ms_gather 21 = .ok (.lstore_n 3, 1) := by decide +kernel
theorem d_Ms_gather_22 : decode b_Ms_gather 22 = .ok (.aload_n 0, 1) := by decide +kernel
theorem d_Ms_gather_23 : decode b_Ms_gather 23 = .ok (.aload_n 0, 1) := by decide +kernel
theorem d_Ms_gather_24 : decode b_Ms_gather 24 = .ok (.getfield 25, 3) := by decide +kernel
theorem d_Ms_gather_27 : decode b_Ms_gather 27 = .ok (.lload_n 1, 1) := by decide +kernel
theorem d_Ms_gather_28 : decode b_Ms_gather 28 = .ok (.invokevirtual 87, 3) := by decide +kernel
theorem d_Ms_gather_31 : decode b_Ms_gather 31 = .ok (.lstore 5, 2) := by decide +kernel
theorem d_Ms_gather_33 : decode b_Ms_gather 33 = .ok (.aload_n 0, 1) := by decide +kernel
theorem d_Ms_gather_34 : decode b_Ms_gather 34 = .ok (.lconst 1, 1) := by decide +kernel
theorem d_Ms_gather_35 : decode b_Ms_gather 35 = .ok (.putfield 91, 3) := by decide +kernel
theorem d_Ms_gather_38 : decode b_Ms_gather 38 = .ok (.aload_n 0, 1) := by decide +kernel
theorem d_Ms_gather_39 : decode b_Ms_gather 39 = .ok (.lconst 0, 1) := by decide +kernel
theorem d_Ms_gather_40 : decode b_Ms_gather 40 = .ok (.putfield 51, 3) := by decide +kernel
theorem d_Ms_gather_43 : decode b_Ms_gather 43 = .ok (.aload_n 0, 1) := by decide +kernel
theorem d_Ms_gather_44 : decode b_Ms_gather 44 = .ok (.lconst 0, 1) := by decide +kernel
theorem d_Ms_gather_45 : decode b_Ms_gather 45 = .ok (.putfield 94, 3) := by decide +kernel
theorem d_Ms_gather_48 : decode b_Ms_gather 48 = .ok (.aload_n 0, 1) := by decide +kernel
theorem d_Ms_gather_49 : decode b_Ms_gather 49 = .ok (.lconst 1, 1) := by decide +kernel
theorem d_Ms_gather_50 : decode b_Ms_gather 50 = .ok (.putfield 97, 3) := by decide +kernel
theorem d_Ms_gather_53 : decode b_Ms_gather 53 = .ok (.iconst 0, 1) := by decide +kernel
theorem d_Ms_gather_54 : decode b_Ms_gather 54 = .ok (.istore 7, 2) := by decide +kernel
theorem d_Ms_gather_56 : decode b_Ms_gather 56 = .ok (.iload 7, 2) := by decide +kernel
theorem d_Ms_gather_58 : decode b_Ms_gather 58 = .ok (.ldc 39, 2) := by decide +kernel
theorem d_Ms_gather_60 : decode b_Ms_gather 60 = .ok (.if_icmp .ge 180, 3) := by decide +kernel
theorem d_Ms_gather_63 : decode b_Ms_gather 63 = .ok (.lload 5, 2) := by decide +kernel
theorem d_Ms_gather_65 : decode b_Ms_gather 65 = .ok (.aload_n 0, 1) := by decide +kernel
theorem d_Ms_gather_66 : decode b_Ms_gather 66 = .ok (.getfield 94, 3) := by decide +kernel
theorem d_Ms_gather_69 : decode b_Ms_gather 69 = .ok (.ladd, 1) := by decide +kernel
theorem d_Ms_gather_70 : decode b_Ms_gather 70 = .ok (.lconst 0, 1) := by decide +kernel
theorem d_Ms_gather_71 : decode b_Ms_gather 71 = .ok (.lcmp, 1) := by decide +kernel
theorem d_Ms_gather_72 : decode b_Ms_gather 72 = .ok (.ifCond .le 168, 3) := by decide +kernel
theorem d_Ms_gather_75 : decode b_Ms_gather 75 = .ok (.lload 5, 2) := by decide +kernel
theorem d_Ms_gather_77 : decode b_Ms_gather 77 = .ok (.aload_n 0, 1) := by decide +kernel
theorem d_Ms_gather_78 : decode b_Ms_gather 78 = .ok (.getfield 97, 3) := by decide +kernel
theorem d_Ms_gather_81 : decode b_Ms_gather 81 = .ok (.ladd, 1) := by decide +kernel
theorem d_Ms_gather_82 : decode b_Ms_gather 82 = .ok (.lconst 0, 1) := by decide +kernel
theorem d_Ms_gather_83 : decode b_Ms_gather 83 = .ok (.lcmp, 1) := by decide +kernel
theorem d_Ms_gather_84 : decode b_Ms_gather 84 = .ok (.ifCond .le 156, 3) := by decide +kernel
theorem d_Ms_gather_87 : decode b_Ms_gather 87 = .ok (.lload_n 3, 1) := by decide +kernel
theorem d_Ms_gather_88 : decode b_Ms_gather 88 = .ok (.aload_n 0, 1) := by decide +kernel
theorem d_Ms_gather_89 : decode b_Ms_gather 89 = .ok (.getfield 91, 3) := by decide +kernel
theorem d_Ms_gather_92 : decode b_Ms_gather 92 = .ok (.ladd, 1) := by decide +kernel
theorem d_Ms_gather_93 : decode b_Ms_gather 93 = .ok (.lload 5, 2) := by decide +kernel
theorem d_Ms_gather_95 : decode b_Ms_gather 95 = .ok (.aload_n 0, 1) := by decide +kernel
theorem d_Ms_gather_96 : decode b_Ms_gather 96 = .ok (.getfield 94, 3) := by decide +kernel
theorem d_Ms_gather_99 : decode b_Ms_gather 99 = .ok (.ladd, 1) := by decide +kernel
theorem d_Ms_gather_100 : decode b_Ms_gather 100 = .ok (.ldiv, 1) := by decide +kernel
theorem d_Ms_gather_101 : decode b_Ms_gather 101 = .ok (.lstore 8, 2) := by decide +kernel
theorem d_Ms_gather_103 : decode b_Ms_gather 103 = .ok (.lload 8, 2) := by decide +kernel
theorem d_Ms_gather_105 : decode b_Ms_gather 105 = .ok (.lload_n 3, 1) := by decide +kernel
theorem d_Ms_gather_106 : decode b_Ms_gather 106 = .ok (.aload_n 0, 1) := by decide +kernel
theorem d_Ms_gather_107 : decode b_Ms_gather 107 = .ok (.getfield 51, 3) := by decide +kernel
theorem d_Ms_gather_110 : decode b_Ms_gather 110 = .ok (.ladd, 1) := by decide +kernel
theorem d_Ms_gather_111 : decode b_Ms_gather 111 = .ok (.lload 5, 2) := by decide +kernel
theorem d_Ms_gather_113 : decode b_Ms_gather 113 = .ok (.aload_n 0, 1) := by decide +kernel
theorem d_Ms_gather_114 : decode b_Ms_gather 114 = .ok (.getfield 97, 3) := by decide +kernel
theorem d_Ms_gather_117 : decode b_Ms_gather 117 = .ok (.ladd, 1) := by decide +kernel
theorem d_Ms_gather_118 : decode b_Ms_gather 118 = .ok (.ldiv, 1) := by decide +kernel
theorem d_Ms_gather_119 : decode b_Ms_gather 119 = .ok (.lcmp, 1) := by decide +kernel
theorem d_Ms_gather_120 : decode b_Ms_gather 120 = .ok (.ifCond .ne 120, 3) := by decide +kernel
theorem d_Ms_gather_123 : decode b_Ms_gather 123 = .ok (.lload 8, 2) := by decide +kernel
theorem d_Ms_gather_125 : decode b_Ms_gather 125 = .ok (.ldc2_w 100, 3) := by decide +kernel
theorem d_Ms_gather_128 : decode b_Ms_gather 128 = .ok (.lcmp, 1) := by decide +kernel
theorem d_Ms_gather_129 : decode b_Ms_gather 129 = .ok (.ifCond .le 6, 3) := by decide +kernel
theorem d_Ms_gather_132 : decode b_Ms_gather 132 = .ok (.goto 108, 3) := by decide +kernel
theorem d_Ms_gather_135 : decode b_Ms_gather 135 = .ok (.aload_n 0, 1) := by decide +kernel
theorem d_Ms_gather_136 : decode b_Ms_gather 136 = .ok (.getfield 91, 3) := by decide +kernel
theorem d_Ms_gather_139 : decode b_Ms_gather 139 = .ok (.lload 8, 2) := by decide +kernel
theorem d_Ms_gather_141 : decode b_Ms_gather 141 = .ok (.aload_n 0, 1) := by decide +kernel
theorem d_Ms_gather_142 : decode b_Ms_gather 142 = .ok (.getfield 94, 3) := by decide +kernel
theorem d_Ms_gather_145 : decode b_Ms_gather 145 = .ok (.lmul, 1) := by decide +kernel
theorem d_Ms_gather_146 : decode b_Ms_gather 146 = .ok (.lsub, 1) := by decide +kernel
theorem d_Ms_gather_147 : decode b_Ms_gather 147 = .ok (.lstore 10, 2) := by decide +kernel
theorem d_Ms_gather_149 : decode b_Ms_gather 149 = .ok (.aload_n 0, 1) := by decide +kernel
theorem d_Ms_gather_150 : decode b_Ms_gather 150 = .ok (.getfield 51, 3) := by decide +kernel
theorem d_Ms_gather_153 : decode b_Ms_gather 153 = .ok (.lload 8, 2) := by decide +kernel
theorem d_Ms_gather_155 : decode b_Ms_gather 155 = .ok (.aload_n 0, 1) := by decide +kernel
theorem d_Ms_gather_156 : decode b_Ms_gather 156 = .ok (.getfield 97, 3) := by decide +kernel
theorem d_Ms_gather_159 : decode b_Ms_gather 159 = .ok (.lmul, 1) := by decide +kernel
theorem d_Ms_gather_160 : decode b_Ms_gather 160 = .ok (.lsub, 1) := by decide +kernel
theorem d_Ms_gather_161 : decode b_Ms_gather 161 = .ok (.lstore 12, 2) := by decide +kernel
theorem d_Ms_gather_163 : decode b_Ms_gather 163 = .ok (.lload 10, 2) := by decide +kernel
theorem d_Ms_gather_165 : decode b_Ms_gather 165 = .ok (.invokestatic 102, 3) := by decide +kernel
theorem d_Ms_gather_168 : decode b_Ms_gather 168 = .ok (.ldc2_w 100, 3) := by decide +kernel
theorem d_Ms_gather_171 : decode b_Ms_gather 171 = .ok (.lcmp, 1) := by decide +kernel
theorem d_Ms_gather_172 : decode b_Ms_gather 172 = .ok (.ifCond .gt 68, 3) := by decide +kernel
theorem d_Ms_gather_175 : decode b_Ms_gather 175 = .ok (.lload 12, 2) := by decide +kernel
theorem d_Ms_gather_177 : decode b_Ms_gather 177 = .ok (.invokestatic 102, 3) := by decide +kernel
theorem d_Ms_gather_180 : decode b_Ms_gather 180 = .ok (.ldc2_w 100, 3) := by decide +kernel
theorem d_Ms_gather_183 : decode b_Ms_gather 183 = .ok (.lcmp, 1) := by decide +kernel
theorem d_Ms_gather_184 : decode b_Ms_gather 184 = .ok (.ifCond .le 6, 3) := by decide +kernel
theorem d_Ms_gather_187 : decode b_Ms_gather 187 = .ok (.goto 53, 3) := by decide +kernel
theorem d_Ms_gather_190 : decode b_Ms_gather 190 = .ok (.aload_n 0, 1) := by decide +kernel
theorem d_Ms_gather_191 : decode b_Ms_gather 191 = .ok (.aload_n 0, 1) := by decide +kernel
theorem d_Ms_gather_192 : decode b_Ms_gather 192 = .ok (.getfield 94, 3) := by decide +kernel
theorem d_Ms_gather_195 : decode b_Ms_gather 195 = .ok (.putfield 91, 3) := by decide +kernel
theorem d_Ms_gather_198 : decode b_Ms_gather 198 = .ok (.aload_n 0, 1) := by decide +kernel
theorem d_Ms_gather_199 : decode b_Ms_gather 199 = .ok (.aload_n 0, 1) := by decide +kernel
theorem d_Ms_gather_200 : decode b_Ms_gather 200 = .ok (.getfield 97, 3) := by decide +kernel
theorem d_Ms_gather_203 : decode b_Ms_gather 203 = .ok (.putfield 51, 3) := by decide +kernel
theorem d_Ms_gather_206 : decode b_Ms_gather 206 = .ok (.aload_n 0, 1) := by decide +kernel
theorem d_Ms_gather_207 : decode b_Ms_gather 207 = .ok (.lload 10, 2) := by decide +kernel
theorem d_Ms_gather_209 : decode b_Ms_gather 209 = .ok (.putfield 94, 3) := by decide +kernel
theorem d_Ms_gather_212 : decode b_Ms_gather 212 = .ok (.aload_n 0, 1) := by decide +kernel
theorem d_Ms_gather_213 : decode b_Ms_gather 213 = .ok (.lload 12, 2) := by decide +kernel
theorem d_Ms_gather_215 : decode b_Ms_gather 215 = .ok (.putfield 97, 3) := by decide +kernel
theorem d_Ms_gather_218 : decode b_Ms_gather 218 = .ok (.lload_n 3, 1) := by decide +kernel
theorem d_Ms_gather_219 : decode b_Ms_gather 219 = .ok (.lload 8, 2) := by decide +kernel
theorem d_Ms_gather_221 : decode b_Ms_gather 221 = .ok (.lload 5, 2) := by decide +kernel
theorem d_Ms_gather_223 : decode b_Ms_gather 223 = .ok (.lmul, 1) := by decide +kernel
theorem d_Ms_gather_224 : decode b_Ms_gather 224 = .ok (.lsub, 1) := by decide +kernel
theorem d_Ms_gather_225 : decode b_Ms_gather 225 = .ok (.lstore 14, 2) := by decide +kernel
theorem d_Ms_gather_227 : decode b_Ms_gather 227 = .ok (.lload 5, 2) := by decide +kernel
theorem d_Ms_gather_229 : decode b_Ms_gather 229 = .ok (.lstore_n 3, 1) := by decide +kernel
theorem d_Ms_gather_230 : decode b_Ms_gather 230 = .ok (.lload 14, 2) := by decide +kernel
theorem d_Ms_gather_232 : decode b_Ms_gather 232 = .ok (.lstore 5, 2) := by decide +kernel
theorem d_Ms_gather_234 : decode b_Ms_gather 234 = .ok (.iinc 7 1, 3) := by decide +kernel
theorem d_Ms_gather_237 : decode b_Ms_gather 237 = .ok (.goto (-181), 3) := by decide +kernel
theorem d_Ms_gather_240 : decode b_Ms_gather 240 = .ok (.return_, 1) := by decide +kernel
theorem d_Ms_leading_0 : decode b_Ms_leading 0 = .ok (.aload_n 0, 1) := by decide +kernel
theorem d_Ms_leading_1 : decode b_Ms_leading 1 = .ok (.getfield 22, 3) := by decide +kernel
theorem d_Ms_leading_4 : decode b_Ms_leading 4 = .ok (.getfield 40, 3) := by decide +kernel
theorem d_Ms_leading_7 : decode b_Ms_leading 7 = .ok (.iconst 1, 1) := by decide +kernel
theorem d_Ms_leading_8 : decode b_Ms_leading 8 = .ok (.isub, 1) := by decide +kernel
theorem d_Ms_leading_9 : decode b_Ms_leading 9 = .ok (.istore 4, 2) := by decide +kernel
theorem d_Ms_leading_11 : decode b_Ms_leading 11 = .ok (.aload_n 1, 1) := by decide +kernel
theorem d_Ms_leading_12 : decode b_Ms_leading 12 = .ok (.iload 4, 2) := by decide +kernel
theorem d_Ms_leading_14 : decode b_Ms_leading 14 = .ok (.invokevirtual 108, 3) := by decide +kernel
theorem d_Ms_leading_17 : decode b_Ms_leading 17 = .ok (.ldc2_w 100, 3) := by decide +kernel
theorem d_Ms_leading_20 : decode b_Ms_leading 20 = .ok (.lmul, 1) := by decide +kernel
theorem d_Ms_leading_21 : decode b_Ms_leading 21 = .ok (.aload_n 1, 1) := by decide +kernel
theorem d_Ms_leading_22 : decode b_Ms_leading 22 = .ok (.iload 4, 2) := by decide +kernel
theorem d_Ms_leading_24 : decode b_Ms_leading 24 = .ok (.iconst 1, 1) := by decide +kernel
theorem d_Ms_leading_25 : decode b_Ms_leading 25 = .ok (.isub, 1) := by decide +kernel
theorem d_Ms_leading_26 : decode b_Ms_leading 26 = .ok (.invokevirtual 108, 3) := by decide +kernel
theorem d_Ms_leading_29 : decode b_Ms_leading 29 = .ok (.ladd, 1) := by decide +kernel
theorem d_Ms_leading_30 : decode b_Ms_leading 30 = .ok (.lstore 5, 2) := by decide +kernel
theorem d_Ms_leading_32 : decode b_Ms_leading 32 = .ok (.lload 5, 2) := by decide +kernel
theorem d_Ms_leading_34 : decode b_Ms_leading 34 = .ok (.ldc2_w 100, 3) := by decide +kernel
theorem d_Ms_leading_37 : decode b_Ms_leading 37 = .ok (.lload_n 2, 1) := by decide +kernel
theorem d_Ms_leading_38 : decode b_Ms_leading 38 = .ok (.ldiv, 1) := by decide +kernel
theorem d_Ms_leading_39 : decode b_Ms_leading 39 = .ok (.lmul, 1) := by decide +kernel
theorem d_Ms_leading_40 : decode b_Ms_leading 40 = .ok (.aload_n 1, 1) := by decide +kernel
theorem d_Ms_leading_41 : decode b_Ms_leading 41 = .ok (.iload 4, 2) := by decide +kernel
theorem d_Ms_leading_43 : decode b_Ms_leading 43 = .ok (.iconst 2, 1) := by decide +kernel
theorem d_Ms_leading_44 : decode b_Ms_leading 44 = .ok (.isub, 1) := by decide +kernel
theorem d_Ms_leading_45 : decode b_Ms_leading 45 = .ok (.invokevirtual 108, 3) := by decide +kernel
theorem d_Ms_leading_48 : decode b_Ms_leading 48 = .ok (.lload_n 2, 1) := by decide +kernel
theorem d_Ms_leading_49 : decode b_Ms_leading 49 = .ok (.ldiv, 1) := by decide +kernel
theorem d_Ms_leading_50 : decode b_Ms_leading 50 = .ok (.ladd, 1) := by decide +kernel
theorem d_Ms_leading_51 : decode b_Ms_leading 51 = .ok (.lreturn, 1) := by decide +kernel
theorem d_Ms_catchUp_0 : decode b_Ms_catchUp 0 = .ok (.aload_n 0, 1) := by decide +kernel
theorem d_Ms_catchUp_1 : decode b_Ms_catchUp 1 = .ok (.getfield 22, 3) := by decide +kernel
theorem d_Ms_catchUp_4 : decode b_Ms_catchUp 4 = .ok (.getfield 40, 3) := by decide +kernel
theorem d_Ms_catchUp_7 : decode b_Ms_catchUp 7 = .ok (.istore_n 1, 1) := by decide +kernel
theorem d_Ms_catchUp_8 : decode b_Ms_catchUp 8 = .ok (.lconst 0, 1) := by decide +kernel
theorem d_Ms_catchUp_9 : decode b_Ms_catchUp 9 = .ok (.lstore_n 2, 1) := by decide +kernel
theorem d_Ms_catchUp_10 : decode b_Ms_catchUp 10 = .ok (.lconst 0, 1) := by decide +kernel
theorem d_Ms_catchUp_11 : decode b_Ms_catchUp 11 = .ok (.lstore 4, 2) := by decide +kernel
theorem d_Ms_catchUp_13 : decode b_Ms_catchUp 13 = .ok (.iconst 0, 1) := by decide +kernel
theorem d_Ms_catchUp_14 : decode b_Ms_catchUp 14 = .ok (.istore 6, 2) := by decide +kernel
theorem d_Ms_catchUp_16 : decode b_Ms_catchUp 16 = .ok (.iload 6, 2) := by decide +kernel
theorem d_Ms_catchUp_18 : decode b_Ms_catchUp 18 = .ok (.iload_n 1, 1) := by decide +kernel
theorem d_Ms_catchUp_19 : decode b_Ms_catchUp 19 = .ok (.if_icmp .ge 127, 3) := by decide +kernel
theorem d_Ms_catchUp_22 : decode b_Ms_catchUp 22 = .ok (.aload_n 0, 1) := by decide +kernel
theorem d_Ms_catchUp_23 : decode b_Ms_catchUp 23 = .ok (.getfield 22, 3) := by decide +kernel
theorem d_Ms_catchUp_26 : decode b_Ms_catchUp 26 = .ok (.getfield 112, 3) := by decide +kernel
theorem d_Ms_catchUp_29 : decode b_Ms_catchUp 29 = .ok (.iload 6, 2) := by decide +kernel
theorem d_Ms_catchUp_31 : decode b_Ms_catchUp 31 = .ok (.laload, 1) := by decide +kernel
theorem d_Ms_catchUp_32 : decode b_Ms_catchUp 32 = .ok (.lstore 7, 2) := by decide +kernel
theorem d_Ms_catchUp_34 : decode b_Ms_catchUp 34 = .ok (.aload_n 0, 1) := by decide +kernel
theorem d_Ms_catchUp_35 : decode b_Ms_catchUp 35 = .ok (.getfield 25, 3) := by decide +kernel
theorem d_Ms_catchUp_38 : decode b_Ms_catchUp 38 = .ok (.iload 6, 2) := by decide +kernel
theorem d_Ms_catchUp_40 : decode b_Ms_catchUp 40 = .ok (.invokevirtual 108, 3) := by decide +kernel
theorem d_Ms_catchUp_43 : decode b_Ms_catchUp 43 = .ok (.lstore 9, 2) := by decide +kernel
theorem d_Ms_catchUp_45 : decode b_Ms_catchUp 45 = .ok (.aload_n 0, 1) := by decide +kernel
theorem d_Ms_catchUp_46 : decode b_Ms_catchUp 46 = .ok (.getfield 91, 3) := by decide +kernel
theorem d_Ms_catchUp_49 : decode b_Ms_catchUp 49 = .ok (.lload 7, 2) := by decide +kernel
theorem d_Ms_catchUp_51 : decode b_Ms_catchUp 51 = .ok (.lmul, 1) := by decide +kernel
theorem d_Ms_catchUp_52 : decode b_Ms_catchUp 52 = .ok (.aload_n 0, 1) := by decide +kernel
theorem d_Ms_catchUp_53 : decode b_Ms_catchUp 53 = .ok (.getfield 51, 3) := by decide +kernel
theorem d_Ms_catchUp_56 : decode b_Ms_catchUp 56 = .ok (.lload 9, 2) := by decide +kernel
theorem d_Ms_catchUp_58 : decode b_Ms_catchUp 58 = .ok (.lmul, 1) := by decide +kernel
theorem d_Ms_catchUp_59 : decode b_Ms_catchUp 59 = .ok (.ladd, 1) := by decide +kernel
theorem d_Ms_catchUp_60 : decode b_Ms_catchUp 60 = .ok (.lload_n 2, 1) := by decide +kernel
theorem d_Ms_catchUp_61 : decode b_Ms_catchUp 61 = .ok (.ladd, 1) := by decide +kernel
theorem d_Ms_catchUp_62 : decode b_Ms_catchUp 62 = .ok (.lstore 11, 2) := by decide +kernel
theorem d_Ms_catchUp_64 : decode b_Ms_catchUp 64 = .ok (.aload_n 0, 1) := by decide +kernel
theorem d_Ms_catchUp_65 : decode b_Ms_catchUp 65 = .ok (.getfield 94, 3) := by decide +kernel
theorem d_Ms_catchUp_68 : decode b_Ms_catchUp 68 = .ok (.lload 7, 2) := by decide +kernel
theorem d_Ms_catchUp_70 : decode b_Ms_catchUp 70 = .ok (.lmul, 1) := by decide +kernel
theorem d_Ms_catchUp_71 : decode b_Ms_catchUp 71 = .ok (.aload_n 0, 1) := by decide +kernel
theorem d_Ms_catchUp_72 : decode b_Ms_catchUp 72 = .ok (.getfield 97, 3) := by decide +kernel
theorem d_Ms_catchUp_75 : decode b_Ms_catchUp 75 = .ok (.lload 9, 2) := by decide +kernel
theorem d_Ms_catchUp_77 : decode b_Ms_catchUp 77 = .ok (.lmul, 1) := by decide +kernel
theorem d_Ms_catchUp_78 : decode b_Ms_catchUp 78 = .ok (.ladd, 1) := by decide +kernel
theorem d_Ms_catchUp_79 : decode b_Ms_catchUp 79 = .ok (.lload 4, 2) := by decide +kernel
theorem d_Ms_catchUp_81 : decode b_Ms_catchUp 81 = .ok (.ladd, 1) := by decide +kernel
theorem d_Ms_catchUp_82 : decode b_Ms_catchUp 82 = .ok (.lstore 13, 2) := by decide +kernel
theorem d_Ms_catchUp_84 : decode b_Ms_catchUp 84 = .ok (.lload 11, 2) := by decide +kernel
theorem d_Ms_catchUp_86 : decode b_Ms_catchUp 86 = .ok (.ldc2_w 100, 3) := by decide +kernel
theorem d_Ms_catchUp_89 : decode b_Ms_catchUp 89 = .ok (.invokestatic 115, 3) := by decide +kernel
theorem d_Ms_catchUp_92 : decode b_Ms_catchUp 92 = .ok (.lstore_n 2, 1) := by decide +kernel
theorem d_Ms_catchUp_93 : decode b_Ms_catchUp 93 = .ok (.lload 13, 2) := by decide +kernel
theorem d_Ms_catchUp_95 : decode b_Ms_catchUp 95 = .ok (.ldc2_w 100, 3) := by decide +kernel
theorem d_Ms_catchUp_98 : decode b_Ms_catchUp 98 = .ok (.invokestatic 115, 3) := by decide +kernel
theorem d_Ms_catchUp_101 : decode b_Ms_catchUp 101 = .ok (.lstore 4, 2) := by decide +kernel
theorem d_Ms_catchUp_103 : decode b_Ms_catchUp 103 = .ok (.aload_n 0, 1) := by decide +kernel
theorem d_Ms_catchUp_104 : decode b_Ms_catchUp 104 = .ok (.getfield 22, 3) := by decide +kernel
theorem d_Ms_catchUp_107 : decode b_Ms_catchUp 107 = .ok (.getfield 112, 3) := by decide +kernel
theorem d_Ms_catchUp_110 : decode b_Ms_catchUp 110 = .ok (.iload 6, 2) := by decide +kernel
theorem d_Ms_catchUp_112 : decode b_Ms_catchUp 112 = .ok (.lload 11, 2) := by decide +kernel
theorem d_Ms_catchUp_114 : decode b_Ms_catchUp 114 = .ok (.lload_n 2, 1) := by decide +kernel
theorem d_Ms_catchUp_115 : decode b_Ms_catchUp 115 = .ok (.ldc2_w 100, 3) := by decide +kernel
theorem d_Ms_catchUp_118 : decode b_Ms_catchUp 118 = .ok (.lmul, 1) := by decide +kernel
theorem d_Ms_catchUp_119 : decode b_Ms_catchUp 119 = .ok (.lsub, 1) := by decide +kernel
theorem d_Ms_catchUp_120 : decode b_Ms_catchUp 120 = .ok (.lastore, 1) := by decide +kernel
theorem d_Ms_catchUp_121 : decode b_Ms_catchUp 121 = .ok (.aload_n 0, 1) := by decide +kernel
theorem d_Ms_catchUp_122 : decode b_Ms_catchUp 122 = .ok (.getfield 25, 3) := by decide +kernel
theorem d_Ms_catchUp_125 : decode b_Ms_catchUp 125 = .ok (.getfield 112, 3) := by decide +kernel
theorem d_Ms_catchUp_128 : decode b_Ms_catchUp 128 = .ok (.iload 6, 2) := by decide +kernel
theorem d_Ms_catchUp_130 : decode b_Ms_catchUp 130 = .ok (.lload 13, 2) := by decide +kernel
theorem d_Ms_catchUp_132 : decode b_Ms_catchUp 132 = .ok (.lload 4, 2) := by decide +kernel
theorem d_Ms_catchUp_134 : decode b_Ms_catchUp 134 = .ok (.ldc2_w 100, 3) := by decide +kernel
theorem d_Ms_catchUp_137 : decode b_Ms_catchUp 137 = .ok (.lmul, 1) := by decide +kernel
theorem d_Ms_catchUp_138 : decode b_Ms_catchUp 138 = .ok (.lsub, 1) := by decide +kernel
theorem d_Ms_catchUp_139 : decode b_Ms_catchUp 139 = .ok (.lastore, 1) := by decide +kernel
theorem d_Ms_catchUp_140 : decode b_Ms_catchUp 140 = .ok (.iinc 6 1, 3) := by decide +kernel
theorem d_Ms_catchUp_143 : decode b_Ms_catchUp 143 = .ok (.goto (-127), 3) := by decide +kernel
theorem d_Ms_catchUp_146 : decode b_Ms_catchUp 146 = .ok (.aload_n 0, 1) := by decide +kernel
theorem d_Ms_catchUp_147 : decode b_Ms_catchUp 147 = .ok (.getfield 22, 3) := by decide +kernel
theorem d_Ms_catchUp_150 : decode b_Ms_catchUp 150 = .ok (.iload_n 1, 1) := by decide +kernel
theorem d_Ms_catchUp_151 : decode b_Ms_catchUp 151 = .ok (.invokevirtual 118, 3) := by decide +kernel
theorem d_Ms_catchUp_154 : decode b_Ms_catchUp 154 = .ok (.aload_n 0, 1) := by decide +kernel
theorem d_Ms_catchUp_155 : decode b_Ms_catchUp 155 = .ok (.getfield 25, 3) := by decide +kernel
theorem d_Ms_catchUp_158 : decode b_Ms_catchUp 158 = .ok (.iload_n 1, 1) := by decide +kernel
theorem d_Ms_catchUp_159 : decode b_Ms_catchUp 159 = .ok (.invokevirtual 118, 3) := by decide +kernel
theorem d_Ms_catchUp_162 : decode b_Ms_catchUp 162 = .ok (.return_, 1) := by decide +kernel
