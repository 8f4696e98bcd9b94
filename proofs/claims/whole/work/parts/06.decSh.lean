theorem d_Sh_init_0 : decode b_Sh_init 0 = .ok (.aload_n 0, 1) := by decide +kernel
theorem d_Sh_init_1 : decode b_Sh_init 1 = .ok (.invokespecial 3, 3) := by decide +kernel
theorem d_Sh_init_4 : decode b_Sh_init 4 = .ok (.aload_n 0, 1) := by decide +kernel
theorem d_Sh_init_5 : decode b_Sh_init 5 = .ok (.aload_n 1, 1) := by decide +kernel
theorem d_Sh_init_6 : decode b_Sh_init 6 = .ok (.putfield 9, 3) := by decide +kernel
theorem d_Sh_init_9 : decode b_Sh_init 9 = .ok (.aload_n 0, 1) := by decide +kernel
theorem d_Sh_init_10 : decode b_Sh_init 10 = .ok (.bipush 10, 2) := by decide +kernel
theorem d_Sh_init_12 : decode b_Sh_init 12 = .ok (.newarray .int, 2) := by decide +kernel
theorem d_Sh_init_14 : decode b_Sh_init 14 = .ok (.putfield 15, 3) := by decide +kernel
theorem d_Sh_init_17 : decode b_Sh_init 17 = .ok (.aload_n 0, 1) := by decide +kernel
theorem d_Sh_init_18 : decode b_Sh_init 18 = .ok (.bipush 10, 2) := by decide +kernel
theorem d_Sh_init_20 : decode b_Sh_init 20 = .ok (.newarray .long, 2) := by decide +kernel
theorem d_Sh_init_22 : decode b_Sh_init 22 = .ok (.putfield 19, 3) := by decide +kernel
theorem d_Sh_init_25 : decode b_Sh_init 25 = .ok (.aload_n 0, 1) := by decide +kernel
theorem d_Sh_init_26 : decode b_Sh_init 26 = .ok (.new 23, 3) := by decide +kernel
theorem d_Sh_init_29 : decode b_Sh_init 29 = .ok (.dup, 1) := by decide +kernel
theorem d_Sh_init_30 : decode b_Sh_init 30 = .ok (.invokespecial 25, 3) := by decide +kernel
theorem d_Sh_init_33 : decode b_Sh_init 33 = .ok (.putfield 26, 3) := by decide +kernel
theorem d_Sh_init_36 : decode b_Sh_init 36 = .ok (.aload_n 0, 1) := by decide +kernel
theorem d_Sh_init_37 : decode b_Sh_init 37 = .ok (.new 23, 3) := by decide +kernel
theorem d_Sh_init_40 : decode b_Sh_init 40 = .ok (.dup, 1) := by decide +kernel
theorem d_Sh_init_41 : decode b_Sh_init 41 = .ok (.invokespecial 25, 3) := by decide +kernel
theorem d_Sh_init_44 : decode b_Sh_init 44 = .ok (.putfield 30, 3) := by decide +kernel
theorem d_Sh_init_47 : decode b_Sh_init 47 = .ok (.aload_n 0, 1) := by decide +kernel
theorem d_Sh_init_48 : decode b_Sh_init 48 = .ok (.new 23, 3) := by decide +kernel
theorem d_Sh_init_51 : decode b_Sh_init 51 = .ok (.dup, 1) := by decide +kernel
theorem d_Sh_init_52 : decode b_Sh_init 52 = .ok (.invokespecial 25, 3) := by decide +kernel
theorem d_Sh_init_55 : decode b_Sh_init 55 = .ok (.putfield 33, 3) := by decide +kernel
theorem d_Sh_init_58 : decode b_Sh_init 58 = .ok (.aload_n 0, 1) := by decide +kernel
theorem d_Sh_init_59 : decode b_Sh_init 59 = .ok (.new 23, 3) := by decide +kernel
theorem d_Sh_init_62 : decode b_Sh_init 62 = .ok (.dup, 1) := by decide +kernel
theorem d_Sh_init_63 : decode b_Sh_init 63 = .ok (.invokespecial 25, 3) := by decide +kernel
theorem d_Sh_init_66 : decode b_Sh_init 66 = .ok (.putfield 36, 3) := by decide +kernel
theorem d_Sh_init_69 : decode b_Sh_init 69 = .ok (.return_, 1) := by decide +kernel
theorem d_Sh_exchange_0 : decode b_Sh_exchange 0 = .ok (.aload_n 0, 1) := by decide +kernel
theorem d_Sh_exchange_1 : decode b_Sh_exchange 1 = .ok (.getfield 15, 3) := by decide +kernel
theorem d_Sh_exchange_4 : decode b_Sh_exchange 4 = .ok (.iload_n 1, 1) := by decide +kernel
theorem d_Sh_exchange_5 : decode b_Sh_exchange 5 = .ok (.iaload, 1) := by decide +kernel
theorem d_Sh_exchange_6 : decode b_Sh_exchange 6 = .ok (.istore_n 3, 1) := by decide +kernel
theorem d_Sh_exchange_7 : decode b_Sh_exchange 7 = .ok (.aload_n 0, 1) := by decide +kernel
theorem d_Sh_exchange_8 : decode b_Sh_exchange 8 = .ok (.getfield 15, 3) := by decide +kernel
theorem d_Sh_exchange_11 : decode b_Sh_exchange 11 = .ok (.iload_n 1, 1) := by decide +kernel
theorem d_Sh_exchange_12 : decode b_Sh_exchange 12 = .ok (.iload_n 2, 1) := by decide +kernel
theorem d_Sh_exchange_13 : decode b_Sh_exchange 13 = .ok (.iastore, 1) := by decide +kernel
theorem d_Sh_exchange_14 : decode b_Sh_exchange 14 = .ok (.iload_n 3, 1) := by decide +kernel
theorem d_Sh_exchange_15 : decode b_Sh_exchange 15 = .ok (.ireturn, 1) := by decide +kernel
theorem d_Sh_sumOfWeights_0 : decode b_Sh_sumOfWeights 0 = .ok (.lconst 0, 1) := by decide +kernel
theorem d_Sh_sumOfWeights_1 : decode b_Sh_sumOfWeights 1 = .ok (.lstore_n 1, 1) := by decide +kernel
theorem d_Sh_sumOfWeights_2 : decode b_Sh_sumOfWeights 2 = .ok (.iconst 0, 1) := by decide +kernel
theorem d_Sh_sumOfWeights_3 : decode b_Sh_sumOfWeights 3 = .ok (.istore_n 3, 1) := by decide +kernel
theorem d_Sh_sumOfWeights_4 : decode b_Sh_sumOfWeights 4 = .ok (.iload_n 3, 1) := by decide +kernel
theorem d_Sh_sumOfWeights_5 : decode b_Sh_sumOfWeights 5 = .ok (.bipush 10, 2) := by decide +kernel
theorem d_Sh_sumOfWeights_7 : decode b_Sh_sumOfWeights 7 = .ok (.if_icmp .ge 19, 3) := by decide +kernel
theorem d_Sh_sumOfWeights_10 : decode b_Sh_sumOfWeights 10 = .ok (.lload_n 1, 1) := by decide +kernel
theorem d_Sh_sumOfWeights_11 : decode b_Sh_sumOfWeights 11 = .ok (.aload_n 0, 1) := by decide +kernel
theorem d_Sh_sumOfWeights_12 : decode b_Sh_sumOfWeights 12 = .ok (.getfield 15, 3) := by decide +kernel
theorem d_Sh_sumOfWeights_15 : decode b_Sh_sumOfWeights 15 = .ok (.iload_n 3, 1) := by decide +kernel
theorem d_Sh_sumOfWeights_16 : decode b_Sh_sumOfWeights 16 = .ok (.iaload, 1) := by decide +kernel
theorem d_Sh_sumOfWeights_17 : decode b_Sh_sumOfWeights 17 = .ok (.i2l, 1) := by decide +kernel
theorem d_Sh_sumOfWeights_18 : decode b_Sh_sumOfWeights 18 = .ok (.ladd, 1) := by decide +kernel
theorem d_Sh_sumOfWeights_19 : decode b_Sh_sumOfWeights 19 = .ok (.lstore_n 1, 1) := by decide +kernel
theorem d_Sh_sumOfWeights_20 : decode b_Sh_sumOfWeights 20 = .ok (.iinc 3 1, 3) := by decide +kernel
theorem d_Sh_sumOfWeights_23 : decode b_Sh_sumOfWeights 23 = .ok (.goto (-19), 3) := by decide +kernel
theorem d_Sh_sumOfWeights_26 : decode b_Sh_sumOfWeights 26 = .ok (.lload_n 1, 1) := by decide +kernel
theorem d_Sh_sumOfWeights_27 : decode b_Sh_sumOfWeights 27 = .ok (.lreturn, 1) := by decide +kernel
theorem d_Sh_shareOf_0 : decode b_Sh_shareOf 0 = .ok (.aload_n 0, 1) := by decide +kernel
theorem d_Sh_shareOf_1 : decode b_Sh_shareOf 1 = .ok (.invokevirtual 39, 3) := by decide +kernel
theorem d_Sh_shareOf_4 : decode b_Sh_shareOf 4 = .ok (.lstore_n 3, 1) := by decide +kernel
theorem d_Sh_shareOf_5 : decode b_Sh_shareOf 5 = .ok (.lconst 0, 1) := by decide +kernel
theorem d_Sh_shareOf_6 : decode b_Sh_shareOf 6 = .ok (.lstore 5, 2) := by decide +kernel
theorem d_Sh_shareOf_8 : decode b_Sh_shareOf 8 = .ok (.aload_n 0, 1) := by decide +kernel
theorem d_Sh_shareOf_9 : decode b_Sh_shareOf 9 = .ok (.getfield 26, 3) := by decide +kernel
theorem d_Sh_shareOf_12 : decode b_Sh_shareOf 12 = .ok (.lload_n 3, 1) := by decide +kernel
theorem d_Sh_shareOf_13 : decode b_Sh_shareOf 13 = .ok (.invokevirtual 43, 3) := by decide +kernel
theorem d_Sh_shareOf_16 : decode b_Sh_shareOf 16 = .ok (.iconst 0, 1) := by decide +kernel
theorem d_Sh_shareOf_17 : decode b_Sh_shareOf 17 = .ok (.istore 7, 2) := by decide +kernel
theorem d_Sh_shareOf_19 : decode b_Sh_shareOf 19 = .ok (.iload 7, 2) := by decide +kernel
theorem d_Sh_shareOf_21 : decode b_Sh_shareOf 21 = .ok (.bipush 10, 2) := by decide +kernel
theorem d_Sh_shareOf_23 : decode b_Sh_shareOf 23 = .ok (.if_icmp .ge 99, 3) := by decide +kernel
theorem d_Sh_shareOf_26 : decode b_Sh_shareOf 26 = .ok (.aload_n 0, 1) := by decide +kernel
theorem d_Sh_shareOf_27 : decode b_Sh_shareOf 27 = .ok (.getfield 30, 3) := by decide +kernel
theorem d_Sh_shareOf_30 : decode b_Sh_shareOf 30 = .ok (.aload_n 1, 1) := by decide +kernel
theorem d_Sh_shareOf_31 : decode b_Sh_shareOf 31 = .ok (.invokevirtual 47, 3) := by decide +kernel
theorem d_Sh_shareOf_34 : decode b_Sh_shareOf 34 = .ok (.aload_n 0, 1) := by decide +kernel
theorem d_Sh_shareOf_35 : decode b_Sh_shareOf 35 = .ok (.getfield 30, 3) := by decide +kernel
theorem d_Sh_shareOf_38 : decode b_Sh_shareOf 38 = .ok (.aload_n 0, 1) := by decide +kernel
theorem d_Sh_shareOf_39 : decode b_Sh_shareOf 39 = .ok (.getfield 15, 3) := by decide +kernel
theorem d_Sh_shareOf_42 : decode b_Sh_shareOf 42 = .ok (.iload 7, 2) := by decide +kernel
theorem d_Sh_shareOf_44 : decode b_Sh_shareOf 44 = .ok (.iaload, 1) := by decide +kernel
theorem d_Sh_shareOf_45 : decode b_Sh_shareOf 45 = .ok (.i2l, 1) := by decide +kernel
theorem d_Sh_shareOf_46 : decode b_Sh_shareOf 46 = .ok (.lconst 0, 1) := by decide +kernel
theorem d_Sh_shareOf_47 : decode b_Sh_shareOf 47 = .ok (.invokevirtual 51, 3) := by decide +kernel
theorem d_Sh_shareOf_50 : decode b_Sh_shareOf 50 = .ok (.aload_n 0, 1) := by decide +kernel
theorem d_Sh_shareOf_51 : decode b_Sh_shareOf 51 = .ok (.getfield 9, 3) := by decide +kernel
theorem d_Sh_shareOf_54 : decode b_Sh_shareOf 54 = .ok (.aload_n 0, 1) := by decide +kernel
theorem d_Sh_shareOf_55 : decode b_Sh_shareOf 55 = .ok (.getfield 30, 3) := by decide +kernel
theorem d_Sh_shareOf_58 : decode b_Sh_shareOf 58 = .ok (.aload_n 0, 1) := by decide +kernel
theorem d_Sh_shareOf_59 : decode b_Sh_shareOf 59 = .ok (.getfield 26, 3) := by decide +kernel
theorem d_Sh_shareOf_62 : decode b_Sh_shareOf 62 = .ok (.aload_n 0, 1) := by decide +kernel
theorem d_Sh_shareOf_63 : decode b_Sh_shareOf 63 = .ok (.getfield 30, 3) := by decide +kernel
theorem d_Sh_shareOf_66 : decode b_Sh_shareOf 66 = .ok (.aload_n 0, 1) := by decide +kernel
theorem d_Sh_shareOf_67 : decode b_Sh_shareOf 67 = .ok (.getfield 33, 3) := by decide +kernel
theorem d_Sh_shareOf_70 : decode b_Sh_shareOf 70 = .ok (.invokevirtual 55, 3) := by decide +kernel
theorem d_Sh_shareOf_73 : decode b_Sh_shareOf 73 = .ok (.aload_n 0, 1) := by decide +kernel
theorem d_Sh_shareOf_74 : decode b_Sh_shareOf 74 = .ok (.getfield 19, 3) := by decide +kernel
theorem d_Sh_shareOf_77 : decode b_Sh_shareOf 77 = .ok (.iload 7, 2) := by decide +kernel
theorem d_Sh_shareOf_79 : decode b_Sh_shareOf 79 = .ok (.aload_n 0, 1) := by decide +kernel
theorem d_Sh_shareOf_80 : decode b_Sh_shareOf 80 = .ok (.getfield 33, 3) := by decide +kernel
theorem d_Sh_shareOf_83 : decode b_Sh_shareOf 83 = .ok (.invokevirtual 61, 3) := by decide +kernel
theorem d_Sh_shareOf_86 : decode b_Sh_shareOf 86 = .ok (.lastore, 1) := by decide +kernel
theorem d_Sh_shareOf_87 : decode b_Sh_shareOf 87 = .ok (.lload 5, 2) := by decide +kernel
theorem d_Sh_shareOf_89 : decode b_Sh_shareOf 89 = .ok (.aload_n 0, 1) := by decide +kernel
theorem d_Sh_shareOf_90 : decode b_Sh_shareOf 90 = .ok (.getfield 19, 3) := by decide +kernel
theorem d_Sh_shareOf_93 : decode b_Sh_shareOf 93 = .ok (.iload 7, 2) := by decide +kernel
theorem d_Sh_shareOf_95 : decode b_Sh_shareOf 95 = .ok (.laload, 1) := by decide +kernel
theorem d_Sh_shareOf_96 : decode b_Sh_shareOf 96 = .ok (.ladd, 1) := by decide +kernel
theorem d_Sh_shareOf_97 : decode b_Sh_shareOf 97 = .ok (.lstore 5, 2) := by decide +kernel
theorem d_Sh_shareOf_99 : decode b_Sh_shareOf 99 = .ok (.iload 7, 2) := by decide +kernel
theorem d_Sh_shareOf_101 : decode b_Sh_shareOf 101 = .ok (.iload_n 2, 1) := by decide +kernel
theorem d_Sh_shareOf_102 : decode b_Sh_shareOf 102 = .ok (.if_icmp .ne 14, 3) := by decide +kernel
theorem d_Sh_shareOf_105 : decode b_Sh_shareOf 105 = .ok (.aload_n 0, 1) := by decide +kernel
theorem d_Sh_shareOf_106 : decode b_Sh_shareOf 106 = .ok (.getfield 36, 3) := by decide +kernel
theorem d_Sh_shareOf_109 : decode b_Sh_shareOf 109 = .ok (.aload_n 0, 1) := by decide +kernel
theorem d_Sh_shareOf_110 : decode b_Sh_shareOf 110 = .ok (.getfield 30, 3) := by decide +kernel
theorem d_Sh_shareOf_113 : decode b_Sh_shareOf 113 = .ok (.invokevirtual 47, 3) := by decide +kernel
theorem d_Sh_shareOf_116 : decode b_Sh_shareOf 116 = .ok (.iinc 7 1, 3) := by decide +kernel
theorem d_Sh_shareOf_119 : decode b_Sh_shareOf 119 = .ok (.goto (-100), 3) := by decide +kernel
theorem d_Sh_shareOf_122 : decode b_Sh_shareOf 122 = .ok (.aload_n 0, 1) := by decide +kernel
theorem d_Sh_shareOf_123 : decode b_Sh_shareOf 123 = .ok (.iload_n 2, 1) := by decide +kernel
theorem d_Sh_shareOf_124 : decode b_Sh_shareOf 124 = .ok (.invokevirtual 64, 3) := by decide +kernel
theorem d_Sh_shareOf_127 : decode b_Sh_shareOf 127 = .ok (.lconst 1, 1) := by decide +kernel
theorem d_Sh_shareOf_128 : decode b_Sh_shareOf 128 = .ok (.ladd, 1) := by decide +kernel
theorem d_Sh_shareOf_129 : decode b_Sh_shareOf 129 = .ok (.lload_n 3, 1) := by decide +kernel
theorem d_Sh_shareOf_130 : decode b_Sh_shareOf 130 = .ok (.lmul, 1) := by decide +kernel
theorem d_Sh_shareOf_131 : decode b_Sh_shareOf 131 = .ok (.lload 5, 2) := by decide +kernel
theorem d_Sh_shareOf_133 : decode b_Sh_shareOf 133 = .ok (.lcmp, 1) := by decide +kernel
theorem d_Sh_shareOf_134 : decode b_Sh_shareOf 134 = .ok (.ifCond .gt 12, 3) := by decide +kernel
theorem d_Sh_shareOf_137 : decode b_Sh_shareOf 137 = .ok (.aload_n 0, 1) := by decide +kernel
theorem d_Sh_shareOf_138 : decode b_Sh_shareOf 138 = .ok (.getfield 36, 3) := by decide +kernel
theorem d_Sh_shareOf_141 : decode b_Sh_shareOf 141 = .ok (.lconst 1, 1) := by decide +kernel
theorem d_Sh_shareOf_142 : decode b_Sh_shareOf 142 = .ok (.lconst 1, 1) := by decide +kernel
theorem d_Sh_shareOf_143 : decode b_Sh_shareOf 143 = .ok (.invokevirtual 51, 3) := by decide +kernel
theorem d_Sh_shareOf_146 : decode b_Sh_shareOf 146 = .ok (.aload_n 0, 1) := by decide +kernel
theorem d_Sh_shareOf_147 : decode b_Sh_shareOf 147 = .ok (.getfield 36, 3) := by decide +kernel
theorem d_Sh_shareOf_150 : decode b_Sh_shareOf 150 = .ok (.areturn, 1) := by decide +kernel
theorem d_Sh_rank_0 : decode b_Sh_rank 0 = .ok (.lconst 0, 1) := by decide +kernel
theorem d_Sh_rank_1 : decode b_Sh_rank 1 = .ok (.lstore_n 2, 1) := by decide +kernel
theorem d_Sh_rank_2 : decode b_Sh_rank 2 = .ok (.iconst 0, 1) := by decide +kernel
theorem d_Sh_rank_3 : decode b_Sh_rank 3 = .ok (.istore 4, 2) := by decide +kernel
theorem d_Sh_rank_5 : decode b_Sh_rank 5 = .ok (.iload 4, 2) := by decide +kernel
theorem d_Sh_rank_7 : decode b_Sh_rank 7 = .ok (.bipush 10, 2) := by decide +kernel
theorem d_Sh_rank_9 : decode b_Sh_rank 9 = .ok (.if_icmp .ge 53, 3) := by decide +kernel
theorem d_Sh_rank_12 : decode b_Sh_rank 12 = .ok (.aload_n 0, 1) := by decide +kernel
theorem d_Sh_rank_13 : decode b_Sh_rank 13 = .ok (.getfield 19, 3) := by decide +kernel
theorem d_Sh_rank_16 : decode b_Sh_rank 16 = .ok (.iload 4, 2) := by decide +kernel
theorem d_Sh_rank_18 : decode b_Sh_rank 18 = .ok (.laload, 1) := by decide +kernel
theorem d_Sh_rank_19 : decode b_Sh_rank 19 = .ok (.aload_n 0, 1) := by decide +kernel
theorem d_Sh_rank_20 : decode b_Sh_rank 20 = .ok (.getfield 19, 3) := by decide +kernel
theorem d_Sh_rank_23 : decode b_Sh_rank 23 = .ok (.iload_n 1, 1) := by decide +kernel
theorem d_Sh_rank_24 : decode b_Sh_rank 24 = .ok (.laload, 1) := by decide +kernel
theorem d_Sh_rank_25 : decode b_Sh_rank 25 = .ok (.lcmp, 1) := by decide +kernel
theorem d_Sh_rank_26 : decode b_Sh_rank 26 = .ok (.ifCond .gt 26, 3) := by decide +kernel
theorem d_Sh_rank_29 : decode b_Sh_rank 29 = .ok (.aload_n 0, 1) := by decide +kernel
theorem d_Sh_rank_30 : decode b_Sh_rank 30 = .ok (.getfield 19, 3) := by decide +kernel
theorem d_Sh_rank_33 : decode b_Sh_rank 33 = .ok (.iload 4, 2) := by decide +kernel
theorem d_Sh_rank_35 : decode b_Sh_rank 35 = .ok (.laload, 1) := by decide +kernel
theorem d_Sh_rank_36 : decode b_Sh_rank 36 = .ok (.aload_n 0, 1) := by decide +kernel
theorem d_Sh_rank_37 : decode b_Sh_rank 37 = .ok (.getfield 19, 3) := by decide +kernel
theorem d_Sh_rank_40 : decode b_Sh_rank 40 = .ok (.iload_n 1, 1) := by decide +kernel
theorem d_Sh_rank_41 : decode b_Sh_rank 41 = .ok (.laload, 1) := by decide +kernel
theorem d_Sh_rank_42 : decode b_Sh_rank 42 = .ok (.lcmp, 1) := by decide +kernel
theorem d_Sh_rank_43 : decode b_Sh_rank 43 = .ok (.ifCond .ne 13, 3) := by decide +kernel
theorem d_Sh_rank_46 : decode b_Sh_rank 46 = .ok (.iload 4, 2) := by decide +kernel
theorem d_Sh_rank_48 : decode b_Sh_rank 48 = .ok (.iload_n 1, 1) := by decide +kernel
theorem d_Sh_rank_49 : decode b_Sh_rank 49 = .ok (.if_icmp .ge 7, 3) := by decide +kernel
theorem d_Sh_rank_52 : decode b_Sh_rank 52 = .ok (.lload_n 2, 1) := by decide +kernel
theorem d_Sh_rank_53 : decode b_Sh_rank 53 = .ok (.lconst 1, 1) := by decide +kernel
theorem d_Sh_rank_54 : decode b_Sh_rank 54 = .ok (.ladd, 1) := by decide +kernel
theorem d_Sh_rank_55 : decode b_Sh_rank 55 = .ok (.lstore_n 2, 1) := by decide +kernel
theorem d_Sh_rank_56 : decode b_Sh_rank 56 = .ok (.iinc 4 1, 3) := by decide +kernel
theorem d_Sh_rank_59 : decode b_Sh_rank 59 = .ok (.goto (-54), 3) := by decide +kernel
theorem d_Sh_rank_62 : decode b_Sh_rank 62 = .ok (.lload_n 2, 1) := by decide +kernel
theorem d_Sh_rank_63 : decode b_Sh_rank 63 = .ok (.lreturn, 1) := by decide +kernel
