theorem d_Rk_init_0 : decode b_Rk_init 0 = .ok (.aload_n 0, 1) := by decide +kernel
theorem d_Rk_init_1 : decode b_Rk_init 1 = .ok (.invokespecial 3, 3) := by decide +kernel
theorem d_Rk_init_4 : decode b_Rk_init 4 = .ok (.aload_n 0, 1) := by decide +kernel
theorem d_Rk_init_5 : decode b_Rk_init 5 = .ok (.aload_n 1, 1) := by decide +kernel
theorem d_Rk_init_6 : decode b_Rk_init 6 = .ok (.putfield 9, 3) := by decide +kernel
theorem d_Rk_init_9 : decode b_Rk_init 9 = .ok (.aload_n 0, 1) := by decide +kernel
theorem d_Rk_init_10 : decode b_Rk_init 10 = .ok (.new 15, 3) := by decide +kernel
theorem d_Rk_init_13 : decode b_Rk_init 13 = .ok (.dup, 1) := by decide +kernel
theorem d_Rk_init_14 : decode b_Rk_init 14 = .ok (.aload_n 1, 1) := by decide +kernel
theorem d_Rk_init_15 : decode b_Rk_init 15 = .ok (.invokespecial 17, 3) := by decide +kernel
theorem d_Rk_init_18 : decode b_Rk_init 18 = .ok (.putfield 20, 3) := by decide +kernel
theorem d_Rk_init_21 : decode b_Rk_init 21 = .ok (.aload_n 0, 1) := by decide +kernel
theorem d_Rk_init_22 : decode b_Rk_init 22 = .ok (.new 24, 3) := by decide +kernel
theorem d_Rk_init_25 : decode b_Rk_init 25 = .ok (.dup, 1) := by decide +kernel
theorem d_Rk_init_26 : decode b_Rk_init 26 = .ok (.invokespecial 26, 3) := by decide +kernel
theorem d_Rk_init_29 : decode b_Rk_init 29 = .ok (.putfield 27, 3) := by decide +kernel
theorem d_Rk_init_32 : decode b_Rk_init 32 = .ok (.aload_n 0, 1) := by decide +kernel
theorem d_Rk_init_33 : decode b_Rk_init 33 = .ok (.new 31, 3) := by decide +kernel
theorem d_Rk_init_36 : decode b_Rk_init 36 = .ok (.dup, 1) := by decide +kernel
theorem d_Rk_init_37 : decode b_Rk_init 37 = .ok (.invokespecial 33, 3) := by decide +kernel
theorem d_Rk_init_40 : decode b_Rk_init 40 = .ok (.putfield 34, 3) := by decide +kernel
theorem d_Rk_init_43 : decode b_Rk_init 43 = .ok (.aload_n 0, 1) := by decide +kernel
theorem d_Rk_init_44 : decode b_Rk_init 44 = .ok (.new 31, 3) := by decide +kernel
theorem d_Rk_init_47 : decode b_Rk_init 47 = .ok (.dup, 1) := by decide +kernel
theorem d_Rk_init_48 : decode b_Rk_init 48 = .ok (.invokespecial 33, 3) := by decide +kernel
theorem d_Rk_init_51 : decode b_Rk_init 51 = .ok (.putfield 38, 3) := by decide +kernel
theorem d_Rk_init_54 : decode b_Rk_init 54 = .ok (.aload_n 0, 1) := by decide +kernel
theorem d_Rk_init_55 : decode b_Rk_init 55 = .ok (.new 31, 3) := by decide +kernel
theorem d_Rk_init_58 : decode b_Rk_init 58 = .ok (.dup, 1) := by decide +kernel
theorem d_Rk_init_59 : decode b_Rk_init 59 = .ok (.invokespecial 33, 3) := by decide +kernel
theorem d_Rk_init_62 : decode b_Rk_init 62 = .ok (.putfield 41, 3) := by decide +kernel
theorem d_Rk_init_65 : decode b_Rk_init 65 = .ok (.aload_n 0, 1) := by decide +kernel
theorem d_Rk_init_66 : decode b_Rk_init 66 = .ok (.new 31, 3) := by decide +kernel
theorem d_Rk_init_69 : decode b_Rk_init 69 = .ok (.dup, 1) := by decide +kernel
theorem d_Rk_init_70 : decode b_Rk_init 70 = .ok (.invokespecial 33, 3) := by decide +kernel
theorem d_Rk_init_73 : decode b_Rk_init 73 = .ok (.putfield 44, 3) := by decide +kernel
theorem d_Rk_init_76 : decode b_Rk_init 76 = .ok (.return_, 1) := by decide +kernel
theorem d_Rk_requireFit_0 : decode b_Rk_requireFit 0 = .ok (.aload_n 0, 1) := by decide +kernel
theorem d_Rk_requireFit_1 : decode b_Rk_requireFit 1 = .ok (.getfield 27, 3) := by decide +kernel
theorem d_Rk_requireFit_4 : decode b_Rk_requireFit 4 = .ok (.invokevirtual 47, 3) := by decide +kernel
theorem d_Rk_requireFit_7 : decode b_Rk_requireFit 7 = .ok (.ifCond .ne 13, 3) := by decide +kernel
theorem d_Rk_requireFit_10 : decode b_Rk_requireFit 10 = .ok (.new 51, 3) := by decide +kernel
theorem d_Rk_requireFit_13 : decode b_Rk_requireFit 13 = .ok (.dup, 1) := by decide +kernel
theorem d_Rk_requireFit_14 : decode b_Rk_requireFit 14 = .ok (.ldc 53, 2) := by decide +kernel
theorem d_Rk_requireFit_16 : decode b_Rk_requireFit 16 = .ok (.invokespecial 55, 3) := by decide +kernel
theorem d_Rk_requireFit_19 : decode b_Rk_requireFit 19 = .ok (.athrow, 1) := by decide +kernel
theorem d_Rk_requireFit_20 : decode b_Rk_requireFit 20 = .ok (.return_, 1) := by decide +kernel
theorem d_Rk_ratio_0 : decode b_Rk_ratio 0 = .ok (.lload_n 1, 1) := by decide +kernel
theorem d_Rk_ratio_1 : decode b_Rk_ratio 1 = .ok (.invokestatic 58, 3) := by decide +kernel
theorem d_Rk_ratio_4 : decode b_Rk_ratio 4 = .ok (.lload_n 3, 1) := by decide +kernel
theorem d_Rk_ratio_5 : decode b_Rk_ratio 5 = .ok (.invokestatic 58, 3) := by decide +kernel
theorem d_Rk_ratio_8 : decode b_Rk_ratio 8 = .ok (.invokestatic 64, 3) := by decide +kernel
theorem d_Rk_ratio_11 : decode b_Rk_ratio 11 = .ok (.lstore 5, 2) := by decide +kernel
theorem d_Rk_ratio_13 : decode b_Rk_ratio 13 = .ok (.lload 5, 2) := by decide +kernel
theorem d_Rk_ratio_15 : decode b_Rk_ratio 15 = .ok (.invokestatic 68, 3) := by decide +kernel
theorem d_Rk_ratio_18 : decode b_Rk_ratio 18 = .ok (.aload_n 0, 1) := by decide +kernel
theorem d_Rk_ratio_19 : decode b_Rk_ratio 19 = .ok (.getfield 27, 3) := by decide +kernel
theorem d_Rk_ratio_22 : decode b_Rk_ratio 22 = .ok (.getfield 72, 3) := by decide +kernel
theorem d_Rk_ratio_25 : decode b_Rk_ratio 25 = .ok (.lload_n 1, 1) := by decide +kernel
theorem d_Rk_ratio_26 : decode b_Rk_ratio 26 = .ok (.invokestatic 58, 3) := by decide +kernel
theorem d_Rk_ratio_29 : decode b_Rk_ratio 29 = .ok (.lload 5, 2) := by decide +kernel
theorem d_Rk_ratio_31 : decode b_Rk_ratio 31 = .ok (.ldiv, 1) := by decide +kernel
theorem d_Rk_ratio_32 : decode b_Rk_ratio 32 = .ok (.invokevirtual 75, 3) := by decide +kernel
theorem d_Rk_ratio_35 : decode b_Rk_ratio 35 = .ok (.aload_n 0, 1) := by decide +kernel
theorem d_Rk_ratio_36 : decode b_Rk_ratio 36 = .ok (.getfield 27, 3) := by decide +kernel
theorem d_Rk_ratio_39 : decode b_Rk_ratio 39 = .ok (.getfield 78, 3) := by decide +kernel
theorem d_Rk_ratio_42 : decode b_Rk_ratio 42 = .ok (.lload_n 3, 1) := by decide +kernel
theorem d_Rk_ratio_43 : decode b_Rk_ratio 43 = .ok (.invokestatic 58, 3) := by decide +kernel
theorem d_Rk_ratio_46 : decode b_Rk_ratio 46 = .ok (.lload 5, 2) := by decide +kernel
theorem d_Rk_ratio_48 : decode b_Rk_ratio 48 = .ok (.ldiv, 1) := by decide +kernel
theorem d_Rk_ratio_49 : decode b_Rk_ratio 49 = .ok (.invokevirtual 75, 3) := by decide +kernel
theorem d_Rk_ratio_52 : decode b_Rk_ratio 52 = .ok (.aload_n 0, 1) := by decide +kernel
theorem d_Rk_ratio_53 : decode b_Rk_ratio 53 = .ok (.getfield 27, 3) := by decide +kernel
theorem d_Rk_ratio_56 : decode b_Rk_ratio 56 = .ok (.lload_n 1, 1) := by decide +kernel
theorem d_Rk_ratio_57 : decode b_Rk_ratio 57 = .ok (.lconst 0, 1) := by decide +kernel
theorem d_Rk_ratio_58 : decode b_Rk_ratio 58 = .ok (.lcmp, 1) := by decide +kernel
theorem d_Rk_ratio_59 : decode b_Rk_ratio 59 = .ok (.ifCond .eq 32, 3) := by decide +kernel
theorem d_Rk_ratio_62 : decode b_Rk_ratio 62 = .ok (.lload_n 1, 1) := by decide +kernel
theorem d_Rk_ratio_63 : decode b_Rk_ratio 63 = .ok (.lconst 0, 1) := by decide +kernel
theorem d_Rk_ratio_64 : decode b_Rk_ratio 64 = .ok (.lcmp, 1) := by decide +kernel
theorem d_Rk_ratio_65 : decode b_Rk_ratio 65 = .ok (.ifCond .ge 7, 3) := by decide +kernel
theorem d_Rk_ratio_68 : decode b_Rk_ratio 68 = .ok (.iconst 1, 1) := by decide +kernel
theorem d_Rk_ratio_69 : decode b_Rk_ratio 69 = .ok (.goto 4, 3) := by decide +kernel
theorem d_Rk_ratio_72 : decode b_Rk_ratio 72 = .ok (.iconst 0, 1) := by decide +kernel
theorem d_Rk_ratio_73 : decode b_Rk_ratio 73 = .ok (.lload_n 3, 1) := by decide +kernel
theorem d_Rk_ratio_74 : decode b_Rk_ratio 74 = .ok (.lconst 0, 1) := by decide +kernel
theorem d_Rk_ratio_75 : decode b_Rk_ratio 75 = .ok (.lcmp, 1) := by decide +kernel
theorem d_Rk_ratio_76 : decode b_Rk_ratio 76 = .ok (.ifCond .ge 7, 3) := by decide +kernel
theorem d_Rk_ratio_79 : decode b_Rk_ratio 79 = .ok (.iconst 1, 1) := by decide +kernel
theorem d_Rk_ratio_80 : decode b_Rk_ratio 80 = .ok (.goto 4, 3) := by decide +kernel
theorem d_Rk_ratio_83 : decode b_Rk_ratio 83 = .ok (.iconst 0, 1) := by decide +kernel
theorem d_Rk_ratio_84 : decode b_Rk_ratio 84 = .ok (.if_icmp .eq 7, 3) := by decide +kernel
theorem d_Rk_ratio_87 : decode b_Rk_ratio 87 = .ok (.iconst 1, 1) := by decide +kernel
theorem d_Rk_ratio_88 : decode b_Rk_ratio 88 = .ok (.goto 4, 3) := by decide +kernel
theorem d_Rk_ratio_91 : decode b_Rk_ratio 91 = .ok (.iconst 0, 1) := by decide +kernel
theorem d_Rk_ratio_92 : decode b_Rk_ratio 92 = .ok (.putfield 81, 3) := by decide +kernel
theorem d_Rk_ratio_95 : decode b_Rk_ratio 95 = .ok (.return_, 1) := by decide +kernel
theorem d_Rk_lengthen_0 : decode b_Rk_lengthen 0 = .ok (.aload_n 0, 1) := by decide +kernel
theorem d_Rk_lengthen_1 : decode b_Rk_lengthen 1 = .ok (.getfield 27, 3) := by decide +kernel
theorem d_Rk_lengthen_4 : decode b_Rk_lengthen 4 = .ok (.aload_n 1, 1) := by decide +kernel
theorem d_Rk_lengthen_5 : decode b_Rk_lengthen 5 = .ok (.invokevirtual 85, 3) := by decide +kernel
theorem d_Rk_lengthen_8 : decode b_Rk_lengthen 8 = .ok (.aload_n 0, 1) := by decide +kernel
theorem d_Rk_lengthen_9 : decode b_Rk_lengthen 9 = .ok (.getfield 27, 3) := by decide +kernel
theorem d_Rk_lengthen_12 : decode b_Rk_lengthen 12 = .ok (.getfield 72, 3) := by decide +kernel
theorem d_Rk_lengthen_15 : decode b_Rk_lengthen 15 = .ok (.ldc2_w 89, 3) := by decide +kernel
theorem d_Rk_lengthen_18 : decode b_Rk_lengthen 18 = .ok (.iload_n 2, 1) := by decide +kernel
theorem d_Rk_lengthen_19 : decode b_Rk_lengthen 19 = .ok (.i2l, 1) := by decide +kernel
theorem d_Rk_lengthen_20 : decode b_Rk_lengthen 20 = .ok (.invokevirtual 91, 3) := by decide +kernel
theorem d_Rk_lengthen_23 : decode b_Rk_lengthen 23 = .ok (.return_, 1) := by decide +kernel
theorem d_Rk_total_0 : decode b_Rk_total 0 = .ok (.aload_n 0, 1) := by decide +kernel
theorem d_Rk_total_1 : decode b_Rk_total 1 = .ok (.getfield 34, 3) := by decide +kernel
theorem d_Rk_total_4 : decode b_Rk_total 4 = .ok (.aload_n 1, 1) := by decide +kernel
theorem d_Rk_total_5 : decode b_Rk_total 5 = .ok (.getfield 72, 3) := by decide +kernel
theorem d_Rk_total_8 : decode b_Rk_total 8 = .ok (.aload_n 2, 1) := by decide +kernel
theorem d_Rk_total_9 : decode b_Rk_total 9 = .ok (.getfield 78, 3) := by decide +kernel
theorem d_Rk_total_12 : decode b_Rk_total 12 = .ok (.invokevirtual 95, 3) := by decide +kernel
theorem d_Rk_total_15 : decode b_Rk_total 15 = .ok (.aload_n 0, 1) := by decide +kernel
theorem d_Rk_total_16 : decode b_Rk_total 16 = .ok (.getfield 38, 3) := by decide +kernel
theorem d_Rk_total_19 : decode b_Rk_total 19 = .ok (.aload_n 2, 1) := by decide +kernel
theorem d_Rk_total_20 : decode b_Rk_total 20 = .ok (.getfield 72, 3) := by decide +kernel
theorem d_Rk_total_23 : decode b_Rk_total 23 = .ok (.aload_n 1, 1) := by decide +kernel
theorem d_Rk_total_24 : decode b_Rk_total 24 = .ok (.getfield 78, 3) := by decide +kernel
theorem d_Rk_total_27 : decode b_Rk_total 27 = .ok (.invokevirtual 95, 3) := by decide +kernel
theorem d_Rk_total_30 : decode b_Rk_total 30 = .ok (.aload_n 0, 1) := by decide +kernel
theorem d_Rk_total_31 : decode b_Rk_total 31 = .ok (.getfield 27, 3) := by decide +kernel
theorem d_Rk_total_34 : decode b_Rk_total 34 = .ok (.getfield 78, 3) := by decide +kernel
theorem d_Rk_total_37 : decode b_Rk_total 37 = .ok (.aload_n 1, 1) := by decide +kernel
theorem d_Rk_total_38 : decode b_Rk_total 38 = .ok (.getfield 78, 3) := by decide +kernel
theorem d_Rk_total_41 : decode b_Rk_total 41 = .ok (.aload_n 2, 1) := by decide +kernel
theorem d_Rk_total_42 : decode b_Rk_total 42 = .ok (.getfield 78, 3) := by decide +kernel
theorem d_Rk_total_45 : decode b_Rk_total 45 = .ok (.invokevirtual 95, 3) := by decide +kernel
theorem d_Rk_total_48 : decode b_Rk_total 48 = .ok (.aload_n 1, 1) := by decide +kernel
theorem d_Rk_total_49 : decode b_Rk_total 49 = .ok (.getfield 81, 3) := by decide +kernel
theorem d_Rk_total_52 : decode b_Rk_total 52 = .ok (.iload_n 3, 1) := by decide +kernel
theorem d_Rk_total_53 : decode b_Rk_total 53 = .ok (.if_icmp .ne 35, 3) := by decide +kernel
theorem d_Rk_total_56 : decode b_Rk_total 56 = .ok (.aload_n 0, 1) := by decide +kernel
theorem d_Rk_total_57 : decode b_Rk_total 57 = .ok (.getfield 27, 3) := by decide +kernel
theorem d_Rk_total_60 : decode b_Rk_total 60 = .ok (.getfield 72, 3) := by decide +kernel
theorem d_Rk_total_63 : decode b_Rk_total 63 = .ok (.aload_n 0, 1) := by decide +kernel
theorem d_Rk_total_64 : decode b_Rk_total 64 = .ok (.getfield 34, 3) := by decide +kernel
theorem d_Rk_total_67 : decode b_Rk_total 67 = .ok (.aload_n 0, 1) := by decide +kernel
theorem d_Rk_total_68 : decode b_Rk_total 68 = .ok (.getfield 38, 3) := by decide +kernel
theorem d_Rk_total_71 : decode b_Rk_total 71 = .ok (.invokevirtual 99, 3) := by decide +kernel
theorem d_Rk_total_74 : decode b_Rk_total 74 = .ok (.aload_n 0, 1) := by decide +kernel
theorem d_Rk_total_75 : decode b_Rk_total 75 = .ok (.getfield 27, 3) := by decide +kernel
theorem d_Rk_total_78 : decode b_Rk_total 78 = .ok (.aload_n 1, 1) := by decide +kernel
theorem d_Rk_total_79 : decode b_Rk_total 79 = .ok (.getfield 81, 3) := by decide +kernel
theorem d_Rk_total_82 : decode b_Rk_total 82 = .ok (.putfield 81, 3) := by decide +kernel
theorem d_Rk_total_85 : decode b_Rk_total 85 = .ok (.goto 75, 3) := by decide +kernel
theorem d_Rk_total_88 : decode b_Rk_total 88 = .ok (.aload_n 0, 1) := by decide +kernel
theorem d_Rk_total_89 : decode b_Rk_total 89 = .ok (.getfield 34, 3) := by decide +kernel
theorem d_Rk_total_92 : decode b_Rk_total 92 = .ok (.aload_n 0, 1) := by decide +kernel
theorem d_Rk_total_93 : decode b_Rk_total 93 = .ok (.getfield 38, 3) := by decide +kernel
theorem d_Rk_total_96 : decode b_Rk_total 96 = .ok (.invokevirtual 102, 3) := by decide +kernel
theorem d_Rk_total_99 : decode b_Rk_total 99 = .ok (.ifCond .lt 35, 3) := by decide +kernel
theorem d_Rk_total_102 : decode b_Rk_total 102 = .ok (.aload_n 0, 1) := by decide +kernel
theorem d_Rk_total_103 : decode b_Rk_total 103 = .ok (.getfield 27, 3) := by decide +kernel
theorem d_Rk_total_106 : decode b_Rk_total 106 = .ok (.getfield 72, 3) := by decide +kernel
theorem d_Rk_total_109 : decode b_Rk_total 109 = .ok (.aload_n 0, 1) := by decide +kernel
theorem d_Rk_total_110 : decode b_Rk_total 110 = .ok (.getfield 34, 3) := by decide +kernel
theorem d_Rk_total_113 : decode b_Rk_total 113 = .ok (.aload_n 0, 1) := by decide +kernel
theorem d_Rk_total_114 : decode b_Rk_total 114 = .ok (.getfield 38, 3) := by decide +kernel
theorem d_Rk_total_117 : decode b_Rk_total 117 = .ok (.invokevirtual 106, 3) := by decide +kernel
theorem d_Rk_total_120 : decode b_Rk_total 120 = .ok (.aload_n 0, 1) := by decide +kernel
theorem d_Rk_total_121 : decode b_Rk_total 121 = .ok (.getfield 27, 3) := by decide +kernel
theorem d_Rk_total_124 : decode b_Rk_total 124 = .ok (.aload_n 1, 1) := by decide +kernel
theorem d_Rk_total_125 : decode b_Rk_total 125 = .ok (.getfield 81, 3) := by decide +kernel
theorem d_Rk_total_128 : decode b_Rk_total 128 = .ok (.putfield 81, 3) := by decide +kernel
theorem d_Rk_total_131 : decode b_Rk_total 131 = .ok (.goto 29, 3) := by decide +kernel
theorem d_Rk_total_134 : decode b_Rk_total 134 = .ok (.aload_n 0, 1) := by decide +kernel
theorem d_Rk_total_135 : decode b_Rk_total 135 = .ok (.getfield 27, 3) := by decide +kernel
theorem d_Rk_total_138 : decode b_Rk_total 138 = .ok (.getfield 72, 3) := by decide +kernel
theorem d_Rk_total_141 : decode b_Rk_total 141 = .ok (.aload_n 0, 1) := by decide +kernel
theorem d_Rk_total_142 : decode b_Rk_total 142 = .ok (.getfield 38, 3) := by decide +kernel
theorem d_Rk_total_145 : decode b_Rk_total 145 = .ok (.aload_n 0, 1) := by decide +kernel
theorem d_Rk_total_146 : decode b_Rk_total 146 = .ok (.getfield 34, 3) := by decide +kernel
theorem d_Rk_total_149 : decode b_Rk_total 149 = .ok (.invokevirtual 106, 3) := by decide +kernel
theorem d_Rk_total_152 : decode b_Rk_total 152 = .ok (.aload_n 0, 1) := by decide +kernel
theorem d_Rk_total_153 : decode b_Rk_total 153 = .ok (.getfield 27, 3) := by decide +kernel
theorem d_Rk_total_156 : decode b_Rk_total 156 = .ok (.iload_n 3, 1) := by decide +kernel
theorem d_Rk_total_157 : decode b_Rk_total 157 = .ok (.putfield 81, 3) := by decide +kernel
theorem d_Rk_total_160 : decode b_Rk_total 160 = .ok (.return_, 1) := by decide +kernel
theorem d_Rk_product_0 : decode b_Rk_product 0 = .ok (.aload_n 0, 1) := by decide +kernel
theorem d_Rk_product_1 : decode b_Rk_product 1 = .ok (.getfield 27, 3) := by decide +kernel
theorem d_Rk_product_4 : decode b_Rk_product 4 = .ok (.getfield 72, 3) := by decide +kernel
theorem d_Rk_product_7 : decode b_Rk_product 7 = .ok (.aload_n 1, 1) := by decide +kernel
theorem d_Rk_product_8 : decode b_Rk_product 8 = .ok (.getfield 72, 3) := by decide +kernel
theorem d_Rk_product_11 : decode b_Rk_product 11 = .ok (.aload_n 2, 1) := by decide +kernel
theorem d_Rk_product_12 : decode b_Rk_product 12 = .ok (.invokevirtual 95, 3) := by decide +kernel
theorem d_Rk_product_15 : decode b_Rk_product 15 = .ok (.aload_n 0, 1) := by decide +kernel
theorem d_Rk_product_16 : decode b_Rk_product 16 = .ok (.getfield 27, 3) := by decide +kernel
theorem d_Rk_product_19 : decode b_Rk_product 19 = .ok (.getfield 78, 3) := by decide +kernel
theorem d_Rk_product_22 : decode b_Rk_product 22 = .ok (.aload_n 1, 1) := by decide +kernel
theorem d_Rk_product_23 : decode b_Rk_product 23 = .ok (.getfield 78, 3) := by decide +kernel
theorem d_Rk_product_26 : decode b_Rk_product 26 = .ok (.aload_n 3, 1) := by decide +kernel
theorem d_Rk_product_27 : decode b_Rk_product 27 = .ok (.invokevirtual 95, 3) := by decide +kernel
theorem d_Rk_product_30 : decode b_Rk_product 30 = .ok (.aload_n 0, 1) := by decide +kernel
theorem d_Rk_product_31 : decode b_Rk_product 31 = .ok (.getfield 27, 3) := by decide +kernel
theorem d_Rk_product_34 : decode b_Rk_product 34 = .ok (.aload_n 1, 1) := by decide +kernel
theorem d_Rk_product_35 : decode b_Rk_product 35 = .ok (.getfield 81, 3) := by decide +kernel
theorem d_Rk_product_38 : decode b_Rk_product 38 = .ok (.iload 4, 2) := by decide +kernel
theorem d_Rk_product_40 : decode b_Rk_product 40 = .ok (.if_icmp .eq 7, 3) := by decide +kernel
theorem d_Rk_product_43 : decode b_Rk_product 43 = .ok (.iconst 1, 1) := by decide +kernel
theorem d_Rk_product_44 : decode b_Rk_product 44 = .ok (.goto 4, 3) := by decide +kernel
theorem d_Rk_product_47 : decode b_Rk_product 47 = .ok (.iconst 0, 1) := by decide +kernel
theorem d_Rk_product_48 : decode b_Rk_product 48 = .ok (.putfield 81, 3) := by decide +kernel
theorem d_Rk_product_51 : decode b_Rk_product 51 = .ok (.return_, 1) := by decide +kernel
theorem d_Rk_raise_0 : decode b_Rk_raise 0 = .ok (.aload_n 0, 1) := by decide +kernel
theorem d_Rk_raise_1 : decode b_Rk_raise 1 = .ok (.getfield 27, 3) := by decide +kernel
theorem d_Rk_raise_4 : decode b_Rk_raise 4 = .ok (.getfield 72, 3) := by decide +kernel
theorem d_Rk_raise_7 : decode b_Rk_raise 7 = .ok (.lconst 1, 1) := by decide +kernel
theorem d_Rk_raise_8 : decode b_Rk_raise 8 = .ok (.invokevirtual 75, 3) := by decide +kernel
theorem d_Rk_raise_11 : decode b_Rk_raise 11 = .ok (.aload_n 0, 1) := by decide +kernel
theorem d_Rk_raise_12 : decode b_Rk_raise 12 = .ok (.getfield 27, 3) := by decide +kernel
theorem d_Rk_raise_15 : decode b_Rk_raise 15 = .ok (.getfield 78, 3) := by decide +kernel
theorem d_Rk_raise_18 : decode b_Rk_raise 18 = .ok (.lconst 1, 1) := by decide +kernel
theorem d_Rk_raise_19 : decode b_Rk_raise 19 = .ok (.invokevirtual 75, 3) := by decide +kernel
theorem d_Rk_raise_22 : decode b_Rk_raise 22 = .ok (.aload_n 0, 1) := by decide +kernel
theorem d_Rk_raise_23 : decode b_Rk_raise 23 = .ok (.getfield 27, 3) := by decide +kernel
theorem d_Rk_raise_26 : decode b_Rk_raise 26 = .ok (.aload_n 1, 1) := by decide +kernel
theorem d_Rk_raise_27 : decode b_Rk_raise 27 = .ok (.getfield 81, 3) := by decide +kernel
theorem d_Rk_raise_30 : decode b_Rk_raise 30 = .ok (.ifCond .eq 14, 3) := by decide +kernel
theorem d_Rk_raise_33 : decode b_Rk_raise 33 = .ok (.iload_n 2, 1) := by decide +kernel
theorem d_Rk_raise_34 : decode b_Rk_raise 34 = .ok (.iconst 2, 1) := by decide +kernel
theorem d_Rk_raise_35 : decode b_Rk_raise 35 = .ok (.irem, 1) := by decide +kernel
theorem d_Rk_raise_36 : decode b_Rk_raise 36 = .ok (.iconst 1, 1) := by decide +kernel
theorem d_Rk_raise_37 : decode b_Rk_raise 37 = .ok (.if_icmp .ne 7, 3) := by decide +kernel
theorem d_Rk_raise_40 : decode b_Rk_raise 40 = .ok (.iconst 1, 1) := by decide +kernel
theorem d_Rk_raise_41 : decode b_Rk_raise 41 = .ok (.goto 4, 3) := by decide +kernel
theorem d_Rk_raise_44 : decode b_Rk_raise 44 = .ok (.iconst 0, 1) := by decide +kernel
theorem d_Rk_raise_45 : decode b_Rk_raise 45 = .ok (.putfield 81, 3) := by decide +kernel
theorem d_Rk_raise_48 : decode b_Rk_raise 48 = .ok (.bipush 7, 2) := by decide +kernel
theorem d_Rk_raise_50 : decode b_Rk_raise 50 = .ok (.istore_n 3, 1) := by decide +kernel
theorem d_Rk_raise_51 : decode b_Rk_raise 51 = .ok (.iload_n 3, 1) := by decide +kernel
theorem d_Rk_raise_52 : decode b_Rk_raise 52 = .ok (.ifCond .lt 31, 3) := by decide +kernel
theorem d_Rk_raise_55 : decode b_Rk_raise 55 = .ok (.aload_n 0, 1) := by decide +kernel
theorem d_Rk_raise_56 : decode b_Rk_raise 56 = .ok (.aload_n 0, 1) := by decide +kernel
theorem d_Rk_raise_57 : decode b_Rk_raise 57 = .ok (.getfield 27, 3) := by decide +kernel
theorem d_Rk_raise_60 : decode b_Rk_raise 60 = .ok (.invokevirtual 109, 3) := by decide +kernel
theorem d_Rk_raise_63 : decode b_Rk_raise 63 = .ok (.iload_n 2, 1) := by decide +kernel
theorem d_Rk_raise_64 : decode b_Rk_raise 64 = .ok (.iload_n 3, 1) := by decide +kernel
theorem d_Rk_raise_65 : decode b_Rk_raise 65 = .ok (.ishr, 1) := by decide +kernel
theorem d_Rk_raise_66 : decode b_Rk_raise 66 = .ok (.iconst 2, 1) := by decide +kernel
theorem d_Rk_raise_67 : decode b_Rk_raise 67 = .ok (.irem, 1) := by decide +kernel
theorem d_Rk_raise_68 : decode b_Rk_raise 68 = .ok (.iconst 1, 1) := by decide +kernel
theorem d_Rk_raise_69 : decode b_Rk_raise 69 = .ok (.if_icmp .ne 8, 3) := by decide +kernel
theorem d_Rk_raise_72 : decode b_Rk_raise 72 = .ok (.aload_n 0, 1) := by decide +kernel
theorem d_Rk_raise_73 : decode b_Rk_raise 73 = .ok (.aload_n 1, 1) := by decide +kernel
theorem d_Rk_raise_74 : decode b_Rk_raise 74 = .ok (.invokevirtual 109, 3) := by decide +kernel
theorem d_Rk_raise_77 : decode b_Rk_raise 77 = .ok (.iinc 3 (-1), 3) := by decide +kernel
theorem d_Rk_raise_80 : decode b_Rk_raise 80 = .ok (.goto (-29), 3) := by decide +kernel
theorem d_Rk_raise_83 : decode b_Rk_raise 83 = .ok (.return_, 1) := by decide +kernel
theorem d_Rk_multiplyOut_0 : decode b_Rk_multiplyOut 0 = .ok (.aload_n 0, 1) := by decide +kernel
theorem d_Rk_multiplyOut_1 : decode b_Rk_multiplyOut 1 = .ok (.getfield 34, 3) := by decide +kernel
theorem d_Rk_multiplyOut_4 : decode b_Rk_multiplyOut 4 = .ok (.aload_n 0, 1) := by decide +kernel
theorem d_Rk_multiplyOut_5 : decode b_Rk_multiplyOut 5 = .ok (.getfield 27, 3) := by decide +kernel
theorem d_Rk_multiplyOut_8 : decode b_Rk_multiplyOut 8 = .ok (.getfield 72, 3) := by decide +kernel
theorem d_Rk_multiplyOut_11 : decode b_Rk_multiplyOut 11 = .ok (.aload_n 1, 1) := by decide +kernel
theorem d_Rk_multiplyOut_12 : decode b_Rk_multiplyOut 12 = .ok (.getfield 72, 3) := by decide +kernel
theorem d_Rk_multiplyOut_15 : decode b_Rk_multiplyOut 15 = .ok (.invokevirtual 95, 3) := by decide +kernel
theorem d_Rk_multiplyOut_18 : decode b_Rk_multiplyOut 18 = .ok (.aload_n 0, 1) := by decide +kernel
theorem d_Rk_multiplyOut_19 : decode b_Rk_multiplyOut 19 = .ok (.getfield 38, 3) := by decide +kernel
theorem d_Rk_multiplyOut_22 : decode b_Rk_multiplyOut 22 = .ok (.aload_n 0, 1) := by decide +kernel
theorem d_Rk_multiplyOut_23 : decode b_Rk_multiplyOut 23 = .ok (.getfield 27, 3) := by decide +kernel
theorem d_Rk_multiplyOut_26 : decode b_Rk_multiplyOut 26 = .ok (.getfield 78, 3) := by decide +kernel
theorem d_Rk_multiplyOut_29 : decode b_Rk_multiplyOut 29 = .ok (.aload_n 1, 1) := by decide +kernel
theorem d_Rk_multiplyOut_30 : decode b_Rk_multiplyOut 30 = .ok (.getfield 78, 3) := by decide +kernel
theorem d_Rk_multiplyOut_33 : decode b_Rk_multiplyOut 33 = .ok (.invokevirtual 95, 3) := by decide +kernel
theorem d_Rk_multiplyOut_36 : decode b_Rk_multiplyOut 36 = .ok (.aload_n 0, 1) := by decide +kernel
theorem d_Rk_multiplyOut_37 : decode b_Rk_multiplyOut 37 = .ok (.getfield 27, 3) := by decide +kernel
theorem d_Rk_multiplyOut_40 : decode b_Rk_multiplyOut 40 = .ok (.getfield 72, 3) := by decide +kernel
theorem d_Rk_multiplyOut_43 : decode b_Rk_multiplyOut 43 = .ok (.aload_n 0, 1) := by decide +kernel
theorem d_Rk_multiplyOut_44 : decode b_Rk_multiplyOut 44 = .ok (.getfield 34, 3) := by decide +kernel
theorem d_Rk_multiplyOut_47 : decode b_Rk_multiplyOut 47 = .ok (.invokevirtual 112, 3) := by decide +kernel
theorem d_Rk_multiplyOut_50 : decode b_Rk_multiplyOut 50 = .ok (.aload_n 0, 1) := by decide +kernel
theorem d_Rk_multiplyOut_51 : decode b_Rk_multiplyOut 51 = .ok (.getfield 27, 3) := by decide +kernel
theorem d_Rk_multiplyOut_54 : decode b_Rk_multiplyOut 54 = .ok (.getfield 78, 3) := by decide +kernel
theorem d_Rk_multiplyOut_57 : decode b_Rk_multiplyOut 57 = .ok (.aload_n 0, 1) := by decide +kernel
theorem d_Rk_multiplyOut_58 : decode b_Rk_multiplyOut 58 = .ok (.getfield 38, 3) := by decide +kernel
theorem d_Rk_multiplyOut_61 : decode b_Rk_multiplyOut 61 = .ok (.invokevirtual 112, 3) := by decide +kernel
theorem d_Rk_multiplyOut_64 : decode b_Rk_multiplyOut 64 = .ok (.aload_n 0, 1) := by decide +kernel
theorem d_Rk_multiplyOut_65 : decode b_Rk_multiplyOut 65 = .ok (.invokevirtual 115, 3) := by decide +kernel
theorem d_Rk_multiplyOut_68 : decode b_Rk_multiplyOut 68 = .ok (.return_, 1) := by decide +kernel
theorem d_Rk_choose_0 : decode b_Rk_choose 0 = .ok (.aload_n 0, 1) := by decide +kernel
theorem d_Rk_choose_1 : decode b_Rk_choose 1 = .ok (.getfield 27, 3) := by decide +kernel
theorem d_Rk_choose_4 : decode b_Rk_choose 4 = .ok (.getfield 72, 3) := by decide +kernel
theorem d_Rk_choose_7 : decode b_Rk_choose 7 = .ok (.iload_n 2, 1) := by decide +kernel
theorem d_Rk_choose_8 : decode b_Rk_choose 8 = .ok (.ifCond .lt 8, 3) := by decide +kernel
theorem d_Rk_choose_11 : decode b_Rk_choose 11 = .ok (.iload_n 2, 1) := by decide +kernel
theorem d_Rk_choose_12 : decode b_Rk_choose 12 = .ok (.iload_n 1, 1) := by decide +kernel
theorem d_Rk_choose_13 : decode b_Rk_choose 13 = .ok (.if_icmp .le 7, 3) := by decide +kernel
theorem d_Rk_choose_16 : decode b_Rk_choose 16 = .ok (.lconst 0, 1) := by decide +kernel
theorem d_Rk_choose_17 : decode b_Rk_choose 17 = .ok (.goto 4, 3) := by decide +kernel
theorem d_Rk_choose_20 : decode b_Rk_choose 20 = .ok (.lconst 1, 1) := by decide +kernel
theorem d_Rk_choose_21 : decode b_Rk_choose 21 = .ok (.invokevirtual 75, 3) := by decide +kernel
theorem d_Rk_choose_24 : decode b_Rk_choose 24 = .ok (.aload_n 0, 1) := by decide +kernel
theorem d_Rk_choose_25 : decode b_Rk_choose 25 = .ok (.getfield 27, 3) := by decide +kernel
theorem d_Rk_choose_28 : decode b_Rk_choose 28 = .ok (.getfield 78, 3) := by decide +kernel
theorem d_Rk_choose_31 : decode b_Rk_choose 31 = .ok (.lconst 1, 1) := by decide +kernel
theorem d_Rk_choose_32 : decode b_Rk_choose 32 = .ok (.invokevirtual 75, 3) := by decide +kernel
theorem d_Rk_choose_35 : decode b_Rk_choose 35 = .ok (.aload_n 0, 1) := by decide +kernel
theorem d_Rk_choose_36 : decode b_Rk_choose 36 = .ok (.getfield 27, 3) := by decide +kernel
theorem d_Rk_choose_39 : decode b_Rk_choose 39 = .ok (.iconst 0, 1) := by decide +kernel
theorem d_Rk_choose_40 : decode b_Rk_choose 40 = .ok (.putfield 81, 3) := by decide +kernel
theorem d_Rk_choose_43 : decode b_Rk_choose 43 = .ok (.iload_n 2, 1) := by decide +kernel
theorem d_Rk_choose_44 : decode b_Rk_choose 44 = .ok (.iload_n 1, 1) := by decide +kernel
theorem d_Rk_choose_45 : decode b_Rk_choose 45 = .ok (.iload_n 2, 1) := by decide +kernel
theorem d_Rk_choose_46 : decode b_Rk_choose 46 = .ok (.isub, 1) := by decide +kernel
theorem d_Rk_choose_47 : decode b_Rk_choose 47 = .ok (.invokestatic 118, 3) := by decide +kernel
theorem d_Rk_choose_50 : decode b_Rk_choose 50 = .ok (.istore_n 3, 1) := by decide +kernel
theorem d_Rk_choose_51 : decode b_Rk_choose 51 = .ok (.iconst 1, 1) := by decide +kernel
theorem d_Rk_choose_52 : decode b_Rk_choose 52 = .ok (.istore 4, 2) := by decide +kernel
theorem d_Rk_choose_54 : decode b_Rk_choose 54 = .ok (.iload 4, 2) := by decide +kernel
theorem d_Rk_choose_56 : decode b_Rk_choose 56 = .ok (.iload_n 3, 1) := by decide +kernel
theorem d_Rk_choose_57 : decode b_Rk_choose 57 = .ok (.if_icmp .gt 48, 3) := by decide +kernel
theorem d_Rk_choose_60 : decode b_Rk_choose 60 = .ok (.aload_n 0, 1) := by decide +kernel
theorem d_Rk_choose_61 : decode b_Rk_choose 61 = .ok (.getfield 27, 3) := by decide +kernel
theorem d_Rk_choose_64 : decode b_Rk_choose 64 = .ok (.getfield 72, 3) := by decide +kernel
theorem d_Rk_choose_67 : decode b_Rk_choose 67 = .ok (.iload_n 1, 1) := by decide +kernel
theorem d_Rk_choose_68 : decode b_Rk_choose 68 = .ok (.iload_n 3, 1) := by decide +kernel
theorem d_Rk_choose_69 : decode b_Rk_choose 69 = .ok (.isub, 1) := by decide +kernel
theorem d_Rk_choose_70 : decode b_Rk_choose 70 = .ok (.iload 4, 2) := by decide +kernel
theorem d_Rk_choose_72 : decode b_Rk_choose 72 = .ok (.iadd, 1) := by decide +kernel
theorem d_Rk_choose_73 : decode b_Rk_choose 73 = .ok (.i2l, 1) := by decide +kernel
theorem d_Rk_choose_74 : decode b_Rk_choose 74 = .ok (.lconst 0, 1) := by decide +kernel
theorem d_Rk_choose_75 : decode b_Rk_choose 75 = .ok (.invokevirtual 91, 3) := by decide +kernel
theorem d_Rk_choose_78 : decode b_Rk_choose 78 = .ok (.aload_n 0, 1) := by decide +kernel
theorem d_Rk_choose_79 : decode b_Rk_choose 79 = .ok (.getfield 27, 3) := by decide +kernel
theorem d_Rk_choose_82 : decode b_Rk_choose 82 = .ok (.getfield 72, 3) := by decide +kernel
theorem d_Rk_choose_85 : decode b_Rk_choose 85 = .ok (.aload_n 0, 1) := by decide +kernel
theorem d_Rk_choose_86 : decode b_Rk_choose 86 = .ok (.getfield 27, 3) := by decide +kernel
theorem d_Rk_choose_89 : decode b_Rk_choose 89 = .ok (.getfield 72, 3) := by decide +kernel
theorem d_Rk_choose_92 : decode b_Rk_choose 92 = .ok (.iload 4, 2) := by decide +kernel
theorem d_Rk_choose_94 : decode b_Rk_choose 94 = .ok (.i2l, 1) := by decide +kernel
theorem d_Rk_choose_95 : decode b_Rk_choose 95 = .ok (.invokevirtual 122, 3) := by decide +kernel
theorem d_Rk_choose_98 : decode b_Rk_choose 98 = .ok (.pop2, 1) := by decide +kernel
theorem d_Rk_choose_99 : decode b_Rk_choose 99 = .ok (.iinc 4 1, 3) := by decide +kernel
theorem d_Rk_choose_102 : decode b_Rk_choose 102 = .ok (.goto (-48), 3) := by decide +kernel
theorem d_Rk_choose_105 : decode b_Rk_choose 105 = .ok (.return_, 1) := by decide +kernel
theorem d_Rk_shorten_0 : decode b_Rk_shorten 0 = .ok (.aload_n 0, 1) := by decide +kernel
theorem d_Rk_shorten_1 : decode b_Rk_shorten 1 = .ok (.getfield 34, 3) := by decide +kernel
theorem d_Rk_shorten_4 : decode b_Rk_shorten 4 = .ok (.iload_n 2, 1) := by decide +kernel
theorem d_Rk_shorten_5 : decode b_Rk_shorten 5 = .ok (.invokevirtual 126, 3) := by decide +kernel
theorem d_Rk_shorten_8 : decode b_Rk_shorten 8 = .ok (.aload_n 0, 1) := by decide +kernel
theorem d_Rk_shorten_9 : decode b_Rk_shorten 9 = .ok (.getfield 38, 3) := by decide +kernel
theorem d_Rk_shorten_12 : decode b_Rk_shorten 12 = .ok (.aload_n 1, 1) := by decide +kernel
theorem d_Rk_shorten_13 : decode b_Rk_shorten 13 = .ok (.getfield 72, 3) := by decide +kernel
theorem d_Rk_shorten_16 : decode b_Rk_shorten 16 = .ok (.aload_n 0, 1) := by decide +kernel
theorem d_Rk_shorten_17 : decode b_Rk_shorten 17 = .ok (.getfield 34, 3) := by decide +kernel
theorem d_Rk_shorten_20 : decode b_Rk_shorten 20 = .ok (.invokevirtual 95, 3) := by decide +kernel
theorem d_Rk_shorten_23 : decode b_Rk_shorten 23 = .ok (.aload_n 0, 1) := by decide +kernel
theorem d_Rk_shorten_24 : decode b_Rk_shorten 24 = .ok (.getfield 9, 3) := by decide +kernel
theorem d_Rk_shorten_27 : decode b_Rk_shorten 27 = .ok (.aload_n 0, 1) := by decide +kernel
theorem d_Rk_shorten_28 : decode b_Rk_shorten 28 = .ok (.getfield 38, 3) := by decide +kernel
theorem d_Rk_shorten_31 : decode b_Rk_shorten 31 = .ok (.aload_n 1, 1) := by decide +kernel
theorem d_Rk_shorten_32 : decode b_Rk_shorten 32 = .ok (.getfield 78, 3) := by decide +kernel
theorem d_Rk_shorten_35 : decode b_Rk_shorten 35 = .ok (.aload_n 0, 1) := by decide +kernel
theorem d_Rk_shorten_36 : decode b_Rk_shorten 36 = .ok (.getfield 41, 3) := by decide +kernel
theorem d_Rk_shorten_39 : decode b_Rk_shorten 39 = .ok (.aload_n 0, 1) := by decide +kernel
theorem d_Rk_shorten_40 : decode b_Rk_shorten 40 = .ok (.getfield 44, 3) := by decide +kernel
theorem d_Rk_shorten_43 : decode b_Rk_shorten 43 = .ok (.invokevirtual 130, 3) := by decide +kernel
theorem d_Rk_shorten_46 : decode b_Rk_shorten 46 = .ok (.aload_n 0, 1) := by decide +kernel
theorem d_Rk_shorten_47 : decode b_Rk_shorten 47 = .ok (.aload_n 1, 1) := by decide +kernel
theorem d_Rk_shorten_48 : decode b_Rk_shorten 48 = .ok (.iload_n 3, 1) := by decide +kernel
theorem d_Rk_shorten_49 : decode b_Rk_shorten 49 = .ok (.invokevirtual 136, 3) := by decide +kernel
theorem d_Rk_shorten_52 : decode b_Rk_shorten 52 = .ok (.ifCond .eq 12, 3) := by decide +kernel
theorem d_Rk_shorten_55 : decode b_Rk_shorten 55 = .ok (.aload_n 0, 1) := by decide +kernel
theorem d_Rk_shorten_56 : decode b_Rk_shorten 56 = .ok (.getfield 41, 3) := by decide +kernel
theorem d_Rk_shorten_59 : decode b_Rk_shorten 59 = .ok (.lconst 1, 1) := by decide +kernel
theorem d_Rk_shorten_60 : decode b_Rk_shorten 60 = .ok (.lconst 1, 1) := by decide +kernel
theorem d_Rk_shorten_61 : decode b_Rk_shorten 61 = .ok (.invokevirtual 91, 3) := by decide +kernel
theorem d_Rk_shorten_64 : decode b_Rk_shorten 64 = .ok (.aload_n 0, 1) := by decide +kernel
theorem d_Rk_shorten_65 : decode b_Rk_shorten 65 = .ok (.aload_n 0, 1) := by decide +kernel
theorem d_Rk_shorten_66 : decode b_Rk_shorten 66 = .ok (.getfield 41, 3) := by decide +kernel
theorem d_Rk_shorten_69 : decode b_Rk_shorten 69 = .ok (.iload_n 2, 1) := by decide +kernel
theorem d_Rk_shorten_70 : decode b_Rk_shorten 70 = .ok (.aload_n 1, 1) := by decide +kernel
theorem d_Rk_shorten_71 : decode b_Rk_shorten 71 = .ok (.getfield 81, 3) := by decide +kernel
theorem d_Rk_shorten_74 : decode b_Rk_shorten 74 = .ok (.invokevirtual 140, 3) := by decide +kernel
theorem d_Rk_shorten_77 : decode b_Rk_shorten 77 = .ok (.return_, 1) := by decide +kernel
theorem d_Rk_goesUp_0 : decode b_Rk_goesUp 0 = .ok (.iload_n 2, 1) := by decide +kernel
theorem d_Rk_goesUp_28 : decode b_Rk_goesUp 28 = .ok (.aload_n 1, 1) := by decide +kernel
theorem d_Rk_goesUp_29 : decode b_Rk_goesUp 29 = .ok (.getfield 81, 3) := by decide +kernel
theorem d_Rk_goesUp_32 : decode b_Rk_goesUp 32 = .ok (.ifCond .eq 17, 3) := by decide +kernel
theorem d_Rk_goesUp_35 : decode b_Rk_goesUp 35 = .ok (.aload_n 0, 1) := by decide +kernel
theorem d_Rk_goesUp_36 : decode b_Rk_goesUp 36 = .ok (.getfield 44, 3) := by decide +kernel
theorem d_Rk_goesUp_39 : decode b_Rk_goesUp 39 = .ok (.invokevirtual 144, 3) := by decide +kernel
theorem d_Rk_goesUp_42 : decode b_Rk_goesUp 42 = .ok (.ifCond .ne 7, 3) := by decide +kernel
theorem d_Rk_goesUp_45 : decode b_Rk_goesUp 45 = .ok (.iconst 1, 1) := by decide +kernel
theorem d_Rk_goesUp_46 : decode b_Rk_goesUp 46 = .ok (.goto 4, 3) := by decide +kernel
theorem d_Rk_goesUp_49 : decode b_Rk_goesUp 49 = .ok (.iconst 0, 1) := by decide +kernel
theorem d_Rk_goesUp_50 : decode b_Rk_goesUp 50 = .ok (.ireturn, 1) := by decide +kernel
theorem d_Rk_goesUp_51 : decode b_Rk_goesUp 51 = .ok (.aload_n 0, 1) := by decide +kernel
theorem d_Rk_goesUp_52 : decode b_Rk_goesUp 52 = .ok (.getfield 44, 3) := by decide +kernel
theorem d_Rk_goesUp_55 : decode b_Rk_goesUp 55 = .ok (.ldc2_w 147, 3) := by decide +kernel
theorem d_Rk_goesUp_58 : decode b_Rk_goesUp 58 = .ok (.lconst 0, 1) := by decide +kernel
theorem d_Rk_goesUp_59 : decode b_Rk_goesUp 59 = .ok (.invokevirtual 91, 3) := by decide +kernel
theorem d_Rk_goesUp_62 : decode b_Rk_goesUp 62 = .ok (.aload_n 0, 1) := by decide +kernel
theorem d_Rk_goesUp_63 : decode b_Rk_goesUp 63 = .ok (.getfield 44, 3) := by decide +kernel
theorem d_Rk_goesUp_66 : decode b_Rk_goesUp 66 = .ok (.aload_n 1, 1) := by decide +kernel
theorem d_Rk_goesUp_67 : decode b_Rk_goesUp 67 = .ok (.getfield 78, 3) := by decide +kernel
theorem d_Rk_goesUp_70 : decode b_Rk_goesUp 70 = .ok (.invokevirtual 102, 3) := by decide +kernel
theorem d_Rk_goesUp_73 : decode b_Rk_goesUp 73 = .ok (.aload_n 1, 1) := by decide +kernel
theorem d_Rk_goesUp_74 : decode b_Rk_goesUp 74 = .ok (.getfield 81, 3) := by decide +kernel
theorem d_Rk_goesUp_77 : decode b_Rk_goesUp 77 = .ok (.ifCond .eq 7, 3) := by decide +kernel
theorem d_Rk_goesUp_80 : decode b_Rk_goesUp 80 = .ok (.iconst 1, 1) := by decide +kernel
theorem d_Rk_goesUp_81 : decode b_Rk_goesUp 81 = .ok (.goto 4, 3) := by decide +kernel
theorem d_Rk_goesUp_84 : decode b_Rk_goesUp 84 = .ok (.iconst 0, 1) := by decide +kernel
theorem d_Rk_goesUp_85 : decode b_Rk_goesUp 85 = .ok (.if_icmp .lt 7, 3) := by decide +kernel
theorem d_Rk_goesUp_88 : decode b_Rk_goesUp 88 = .ok (.iconst 1, 1) := by decide +kernel
theorem d_Rk_goesUp_89 : decode b_Rk_goesUp 89 = .ok (.goto 4, 3) := by decide +kernel
theorem d_Rk_goesUp_92 : decode b_Rk_goesUp 92 = .ok (.iconst 0, 1) := by decide +kernel
theorem d_Rk_goesUp_93 : decode b_Rk_goesUp 93 = .ok (.ireturn, 1) := by decide +kernel
theorem d_Rk_goesUp_94 : decode b_Rk_goesUp 94 = .ok (.iconst 0, 1) := by decide +kernel
theorem d_Rk_goesUp_95 : decode b_Rk_goesUp 95 = .ok (.ireturn, 1) := by decide +kernel
theorem d_Rk_extractRoot_0 : decode b_Rk_extractRoot 0 = .ok (.aload_n 0, 1) := by decide +kernel
theorem d_Rk_extractRoot_1 : decode b_Rk_extractRoot 1 = .ok (.getfield 34, 3) := by decide +kernel
theorem d_Rk_extractRoot_4 : decode b_Rk_extractRoot 4 = .ok (.iconst 2, 1) := by decide +kernel
theorem d_Rk_extractRoot_5 : decode b_Rk_extractRoot 5 = .ok (.iload_n 2, 1) := by decide +kernel
theorem d_Rk_extractRoot_6 : decode b_Rk_extractRoot 6 = .ok (.imul, 1) := by decide +kernel
theorem d_Rk_extractRoot_7 : decode b_Rk_extractRoot 7 = .ok (.invokevirtual 126, 3) := by decide +kernel
theorem d_Rk_extractRoot_10 : decode b_Rk_extractRoot 10 = .ok (.aload_n 0, 1) := by decide +kernel
theorem d_Rk_extractRoot_11 : decode b_Rk_extractRoot 11 = .ok (.getfield 38, 3) := by decide +kernel
theorem d_Rk_extractRoot_14 : decode b_Rk_extractRoot 14 = .ok (.aload_n 1, 1) := by decide +kernel
theorem d_Rk_extractRoot_15 : decode b_Rk_extractRoot 15 = .ok (.getfield 72, 3) := by decide +kernel
theorem d_Rk_extractRoot_18 : decode b_Rk_extractRoot 18 = .ok (.aload_n 0, 1) := by decide +kernel
theorem d_Rk_extractRoot_19 : decode b_Rk_extractRoot 19 = .ok (.getfield 34, 3) := by decide +kernel
theorem d_Rk_extractRoot_22 : decode b_Rk_extractRoot 22 = .ok (.invokevirtual 95, 3) := by decide +kernel
theorem d_Rk_extractRoot_25 : decode b_Rk_extractRoot 25 = .ok (.aload_n 0, 1) := by decide +kernel
theorem d_Rk_extractRoot_26 : decode b_Rk_extractRoot 26 = .ok (.getfield 9, 3) := by decide +kernel
theorem d_Rk_extractRoot_29 : decode b_Rk_extractRoot 29 = .ok (.aload_n 0, 1) := by decide +kernel
theorem d_Rk_extractRoot_30 : decode b_Rk_extractRoot 30 = .ok (.getfield 38, 3) := by decide +kernel
theorem d_Rk_extractRoot_33 : decode b_Rk_extractRoot 33 = .ok (.aload_n 1, 1) := by decide +kernel
theorem d_Rk_extractRoot_34 : decode b_Rk_extractRoot 34 = .ok (.getfield 78, 3) := by decide +kernel
theorem d_Rk_extractRoot_37 : decode b_Rk_extractRoot 37 = .ok (.aload_n 0, 1) := by decide +kernel
theorem d_Rk_extractRoot_38 : decode b_Rk_extractRoot 38 = .ok (.getfield 34, 3) := by decide +kernel
theorem d_Rk_extractRoot_41 : decode b_Rk_extractRoot 41 = .ok (.aload_n 0, 1) := by decide +kernel
theorem d_Rk_extractRoot_42 : decode b_Rk_extractRoot 42 = .ok (.getfield 44, 3) := by decide +kernel
theorem d_Rk_extractRoot_45 : decode b_Rk_extractRoot 45 = .ok (.invokevirtual 130, 3) := by decide +kernel
theorem d_Rk_extractRoot_48 : decode b_Rk_extractRoot 48 = .ok (.aload_n 0, 1) := by decide +kernel
theorem d_Rk_extractRoot_49 : decode b_Rk_extractRoot 49 = .ok (.aload_n 0, 1) := by decide +kernel
theorem d_Rk_extractRoot_50 : decode b_Rk_extractRoot 50 = .ok (.getfield 34, 3) := by decide +kernel
theorem d_Rk_extractRoot_53 : decode b_Rk_extractRoot 53 = .ok (.aload_n 0, 1) := by decide +kernel
theorem d_Rk_extractRoot_54 : decode b_Rk_extractRoot 54 = .ok (.getfield 38, 3) := by decide +kernel
theorem d_Rk_extractRoot_57 : decode b_Rk_extractRoot 57 = .ok (.invokevirtual 149, 3) := by decide +kernel
theorem d_Rk_extractRoot_60 : decode b_Rk_extractRoot 60 = .ok (.aload_n 0, 1) := by decide +kernel
theorem d_Rk_extractRoot_61 : decode b_Rk_extractRoot 61 = .ok (.aload_n 0, 1) := by decide +kernel
theorem d_Rk_extractRoot_62 : decode b_Rk_extractRoot 62 = .ok (.getfield 38, 3) := by decide +kernel
theorem d_Rk_extractRoot_65 : decode b_Rk_extractRoot 65 = .ok (.iload_n 2, 1) := by decide +kernel
theorem d_Rk_extractRoot_66 : decode b_Rk_extractRoot 66 = .ok (.iconst 0, 1) := by decide +kernel
theorem d_Rk_extractRoot_67 : decode b_Rk_extractRoot 67 = .ok (.invokevirtual 140, 3) := by decide +kernel
theorem d_Rk_extractRoot_70 : decode b_Rk_extractRoot 70 = .ok (.return_, 1) := by decide +kernel
theorem d_Rk_squareRoot_0 : decode b_Rk_squareRoot 0 = .ok (.aload_n 2, 1) := by decide +kernel
theorem d_Rk_squareRoot_1 : decode b_Rk_squareRoot 1 = .ok (.aload_n 1, 1) := by decide +kernel
theorem d_Rk_squareRoot_2 : decode b_Rk_squareRoot 2 = .ok (.invokevirtual 152, 3) := by decide +kernel
theorem d_Rk_squareRoot_5 : decode b_Rk_squareRoot 5 = .ok (.iconst 1, 1) := by decide +kernel
theorem d_Rk_squareRoot_6 : decode b_Rk_squareRoot 6 = .ok (.iadd, 1) := by decide +kernel
theorem d_Rk_squareRoot_7 : decode b_Rk_squareRoot 7 = .ok (.iconst 2, 1) := by decide +kernel
theorem d_Rk_squareRoot_8 : decode b_Rk_squareRoot 8 = .ok (.idiv, 1) := by decide +kernel
theorem d_Rk_squareRoot_9 : decode b_Rk_squareRoot 9 = .ok (.invokevirtual 126, 3) := by decide +kernel
theorem d_Rk_squareRoot_12 : decode b_Rk_squareRoot 12 = .ok (.iconst 1, 1) := by decide +kernel
theorem d_Rk_squareRoot_13 : decode b_Rk_squareRoot 13 = .ok (.istore_n 3, 1) := by decide +kernel
theorem d_Rk_squareRoot_14 : decode b_Rk_squareRoot 14 = .ok (.iconst 0, 1) := by decide +kernel
theorem d_Rk_squareRoot_15 : decode b_Rk_squareRoot 15 = .ok (.istore 4, 2) := by decide +kernel
theorem d_Rk_squareRoot_17 : decode b_Rk_squareRoot 17 = .ok (.iload 4, 2) := by decide +kernel
theorem d_Rk_squareRoot_19 : decode b_Rk_squareRoot 19 = .ok (.ldc 156, 2) := by decide +kernel
theorem d_Rk_squareRoot_21 : decode b_Rk_squareRoot 21 = .ok (.if_icmp .ge 93, 3) := by decide +kernel
theorem d_Rk_squareRoot_24 : decode b_Rk_squareRoot 24 = .ok (.iload_n 3, 1) := by decide +kernel
theorem d_Rk_squareRoot_25 : decode b_Rk_squareRoot 25 = .ok (.ifCond .eq 89, 3) := by decide +kernel
theorem d_Rk_squareRoot_28 : decode b_Rk_squareRoot 28 = .ok (.aload_n 2, 1) := by decide +kernel
theorem d_Rk_squareRoot_29 : decode b_Rk_squareRoot 29 = .ok (.invokevirtual 144, 3) := by decide +kernel
theorem d_Rk_squareRoot_32 : decode b_Rk_squareRoot 32 = .ok (.ifCond .ne 82, 3) := by decide +kernel
theorem d_Rk_squareRoot_35 : decode b_Rk_squareRoot 35 = .ok (.aload_n 0, 1) := by decide +kernel
theorem d_Rk_squareRoot_36 : decode b_Rk_squareRoot 36 = .ok (.getfield 9, 3) := by decide +kernel
theorem d_Rk_squareRoot_39 : decode b_Rk_squareRoot 39 = .ok (.aload_n 1, 1) := by decide +kernel
theorem d_Rk_squareRoot_40 : decode b_Rk_squareRoot 40 = .ok (.aload_n 2, 1) := by decide +kernel
theorem d_Rk_squareRoot_41 : decode b_Rk_squareRoot 41 = .ok (.aload_n 0, 1) := by decide +kernel
theorem d_Rk_squareRoot_42 : decode b_Rk_squareRoot 42 = .ok (.getfield 41, 3) := by decide +kernel
theorem d_Rk_squareRoot_45 : decode b_Rk_squareRoot 45 = .ok (.aload_n 0, 1) := by decide +kernel
theorem d_Rk_squareRoot_46 : decode b_Rk_squareRoot 46 = .ok (.getfield 44, 3) := by decide +kernel
theorem d_Rk_squareRoot_49 : decode b_Rk_squareRoot 49 = .ok (.invokevirtual 130, 3) := by decide +kernel
theorem d_Rk_squareRoot_52 : decode b_Rk_squareRoot 52 = .ok (.aload_n 0, 1) := by decide +kernel
theorem d_Rk_squareRoot_53 : decode b_Rk_squareRoot 53 = .ok (.getfield 41, 3) := by decide +kernel
theorem d_Rk_squareRoot_56 : decode b_Rk_squareRoot 56 = .ok (.aload_n 0, 1) := by decide +kernel
theorem d_Rk_squareRoot_57 : decode b_Rk_squareRoot 57 = .ok (.getfield 41, 3) := by decide +kernel
theorem d_Rk_squareRoot_60 : decode b_Rk_squareRoot 60 = .ok (.aload_n 2, 1) := by decide +kernel
theorem d_Rk_squareRoot_61 : decode b_Rk_squareRoot 61 = .ok (.invokevirtual 99, 3) := by decide +kernel
theorem d_Rk_squareRoot_64 : decode b_Rk_squareRoot 64 = .ok (.aload_n 0, 1) := by decide +kernel
theorem d_Rk_squareRoot_65 : decode b_Rk_squareRoot 65 = .ok (.getfield 41, 3) := by decide +kernel
theorem d_Rk_squareRoot_68 : decode b_Rk_squareRoot 68 = .ok (.aload_n 0, 1) := by decide +kernel
theorem d_Rk_squareRoot_69 : decode b_Rk_squareRoot 69 = .ok (.getfield 41, 3) := by decide +kernel
theorem d_Rk_squareRoot_72 : decode b_Rk_squareRoot 72 = .ok (.ldc2_w 147, 3) := by decide +kernel
theorem d_Rk_squareRoot_75 : decode b_Rk_squareRoot 75 = .ok (.invokevirtual 122, 3) := by decide +kernel
theorem d_Rk_squareRoot_78 : decode b_Rk_squareRoot 78 = .ok (.pop2, 1) := by decide +kernel
theorem d_Rk_squareRoot_79 : decode b_Rk_squareRoot 79 = .ok (.aload_n 0, 1) := by decide +kernel
theorem d_Rk_squareRoot_80 : decode b_Rk_squareRoot 80 = .ok (.getfield 41, 3) := by decide +kernel
theorem d_Rk_squareRoot_83 : decode b_Rk_squareRoot 83 = .ok (.aload_n 2, 1) := by decide +kernel
theorem d_Rk_squareRoot_84 : decode b_Rk_squareRoot 84 = .ok (.invokevirtual 102, 3) := by decide +kernel
theorem d_Rk_squareRoot_87 : decode b_Rk_squareRoot 87 = .ok (.ifCond .ge 7, 3) := by decide +kernel
theorem d_Rk_squareRoot_90 : decode b_Rk_squareRoot 90 = .ok (.iconst 1, 1) := by decide +kernel
theorem d_Rk_squareRoot_91 : decode b_Rk_squareRoot 91 = .ok (.goto 4, 3) := by decide +kernel
theorem d_Rk_squareRoot_94 : decode b_Rk_squareRoot 94 = .ok (.iconst 0, 1) := by decide +kernel
theorem d_Rk_squareRoot_95 : decode b_Rk_squareRoot 95 = .ok (.istore_n 3, 1) := by decide +kernel
theorem d_Rk_squareRoot_96 : decode b_Rk_squareRoot 96 = .ok (.iload_n 3, 1) := by decide +kernel
theorem d_Rk_squareRoot_97 : decode b_Rk_squareRoot 97 = .ok (.ifCond .eq 11, 3) := by decide +kernel
theorem d_Rk_squareRoot_100 : decode b_Rk_squareRoot 100 = .ok (.aload_n 2, 1) := by decide +kernel
theorem d_Rk_squareRoot_101 : decode b_Rk_squareRoot 101 = .ok (.aload_n 0, 1) := by decide +kernel
theorem d_Rk_squareRoot_102 : decode b_Rk_squareRoot 102 = .ok (.getfield 41, 3) := by decide +kernel
theorem d_Rk_squareRoot_105 : decode b_Rk_squareRoot 105 = .ok (.invokevirtual 112, 3) := by decide +kernel
theorem d_Rk_squareRoot_108 : decode b_Rk_squareRoot 108 = .ok (.iinc 4 1, 3) := by decide +kernel
theorem d_Rk_squareRoot_111 : decode b_Rk_squareRoot 111 = .ok (.goto (-94), 3) := by decide +kernel
theorem d_Rk_squareRoot_114 : decode b_Rk_squareRoot 114 = .ok (.return_, 1) := by decide +kernel
theorem d_Rk_putOut_0 : decode b_Rk_putOut 0 = .ok (.aload_n 0, 1) := by decide +kernel
theorem d_Rk_putOut_1 : decode b_Rk_putOut 1 = .ok (.getfield 27, 3) := by decide +kernel
theorem d_Rk_putOut_4 : decode b_Rk_putOut 4 = .ok (.getfield 72, 3) := by decide +kernel
theorem d_Rk_putOut_7 : decode b_Rk_putOut 7 = .ok (.aload_n 1, 1) := by decide +kernel
theorem d_Rk_putOut_8 : decode b_Rk_putOut 8 = .ok (.invokevirtual 112, 3) := by decide +kernel
theorem d_Rk_putOut_11 : decode b_Rk_putOut 11 = .ok (.aload_n 0, 1) := by decide +kernel
theorem d_Rk_putOut_12 : decode b_Rk_putOut 12 = .ok (.getfield 27, 3) := by decide +kernel
theorem d_Rk_putOut_15 : decode b_Rk_putOut 15 = .ok (.getfield 78, 3) := by decide +kernel
theorem d_Rk_putOut_18 : decode b_Rk_putOut 18 = .ok (.iload_n 2, 1) := by decide +kernel
theorem d_Rk_putOut_19 : decode b_Rk_putOut 19 = .ok (.invokevirtual 126, 3) := by decide +kernel
theorem d_Rk_putOut_22 : decode b_Rk_putOut 22 = .ok (.aload_n 0, 1) := by decide +kernel
theorem d_Rk_putOut_23 : decode b_Rk_putOut 23 = .ok (.getfield 27, 3) := by decide +kernel
theorem d_Rk_putOut_26 : decode b_Rk_putOut 26 = .ok (.iload_n 3, 1) := by decide +kernel
theorem d_Rk_putOut_27 : decode b_Rk_putOut 27 = .ok (.putfield 81, 3) := by decide +kernel
theorem d_Rk_putOut_30 : decode b_Rk_putOut 30 = .ok (.return_, 1) := by decide +kernel
theorem d_Rk_reduce_0 : decode b_Rk_reduce 0 = .ok (.aload_n 0, 1) := by decide +kernel
theorem d_Rk_reduce_1 : decode b_Rk_reduce 1 = .ok (.getfield 20, 3) := by decide +kernel
theorem d_Rk_reduce_4 : decode b_Rk_reduce 4 = .ok (.aload_n 0, 1) := by decide +kernel
theorem d_Rk_reduce_5 : decode b_Rk_reduce 5 = .ok (.getfield 27, 3) := by decide +kernel
theorem d_Rk_reduce_8 : decode b_Rk_reduce 8 = .ok (.getfield 72, 3) := by decide +kernel
theorem d_Rk_reduce_11 : decode b_Rk_reduce 11 = .ok (.aload_n 0, 1) := by decide +kernel
theorem d_Rk_reduce_12 : decode b_Rk_reduce 12 = .ok (.getfield 27, 3) := by decide +kernel
theorem d_Rk_reduce_15 : decode b_Rk_reduce 15 = .ok (.getfield 78, 3) := by decide +kernel
theorem d_Rk_reduce_18 : decode b_Rk_reduce 18 = .ok (.invokevirtual 157, 3) := by decide +kernel
theorem d_Rk_reduce_21 : decode b_Rk_reduce 21 = .ok (.astore_n 1, 1) := by decide +kernel
theorem d_Rk_reduce_22 : decode b_Rk_reduce 22 = .ok (.aload_n 1, 1) := by decide +kernel
theorem d_Rk_reduce_23 : decode b_Rk_reduce 23 = .ok (.invokevirtual 161, 3) := by decide +kernel
theorem d_Rk_reduce_26 : decode b_Rk_reduce 26 = .ok (.ifCond .ne 55, 3) := by decide +kernel
theorem d_Rk_reduce_29 : decode b_Rk_reduce 29 = .ok (.aload_n 0, 1) := by decide +kernel
theorem d_Rk_reduce_30 : decode b_Rk_reduce 30 = .ok (.getfield 9, 3) := by decide +kernel
theorem d_Rk_reduce_33 : decode b_Rk_reduce 33 = .ok (.aload_n 0, 1) := by decide +kernel
theorem d_Rk_reduce_34 : decode b_Rk_reduce 34 = .ok (.getfield 27, 3) := by decide +kernel
theorem d_Rk_reduce_37 : decode b_Rk_reduce 37 = .ok (.getfield 72, 3) := by decide +kernel
theorem d_Rk_reduce_40 : decode b_Rk_reduce 40 = .ok (.aload_n 1, 1) := by decide +kernel
theorem d_Rk_reduce_41 : decode b_Rk_reduce 41 = .ok (.aload_n 0, 1) := by decide +kernel
theorem d_Rk_reduce_42 : decode b_Rk_reduce 42 = .ok (.getfield 27, 3) := by decide +kernel
theorem d_Rk_reduce_45 : decode b_Rk_reduce 45 = .ok (.getfield 72, 3) := by decide +kernel
theorem d_Rk_reduce_48 : decode b_Rk_reduce 48 = .ok (.aload_n 0, 1) := by decide +kernel
theorem d_Rk_reduce_49 : decode b_Rk_reduce 49 = .ok (.getfield 44, 3) := by decide +kernel
theorem d_Rk_reduce_52 : decode b_Rk_reduce 52 = .ok (.invokevirtual 130, 3) := by decide +kernel
theorem d_Rk_reduce_55 : decode b_Rk_reduce 55 = .ok (.aload_n 0, 1) := by decide +kernel
theorem d_Rk_reduce_56 : decode b_Rk_reduce 56 = .ok (.getfield 9, 3) := by decide +kernel
theorem d_Rk_reduce_59 : decode b_Rk_reduce 59 = .ok (.aload_n 0, 1) := by decide +kernel
theorem d_Rk_reduce_60 : decode b_Rk_reduce 60 = .ok (.getfield 27, 3) := by decide +kernel
theorem d_Rk_reduce_63 : decode b_Rk_reduce 63 = .ok (.getfield 78, 3) := by decide +kernel
theorem d_Rk_reduce_66 : decode b_Rk_reduce 66 = .ok (.aload_n 1, 1) := by decide +kernel
theorem d_Rk_reduce_67 : decode b_Rk_reduce 67 = .ok (.aload_n 0, 1) := by decide +kernel
theorem d_Rk_reduce_68 : decode b_Rk_reduce 68 = .ok (.getfield 27, 3) := by decide +kernel
theorem d_Rk_reduce_71 : decode b_Rk_reduce 71 = .ok (.getfield 78, 3) := by decide +kernel
theorem d_Rk_reduce_74 : decode b_Rk_reduce 74 = .ok (.aload_n 0, 1) := by decide +kernel
theorem d_Rk_reduce_75 : decode b_Rk_reduce 75 = .ok (.getfield 44, 3) := by decide +kernel
theorem d_Rk_reduce_78 : decode b_Rk_reduce 78 = .ok (.invokevirtual 130, 3) := by decide +kernel
theorem d_Rk_reduce_81 : decode b_Rk_reduce 81 = .ok (.aload_n 0, 1) := by decide +kernel
theorem d_Rk_reduce_82 : decode b_Rk_reduce 82 = .ok (.getfield 27, 3) := by decide +kernel
theorem d_Rk_reduce_85 : decode b_Rk_reduce 85 = .ok (.getfield 72, 3) := by decide +kernel
theorem d_Rk_reduce_88 : decode b_Rk_reduce 88 = .ok (.invokevirtual 144, 3) := by decide +kernel
theorem d_Rk_reduce_91 : decode b_Rk_reduce 91 = .ok (.ifCond .eq 11, 3) := by decide +kernel
theorem d_Rk_reduce_94 : decode b_Rk_reduce 94 = .ok (.aload_n 0, 1) := by decide +kernel
theorem d_Rk_reduce_95 : decode b_Rk_reduce 95 = .ok (.getfield 27, 3) := by decide +kernel
theorem d_Rk_reduce_98 : decode b_Rk_reduce 98 = .ok (.iconst 0, 1) := by decide +kernel
theorem d_Rk_reduce_99 : decode b_Rk_reduce 99 = .ok (.putfield 81, 3) := by decide +kernel
theorem d_Rk_reduce_102 : decode b_Rk_reduce 102 = .ok (.return_, 1) := by decide +kernel
theorem d_Rk_order_0 : decode b_Rk_order 0 = .ok (.aload_n 1, 1) := by decide +kernel
theorem d_Rk_order_1 : decode b_Rk_order 1 = .ok (.getfield 81, 3) := by decide +kernel
theorem d_Rk_order_4 : decode b_Rk_order 4 = .ok (.aload_n 2, 1) := by decide +kernel
theorem d_Rk_order_5 : decode b_Rk_order 5 = .ok (.getfield 81, 3) := by decide +kernel
theorem d_Rk_order_8 : decode b_Rk_order 8 = .ok (.if_icmp .eq 16, 3) := by decide +kernel
theorem d_Rk_order_11 : decode b_Rk_order 11 = .ok (.aload_n 1, 1) := by decide +kernel
theorem d_Rk_order_12 : decode b_Rk_order 12 = .ok (.getfield 81, 3) := by decide +kernel
theorem d_Rk_order_15 : decode b_Rk_order 15 = .ok (.ifCond .eq 7, 3) := by decide +kernel
theorem d_Rk_order_18 : decode b_Rk_order 18 = .ok (.iconst (-1), 1) := by decide +kernel
theorem d_Rk_order_19 : decode b_Rk_order 19 = .ok (.goto 4, 3) := by decide +kernel
theorem d_Rk_order_22 : decode b_Rk_order 22 = .ok (.iconst 1, 1) := by decide +kernel
theorem d_Rk_order_23 : decode b_Rk_order 23 = .ok (.ireturn, 1) := by decide +kernel
theorem d_Rk_order_24 : decode b_Rk_order 24 = .ok (.aload_n 0, 1) := by decide +kernel
theorem d_Rk_order_25 : decode b_Rk_order 25 = .ok (.getfield 34, 3) := by decide +kernel
theorem d_Rk_order_28 : decode b_Rk_order 28 = .ok (.aload_n 1, 1) := by decide +kernel
theorem d_Rk_order_29 : decode b_Rk_order 29 = .ok (.getfield 72, 3) := by decide +kernel
theorem d_Rk_order_32 : decode b_Rk_order 32 = .ok (.aload_n 2, 1) := by decide +kernel
theorem d_Rk_order_33 : decode b_Rk_order 33 = .ok (.getfield 78, 3) := by decide +kernel
theorem d_Rk_order_36 : decode b_Rk_order 36 = .ok (.invokevirtual 95, 3) := by decide +kernel
theorem d_Rk_order_39 : decode b_Rk_order 39 = .ok (.aload_n 0, 1) := by decide +kernel
theorem d_Rk_order_40 : decode b_Rk_order 40 = .ok (.getfield 38, 3) := by decide +kernel
theorem d_Rk_order_43 : decode b_Rk_order 43 = .ok (.aload_n 2, 1) := by decide +kernel
theorem d_Rk_order_44 : decode b_Rk_order 44 = .ok (.getfield 72, 3) := by decide +kernel
theorem d_Rk_order_47 : decode b_Rk_order 47 = .ok (.aload_n 1, 1) := by decide +kernel
theorem d_Rk_order_48 : decode b_Rk_order 48 = .ok (.getfield 78, 3) := by decide +kernel
theorem d_Rk_order_51 : decode b_Rk_order 51 = .ok (.invokevirtual 95, 3) := by decide +kernel
theorem d_Rk_order_54 : decode b_Rk_order 54 = .ok (.aload_n 1, 1) := by decide +kernel
theorem d_Rk_order_55 : decode b_Rk_order 55 = .ok (.getfield 81, 3) := by decide +kernel
theorem d_Rk_order_58 : decode b_Rk_order 58 = .ok (.ifCond .eq 17, 3) := by decide +kernel
theorem d_Rk_order_61 : decode b_Rk_order 61 = .ok (.aload_n 0, 1) := by decide +kernel
theorem d_Rk_order_62 : decode b_Rk_order 62 = .ok (.getfield 38, 3) := by decide +kernel
theorem d_Rk_order_65 : decode b_Rk_order 65 = .ok (.aload_n 0, 1) := by decide +kernel
theorem d_Rk_order_66 : decode b_Rk_order 66 = .ok (.getfield 34, 3) := by decide +kernel
theorem d_Rk_order_69 : decode b_Rk_order 69 = .ok (.invokevirtual 102, 3) := by decide +kernel
theorem d_Rk_order_72 : decode b_Rk_order 72 = .ok (.goto 14, 3) := by decide +kernel
theorem d_Rk_order_75 : decode b_Rk_order 75 = .ok (.aload_n 0, 1) := by decide +kernel
theorem d_Rk_order_76 : decode b_Rk_order 76 = .ok (.getfield 34, 3) := by decide +kernel
theorem d_Rk_order_79 : decode b_Rk_order 79 = .ok (.aload_n 0, 1) := by decide +kernel
theorem d_Rk_order_80 : decode b_Rk_order 80 = .ok (.getfield 38, 3) := by decide +kernel
theorem d_Rk_order_83 : decode b_Rk_order 83 = .ok (.invokevirtual 102, 3) := by decide +kernel
theorem d_Rk_order_86 : decode b_Rk_order 86 = .ok (.ireturn, 1) := by decide +kernel
theorem d_Rk_decimalBehind_0 : decode b_Rk_decimalBehind 0 = .ok (.aload_n 0, 1) := by decide +kernel
theorem d_Rk_decimalBehind_1 : decode b_Rk_decimalBehind 1 = .ok (.getfield 9, 3) := by decide +kernel
theorem d_Rk_decimalBehind_4 : decode b_Rk_decimalBehind 4 = .ok (.aload_n 1, 1) := by decide +kernel
theorem d_Rk_decimalBehind_5 : decode b_Rk_decimalBehind 5 = .ok (.getfield 72, 3) := by decide +kernel
theorem d_Rk_decimalBehind_8 : decode b_Rk_decimalBehind 8 = .ok (.aload_n 1, 1) := by decide +kernel
theorem d_Rk_decimalBehind_9 : decode b_Rk_decimalBehind 9 = .ok (.getfield 78, 3) := by decide +kernel
theorem d_Rk_decimalBehind_12 : decode b_Rk_decimalBehind 12 = .ok (.aload_n 0, 1) := by decide +kernel
theorem d_Rk_decimalBehind_13 : decode b_Rk_decimalBehind 13 = .ok (.getfield 41, 3) := by decide +kernel
theorem d_Rk_decimalBehind_16 : decode b_Rk_decimalBehind 16 = .ok (.aload_n 0, 1) := by decide +kernel
theorem d_Rk_decimalBehind_17 : decode b_Rk_decimalBehind 17 = .ok (.getfield 44, 3) := by decide +kernel
theorem d_Rk_decimalBehind_20 : decode b_Rk_decimalBehind 20 = .ok (.invokevirtual 130, 3) := by decide +kernel
theorem d_Rk_decimalBehind_23 : decode b_Rk_decimalBehind 23 = .ok (.iload_n 2, 1) := by decide +kernel
theorem d_Rk_decimalBehind_24 : decode b_Rk_decimalBehind 24 = .ok (.istore_n 3, 1) := by decide +kernel
theorem d_Rk_decimalBehind_25 : decode b_Rk_decimalBehind 25 = .ok (.iload_n 3, 1) := by decide +kernel
theorem d_Rk_decimalBehind_26 : decode b_Rk_decimalBehind 26 = .ok (.bipush 9, 2) := by decide +kernel
theorem d_Rk_decimalBehind_28 : decode b_Rk_decimalBehind 28 = .ok (.if_icmp .le 43, 3) := by decide +kernel
theorem d_Rk_decimalBehind_31 : decode b_Rk_decimalBehind 31 = .ok (.aload_n 0, 1) := by decide +kernel
theorem d_Rk_decimalBehind_32 : decode b_Rk_decimalBehind 32 = .ok (.getfield 44, 3) := by decide +kernel
theorem d_Rk_decimalBehind_35 : decode b_Rk_decimalBehind 35 = .ok (.ldc2_w 89, 3) := by decide +kernel
theorem d_Rk_decimalBehind_38 : decode b_Rk_decimalBehind 38 = .ok (.lconst 0, 1) := by decide +kernel
theorem d_Rk_decimalBehind_39 : decode b_Rk_decimalBehind 39 = .ok (.invokevirtual 91, 3) := by decide +kernel
theorem d_Rk_decimalBehind_42 : decode b_Rk_decimalBehind 42 = .ok (.aload_n 0, 1) := by decide +kernel
theorem d_Rk_decimalBehind_43 : decode b_Rk_decimalBehind 43 = .ok (.getfield 9, 3) := by decide +kernel
theorem d_Rk_decimalBehind_46 : decode b_Rk_decimalBehind 46 = .ok (.aload_n 0, 1) := by decide +kernel
theorem d_Rk_decimalBehind_47 : decode b_Rk_decimalBehind 47 = .ok (.getfield 44, 3) := by decide +kernel
theorem d_Rk_decimalBehind_50 : decode b_Rk_decimalBehind 50 = .ok (.aload_n 1, 1) := by decide +kernel
theorem d_Rk_decimalBehind_51 : decode b_Rk_decimalBehind 51 = .ok (.getfield 78, 3) := by decide +kernel
theorem d_Rk_decimalBehind_54 : decode b_Rk_decimalBehind 54 = .ok (.aload_n 0, 1) := by decide +kernel
theorem d_Rk_decimalBehind_55 : decode b_Rk_decimalBehind 55 = .ok (.getfield 41, 3) := by decide +kernel
theorem d_Rk_decimalBehind_58 : decode b_Rk_decimalBehind 58 = .ok (.aload_n 0, 1) := by decide +kernel
theorem d_Rk_decimalBehind_59 : decode b_Rk_decimalBehind 59 = .ok (.getfield 44, 3) := by decide +kernel
theorem d_Rk_decimalBehind_62 : decode b_Rk_decimalBehind 62 = .ok (.invokevirtual 130, 3) := by decide +kernel
theorem d_Rk_decimalBehind_65 : decode b_Rk_decimalBehind 65 = .ok (.iinc 3 (-9), 3) := by decide +kernel
theorem d_Rk_decimalBehind_68 : decode b_Rk_decimalBehind 68 = .ok (.goto (-43), 3) := by decide +kernel
theorem d_Rk_decimalBehind_71 : decode b_Rk_decimalBehind 71 = .ok (.aload_n 0, 1) := by decide +kernel
theorem d_Rk_decimalBehind_72 : decode b_Rk_decimalBehind 72 = .ok (.getfield 44, 3) := by decide +kernel
theorem d_Rk_decimalBehind_75 : decode b_Rk_decimalBehind 75 = .ok (.getstatic 164, 3) := by decide +kernel
theorem d_Rk_decimalBehind_78 : decode b_Rk_decimalBehind 78 = .ok (.iload_n 3, 1) := by decide +kernel
theorem d_Rk_decimalBehind_79 : decode b_Rk_decimalBehind 79 = .ok (.laload, 1) := by decide +kernel
theorem d_Rk_decimalBehind_80 : decode b_Rk_decimalBehind 80 = .ok (.lconst 0, 1) := by decide +kernel
theorem d_Rk_decimalBehind_81 : decode b_Rk_decimalBehind 81 = .ok (.invokevirtual 91, 3) := by decide +kernel
theorem d_Rk_decimalBehind_84 : decode b_Rk_decimalBehind 84 = .ok (.aload_n 0, 1) := by decide +kernel
theorem d_Rk_decimalBehind_85 : decode b_Rk_decimalBehind 85 = .ok (.getfield 9, 3) := by decide +kernel
theorem d_Rk_decimalBehind_88 : decode b_Rk_decimalBehind 88 = .ok (.aload_n 0, 1) := by decide +kernel
theorem d_Rk_decimalBehind_89 : decode b_Rk_decimalBehind 89 = .ok (.getfield 44, 3) := by decide +kernel
theorem d_Rk_decimalBehind_92 : decode b_Rk_decimalBehind 92 = .ok (.aload_n 1, 1) := by decide +kernel
theorem d_Rk_decimalBehind_93 : decode b_Rk_decimalBehind 93 = .ok (.getfield 78, 3) := by decide +kernel
theorem d_Rk_decimalBehind_96 : decode b_Rk_decimalBehind 96 = .ok (.aload_n 0, 1) := by decide +kernel
theorem d_Rk_decimalBehind_97 : decode b_Rk_decimalBehind 97 = .ok (.getfield 41, 3) := by decide +kernel
theorem d_Rk_decimalBehind_100 : decode b_Rk_decimalBehind 100 = .ok (.aload_n 0, 1) := by decide +kernel
theorem d_Rk_decimalBehind_101 : decode b_Rk_decimalBehind 101 = .ok (.getfield 44, 3) := by decide +kernel
theorem d_Rk_decimalBehind_104 : decode b_Rk_decimalBehind 104 = .ok (.invokevirtual 130, 3) := by decide +kernel
theorem d_Rk_decimalBehind_107 : decode b_Rk_decimalBehind 107 = .ok (.aload_n 0, 1) := by decide +kernel
theorem d_Rk_decimalBehind_108 : decode b_Rk_decimalBehind 108 = .ok (.getfield 41, 3) := by decide +kernel
theorem d_Rk_decimalBehind_111 : decode b_Rk_decimalBehind 111 = .ok (.iconst 0, 1) := by decide +kernel
theorem d_Rk_decimalBehind_112 : decode b_Rk_decimalBehind 112 = .ok (.invokevirtual 168, 3) := by decide +kernel
theorem d_Rk_decimalBehind_115 : decode b_Rk_decimalBehind 115 = .ok (.ireturn, 1) := by decide +kernel
