theorem d_Dv_init_0 : decode b_Dv_init 0 = .ok (.aload_n 0, 1) := by decide +kernel
theorem d_Dv_init_1 : decode b_Dv_init 1 = .ok (.invokespecial 3, 3) := by decide +kernel
theorem d_Dv_init_4 : decode b_Dv_init 4 = .ok (.aload_n 0, 1) := by decide +kernel
theorem d_Dv_init_5 : decode b_Dv_init 5 = .ok (.bipush 42, 2) := by decide +kernel
theorem d_Dv_init_7 : decode b_Dv_init 7 = .ok (.newarray .long, 2) := by decide +kernel
theorem d_Dv_init_9 : decode b_Dv_init 9 = .ok (.putfield 9, 3) := by decide +kernel
theorem d_Dv_init_12 : decode b_Dv_init 12 = .ok (.aload_n 0, 1) := by decide +kernel
theorem d_Dv_init_13 : decode b_Dv_init 13 = .ok (.bipush 42, 2) := by decide +kernel
theorem d_Dv_init_15 : decode b_Dv_init 15 = .ok (.newarray .long, 2) := by decide +kernel
theorem d_Dv_init_17 : decode b_Dv_init 17 = .ok (.putfield 15, 3) := by decide +kernel
theorem d_Dv_init_20 : decode b_Dv_init 20 = .ok (.return_, 1) := by decide +kernel
theorem d_Dv_split_0 : decode b_Dv_split 0 = .ok (.aload_n 2, 1) := by decide +kernel
theorem d_Dv_split_1 : decode b_Dv_split 1 = .ok (.invokevirtual 18, 3) := by decide +kernel
theorem d_Dv_split_4 : decode b_Dv_split 4 = .ok (.ifCond .eq 13, 3) := by decide +kernel
theorem d_Dv_split_7 : decode b_Dv_split 7 = .ok (.new 24, 3) := by decide +kernel
theorem d_Dv_split_10 : decode b_Dv_split 10 = .ok (.dup, 1) := by decide +kernel
theorem d_Dv_split_11 : decode b_Dv_split 11 = .ok (.ldc 26, 2) := by decide +kernel
theorem d_Dv_split_13 : decode b_Dv_split 13 = .ok (.invokespecial 28, 3) := by decide +kernel
theorem d_Dv_split_16 : decode b_Dv_split 16 = .ok (.athrow, 1) := by decide +kernel
theorem d_Dv_split_17 : decode b_Dv_split 17 = .ok (.aload_n 1, 1) := by decide +kernel
theorem d_Dv_split_18 : decode b_Dv_split 18 = .ok (.getfield 31, 3) := by decide +kernel
theorem d_Dv_split_21 : decode b_Dv_split 21 = .ok (.aload_n 2, 1) := by decide +kernel
theorem d_Dv_split_22 : decode b_Dv_split 22 = .ok (.getfield 31, 3) := by decide +kernel
theorem d_Dv_split_25 : decode b_Dv_split 25 = .ok (.if_icmp .ge 17, 3) := by decide +kernel
theorem d_Dv_split_28 : decode b_Dv_split 28 = .ok (.aload 4, 2) := by decide +kernel
theorem d_Dv_split_30 : decode b_Dv_split 30 = .ok (.aload_n 1, 1) := by decide +kernel
theorem d_Dv_split_31 : decode b_Dv_split 31 = .ok (.invokevirtual 35, 3) := by decide +kernel
theorem d_Dv_split_34 : decode b_Dv_split 34 = .ok (.aload_n 3, 1) := by decide +kernel
theorem d_Dv_split_35 : decode b_Dv_split 35 = .ok (.lconst 0, 1) := by decide +kernel
theorem d_Dv_split_36 : decode b_Dv_split 36 = .ok (.invokevirtual 39, 3) := by decide +kernel
theorem d_Dv_split_39 : decode b_Dv_split 39 = .ok (.goto 39, 3) := by decide +kernel
theorem d_Dv_split_42 : decode b_Dv_split 42 = .ok (.aload_n 2, 1) := by decide +kernel
theorem d_Dv_split_43 : decode b_Dv_split 43 = .ok (.getfield 31, 3) := by decide +kernel
theorem d_Dv_split_46 : decode b_Dv_split 46 = .ok (.iconst 1, 1) := by decide +kernel
theorem d_Dv_split_47 : decode b_Dv_split 47 = .ok (.if_icmp .ne 22, 3) := by decide +kernel
theorem d_Dv_split_50 : decode b_Dv_split 50 = .ok (.aload 4, 2) := by decide +kernel
theorem d_Dv_split_52 : decode b_Dv_split 52 = .ok (.aload_n 3, 1) := by decide +kernel
theorem d_Dv_split_53 : decode b_Dv_split 53 = .ok (.aload_n 1, 1) := by decide +kernel
theorem d_Dv_split_54 : decode b_Dv_split 54 = .ok (.aload_n 2, 1) := by decide +kernel
theorem d_Dv_split_55 : decode b_Dv_split 55 = .ok (.getfield 43, 3) := by decide +kernel
theorem d_Dv_split_58 : decode b_Dv_split 58 = .ok (.iconst 0, 1) := by decide +kernel
theorem d_Dv_split_59 : decode b_Dv_split 59 = .ok (.laload, 1) := by decide +kernel
theorem d_Dv_split_60 : decode b_Dv_split 60 = .ok (.invokevirtual 46, 3) := by decide +kernel
theorem d_Dv_split_63 : decode b_Dv_split 63 = .ok (.invokevirtual 39, 3) := by decide +kernel
theorem d_Dv_split_66 : decode b_Dv_split 66 = .ok (.goto 12, 3) := by decide +kernel
theorem d_Dv_split_69 : decode b_Dv_split 69 = .ok (.aload_n 0, 1) := by decide +kernel
theorem d_Dv_split_70 : decode b_Dv_split 70 = .ok (.aload_n 1, 1) := by decide +kernel
theorem d_Dv_split_71 : decode b_Dv_split 71 = .ok (.aload_n 2, 1) := by decide +kernel
theorem d_Dv_split_72 : decode b_Dv_split 72 = .ok (.aload_n 3, 1) := by decide +kernel
theorem d_Dv_split_73 : decode b_Dv_split 73 = .ok (.aload 4, 2) := by decide +kernel
theorem d_Dv_split_75 : decode b_Dv_split 75 = .ok (.invokevirtual 50, 3) := by decide +kernel
theorem d_Dv_split_78 : decode b_Dv_split 78 = .ok (.return_, 1) := by decide +kernel
theorem d_Dv_splitLong_0 : decode b_Dv_splitLong 0 = .ok (.aload_n 2, 1) := by decide +kernel
theorem d_Dv_splitLong_1 : decode b_Dv_splitLong 1 = .ok (.getfield 31, 3) := by decide +kernel
theorem d_Dv_splitLong_4 : decode b_Dv_splitLong 4 = .ok (.istore 5, 2) := by decide +kernel
theorem d_Dv_splitLong_6 : decode b_Dv_splitLong 6 = .ok (.aload_n 1, 1) := by decide +kernel
theorem d_Dv_splitLong_7 : decode b_Dv_splitLong 7 = .ok (.getfield 31, 3) := by decide +kernel
theorem d_Dv_splitLong_10 : decode b_Dv_splitLong 10 = .ok (.iload 5, 2) := by decide +kernel
theorem d_Dv_splitLong_12 : decode b_Dv_splitLong 12 = .ok (.isub, 1) := by decide +kernel
theorem d_Dv_splitLong_13 : decode b_Dv_splitLong 13 = .ok (.istore 6, 2) := by decide +kernel
theorem d_Dv_splitLong_15 : decode b_Dv_splitLong 15 = .ok (.aload_n 2, 1) := by decide +kernel
theorem d_Dv_splitLong_16 : decode b_Dv_splitLong 16 = .ok (.getfield 43, 3) := by decide +kernel
theorem d_Dv_splitLong_19 : decode b_Dv_splitLong 19 = .ok (.iload 5, 2) := by decide +kernel
theorem d_Dv_splitLong_21 : decode b_Dv_splitLong 21 = .ok (.iconst 1, 1) := by decide +kernel
theorem d_Dv_splitLong_22 : decode b_Dv_splitLong 22 = .ok (.isub, 1) := by decide +kernel
theorem d_Dv_splitLong_23 : decode b_Dv_splitLong 23 = .ok (.laload, 1) := by decide +kernel
theorem d_Dv_splitLong_24 : decode b_Dv_splitLong 24 = .ok (.invokestatic 54, 3) := by decide +kernel
theorem d_Dv_splitLong_27 : decode b_Dv_splitLong 27 = .ok (.ldc2_w 57, 3) := by decide +kernel
theorem d_Dv_splitLong_30 : decode b_Dv_splitLong 30 = .ok (.aload_n 2, 1) := by decide +kernel
theorem d_Dv_splitLong_31 : decode b_Dv_splitLong 31 = .ok (.getfield 43, 3) := by decide +kernel
theorem d_Dv_splitLong_34 : decode b_Dv_splitLong 34 = .ok (.iload 5, 2) := by decide +kernel
theorem d_Dv_splitLong_36 : decode b_Dv_splitLong 36 = .ok (.iconst 1, 1) := by decide +kernel
theorem d_Dv_splitLong_37 : decode b_Dv_splitLong 37 = .ok (.isub, 1) := by decide +kernel
theorem d_Dv_splitLong_38 : decode b_Dv_splitLong 38 = .ok (.laload, 1) := by decide +kernel
theorem d_Dv_splitLong_39 : decode b_Dv_splitLong 39 = .ok (.lconst 1, 1) := by decide +kernel
theorem d_Dv_splitLong_40 : decode b_Dv_splitLong 40 = .ok (.ladd, 1) := by decide +kernel
theorem d_Dv_splitLong_41 : decode b_Dv_splitLong 41 = .ok (.ldiv, 1) := by decide +kernel
theorem d_Dv_splitLong_42 : decode b_Dv_splitLong 42 = .ok (.lstore 7, 2) := by decide +kernel
theorem d_Dv_splitLong_44 : decode b_Dv_splitLong 44 = .ok (.aload_n 1, 1) := by decide +kernel
theorem d_Dv_splitLong_45 : decode b_Dv_splitLong 45 = .ok (.lload 7, 2) := by decide +kernel
theorem d_Dv_splitLong_47 : decode b_Dv_splitLong 47 = .ok (.aload_n 0, 1) := by decide +kernel
theorem d_Dv_splitLong_48 : decode b_Dv_splitLong 48 = .ok (.getfield 9, 3) := by decide +kernel
theorem d_Dv_splitLong_51 : decode b_Dv_splitLong 51 = .ok (.invokestatic 59, 3) := by decide +kernel
theorem d_Dv_splitLong_54 : decode b_Dv_splitLong 54 = .ok (.aload_n 2, 1) := by decide +kernel
theorem d_Dv_splitLong_55 : decode b_Dv_splitLong 55 = .ok (.lload 7, 2) := by decide +kernel
theorem d_Dv_splitLong_57 : decode b_Dv_splitLong 57 = .ok (.aload_n 0, 1) := by decide +kernel
theorem d_Dv_splitLong_58 : decode b_Dv_splitLong 58 = .ok (.getfield 15, 3) := by decide +kernel
theorem d_Dv_splitLong_61 : decode b_Dv_splitLong 61 = .ok (.invokestatic 59, 3) := by decide +kernel
theorem d_Dv_splitLong_64 : decode b_Dv_splitLong 64 = .ok (.aload_n 0, 1) := by decide +kernel
theorem d_Dv_splitLong_65 : decode b_Dv_splitLong 65 = .ok (.getfield 15, 3) := by decide +kernel
theorem d_Dv_splitLong_68 : decode b_Dv_splitLong 68 = .ok (.iload 5, 2) := by decide +kernel
theorem d_Dv_splitLong_70 : decode b_Dv_splitLong 70 = .ok (.iconst 1, 1) := by decide +kernel
theorem d_Dv_splitLong_71 : decode b_Dv_splitLong 71 = .ok (.isub, 1) := by decide +kernel
theorem d_Dv_splitLong_72 : decode b_Dv_splitLong 72 = .ok (.laload, 1) := by decide +kernel
theorem d_Dv_splitLong_73 : decode b_Dv_splitLong 73 = .ok (.invokestatic 54, 3) := by decide +kernel
theorem d_Dv_splitLong_76 : decode b_Dv_splitLong 76 = .ok (.iload 6, 2) := by decide +kernel
theorem d_Dv_splitLong_78 : decode b_Dv_splitLong 78 = .ok (.istore 9, 2) := by decide +kernel
theorem d_Dv_splitLong_80 : decode b_Dv_splitLong 80 = .ok (.iload 9, 2) := by decide +kernel
theorem d_Dv_splitLong_82 : decode b_Dv_splitLong 82 = .ok (.ifCond .lt 24, 3) := by decide +kernel
theorem d_Dv_splitLong_85 : decode b_Dv_splitLong 85 = .ok (.aload_n 3, 1) := by decide +kernel
theorem d_Dv_splitLong_86 : decode b_Dv_splitLong 86 = .ok (.getfield 43, 3) := by decide +kernel
theorem d_Dv_splitLong_89 : decode b_Dv_splitLong 89 = .ok (.iload 9, 2) := by decide +kernel
theorem d_Dv_splitLong_91 : decode b_Dv_splitLong 91 = .ok (.aload_n 0, 1) := by decide +kernel
theorem d_Dv_splitLong_92 : decode b_Dv_splitLong 92 = .ok (.iload 9, 2) := by decide +kernel
theorem d_Dv_splitLong_94 : decode b_Dv_splitLong 94 = .ok (.iload 5, 2) := by decide +kernel
theorem d_Dv_splitLong_96 : decode b_Dv_splitLong 96 = .ok (.invokevirtual 63, 3) := by decide +kernel
theorem d_Dv_splitLong_99 : decode b_Dv_splitLong 99 = .ok (.lastore, 1) := by decide +kernel
theorem d_Dv_splitLong_100 : decode b_Dv_splitLong 100 = .ok (.iinc 9 (-1), 3) := by decide +kernel
theorem d_Dv_splitLong_103 : decode b_Dv_splitLong 103 = .ok (.goto (-23), 3) := by decide +kernel
theorem d_Dv_splitLong_106 : decode b_Dv_splitLong 106 = .ok (.aload_n 3, 1) := by decide +kernel
theorem d_Dv_splitLong_107 : decode b_Dv_splitLong 107 = .ok (.iload 6, 2) := by decide +kernel
theorem d_Dv_splitLong_109 : decode b_Dv_splitLong 109 = .ok (.iconst 1, 1) := by decide +kernel
theorem d_Dv_splitLong_110 : decode b_Dv_splitLong 110 = .ok (.iadd, 1) := by decide +kernel
theorem d_Dv_splitLong_111 : decode b_Dv_splitLong 111 = .ok (.invokevirtual 67, 3) := by decide +kernel
theorem d_Dv_splitLong_114 : decode b_Dv_splitLong 114 = .ok (.aload_n 0, 1) := by decide +kernel
theorem d_Dv_splitLong_115 : decode b_Dv_splitLong 115 = .ok (.getfield 9, 3) := by decide +kernel
theorem d_Dv_splitLong_118 : decode b_Dv_splitLong 118 = .ok (.iconst 0, 1) := by decide +kernel
theorem d_Dv_splitLong_119 : decode b_Dv_splitLong 119 = .ok (.aload 4, 2) := by decide +kernel
theorem d_Dv_splitLong_121 : decode b_Dv_splitLong 121 = .ok (.getfield 43, 3) := by decide +kernel
theorem d_Dv_splitLong_124 : decode b_Dv_splitLong 124 = .ok (.iconst 0, 1) := by decide +kernel
theorem d_Dv_splitLong_125 : decode b_Dv_splitLong 125 = .ok (.iload 5, 2) := by decide +kernel
theorem d_Dv_splitLong_127 : decode b_Dv_splitLong 127 = .ok (.invokestatic 71, 3) := by decide +kernel
theorem d_Dv_splitLong_130 : decode b_Dv_splitLong 130 = .ok (.aload 4, 2) := by decide +kernel
theorem d_Dv_splitLong_132 : decode b_Dv_splitLong 132 = .ok (.iload 5, 2) := by decide +kernel
theorem d_Dv_splitLong_134 : decode b_Dv_splitLong 134 = .ok (.invokevirtual 67, 3) := by decide +kernel
theorem d_Dv_splitLong_137 : decode b_Dv_splitLong 137 = .ok (.aload 4, 2) := by decide +kernel
theorem d_Dv_splitLong_139 : decode b_Dv_splitLong 139 = .ok (.aload 4, 2) := by decide +kernel
theorem d_Dv_splitLong_141 : decode b_Dv_splitLong 141 = .ok (.lload 7, 2) := by decide +kernel
theorem d_Dv_splitLong_143 : decode b_Dv_splitLong 143 = .ok (.invokevirtual 46, 3) := by decide +kernel
theorem d_Dv_splitLong_146 : decode b_Dv_splitLong 146 = .ok (.pop2, 1) := by decide +kernel
theorem d_Dv_splitLong_147 : decode b_Dv_splitLong 147 = .ok (.return_, 1) := by decide +kernel
theorem d_Dv_lay_0 : decode b_Dv_lay 0 = .ok (.lconst 0, 1) := by decide +kernel
theorem d_Dv_lay_1 : decode b_Dv_lay 1 = .ok (.lstore 4, 2) := by decide +kernel
theorem d_Dv_lay_3 : decode b_Dv_lay 3 = .ok (.iconst 0, 1) := by decide +kernel
theorem d_Dv_lay_4 : decode b_Dv_lay 4 = .ok (.istore 6, 2) := by decide +kernel
theorem d_Dv_lay_6 : decode b_Dv_lay 6 = .ok (.iload 6, 2) := by decide +kernel
theorem d_Dv_lay_8 : decode b_Dv_lay 8 = .ok (.aload_n 0, 1) := by decide +kernel
theorem d_Dv_lay_9 : decode b_Dv_lay 9 = .ok (.getfield 31, 3) := by decide +kernel
theorem d_Dv_lay_12 : decode b_Dv_lay 12 = .ok (.if_icmp .ge 44, 3) := by decide +kernel
theorem d_Dv_lay_15 : decode b_Dv_lay 15 = .ok (.aload_n 0, 1) := by decide +kernel
theorem d_Dv_lay_16 : decode b_Dv_lay 16 = .ok (.getfield 43, 3) := by decide +kernel
theorem d_Dv_lay_19 : decode b_Dv_lay 19 = .ok (.iload 6, 2) := by decide +kernel
theorem d_Dv_lay_21 : decode b_Dv_lay 21 = .ok (.laload, 1) := by decide +kernel
theorem d_Dv_lay_22 : decode b_Dv_lay 22 = .ok (.lload_n 1, 1) := by decide +kernel
theorem d_Dv_lay_23 : decode b_Dv_lay 23 = .ok (.lmul, 1) := by decide +kernel
theorem d_Dv_lay_24 : decode b_Dv_lay 24 = .ok (.lload 4, 2) := by decide +kernel
theorem d_Dv_lay_26 : decode b_Dv_lay 26 = .ok (.ladd, 1) := by decide +kernel
theorem d_Dv_lay_27 : decode b_Dv_lay 27 = .ok (.lstore 7, 2) := by decide +kernel
theorem d_Dv_lay_29 : decode b_Dv_lay 29 = .ok (.lload 7, 2) := by decide +kernel
theorem d_Dv_lay_31 : decode b_Dv_lay 31 = .ok (.ldc2_w 57, 3) := by decide +kernel
theorem d_Dv_lay_34 : decode b_Dv_lay 34 = .ok (.ldiv, 1) := by decide +kernel
theorem d_Dv_lay_35 : decode b_Dv_lay 35 = .ok (.lstore 4, 2) := by decide +kernel
theorem d_Dv_lay_37 : decode b_Dv_lay 37 = .ok (.aload_n 3, 1) := by decide +kernel
theorem d_Dv_lay_38 : decode b_Dv_lay 38 = .ok (.iload 6, 2) := by decide +kernel
theorem d_Dv_lay_40 : decode b_Dv_lay 40 = .ok (.lload 7, 2) := by decide +kernel
theorem d_Dv_lay_42 : decode b_Dv_lay 42 = .ok (.lload 4, 2) := by decide +kernel
theorem d_Dv_lay_44 : decode b_Dv_lay 44 = .ok (.ldc2_w 57, 3) := by decide +kernel
theorem d_Dv_lay_47 : decode b_Dv_lay 47 = .ok (.lmul, 1) := by decide +kernel
theorem d_Dv_lay_48 : decode b_Dv_lay 48 = .ok (.lsub, 1) := by decide +kernel
theorem d_Dv_lay_49 : decode b_Dv_lay 49 = .ok (.lastore, 1) := by decide +kernel
theorem d_Dv_lay_50 : decode b_Dv_lay 50 = .ok (.iinc 6 1, 3) := by decide +kernel
theorem d_Dv_lay_53 : decode b_Dv_lay 53 = .ok (.goto (-47), 3) := by decide +kernel
theorem d_Dv_lay_56 : decode b_Dv_lay 56 = .ok (.aload_n 3, 1) := by decide +kernel
theorem d_Dv_lay_57 : decode b_Dv_lay 57 = .ok (.aload_n 0, 1) := by decide +kernel
theorem d_Dv_lay_58 : decode b_Dv_lay 58 = .ok (.getfield 31, 3) := by decide +kernel
theorem d_Dv_lay_61 : decode b_Dv_lay 61 = .ok (.lload 4, 2) := by decide +kernel
theorem d_Dv_lay_63 : decode b_Dv_lay 63 = .ok (.lastore, 1) := by decide +kernel
theorem d_Dv_lay_64 : decode b_Dv_lay 64 = .ok (.return_, 1) := by decide +kernel
theorem d_Dv_takeOff_0 : decode b_Dv_takeOff 0 = .ok (.aload_n 0, 1) := by decide +kernel
theorem d_Dv_takeOff_1 : decode b_Dv_takeOff 1 = .ok (.iload_n 1, 1) := by decide +kernel
theorem d_Dv_takeOff_2 : decode b_Dv_takeOff 2 = .ok (.iload_n 2, 1) := by decide +kernel
theorem d_Dv_takeOff_3 : decode b_Dv_takeOff 3 = .ok (.invokevirtual 77, 3) := by decide +kernel
theorem d_Dv_takeOff_6 : decode b_Dv_takeOff 6 = .ok (.lstore_n 3, 1) := by decide +kernel
theorem d_Dv_takeOff_7 : decode b_Dv_takeOff 7 = .ok (.lconst 0, 1) := by decide +kernel
theorem d_Dv_takeOff_8 : decode b_Dv_takeOff 8 = .ok (.lstore 5, 2) := by decide +kernel
theorem d_Dv_takeOff_10 : decode b_Dv_takeOff 10 = .ok (.iconst 0, 1) := by decide +kernel
theorem d_Dv_takeOff_11 : decode b_Dv_takeOff 11 = .ok (.istore 7, 2) := by decide +kernel
theorem d_Dv_takeOff_13 : decode b_Dv_takeOff 13 = .ok (.iload 7, 2) := by decide +kernel
theorem d_Dv_takeOff_15 : decode b_Dv_takeOff 15 = .ok (.iload_n 2, 1) := by decide +kernel
theorem d_Dv_takeOff_16 : decode b_Dv_takeOff 16 = .ok (.if_icmp .ge 62, 3) := by decide +kernel
theorem d_Dv_takeOff_19 : decode b_Dv_takeOff 19 = .ok (.aload_n 0, 1) := by decide +kernel
theorem d_Dv_takeOff_20 : decode b_Dv_takeOff 20 = .ok (.getfield 9, 3) := by decide +kernel
theorem d_Dv_takeOff_23 : decode b_Dv_takeOff 23 = .ok (.iload_n 1, 1) := by decide +kernel
theorem d_Dv_takeOff_24 : decode b_Dv_takeOff 24 = .ok (.iload 7, 2) := by decide +kernel
theorem d_Dv_takeOff_26 : decode b_Dv_takeOff 26 = .ok (.iadd, 1) := by decide +kernel
theorem d_Dv_takeOff_27 : decode b_Dv_takeOff 27 = .ok (.laload, 1) := by decide +kernel
theorem d_Dv_takeOff_28 : decode b_Dv_takeOff 28 = .ok (.lload_n 3, 1) := by decide +kernel
theorem d_Dv_takeOff_29 : decode b_Dv_takeOff 29 = .ok (.aload_n 0, 1) := by decide +kernel
theorem d_Dv_takeOff_30 : decode b_Dv_takeOff 30 = .ok (.getfield 15, 3) := by decide +kernel
theorem d_Dv_takeOff_33 : decode b_Dv_takeOff 33 = .ok (.iload 7, 2) := by decide +kernel
theorem d_Dv_takeOff_35 : decode b_Dv_takeOff 35 = .ok (.laload, 1) := by decide +kernel
theorem d_Dv_takeOff_36 : decode b_Dv_takeOff 36 = .ok (.lmul, 1) := by decide +kernel
theorem d_Dv_takeOff_37 : decode b_Dv_takeOff 37 = .ok (.lsub, 1) := by decide +kernel
theorem d_Dv_takeOff_38 : decode b_Dv_takeOff 38 = .ok (.lload 5, 2) := by decide +kernel
theorem d_Dv_takeOff_40 : decode b_Dv_takeOff 40 = .ok (.lsub, 1) := by decide +kernel
theorem d_Dv_takeOff_41 : decode b_Dv_takeOff 41 = .ok (.lstore 8, 2) := by decide +kernel
theorem d_Dv_takeOff_43 : decode b_Dv_takeOff 43 = .ok (.lload 8, 2) := by decide +kernel
theorem d_Dv_takeOff_45 : decode b_Dv_takeOff 45 = .ok (.ldc2_w 57, 3) := by decide +kernel
theorem d_Dv_takeOff_48 : decode b_Dv_takeOff 48 = .ok (.invokestatic 80, 3) := by decide +kernel
theorem d_Dv_takeOff_51 : decode b_Dv_takeOff 51 = .ok (.lneg, 1) := by decide +kernel
theorem d_Dv_takeOff_52 : decode b_Dv_takeOff 52 = .ok (.lstore 5, 2) := by decide +kernel
theorem d_Dv_takeOff_54 : decode b_Dv_takeOff 54 = .ok (.aload_n 0, 1) := by decide +kernel
theorem d_Dv_takeOff_55 : decode b_Dv_takeOff 55 = .ok (.getfield 9, 3) := by decide +kernel
theorem d_Dv_takeOff_58 : decode b_Dv_takeOff 58 = .ok (.iload_n 1, 1) := by decide +kernel
theorem d_Dv_takeOff_59 : decode b_Dv_takeOff 59 = .ok (.iload 7, 2) := by decide +kernel
theorem d_Dv_takeOff_61 : decode b_Dv_takeOff 61 = .ok (.iadd, 1) := by decide +kernel
theorem d_Dv_takeOff_62 : decode b_Dv_takeOff 62 = .ok (.lload 8, 2) := by decide +kernel
theorem d_Dv_takeOff_64 : decode b_Dv_takeOff 64 = .ok (.lload 5, 2) := by decide +kernel
theorem d_Dv_takeOff_66 : decode b_Dv_takeOff 66 = .ok (.ldc2_w 57, 3) := by decide +kernel
theorem d_Dv_takeOff_69 : decode b_Dv_takeOff 69 = .ok (.lmul, 1) := by decide +kernel
theorem d_Dv_takeOff_70 : decode b_Dv_takeOff 70 = .ok (.ladd, 1) := by decide +kernel
theorem d_Dv_takeOff_71 : decode b_Dv_takeOff 71 = .ok (.lastore, 1) := by decide +kernel
theorem d_Dv_takeOff_72 : decode b_Dv_takeOff 72 = .ok (.iinc 7 1, 3) := by decide +kernel
theorem d_Dv_takeOff_75 : decode b_Dv_takeOff 75 = .ok (.goto (-62), 3) := by decide +kernel
theorem d_Dv_takeOff_78 : decode b_Dv_takeOff 78 = .ok (.aload_n 0, 1) := by decide +kernel
theorem d_Dv_takeOff_79 : decode b_Dv_takeOff 79 = .ok (.getfield 9, 3) := by decide +kernel
theorem d_Dv_takeOff_82 : decode b_Dv_takeOff 82 = .ok (.iload_n 1, 1) := by decide +kernel
theorem d_Dv_takeOff_83 : decode b_Dv_takeOff 83 = .ok (.iload_n 2, 1) := by decide +kernel
theorem d_Dv_takeOff_84 : decode b_Dv_takeOff 84 = .ok (.iadd, 1) := by decide +kernel
theorem d_Dv_takeOff_85 : decode b_Dv_takeOff 85 = .ok (.dup2, 1) := by decide +kernel
theorem d_Dv_takeOff_86 : decode b_Dv_takeOff 86 = .ok (.laload, 1) := by decide +kernel
theorem d_Dv_takeOff_87 : decode b_Dv_takeOff 87 = .ok (.lload 5, 2) := by decide +kernel
theorem d_Dv_takeOff_89 : decode b_Dv_takeOff 89 = .ok (.lsub, 1) := by decide +kernel
theorem d_Dv_takeOff_90 : decode b_Dv_takeOff 90 = .ok (.lastore, 1) := by decide +kernel
theorem d_Dv_takeOff_91 : decode b_Dv_takeOff 91 = .ok (.aload_n 0, 1) := by decide +kernel
theorem d_Dv_takeOff_92 : decode b_Dv_takeOff 92 = .ok (.getfield 9, 3) := by decide +kernel
theorem d_Dv_takeOff_95 : decode b_Dv_takeOff 95 = .ok (.iload_n 1, 1) := by decide +kernel
theorem d_Dv_takeOff_96 : decode b_Dv_takeOff 96 = .ok (.iload_n 2, 1) := by decide +kernel
theorem d_Dv_takeOff_97 : decode b_Dv_takeOff 97 = .ok (.iadd, 1) := by decide +kernel
theorem d_Dv_takeOff_98 : decode b_Dv_takeOff 98 = .ok (.laload, 1) := by decide +kernel
theorem d_Dv_takeOff_99 : decode b_Dv_takeOff 99 = .ok (.lconst 0, 1) := by decide +kernel
theorem d_Dv_takeOff_100 : decode b_Dv_takeOff 100 = .ok (.lcmp, 1) := by decide +kernel
theorem d_Dv_takeOff_101 : decode b_Dv_takeOff 101 = .ok (.ifCond .ge 13, 3) := by decide +kernel
theorem d_Dv_takeOff_104 : decode b_Dv_takeOff 104 = .ok (.aload_n 0, 1) := by decide +kernel
theorem d_Dv_takeOff_105 : decode b_Dv_takeOff 105 = .ok (.iload_n 1, 1) := by decide +kernel
theorem d_Dv_takeOff_106 : decode b_Dv_takeOff 106 = .ok (.iload_n 2, 1) := by decide +kernel
theorem d_Dv_takeOff_107 : decode b_Dv_takeOff 107 = .ok (.invokevirtual 86, 3) := by decide +kernel
theorem d_Dv_takeOff_110 : decode b_Dv_takeOff 110 = .ok (.lload_n 3, 1) := by decide +kernel
theorem d_Dv_takeOff_111 : decode b_Dv_takeOff 111 = .ok (.lconst 1, 1) := by decide +kernel
theorem d_Dv_takeOff_112 : decode b_Dv_takeOff 112 = .ok (.lsub, 1) := by decide +kernel
theorem d_Dv_takeOff_113 : decode b_Dv_takeOff 113 = .ok (.lstore_n 3, 1) := by decide +kernel
theorem d_Dv_takeOff_114 : decode b_Dv_takeOff 114 = .ok (.lload_n 3, 1) := by decide +kernel
theorem d_Dv_takeOff_115 : decode b_Dv_takeOff 115 = .ok (.lreturn, 1) := by decide +kernel
theorem d_Dv_guess_0 : decode b_Dv_guess 0 = .ok (.iload_n 1, 1) := by decide +kernel
theorem d_Dv_guess_1 : decode b_Dv_guess 1 = .ok (.iload_n 2, 1) := by decide +kernel
theorem d_Dv_guess_2 : decode b_Dv_guess 2 = .ok (.iadd, 1) := by decide +kernel
theorem d_Dv_guess_3 : decode b_Dv_guess 3 = .ok (.istore_n 3, 1) := by decide +kernel
theorem d_Dv_guess_4 : decode b_Dv_guess 4 = .ok (.aload_n 0, 1) := by decide +kernel
theorem d_Dv_guess_5 : decode b_Dv_guess 5 = .ok (.getfield 9, 3) := by decide +kernel
theorem d_Dv_guess_8 : decode b_Dv_guess 8 = .ok (.iload_n 3, 1) := by decide +kernel
theorem d_Dv_guess_9 : decode b_Dv_guess 9 = .ok (.laload, 1) := by decide +kernel
theorem d_Dv_guess_10 : decode b_Dv_guess 10 = .ok (.ldc2_w 57, 3) := by decide +kernel
theorem d_Dv_guess_13 : decode b_Dv_guess 13 = .ok (.lmul, 1) := by decide +kernel
theorem d_Dv_guess_14 : decode b_Dv_guess 14 = .ok (.aload_n 0, 1) := by decide +kernel
theorem d_Dv_guess_15 : decode b_Dv_guess 15 = .ok (.getfield 9, 3) := by decide +kernel
theorem d_Dv_guess_18 : decode b_Dv_guess 18 = .ok (.iload_n 3, 1) := by decide +kernel
theorem d_Dv_guess_19 : decode b_Dv_guess 19 = .ok (.iconst 1, 1) := by decide +kernel
theorem d_Dv_guess_20 : decode b_Dv_guess 20 = .ok (.isub, 1) := by decide +kernel
theorem d_Dv_guess_21 : decode b_Dv_guess 21 = .ok (.laload, 1) := by decide +kernel
theorem d_Dv_guess_22 : decode b_Dv_guess 22 = .ok (.ladd, 1) := by decide +kernel
theorem d_Dv_guess_23 : decode b_Dv_guess 23 = .ok (.lstore 4, 2) := by decide +kernel
theorem d_Dv_guess_25 : decode b_Dv_guess 25 = .ok (.lload 4, 2) := by decide +kernel
theorem d_Dv_guess_27 : decode b_Dv_guess 27 = .ok (.aload_n 0, 1) := by decide +kernel
theorem d_Dv_guess_28 : decode b_Dv_guess 28 = .ok (.getfield 15, 3) := by decide +kernel
theorem d_Dv_guess_31 : decode b_Dv_guess 31 = .ok (.iload_n 2, 1) := by decide +kernel
theorem d_Dv_guess_32 : decode b_Dv_guess 32 = .ok (.iconst 1, 1) := by decide +kernel
theorem d_Dv_guess_33 : decode b_Dv_guess 33 = .ok (.isub, 1) := by decide +kernel
theorem d_Dv_guess_34 : decode b_Dv_guess 34 = .ok (.laload, 1) := by decide +kernel
theorem d_Dv_guess_35 : decode b_Dv_guess 35 = .ok (.ldiv, 1) := by decide +kernel
theorem d_Dv_guess_36 : decode b_Dv_guess 36 = .ok (.lstore 6, 2) := by decide +kernel
theorem d_Dv_guess_38 : decode b_Dv_guess 38 = .ok (.lload 4, 2) := by decide +kernel
theorem d_Dv_guess_40 : decode b_Dv_guess 40 = .ok (.lload 6, 2) := by decide +kernel
theorem d_Dv_guess_42 : decode b_Dv_guess 42 = .ok (.aload_n 0, 1) := by decide +kernel
theorem d_Dv_guess_43 : decode b_Dv_guess 43 = .ok (.getfield 15, 3) := by decide +kernel
theorem d_Dv_guess_46 : decode b_Dv_guess 46 = .ok (.iload_n 2, 1) := by decide +kernel
theorem d_Dv_guess_47 : decode b_Dv_guess 47 = .ok (.iconst 1, 1) := by decide +kernel
theorem d_Dv_guess_48 : decode b_Dv_guess 48 = .ok (.isub, 1) := by decide +kernel
theorem d_Dv_guess_49 : decode b_Dv_guess 49 = .ok (.laload, 1) := by decide +kernel
theorem d_Dv_guess_50 : decode b_Dv_guess 50 = .ok (.lmul, 1) := by decide +kernel
theorem d_Dv_guess_51 : decode b_Dv_guess 51 = .ok (.lsub, 1) := by decide +kernel
theorem d_Dv_guess_52 : decode b_Dv_guess 52 = .ok (.lstore 8, 2) := by decide +kernel
theorem d_Dv_guess_54 : decode b_Dv_guess 54 = .ok (.iconst 0, 1) := by decide +kernel
theorem d_Dv_guess_55 : decode b_Dv_guess 55 = .ok (.istore 10, 2) := by decide +kernel
theorem d_Dv_guess_57 : decode b_Dv_guess 57 = .ok (.iload 10, 2) := by decide +kernel
theorem d_Dv_guess_59 : decode b_Dv_guess 59 = .ok (.iconst 2, 1) := by decide +kernel
theorem d_Dv_guess_60 : decode b_Dv_guess 60 = .ok (.if_icmp .ge 79, 3) := by decide +kernel
theorem d_Dv_guess_63 : decode b_Dv_guess 63 = .ok (.lload 8, 2) := by decide +kernel
theorem d_Dv_guess_65 : decode b_Dv_guess 65 = .ok (.ldc2_w 57, 3) := by decide +kernel
theorem d_Dv_guess_68 : decode b_Dv_guess 68 = .ok (.lcmp, 1) := by decide +kernel
theorem d_Dv_guess_69 : decode b_Dv_guess 69 = .ok (.ifCond .ge 70, 3) := by decide +kernel
theorem d_Dv_guess_72 : decode b_Dv_guess 72 = .ok (.lload 6, 2) := by decide +kernel
theorem d_Dv_guess_74 : decode b_Dv_guess 74 = .ok (.ldc2_w 57, 3) := by decide +kernel
theorem d_Dv_guess_77 : decode b_Dv_guess 77 = .ok (.lcmp, 1) := by decide +kernel
theorem d_Dv_guess_78 : decode b_Dv_guess 78 = .ok (.ifCond .ge 36, 3) := by decide +kernel
theorem d_Dv_guess_81 : decode b_Dv_guess 81 = .ok (.lload 6, 2) := by decide +kernel
theorem d_Dv_guess_83 : decode b_Dv_guess 83 = .ok (.aload_n 0, 1) := by decide +kernel
theorem d_Dv_guess_84 : decode b_Dv_guess 84 = .ok (.getfield 15, 3) := by decide +kernel
theorem d_Dv_guess_87 : decode b_Dv_guess 87 = .ok (.iload_n 2, 1) := by decide +kernel
theorem d_Dv_guess_88 : decode b_Dv_guess 88 = .ok (.iconst 2, 1) := by decide +kernel
theorem d_Dv_guess_89 : decode b_Dv_guess 89 = .ok (.isub, 1) := by decide +kernel
theorem d_Dv_guess_90 : decode b_Dv_guess 90 = .ok (.laload, 1) := by decide +kernel
theorem d_Dv_guess_91 : decode b_Dv_guess 91 = .ok (.lmul, 1) := by decide +kernel
theorem d_Dv_guess_92 : decode b_Dv_guess 92 = .ok (.lload 8, 2) := by decide +kernel
theorem d_Dv_guess_94 : decode b_Dv_guess 94 = .ok (.ldc2_w 57, 3) := by decide +kernel
theorem d_Dv_guess_97 : decode b_Dv_guess 97 = .ok (.lmul, 1) := by decide +kernel
theorem d_Dv_guess_98 : decode b_Dv_guess 98 = .ok (.aload_n 0, 1) := by decide +kernel
theorem d_Dv_guess_99 : decode b_Dv_guess 99 = .ok (.getfield 9, 3) := by decide +kernel
theorem d_Dv_guess_102 : decode b_Dv_guess 102 = .ok (.iload_n 3, 1) := by decide +kernel
theorem d_Dv_guess_103 : decode b_Dv_guess 103 = .ok (.iconst 2, 1) := by decide +kernel
theorem d_Dv_guess_104 : decode b_Dv_guess 104 = .ok (.isub, 1) := by decide +kernel
theorem d_Dv_guess_105 : decode b_Dv_guess 105 = .ok (.laload, 1) := by decide +kernel
theorem d_Dv_guess_106 : decode b_Dv_guess 106 = .ok (.ladd, 1) := by decide +kernel
theorem d_Dv_guess_107 : decode b_Dv_guess 107 = .ok (.lcmp, 1) := by decide +kernel
theorem d_Dv_guess_108 : decode b_Dv_guess 108 = .ok (.ifCond .gt 6, 3) := by decide +kernel
theorem d_Dv_guess_111 : decode b_Dv_guess 111 = .ok (.goto 28, 3) := by decide +kernel
theorem d_Dv_guess_114 : decode b_Dv_guess 114 = .ok (.lload 6, 2) := by decide +kernel
theorem d_Dv_guess_116 : decode b_Dv_guess 116 = .ok (.lconst 1, 1) := by decide +kernel
theorem d_Dv_guess_117 : decode b_Dv_guess 117 = .ok (.lsub, 1) := by decide +kernel
theorem d_Dv_guess_118 : decode b_Dv_guess 118 = .ok (.lstore 6, 2) := by decide +kernel
theorem d_Dv_guess_120 : decode b_Dv_guess 120 = .ok (.lload 8, 2) := by decide +kernel
theorem d_Dv_guess_122 : decode b_Dv_guess 122 = .ok (.aload_n 0, 1) := by decide +kernel
theorem d_Dv_guess_123 : decode b_Dv_guess 123 = .ok (.getfield 15, 3) := by decide +kernel
theorem d_Dv_guess_126 : decode b_Dv_guess 126 = .ok (.iload_n 2, 1) := by decide +kernel
theorem d_Dv_guess_127 : decode b_Dv_guess 127 = .ok (.iconst 1, 1) := by decide +kernel
theorem d_Dv_guess_128 : decode b_Dv_guess 128 = .ok (.isub, 1) := by decide +kernel
theorem d_Dv_guess_129 : decode b_Dv_guess 129 = .ok (.laload, 1) := by decide +kernel
theorem d_Dv_guess_130 : decode b_Dv_guess 130 = .ok (.ladd, 1) := by decide +kernel
theorem d_Dv_guess_131 : decode b_Dv_guess 131 = .ok (.lstore 8, 2) := by decide +kernel
theorem d_Dv_guess_133 : decode b_Dv_guess 133 = .ok (.iinc 10 1, 3) := by decide +kernel
theorem d_Dv_guess_136 : decode b_Dv_guess 136 = .ok (.goto (-79), 3) := by decide +kernel
theorem d_Dv_guess_139 : decode b_Dv_guess 139 = .ok (.lload 6, 2) := by decide +kernel
theorem d_Dv_guess_141 : decode b_Dv_guess 141 = .ok (.lreturn, 1) := by decide +kernel
theorem d_Dv_putBack_0 : decode b_Dv_putBack 0 = .ok (.lconst 0, 1) := by decide +kernel
theorem d_Dv_putBack_1 : decode b_Dv_putBack 1 = .ok (.lstore_n 3, 1) := by decide +kernel
theorem d_Dv_putBack_2 : decode b_Dv_putBack 2 = .ok (.iconst 0, 1) := by decide +kernel
theorem d_Dv_putBack_3 : decode b_Dv_putBack 3 = .ok (.istore 5, 2) := by decide +kernel
theorem d_Dv_putBack_5 : decode b_Dv_putBack 5 = .ok (.iload 5, 2) := by decide +kernel
theorem d_Dv_putBack_7 : decode b_Dv_putBack 7 = .ok (.iload_n 2, 1) := by decide +kernel
theorem d_Dv_putBack_8 : decode b_Dv_putBack 8 = .ok (.if_icmp .ge 62, 3) := by decide +kernel
theorem d_Dv_putBack_11 : decode b_Dv_putBack 11 = .ok (.aload_n 0, 1) := by decide +kernel
theorem d_Dv_putBack_12 : decode b_Dv_putBack 12 = .ok (.getfield 9, 3) := by decide +kernel
theorem d_Dv_putBack_15 : decode b_Dv_putBack 15 = .ok (.iload_n 1, 1) := by decide +kernel
theorem d_Dv_putBack_16 : decode b_Dv_putBack 16 = .ok (.iload 5, 2) := by decide +kernel
theorem d_Dv_putBack_18 : decode b_Dv_putBack 18 = .ok (.iadd, 1) := by decide +kernel
theorem d_Dv_putBack_19 : decode b_Dv_putBack 19 = .ok (.laload, 1) := by decide +kernel
theorem d_Dv_putBack_20 : decode b_Dv_putBack 20 = .ok (.aload_n 0, 1) := by decide +kernel
theorem d_Dv_putBack_21 : decode b_Dv_putBack 21 = .ok (.getfield 15, 3) := by decide +kernel
theorem d_Dv_putBack_24 : decode b_Dv_putBack 24 = .ok (.iload 5, 2) := by decide +kernel
theorem d_Dv_putBack_26 : decode b_Dv_putBack 26 = .ok (.laload, 1) := by decide +kernel
theorem d_Dv_putBack_27 : decode b_Dv_putBack 27 = .ok (.ladd, 1) := by decide +kernel
theorem d_Dv_putBack_28 : decode b_Dv_putBack 28 = .ok (.lload_n 3, 1) := by decide +kernel
theorem d_Dv_putBack_29 : decode b_Dv_putBack 29 = .ok (.ladd, 1) := by decide +kernel
theorem d_Dv_putBack_30 : decode b_Dv_putBack 30 = .ok (.lstore 6, 2) := by decide +kernel
theorem d_Dv_putBack_32 : decode b_Dv_putBack 32 = .ok (.lload 6, 2) := by decide +kernel
theorem d_Dv_putBack_34 : decode b_Dv_putBack 34 = .ok (.ldc2_w 57, 3) := by decide +kernel
theorem d_Dv_putBack_37 : decode b_Dv_putBack 37 = .ok (.lcmp, 1) := by decide +kernel
theorem d_Dv_putBack_38 : decode b_Dv_putBack 38 = .ok (.ifCond .lt 7, 3) := by decide +kernel
theorem d_Dv_putBack_41 : decode b_Dv_putBack 41 = .ok (.lconst 1, 1) := by decide +kernel
theorem d_Dv_putBack_42 : decode b_Dv_putBack 42 = .ok (.goto 4, 3) := by decide +kernel
theorem d_Dv_putBack_45 : decode b_Dv_putBack 45 = .ok (.lconst 0, 1) := by decide +kernel
theorem d_Dv_putBack_46 : decode b_Dv_putBack 46 = .ok (.lstore_n 3, 1) := by decide +kernel
theorem d_Dv_putBack_47 : decode b_Dv_putBack 47 = .ok (.aload_n 0, 1) := by decide +kernel
theorem d_Dv_putBack_48 : decode b_Dv_putBack 48 = .ok (.getfield 9, 3) := by decide +kernel
theorem d_Dv_putBack_51 : decode b_Dv_putBack 51 = .ok (.iload_n 1, 1) := by decide +kernel
theorem d_Dv_putBack_52 : decode b_Dv_putBack 52 = .ok (.iload 5, 2) := by decide +kernel
theorem d_Dv_putBack_54 : decode b_Dv_putBack 54 = .ok (.iadd, 1) := by decide +kernel
theorem d_Dv_putBack_55 : decode b_Dv_putBack 55 = .ok (.lload 6, 2) := by decide +kernel
theorem d_Dv_putBack_57 : decode b_Dv_putBack 57 = .ok (.lload_n 3, 1) := by decide +kernel
theorem d_Dv_putBack_58 : decode b_Dv_putBack 58 = .ok (.ldc2_w 57, 3) := by decide +kernel
theorem d_Dv_putBack_61 : decode b_Dv_putBack 61 = .ok (.lmul, 1) := by decide +kernel
theorem d_Dv_putBack_62 : decode b_Dv_putBack 62 = .ok (.lsub, 1) := by decide +kernel
theorem d_Dv_putBack_63 : decode b_Dv_putBack 63 = .ok (.lastore, 1) := by decide +kernel
theorem d_Dv_putBack_64 : decode b_Dv_putBack 64 = .ok (.iinc 5 1, 3) := by decide +kernel
theorem d_Dv_putBack_67 : decode b_Dv_putBack 67 = .ok (.goto (-62), 3) := by decide +kernel
theorem d_Dv_putBack_70 : decode b_Dv_putBack 70 = .ok (.aload_n 0, 1) := by decide +kernel
theorem d_Dv_putBack_71 : decode b_Dv_putBack 71 = .ok (.getfield 9, 3) := by decide +kernel
theorem d_Dv_putBack_74 : decode b_Dv_putBack 74 = .ok (.iload_n 1, 1) := by decide +kernel
theorem d_Dv_putBack_75 : decode b_Dv_putBack 75 = .ok (.iload_n 2, 1) := by decide +kernel
theorem d_Dv_putBack_76 : decode b_Dv_putBack 76 = .ok (.iadd, 1) := by decide +kernel
theorem d_Dv_putBack_77 : decode b_Dv_putBack 77 = .ok (.dup2, 1) := by decide +kernel
theorem d_Dv_putBack_78 : decode b_Dv_putBack 78 = .ok (.laload, 1) := by decide +kernel
theorem d_Dv_putBack_79 : decode b_Dv_putBack 79 = .ok (.lload_n 3, 1) := by decide +kernel
theorem d_Dv_putBack_80 : decode b_Dv_putBack 80 = .ok (.ladd, 1) := by decide +kernel
theorem d_Dv_putBack_81 : decode b_Dv_putBack 81 = .ok (.lastore, 1) := by decide +kernel
theorem d_Dv_putBack_82 : decode b_Dv_putBack 82 = .ok (.return_, 1) := by decide +kernel
