theorem dX8_init_0 : decode cX8_init 0 = .ok (.aload_n 0, 1) := by decide +kernel
theorem dX8_init_1 : decode cX8_init 1 = .ok (.invokespecial 1, 3) := by decide +kernel
theorem dX8_init_4 : decode cX8_init 4 = .ok (.aload_n 0, 1) := by decide +kernel
theorem dX8_init_5 : decode cX8_init 5 = .ok (.sipush 7896, 3) := by decide +kernel
theorem dX8_init_8 : decode cX8_init 8 = .ok (.newarray .long, 2) := by decide +kernel
theorem dX8_init_10 : decode cX8_init 10 = .ok (.putfield 7, 3) := by decide +kernel
theorem dX8_init_13 : decode cX8_init 13 = .ok (.aload_n 0, 1) := by decide +kernel
theorem dX8_init_14 : decode cX8_init 14 = .ok (.bipush 80, 2) := by decide +kernel
theorem dX8_init_16 : decode cX8_init 16 = .ok (.newarray .int, 2) := by decide +kernel
theorem dX8_init_18 : decode cX8_init 18 = .ok (.putfield 13, 3) := by decide +kernel
theorem dX8_init_21 : decode cX8_init 21 = .ok (.aload_n 0, 1) := by decide +kernel
theorem dX8_init_22 : decode cX8_init 22 = .ok (.bipush 8, 2) := by decide +kernel
theorem dX8_init_24 : decode cX8_init 24 = .ok (.newarray .long, 2) := by decide +kernel
theorem dX8_init_26 : decode cX8_init 26 = .ok (.putfield 17, 3) := by decide +kernel
theorem dX8_init_29 : decode cX8_init 29 = .ok (.aload_n 0, 1) := by decide +kernel
theorem dX8_init_30 : decode cX8_init 30 = .ok (.bipush 80, 2) := by decide +kernel
theorem dX8_init_32 : decode cX8_init 32 = .ok (.newarray .int, 2) := by decide +kernel
theorem dX8_init_34 : decode cX8_init 34 = .ok (.putfield 20, 3) := by decide +kernel
theorem dX8_init_37 : decode cX8_init 37 = .ok (.aload_n 0, 1) := by decide +kernel
theorem dX8_init_38 : decode cX8_init 38 = .ok (.bipush 80, 2) := by decide +kernel
theorem dX8_init_40 : decode cX8_init 40 = .ok (.newarray .int, 2) := by decide +kernel
theorem dX8_init_42 : decode cX8_init 42 = .ok (.putfield 23, 3) := by decide +kernel
theorem dX8_init_45 : decode cX8_init 45 = .ok (.aload_n 0, 1) := by decide +kernel
theorem dX8_init_46 : decode cX8_init 46 = .ok (.bipush 80, 2) := by decide +kernel
theorem dX8_init_48 : decode cX8_init 48 = .ok (.newarray .int, 2) := by decide +kernel
theorem dX8_init_50 : decode cX8_init 50 = .ok (.putfield 26, 3) := by decide +kernel
theorem dX8_init_53 : decode cX8_init 53 = .ok (.aload_n 0, 1) := by decide +kernel
theorem dX8_init_54 : decode cX8_init 54 = .ok (.bipush 80, 2) := by decide +kernel
theorem dX8_init_56 : decode cX8_init 56 = .ok (.newarray .int, 2) := by decide +kernel
theorem dX8_init_58 : decode cX8_init 58 = .ok (.putfield 29, 3) := by decide +kernel
theorem dX8_init_61 : decode cX8_init 61 = .ok (.aload_n 0, 1) := by decide +kernel
theorem dX8_init_62 : decode cX8_init 62 = .ok (.bipush 80, 2) := by decide +kernel
theorem dX8_init_64 : decode cX8_init 64 = .ok (.newarray .int, 2) := by decide +kernel
theorem dX8_init_66 : decode cX8_init 66 = .ok (.putfield 32, 3) := by decide +kernel
theorem dX8_init_69 : decode cX8_init 69 = .ok (.aload_n 0, 1) := by decide +kernel
theorem dX8_init_70 : decode cX8_init 70 = .ok (.iconst 3, 1) := by decide +kernel
theorem dX8_init_71 : decode cX8_init 71 = .ok (.newarray .int, 2) := by decide +kernel
theorem dX8_init_73 : decode cX8_init 73 = .ok (.putfield 35, 3) := by decide +kernel
theorem dX8_init_76 : decode cX8_init 76 = .ok (.aload_n 0, 1) := by decide +kernel
theorem dX8_init_77 : decode cX8_init 77 = .ok (.bipush 80, 2) := by decide +kernel
theorem dX8_init_79 : decode cX8_init 79 = .ok (.newarray .int, 2) := by decide +kernel
theorem dX8_init_81 : decode cX8_init 81 = .ok (.putfield 38, 3) := by decide +kernel
theorem dX8_init_84 : decode cX8_init 84 = .ok (.iconst 0, 1) := by decide +kernel
theorem dX8_init_85 : decode cX8_init 85 = .ok (.istore_n 1, 1) := by decide +kernel
theorem dX8_init_86 : decode cX8_init 86 = .ok (.iload_n 1, 1) := by decide +kernel
theorem dX8_init_87 : decode cX8_init 87 = .ok (.iconst 4, 1) := by decide +kernel
theorem dX8_init_88 : decode cX8_init 88 = .ok (.if_icmp .ge 52, 3) := by decide +kernel
theorem dX8_init_91 : decode cX8_init 91 = .ok (.aload_n 0, 1) := by decide +kernel
theorem dX8_init_92 : decode cX8_init 92 = .ok (.getfield 7, 3) := by decide +kernel
theorem dX8_init_95 : decode cX8_init 95 = .ok (.iconst 0, 1) := by decide +kernel
theorem dX8_init_96 : decode cX8_init 96 = .ok (.iconst 3, 1) := by decide +kernel
theorem dX8_init_97 : decode cX8_init 97 = .ok (.iload_n 1, 1) := by decide +kernel
theorem dX8_init_98 : decode cX8_init 98 = .ok (.imul, 1) := by decide +kernel
theorem dX8_init_99 : decode cX8_init 99 = .ok (.iadd, 1) := by decide +kernel
theorem dX8_init_100 : decode cX8_init 100 = .ok (.ldc2_w 41, 3) := by decide +kernel
theorem dX8_init_103 : decode cX8_init 103 = .ok (.lastore, 1) := by decide +kernel
theorem dX8_init_104 : decode cX8_init 104 = .ok (.aload_n 0, 1) := by decide +kernel
theorem dX8_init_105 : decode cX8_init 105 = .ok (.getfield 7, 3) := by decide +kernel
theorem dX8_init_108 : decode cX8_init 108 = .ok (.iconst 0, 1) := by decide +kernel
theorem dX8_init_109 : decode cX8_init 109 = .ok (.iconst 3, 1) := by decide +kernel
theorem dX8_init_110 : decode cX8_init 110 = .ok (.iload_n 1, 1) := by decide +kernel
theorem dX8_init_111 : decode cX8_init 111 = .ok (.imul, 1) := by decide +kernel
theorem dX8_init_112 : decode cX8_init 112 = .ok (.iadd, 1) := by decide +kernel
theorem dX8_init_113 : decode cX8_init 113 = .ok (.iconst 1, 1) := by decide +kernel
theorem dX8_init_114 : decode cX8_init 114 = .ok (.iadd, 1) := by decide +kernel
theorem dX8_init_115 : decode cX8_init 115 = .ok (.ldc2_w 43, 3) := by decide +kernel
theorem dX8_init_118 : decode cX8_init 118 = .ok (.lastore, 1) := by decide +kernel
theorem dX8_init_119 : decode cX8_init 119 = .ok (.aload_n 0, 1) := by decide +kernel
theorem dX8_init_120 : decode cX8_init 120 = .ok (.getfield 7, 3) := by decide +kernel
theorem dX8_init_123 : decode cX8_init 123 = .ok (.iconst 0, 1) := by decide +kernel
theorem dX8_init_124 : decode cX8_init 124 = .ok (.iconst 3, 1) := by decide +kernel
theorem dX8_init_125 : decode cX8_init 125 = .ok (.iload_n 1, 1) := by decide +kernel
theorem dX8_init_126 : decode cX8_init 126 = .ok (.imul, 1) := by decide +kernel
theorem dX8_init_127 : decode cX8_init 127 = .ok (.iadd, 1) := by decide +kernel
theorem dX8_init_128 : decode cX8_init 128 = .ok (.iconst 2, 1) := by decide +kernel
theorem dX8_init_129 : decode cX8_init 129 = .ok (.iadd, 1) := by decide +kernel
theorem dX8_init_130 : decode cX8_init 130 = .ok (.ldc2_w 45, 3) := by decide +kernel
theorem dX8_init_133 : decode cX8_init 133 = .ok (.lastore, 1) := by decide +kernel
theorem dX8_init_134 : decode cX8_init 134 = .ok (.iinc 1 1, 3) := by decide +kernel
theorem dX8_init_137 : decode cX8_init 137 = .ok (.goto (-51), 3) := by decide +kernel
theorem dX8_init_140 : decode cX8_init 140 = .ok (.aload_n 0, 1) := by decide +kernel
theorem dX8_init_141 : decode cX8_init 141 = .ok (.getfield 7, 3) := by decide +kernel
theorem dX8_init_144 : decode cX8_init 144 = .ok (.bipush 28, 2) := by decide +kernel
theorem dX8_init_146 : decode cX8_init 146 = .ok (.ldc2_w 41, 3) := by decide +kernel
theorem dX8_init_149 : decode cX8_init 149 = .ok (.lastore, 1) := by decide +kernel
theorem dX8_init_150 : decode cX8_init 150 = .ok (.aload_n 0, 1) := by decide +kernel
theorem dX8_init_151 : decode cX8_init 151 = .ok (.getfield 7, 3) := by decide +kernel
theorem dX8_init_154 : decode cX8_init 154 = .ok (.bipush 29, 2) := by decide +kernel
theorem dX8_init_156 : decode cX8_init 156 = .ok (.ldc2_w 47, 3) := by decide +kernel
theorem dX8_init_159 : decode cX8_init 159 = .ok (.lastore, 1) := by decide +kernel
theorem dX8_init_160 : decode cX8_init 160 = .ok (.aload_n 0, 1) := by decide +kernel
theorem dX8_init_161 : decode cX8_init 161 = .ok (.getfield 7, 3) := by decide +kernel
theorem dX8_init_164 : decode cX8_init 164 = .ok (.bipush 30, 2) := by decide +kernel
theorem dX8_init_166 : decode cX8_init 166 = .ok (.lconst 1, 1) := by decide +kernel
theorem dX8_init_167 : decode cX8_init 167 = .ok (.lastore, 1) := by decide +kernel
theorem dX8_init_168 : decode cX8_init 168 = .ok (.return_, 1) := by decide +kernel
theorem dX8_in_0 : decode cX8_in 0 = .ok (.iload_n 0, 1) := by decide +kernel
theorem dX8_in_1 : decode cX8_in 1 = .ok (.iload_n 1, 1) := by decide +kernel
theorem dX8_in_2 : decode cX8_in 2 = .ok (.if_icmp .lt 12, 3) := by decide +kernel
theorem dX8_in_5 : decode cX8_in 5 = .ok (.iload_n 0, 1) := by decide +kernel
theorem dX8_in_6 : decode cX8_in 6 = .ok (.iload_n 2, 1) := by decide +kernel
theorem dX8_in_7 : decode cX8_in 7 = .ok (.if_icmp .gt 7, 3) := by decide +kernel
theorem dX8_in_10 : decode cX8_in 10 = .ok (.iconst 1, 1) := by decide +kernel
theorem dX8_in_11 : decode cX8_in 11 = .ok (.goto 4, 3) := by decide +kernel
theorem dX8_in_14 : decode cX8_in 14 = .ok (.iconst 0, 1) := by decide +kernel
theorem dX8_in_15 : decode cX8_in 15 = .ok (.ireturn, 1) := by decide +kernel
theorem dX8_begins_0 : decode cX8_begins 0 = .ok (.aload_n 0, 1) := by decide +kernel
theorem dX8_begins_1 : decode cX8_begins 1 = .ok (.getfield 49, 3) := by decide +kernel
theorem dX8_begins_4 : decode cX8_begins 4 = .ok (.bipush 6, 2) := by decide +kernel
theorem dX8_begins_6 : decode cX8_begins 6 = .ok (.if_icmp .ne 48, 3) := by decide +kernel
theorem dX8_begins_9 : decode cX8_begins 9 = .ok (.iconst 0, 1) := by decide +kernel
theorem dX8_begins_10 : decode cX8_begins 10 = .ok (.istore_n 1, 1) := by decide +kernel
theorem dX8_begins_11 : decode cX8_begins 11 = .ok (.iload_n 1, 1) := by decide +kernel
theorem dX8_begins_12 : decode cX8_begins 12 = .ok (.sipush 5640, 3) := by decide +kernel
theorem dX8_begins_15 : decode cX8_begins 15 = .ok (.if_icmp .ge 29, 3) := by decide +kernel
theorem dX8_begins_18 : decode cX8_begins 18 = .ok (.aload_n 0, 1) := by decide +kernel
theorem dX8_begins_19 : decode cX8_begins 19 = .ok (.getfield 7, 3) := by decide +kernel
theorem dX8_begins_22 : decode cX8_begins 22 = .ok (.sipush 1128, 3) := by decide +kernel
theorem dX8_begins_25 : decode cX8_begins 25 = .ok (.iload_n 1, 1) := by decide +kernel
theorem dX8_begins_26 : decode cX8_begins 26 = .ok (.iadd, 1) := by decide +kernel
theorem dX8_begins_27 : decode cX8_begins 27 = .ok (.aload_n 0, 1) := by decide +kernel
theorem dX8_begins_28 : decode cX8_begins 28 = .ok (.getfield 7, 3) := by decide +kernel
theorem dX8_begins_31 : decode cX8_begins 31 = .ok (.sipush 2256, 3) := by decide +kernel
theorem dX8_begins_34 : decode cX8_begins 34 = .ok (.iload_n 1, 1) := by decide +kernel
theorem dX8_begins_35 : decode cX8_begins 35 = .ok (.iadd, 1) := by decide +kernel
theorem dX8_begins_36 : decode cX8_begins 36 = .ok (.laload, 1) := by decide +kernel
theorem dX8_begins_37 : decode cX8_begins 37 = .ok (.lastore, 1) := by decide +kernel
theorem dX8_begins_38 : decode cX8_begins 38 = .ok (.iinc 1 1, 3) := by decide +kernel
theorem dX8_begins_41 : decode cX8_begins 41 = .ok (.goto (-30), 3) := by decide +kernel
theorem dX8_begins_44 : decode cX8_begins 44 = .ok (.aload_n 0, 1) := by decide +kernel
theorem dX8_begins_45 : decode cX8_begins 45 = .ok (.dup, 1) := by decide +kernel
theorem dX8_begins_46 : decode cX8_begins 46 = .ok (.getfield 49, 3) := by decide +kernel
theorem dX8_begins_49 : decode cX8_begins 49 = .ok (.iconst 1, 1) := by decide +kernel
theorem dX8_begins_50 : decode cX8_begins 50 = .ok (.isub, 1) := by decide +kernel
theorem dX8_begins_51 : decode cX8_begins 51 = .ok (.putfield 49, 3) := by decide +kernel
theorem dX8_begins_54 : decode cX8_begins 54 = .ok (.aload_n 0, 1) := by decide +kernel
theorem dX8_begins_55 : decode cX8_begins 55 = .ok (.dup, 1) := by decide +kernel
theorem dX8_begins_56 : decode cX8_begins 56 = .ok (.getfield 49, 3) := by decide +kernel
theorem dX8_begins_59 : decode cX8_begins 59 = .ok (.iconst 1, 1) := by decide +kernel
theorem dX8_begins_60 : decode cX8_begins 60 = .ok (.iadd, 1) := by decide +kernel
theorem dX8_begins_61 : decode cX8_begins 61 = .ok (.putfield 49, 3) := by decide +kernel
theorem dX8_begins_64 : decode cX8_begins 64 = .ok (.iconst 0, 1) := by decide +kernel
theorem dX8_begins_65 : decode cX8_begins 65 = .ok (.istore_n 1, 1) := by decide +kernel
theorem dX8_begins_66 : decode cX8_begins 66 = .ok (.iload_n 1, 1) := by decide +kernel
theorem dX8_begins_67 : decode cX8_begins 67 = .ok (.sipush 1128, 3) := by decide +kernel
theorem dX8_begins_70 : decode cX8_begins 70 = .ok (.if_icmp .ge 30, 3) := by decide +kernel
theorem dX8_begins_73 : decode cX8_begins 73 = .ok (.aload_n 0, 1) := by decide +kernel
theorem dX8_begins_74 : decode cX8_begins 74 = .ok (.getfield 7, 3) := by decide +kernel
theorem dX8_begins_77 : decode cX8_begins 77 = .ok (.sipush 1128, 3) := by decide +kernel
theorem dX8_begins_80 : decode cX8_begins 80 = .ok (.aload_n 0, 1) := by decide +kernel
theorem dX8_begins_81 : decode cX8_begins 81 = .ok (.getfield 49, 3) := by decide +kernel
theorem dX8_begins_84 : decode cX8_begins 84 = .ok (.imul, 1) := by decide +kernel
theorem dX8_begins_85 : decode cX8_begins 85 = .ok (.iload_n 1, 1) := by decide +kernel
theorem dX8_begins_86 : decode cX8_begins 86 = .ok (.iadd, 1) := by decide +kernel
theorem dX8_begins_87 : decode cX8_begins 87 = .ok (.aload_n 0, 1) := by decide +kernel
theorem dX8_begins_88 : decode cX8_begins 88 = .ok (.getfield 7, 3) := by decide +kernel
theorem dX8_begins_91 : decode cX8_begins 91 = .ok (.iload_n 1, 1) := by decide +kernel
theorem dX8_begins_92 : decode cX8_begins 92 = .ok (.laload, 1) := by decide +kernel
theorem dX8_begins_93 : decode cX8_begins 93 = .ok (.lastore, 1) := by decide +kernel
theorem dX8_begins_94 : decode cX8_begins 94 = .ok (.iinc 1 1, 3) := by decide +kernel
theorem dX8_begins_97 : decode cX8_begins 97 = .ok (.goto (-31), 3) := by decide +kernel
theorem dX8_begins_100 : decode cX8_begins 100 = .ok (.return_, 1) := by decide +kernel
theorem dX8_isRegister_0 : decode cX8_isRegister 0 = .ok (.iload_n 0, 1) := by decide +kernel
theorem dX8_isRegister_1 : decode cX8_isRegister 1 = .ok (.iconst 0, 1) := by decide +kernel
theorem dX8_isRegister_2 : decode cX8_isRegister 2 = .ok (.bipush 7, 2) := by decide +kernel
theorem dX8_isRegister_4 : decode cX8_isRegister 4 = .ok (.invokestatic 53, 3) := by decide +kernel
theorem dX8_isRegister_7 : decode cX8_isRegister 7 = .ok (.ireturn, 1) := by decide +kernel
theorem dX8_isFormat_0 : decode cX8_isFormat 0 = .ok (.iload_n 0, 1) := by decide +kernel
theorem dX8_isFormat_1 : decode cX8_isFormat 1 = .ok (.iconst 0, 1) := by decide +kernel
theorem dX8_isFormat_2 : decode cX8_isFormat 2 = .ok (.iconst 3, 1) := by decide +kernel
theorem dX8_isFormat_3 : decode cX8_isFormat 3 = .ok (.invokestatic 53, 3) := by decide +kernel
theorem dX8_isFormat_6 : decode cX8_isFormat 6 = .ok (.ireturn, 1) := by decide +kernel
theorem dX8_greatest_0 : decode cX8_greatest 0 = .ok (.lconst 1, 1) := by decide +kernel
theorem dX8_greatest_1 : decode cX8_greatest 1 = .ok (.iload_n 0, 1) := by decide +kernel
theorem dX8_greatest_2 : decode cX8_greatest 2 = .ok (.lshl, 1) := by decide +kernel
theorem dX8_greatest_3 : decode cX8_greatest 3 = .ok (.lconst 1, 1) := by decide +kernel
theorem dX8_greatest_4 : decode cX8_greatest 4 = .ok (.lsub, 1) := by decide +kernel
theorem dX8_greatest_5 : decode cX8_greatest 5 = .ok (.iload_n 1, 1) := by decide +kernel
theorem dX8_greatest_6 : decode cX8_greatest 6 = .ok (.bipush 10, 2) := by decide +kernel
theorem dX8_greatest_8 : decode cX8_greatest 8 = .ok (.iadd, 1) := by decide +kernel
theorem dX8_greatest_9 : decode cX8_greatest 9 = .ok (.lshl, 1) := by decide +kernel
theorem dX8_greatest_10 : decode cX8_greatest 10 = .ok (.lreturn, 1) := by decide +kernel
theorem dX8_exponent_0 : decode cX8_exponent 0 = .ok (.iload_n 1, 1) := by decide +kernel
theorem dX8_exponent_1 : decode cX8_exponent 1 = .ok (.istore 5, 2) := by decide +kernel
theorem dX8_exponent_3 : decode cX8_exponent 3 = .ok (.iload 5, 2) := by decide +kernel
theorem dX8_exponent_5 : decode cX8_exponent 5 = .ok (.iload_n 2, 1) := by decide +kernel
theorem dX8_exponent_6 : decode cX8_exponent 6 = .ok (.if_icmp .ge 23, 3) := by decide +kernel
theorem dX8_exponent_9 : decode cX8_exponent 9 = .ok (.lload_n 3, 1) := by decide +kernel
theorem dX8_exponent_10 : decode cX8_exponent 10 = .ok (.iload 5, 2) := by decide +kernel
theorem dX8_exponent_12 : decode cX8_exponent 12 = .ok (.bipush 10, 2) := by decide +kernel
theorem dX8_exponent_14 : decode cX8_exponent 14 = .ok (.iadd, 1) := by decide +kernel
theorem dX8_exponent_15 : decode cX8_exponent 15 = .ok (.lshr, 1) := by decide +kernel
theorem dX8_exponent_16 : decode cX8_exponent 16 = .ok (.lconst 1, 1) := by decide +kernel
theorem dX8_exponent_17 : decode cX8_exponent 17 = .ok (.iload_n 0, 1) := by decide +kernel
theorem dX8_exponent_18 : decode cX8_exponent 18 = .ok (.lshl, 1) := by decide +kernel
theorem dX8_exponent_19 : decode cX8_exponent 19 = .ok (.lcmp, 1) := by decide +kernel
theorem dX8_exponent_20 : decode cX8_exponent 20 = .ok (.ifCond .lt 9, 3) := by decide +kernel
theorem dX8_exponent_23 : decode cX8_exponent 23 = .ok (.iinc 5 1, 3) := by decide +kernel
theorem dX8_exponent_26 : decode cX8_exponent 26 = .ok (.goto (-23), 3) := by decide +kernel
theorem dX8_exponent_29 : decode cX8_exponent 29 = .ok (.iload 5, 2) := by decide +kernel
theorem dX8_exponent_31 : decode cX8_exponent 31 = .ok (.ireturn, 1) := by decide +kernel
theorem dX8_cut_0 : decode cX8_cut 0 = .ok (.iload_n 0, 1) := by decide +kernel
theorem dX8_cut_1 : decode cX8_cut 1 = .ok (.iload_n 1, 1) := by decide +kernel
theorem dX8_cut_2 : decode cX8_cut 2 = .ok (.iload_n 2, 1) := by decide +kernel
theorem dX8_cut_3 : decode cX8_cut 3 = .ok (.lload_n 3, 1) := by decide +kernel
theorem dX8_cut_4 : decode cX8_cut 4 = .ok (.invokestatic 57, 3) := by decide +kernel
theorem dX8_cut_7 : decode cX8_cut 7 = .ok (.bipush 10, 2) := by decide +kernel
theorem dX8_cut_9 : decode cX8_cut 9 = .ok (.iadd, 1) := by decide +kernel
theorem dX8_cut_10 : decode cX8_cut 10 = .ok (.istore 5, 2) := by decide +kernel
theorem dX8_cut_12 : decode cX8_cut 12 = .ok (.lload_n 3, 1) := by decide +kernel
theorem dX8_cut_13 : decode cX8_cut 13 = .ok (.iload 5, 2) := by decide +kernel
theorem dX8_cut_15 : decode cX8_cut 15 = .ok (.lshr, 1) := by decide +kernel
theorem dX8_cut_16 : decode cX8_cut 16 = .ok (.iload 5, 2) := by decide +kernel
theorem dX8_cut_18 : decode cX8_cut 18 = .ok (.lshl, 1) := by decide +kernel
theorem dX8_cut_19 : decode cX8_cut 19 = .ok (.lreturn, 1) := by decide +kernel
theorem dX8_lift_0 : decode cX8_lift 0 = .ok (.iload_n 0, 1) := by decide +kernel
theorem dX8_lift_1 : decode cX8_lift 1 = .ok (.iload_n 1, 1) := by decide +kernel
theorem dX8_lift_2 : decode cX8_lift 2 = .ok (.iload_n 2, 1) := by decide +kernel
theorem dX8_lift_3 : decode cX8_lift 3 = .ok (.lload_n 3, 1) := by decide +kernel
theorem dX8_lift_4 : decode cX8_lift 4 = .ok (.invokestatic 61, 3) := by decide +kernel
theorem dX8_lift_7 : decode cX8_lift 7 = .ok (.lstore 5, 2) := by decide +kernel
theorem dX8_lift_9 : decode cX8_lift 9 = .ok (.lload 5, 2) := by decide +kernel
theorem dX8_lift_11 : decode cX8_lift 11 = .ok (.lload_n 3, 1) := by decide +kernel
theorem dX8_lift_12 : decode cX8_lift 12 = .ok (.lcmp, 1) := by decide +kernel
theorem dX8_lift_13 : decode cX8_lift 13 = .ok (.ifCond .ne 7, 3) := by decide +kernel
theorem dX8_lift_16 : decode cX8_lift 16 = .ok (.lload_n 3, 1) := by decide +kernel
theorem dX8_lift_17 : decode cX8_lift 17 = .ok (.goto 18, 3) := by decide +kernel
theorem dX8_lift_20 : decode cX8_lift 20 = .ok (.lload 5, 2) := by decide +kernel
theorem dX8_lift_22 : decode cX8_lift 22 = .ok (.lconst 1, 1) := by decide +kernel
theorem dX8_lift_23 : decode cX8_lift 23 = .ok (.iload_n 0, 1) := by decide +kernel
theorem dX8_lift_24 : decode cX8_lift 24 = .ok (.iload_n 1, 1) := by decide +kernel
theorem dX8_lift_25 : decode cX8_lift 25 = .ok (.iload_n 2, 1) := by decide +kernel
theorem dX8_lift_26 : decode cX8_lift 26 = .ok (.lload_n 3, 1) := by decide +kernel
theorem dX8_lift_27 : decode cX8_lift 27 = .ok (.invokestatic 57, 3) := by decide +kernel
theorem dX8_lift_30 : decode cX8_lift 30 = .ok (.bipush 10, 2) := by decide +kernel
theorem dX8_lift_32 : decode cX8_lift 32 = .ok (.iadd, 1) := by decide +kernel
theorem dX8_lift_33 : decode cX8_lift 33 = .ok (.lshl, 1) := by decide +kernel
theorem dX8_lift_34 : decode cX8_lift 34 = .ok (.ladd, 1) := by decide +kernel
theorem dX8_lift_35 : decode cX8_lift 35 = .ok (.lreturn, 1) := by decide +kernel
theorem dX8_under_0 : decode cX8_under 0 = .ok (.lload_n 3, 1) := by decide +kernel
theorem dX8_under_1 : decode cX8_under 1 = .ok (.lconst 0, 1) := by decide +kernel
theorem dX8_under_2 : decode cX8_under 2 = .ok (.lcmp, 1) := by decide +kernel
theorem dX8_under_3 : decode cX8_under 3 = .ok (.ifCond .lt 13, 3) := by decide +kernel
theorem dX8_under_6 : decode cX8_under 6 = .ok (.iload_n 0, 1) := by decide +kernel
theorem dX8_under_7 : decode cX8_under 7 = .ok (.iload_n 1, 1) := by decide +kernel
theorem dX8_under_8 : decode cX8_under 8 = .ok (.iload_n 2, 1) := by decide +kernel
theorem dX8_under_9 : decode cX8_under 9 = .ok (.lload_n 3, 1) := by decide +kernel
theorem dX8_under_10 : decode cX8_under 10 = .ok (.invokestatic 61, 3) := by decide +kernel
theorem dX8_under_13 : decode cX8_under 13 = .ok (.goto 12, 3) := by decide +kernel
theorem dX8_under_16 : decode cX8_under 16 = .ok (.iload_n 0, 1) := by decide +kernel
theorem dX8_under_17 : decode cX8_under 17 = .ok (.iload_n 1, 1) := by decide +kernel
theorem dX8_under_18 : decode cX8_under 18 = .ok (.iload_n 2, 1) := by decide +kernel
theorem dX8_under_19 : decode cX8_under 19 = .ok (.lload_n 3, 1) := by decide +kernel
theorem dX8_under_20 : decode cX8_under 20 = .ok (.lneg, 1) := by decide +kernel
theorem dX8_under_21 : decode cX8_under 21 = .ok (.invokestatic 65, 3) := by decide +kernel
theorem dX8_under_24 : decode cX8_under 24 = .ok (.lneg, 1) := by decide +kernel
theorem dX8_under_25 : decode cX8_under 25 = .ok (.lreturn, 1) := by decide +kernel
theorem dX8_over_0 : decode cX8_over 0 = .ok (.iload_n 0, 1) := by decide +kernel
theorem dX8_over_1 : decode cX8_over 1 = .ok (.iload_n 1, 1) := by decide +kernel
theorem dX8_over_2 : decode cX8_over 2 = .ok (.iload_n 2, 1) := by decide +kernel
theorem dX8_over_3 : decode cX8_over 3 = .ok (.lload_n 3, 1) := by decide +kernel
theorem dX8_over_4 : decode cX8_over 4 = .ok (.lneg, 1) := by decide +kernel
theorem dX8_over_5 : decode cX8_over 5 = .ok (.invokestatic 68, 3) := by decide +kernel
theorem dX8_over_8 : decode cX8_over 8 = .ok (.lneg, 1) := by decide +kernel
theorem dX8_over_9 : decode cX8_over 9 = .ok (.lreturn, 1) := by decide +kernel
theorem dX8_floor_0 : decode cX8_floor 0 = .ok (.lload_n 0, 1) := by decide +kernel
theorem dX8_floor_1 : decode cX8_floor 1 = .ok (.lload_n 2, 1) := by decide +kernel
theorem dX8_floor_2 : decode cX8_floor 2 = .ok (.ldiv, 1) := by decide +kernel
theorem dX8_floor_3 : decode cX8_floor 3 = .ok (.lstore 4, 2) := by decide +kernel
theorem dX8_floor_5 : decode cX8_floor 5 = .ok (.lload_n 0, 1) := by decide +kernel
theorem dX8_floor_6 : decode cX8_floor 6 = .ok (.lload_n 2, 1) := by decide +kernel
theorem dX8_floor_7 : decode cX8_floor 7 = .ok (.lrem, 1) := by decide +kernel
theorem dX8_floor_8 : decode cX8_floor 8 = .ok (.lconst 0, 1) := by decide +kernel
theorem dX8_floor_9 : decode cX8_floor 9 = .ok (.lcmp, 1) := by decide +kernel
theorem dX8_floor_10 : decode cX8_floor 10 = .ok (.ifCond .ge 10, 3) := by decide +kernel
theorem dX8_floor_13 : decode cX8_floor 13 = .ok (.lload 4, 2) := by decide +kernel
theorem dX8_floor_15 : decode cX8_floor 15 = .ok (.lconst 1, 1) := by decide +kernel
theorem dX8_floor_16 : decode cX8_floor 16 = .ok (.lsub, 1) := by decide +kernel
theorem dX8_floor_17 : decode cX8_floor 17 = .ok (.goto 5, 3) := by decide +kernel
theorem dX8_floor_20 : decode cX8_floor 20 = .ok (.lload 4, 2) := by decide +kernel
theorem dX8_floor_22 : decode cX8_floor 22 = .ok (.lreturn, 1) := by decide +kernel
theorem dX8_finds_0 : decode cX8_finds 0 = .ok (.iload_n 1, 1) := by decide +kernel
theorem dX8_finds_1 : decode cX8_finds 1 = .ok (.iload_n 3, 1) := by decide +kernel
theorem dX8_finds_2 : decode cX8_finds 2 = .ok (.invokestatic 71, 3) := by decide +kernel
theorem dX8_finds_5 : decode cX8_finds 5 = .ok (.lstore 8, 2) := by decide +kernel
theorem dX8_finds_7 : decode cX8_finds 7 = .ok (.aload_n 0, 1) := by decide +kernel
theorem dX8_finds_8 : decode cX8_finds 8 = .ok (.lload 4, 2) := by decide +kernel
theorem dX8_finds_10 : decode cX8_finds 10 = .ok (.lload 8, 2) := by decide +kernel
theorem dX8_finds_12 : decode cX8_finds 12 = .ok (.lload 6, 2) := by decide +kernel
theorem dX8_finds_14 : decode cX8_finds 14 = .ok (.lmul, 1) := by decide +kernel
theorem dX8_finds_15 : decode cX8_finds 15 = .ok (.lcmp, 1) := by decide +kernel
theorem dX8_finds_16 : decode cX8_finds 16 = .ok (.ifCond .gt 15, 3) := by decide +kernel
theorem dX8_finds_19 : decode cX8_finds 19 = .ok (.lload 4, 2) := by decide +kernel
theorem dX8_finds_21 : decode cX8_finds 21 = .ok (.lload 8, 2) := by decide +kernel
theorem dX8_finds_23 : decode cX8_finds 23 = .ok (.lneg, 1) := by decide +kernel
theorem dX8_finds_24 : decode cX8_finds 24 = .ok (.lload 6, 2) := by decide +kernel
theorem dX8_finds_26 : decode cX8_finds 26 = .ok (.lmul, 1) := by decide +kernel
theorem dX8_finds_27 : decode cX8_finds 27 = .ok (.lcmp, 1) := by decide +kernel
theorem dX8_finds_28 : decode cX8_finds 28 = .ok (.ifCond .ge 7, 3) := by decide +kernel
theorem dX8_finds_31 : decode cX8_finds 31 = .ok (.iconst 1, 1) := by decide +kernel
theorem dX8_finds_32 : decode cX8_finds 32 = .ok (.goto 4, 3) := by decide +kernel
theorem dX8_finds_35 : decode cX8_finds 35 = .ok (.iconst 0, 1) := by decide +kernel
theorem dX8_finds_36 : decode cX8_finds 36 = .ok (.putfield 75, 3) := by decide +kernel
theorem dX8_finds_39 : decode cX8_finds 39 = .ok (.aload_n 0, 1) := by decide +kernel
theorem dX8_finds_40 : decode cX8_finds 40 = .ok (.getfield 75, 3) := by decide +kernel
theorem dX8_finds_43 : decode cX8_finds 43 = .ok (.ifCond .eq 33, 3) := by decide +kernel
theorem dX8_finds_46 : decode cX8_finds 46 = .ok (.aload_n 0, 1) := by decide +kernel
theorem dX8_finds_47 : decode cX8_finds 47 = .ok (.lload 4, 2) := by decide +kernel
theorem dX8_finds_49 : decode cX8_finds 49 = .ok (.lconst 0, 1) := by decide +kernel
theorem dX8_finds_50 : decode cX8_finds 50 = .ok (.lcmp, 1) := by decide +kernel
theorem dX8_finds_51 : decode cX8_finds 51 = .ok (.ifCond .le 8, 3) := by decide +kernel
theorem dX8_finds_54 : decode cX8_finds 54 = .ok (.lload 8, 2) := by decide +kernel
theorem dX8_finds_56 : decode cX8_finds 56 = .ok (.goto 6, 3) := by decide +kernel
theorem dX8_finds_59 : decode cX8_finds 59 = .ok (.lload 8, 2) := by decide +kernel
theorem dX8_finds_61 : decode cX8_finds 61 = .ok (.lneg, 1) := by decide +kernel
theorem dX8_finds_62 : decode cX8_finds 62 = .ok (.putfield 79, 3) := by decide +kernel
theorem dX8_finds_65 : decode cX8_finds 65 = .ok (.aload_n 0, 1) := by decide +kernel
theorem dX8_finds_66 : decode cX8_finds 66 = .ok (.aload_n 0, 1) := by decide +kernel
theorem dX8_finds_67 : decode cX8_finds 67 = .ok (.getfield 79, 3) := by decide +kernel
theorem dX8_finds_70 : decode cX8_finds 70 = .ok (.putfield 83, 3) := by decide +kernel
theorem dX8_finds_73 : decode cX8_finds 73 = .ok (.goto 39, 3) := by decide +kernel
theorem dX8_finds_76 : decode cX8_finds 76 = .ok (.aload_n 0, 1) := by decide +kernel
theorem dX8_finds_77 : decode cX8_finds 77 = .ok (.iload_n 1, 1) := by decide +kernel
theorem dX8_finds_78 : decode cX8_finds 78 = .ok (.iload_n 2, 1) := by decide +kernel
theorem dX8_finds_79 : decode cX8_finds 79 = .ok (.iload_n 3, 1) := by decide +kernel
theorem dX8_finds_80 : decode cX8_finds 80 = .ok (.lload 4, 2) := by decide +kernel
theorem dX8_finds_82 : decode cX8_finds 82 = .ok (.lload 6, 2) := by decide +kernel
theorem dX8_finds_84 : decode cX8_finds 84 = .ok (.invokestatic 86, 3) := by decide +kernel
theorem dX8_finds_87 : decode cX8_finds 87 = .ok (.invokestatic 68, 3) := by decide +kernel
theorem dX8_finds_90 : decode cX8_finds 90 = .ok (.putfield 79, 3) := by decide +kernel
theorem dX8_finds_93 : decode cX8_finds 93 = .ok (.aload_n 0, 1) := by decide +kernel
theorem dX8_finds_94 : decode cX8_finds 94 = .ok (.iload_n 1, 1) := by decide +kernel
theorem dX8_finds_95 : decode cX8_finds 95 = .ok (.iload_n 2, 1) := by decide +kernel
theorem dX8_finds_96 : decode cX8_finds 96 = .ok (.iload_n 3, 1) := by decide +kernel
theorem dX8_finds_97 : decode cX8_finds 97 = .ok (.lload 4, 2) := by decide +kernel
theorem dX8_finds_99 : decode cX8_finds 99 = .ok (.lneg, 1) := by decide +kernel
theorem dX8_finds_100 : decode cX8_finds 100 = .ok (.lload 6, 2) := by decide +kernel
theorem dX8_finds_102 : decode cX8_finds 102 = .ok (.invokestatic 86, 3) := by decide +kernel
theorem dX8_finds_105 : decode cX8_finds 105 = .ok (.lneg, 1) := by decide +kernel
theorem dX8_finds_106 : decode cX8_finds 106 = .ok (.invokestatic 90, 3) := by decide +kernel
theorem dX8_finds_109 : decode cX8_finds 109 = .ok (.putfield 83, 3) := by decide +kernel
theorem dX8_finds_112 : decode cX8_finds 112 = .ok (.return_, 1) := by decide +kernel
theorem dX8_above_0 : decode cX8_above 0 = .ok (.lload_n 1, 1) := by decide +kernel
theorem dX8_above_1 : decode cX8_above 1 = .ok (.aload_n 0, 1) := by decide +kernel
theorem dX8_above_2 : decode cX8_above 2 = .ok (.getfield 79, 3) := by decide +kernel
theorem dX8_above_5 : decode cX8_above 5 = .ok (.lload_n 3, 1) := by decide +kernel
theorem dX8_above_6 : decode cX8_above 6 = .ok (.lmul, 1) := by decide +kernel
theorem dX8_above_7 : decode cX8_above 7 = .ok (.lsub, 1) := by decide +kernel
theorem dX8_above_8 : decode cX8_above 8 = .ok (.lreturn, 1) := by decide +kernel
theorem dX8_picks_0 : decode cX8_picks 0 = .ok (.aload_n 0, 1) := by decide +kernel
theorem dX8_picks_1 : decode cX8_picks 1 = .ok (.getfield 79, 3) := by decide +kernel
theorem dX8_picks_4 : decode cX8_picks 4 = .ok (.aload_n 0, 1) := by decide +kernel
theorem dX8_picks_5 : decode cX8_picks 5 = .ok (.getfield 83, 3) := by decide +kernel
theorem dX8_picks_8 : decode cX8_picks 8 = .ok (.lcmp, 1) := by decide +kernel
theorem dX8_picks_9 : decode cX8_picks 9 = .ok (.ifCond .ne 8, 3) := by decide +kernel
theorem dX8_picks_12 : decode cX8_picks 12 = .ok (.aload_n 0, 1) := by decide +kernel
theorem dX8_picks_13 : decode cX8_picks 13 = .ok (.getfield 79, 3) := by decide +kernel
theorem dX8_picks_16 : decode cX8_picks 16 = .ok (.lreturn, 1) := by decide +kernel
theorem dX8_picks_17 : decode cX8_picks 17 = .ok (.aload_n 0, 1) := by decide +kernel
theorem dX8_picks_18 : decode cX8_picks 18 = .ok (.getfield 79, 3) := by decide +kernel
theorem dX8_picks_21 : decode cX8_picks 21 = .ok (.lconst 0, 1) := by decide +kernel
theorem dX8_picks_22 : decode cX8_picks 22 = .ok (.lcmp, 1) := by decide +kernel
theorem dX8_picks_23 : decode cX8_picks 23 = .ok (.ifCond .lt 10, 3) := by decide +kernel
theorem dX8_picks_26 : decode cX8_picks 26 = .ok (.aload_n 0, 1) := by decide +kernel
theorem dX8_picks_27 : decode cX8_picks 27 = .ok (.getfield 79, 3) := by decide +kernel
theorem dX8_picks_30 : decode cX8_picks 30 = .ok (.goto 7, 3) := by decide +kernel
theorem dX8_picks_33 : decode cX8_picks 33 = .ok (.aload_n 0, 1) := by decide +kernel
theorem dX8_picks_34 : decode cX8_picks 34 = .ok (.getfield 83, 3) := by decide +kernel
theorem dX8_picks_37 : decode cX8_picks 37 = .ok (.lstore 9, 2) := by decide +kernel
theorem dX8_picks_39 : decode cX8_picks 39 = .ok (.aload_n 0, 1) := by decide +kernel
theorem dX8_picks_40 : decode cX8_picks 40 = .ok (.lload_n 1, 1) := by decide +kernel
theorem dX8_picks_41 : decode cX8_picks 41 = .ok (.lload_n 3, 1) := by decide +kernel
theorem dX8_picks_42 : decode cX8_picks 42 = .ok (.invokevirtual 93, 3) := by decide +kernel
theorem dX8_picks_45 : decode cX8_picks 45 = .ok (.lstore 11, 2) := by decide +kernel
theorem dX8_picks_47 : decode cX8_picks 47 = .ok (.aload_n 0, 1) := by decide +kernel
theorem dX8_picks_48 : decode cX8_picks 48 = .ok (.getfield 83, 3) := by decide +kernel
theorem dX8_picks_51 : decode cX8_picks 51 = .ok (.aload_n 0, 1) := by decide +kernel
theorem dX8_picks_52 : decode cX8_picks 52 = .ok (.getfield 79, 3) := by decide +kernel
theorem dX8_picks_55 : decode cX8_picks 55 = .ok (.lsub, 1) := by decide +kernel
theorem dX8_picks_56 : decode cX8_picks 56 = .ok (.lload_n 3, 1) := by decide +kernel
theorem dX8_picks_57 : decode cX8_picks 57 = .ok (.lmul, 1) := by decide +kernel
theorem dX8_picks_58 : decode cX8_picks 58 = .ok (.lstore 13, 2) := by decide +kernel
theorem dX8_picks_60 : decode cX8_picks 60 = .ok (.iload 5, 2) := by decide +kernel
theorem dX8_picks_62 : decode cX8_picks 62 = .ok (.tableswitch 84 0 3 #[30, 35, 40, 43], 30) := by decide +kernel
theorem dX8_picks_92 : decode cX8_picks 92 = .ok (.aload_n 0, 1) := by decide +kernel
theorem dX8_picks_93 : decode cX8_picks 93 = .ok (.getfield 79, 3) := by decide +kernel
theorem dX8_picks_96 : decode cX8_picks 96 = .ok (.lreturn, 1) := by decide +kernel
theorem dX8_picks_97 : decode cX8_picks 97 = .ok (.aload_n 0, 1) := by decide +kernel
theorem dX8_picks_98 : decode cX8_picks 98 = .ok (.getfield 83, 3) := by decide +kernel
theorem dX8_picks_101 : decode cX8_picks 101 = .ok (.lreturn, 1) := by decide +kernel
theorem dX8_picks_102 : decode cX8_picks 102 = .ok (.lload 9, 2) := by decide +kernel
theorem dX8_picks_104 : decode cX8_picks 104 = .ok (.lreturn, 1) := by decide +kernel
theorem dX8_picks_105 : decode cX8_picks 105 = .ok (.ldc2_w 96, 3) := by decide +kernel
theorem dX8_picks_108 : decode cX8_picks 108 = .ok (.lload 11, 2) := by decide +kernel
theorem dX8_picks_110 : decode cX8_picks 110 = .ok (.lmul, 1) := by decide +kernel
theorem dX8_picks_111 : decode cX8_picks 111 = .ok (.lload 13, 2) := by decide +kernel
theorem dX8_picks_113 : decode cX8_picks 113 = .ok (.lcmp, 1) := by decide +kernel
theorem dX8_picks_114 : decode cX8_picks 114 = .ok (.ifCond .ne 8, 3) := by decide +kernel
theorem dX8_picks_117 : decode cX8_picks 117 = .ok (.lload 9, 2) := by decide +kernel
theorem dX8_picks_119 : decode cX8_picks 119 = .ok (.goto 26, 3) := by decide +kernel
theorem dX8_picks_122 : decode cX8_picks 122 = .ok (.ldc2_w 96, 3) := by decide +kernel
theorem dX8_picks_125 : decode cX8_picks 125 = .ok (.lload 11, 2) := by decide +kernel
theorem dX8_picks_127 : decode cX8_picks 127 = .ok (.lmul, 1) := by decide +kernel
theorem dX8_picks_128 : decode cX8_picks 128 = .ok (.lload 13, 2) := by decide +kernel
theorem dX8_picks_130 : decode cX8_picks 130 = .ok (.lcmp, 1) := by decide +kernel
theorem dX8_picks_131 : decode cX8_picks 131 = .ok (.ifCond .ge 10, 3) := by decide +kernel
theorem dX8_picks_134 : decode cX8_picks 134 = .ok (.aload_n 0, 1) := by decide +kernel
theorem dX8_picks_135 : decode cX8_picks 135 = .ok (.getfield 79, 3) := by decide +kernel
theorem dX8_picks_138 : decode cX8_picks 138 = .ok (.goto 7, 3) := by decide +kernel
theorem dX8_picks_141 : decode cX8_picks 141 = .ok (.aload_n 0, 1) := by decide +kernel
theorem dX8_picks_142 : decode cX8_picks 142 = .ok (.getfield 83, 3) := by decide +kernel
theorem dX8_picks_145 : decode cX8_picks 145 = .ok (.lreturn, 1) := by decide +kernel
theorem dX8_picks_146 : decode cX8_picks 146 = .ok (.lload 6, 2) := by decide +kernel
theorem dX8_picks_148 : decode cX8_picks 148 = .ok (.lload 13, 2) := by decide +kernel
theorem dX8_picks_150 : decode cX8_picks 150 = .ok (.lmul, 1) := by decide +kernel
theorem dX8_picks_151 : decode cX8_picks 151 = .ok (.lload 11, 2) := by decide +kernel
theorem dX8_picks_153 : decode cX8_picks 153 = .ok (.iload 8, 2) := by decide +kernel
theorem dX8_picks_155 : decode cX8_picks 155 = .ok (.lshl, 1) := by decide +kernel
theorem dX8_picks_156 : decode cX8_picks 156 = .ok (.lcmp, 1) := by decide +kernel
theorem dX8_picks_157 : decode cX8_picks 157 = .ok (.ifCond .ge 10, 3) := by decide +kernel
theorem dX8_picks_160 : decode cX8_picks 160 = .ok (.aload_n 0, 1) := by decide +kernel
theorem dX8_picks_161 : decode cX8_picks 161 = .ok (.getfield 83, 3) := by decide +kernel
theorem dX8_picks_164 : decode cX8_picks 164 = .ok (.goto 7, 3) := by decide +kernel
theorem dX8_picks_167 : decode cX8_picks 167 = .ok (.aload_n 0, 1) := by decide +kernel
theorem dX8_picks_168 : decode cX8_picks 168 = .ok (.getfield 79, 3) := by decide +kernel
theorem dX8_picks_171 : decode cX8_picks 171 = .ok (.lreturn, 1) := by decide +kernel
theorem dX8_drawn_0 : decode cX8_drawn 0 = .ok (.iload_n 0, 1) := by decide +kernel
theorem dX8_drawn_1 : decode cX8_drawn 1 = .ok (.iload_n 1, 1) := by decide +kernel
theorem dX8_drawn_2 : decode cX8_drawn 2 = .ok (.ldc 98, 2) := by decide +kernel
theorem dX8_drawn_4 : decode cX8_drawn 4 = .ok (.imul, 1) := by decide +kernel
theorem dX8_drawn_5 : decode cX8_drawn 5 = .ok (.iadd, 1) := by decide +kernel
theorem dX8_drawn_6 : decode cX8_drawn 6 = .ok (.istore_n 3, 1) := by decide +kernel
theorem dX8_drawn_7 : decode cX8_drawn 7 = .ok (.iload_n 3, 1) := by decide +kernel
theorem dX8_drawn_8 : decode cX8_drawn 8 = .ok (.iload_n 3, 1) := by decide +kernel
theorem dX8_drawn_9 : decode cX8_drawn 9 = .ok (.bipush 16, 2) := by decide +kernel
theorem dX8_drawn_11 : decode cX8_drawn 11 = .ok (.iushr, 1) := by decide +kernel
theorem dX8_drawn_12 : decode cX8_drawn 12 = .ok (.ixor, 1) := by decide +kernel
theorem dX8_drawn_13 : decode cX8_drawn 13 = .ok (.ldc 99, 2) := by decide +kernel
theorem dX8_drawn_15 : decode cX8_drawn 15 = .ok (.imul, 1) := by decide +kernel
theorem dX8_drawn_16 : decode cX8_drawn 16 = .ok (.istore_n 3, 1) := by decide +kernel
theorem dX8_drawn_17 : decode cX8_drawn 17 = .ok (.iload_n 3, 1) := by decide +kernel
theorem dX8_drawn_18 : decode cX8_drawn 18 = .ok (.iload_n 3, 1) := by decide +kernel
theorem dX8_drawn_19 : decode cX8_drawn 19 = .ok (.bipush 16, 2) := by decide +kernel
theorem dX8_drawn_21 : decode cX8_drawn 21 = .ok (.iushr, 1) := by decide +kernel
theorem dX8_drawn_22 : decode cX8_drawn 22 = .ok (.ixor, 1) := by decide +kernel
theorem dX8_drawn_23 : decode cX8_drawn 23 = .ok (.ldc 99, 2) := by decide +kernel
theorem dX8_drawn_25 : decode cX8_drawn 25 = .ok (.imul, 1) := by decide +kernel
theorem dX8_drawn_26 : decode cX8_drawn 26 = .ok (.istore_n 3, 1) := by decide +kernel
theorem dX8_drawn_27 : decode cX8_drawn 27 = .ok (.iload_n 3, 1) := by decide +kernel
theorem dX8_drawn_28 : decode cX8_drawn 28 = .ok (.iload_n 3, 1) := by decide +kernel
theorem dX8_drawn_29 : decode cX8_drawn 29 = .ok (.bipush 16, 2) := by decide +kernel
theorem dX8_drawn_31 : decode cX8_drawn 31 = .ok (.iushr, 1) := by decide +kernel
theorem dX8_drawn_32 : decode cX8_drawn 32 = .ok (.ixor, 1) := by decide +kernel
theorem dX8_drawn_33 : decode cX8_drawn 33 = .ok (.iconst 1, 1) := by decide +kernel
theorem dX8_drawn_34 : decode cX8_drawn 34 = .ok (.iload_n 2, 1) := by decide +kernel
theorem dX8_drawn_35 : decode cX8_drawn 35 = .ok (.ishl, 1) := by decide +kernel
theorem dX8_drawn_36 : decode cX8_drawn 36 = .ok (.iconst 1, 1) := by decide +kernel
theorem dX8_drawn_37 : decode cX8_drawn 37 = .ok (.isub, 1) := by decide +kernel
theorem dX8_drawn_38 : decode cX8_drawn 38 = .ok (.iand, 1) := by decide +kernel
theorem dX8_drawn_39 : decode cX8_drawn 39 = .ok (.i2l, 1) := by decide +kernel
theorem dX8_drawn_40 : decode cX8_drawn 40 = .ok (.lreturn, 1) := by decide +kernel
theorem dX8_part_0 : decode cX8_part 0 = .ok (.aload_n 0, 1) := by decide +kernel
theorem dX8_part_1 : decode cX8_part 1 = .ok (.getfield 7, 3) := by decide +kernel
theorem dX8_part_4 : decode cX8_part 4 = .ok (.iconst 0, 1) := by decide +kernel
theorem dX8_part_5 : decode cX8_part 5 = .ok (.iconst 3, 1) := by decide +kernel
theorem dX8_part_6 : decode cX8_part 6 = .ok (.iload_n 1, 1) := by decide +kernel
theorem dX8_part_7 : decode cX8_part 7 = .ok (.imul, 1) := by decide +kernel
theorem dX8_part_8 : decode cX8_part 8 = .ok (.iadd, 1) := by decide +kernel
theorem dX8_part_9 : decode cX8_part 9 = .ok (.iload_n 2, 1) := by decide +kernel
theorem dX8_part_10 : decode cX8_part 10 = .ok (.iadd, 1) := by decide +kernel
theorem dX8_part_11 : decode cX8_part 11 = .ok (.laload, 1) := by decide +kernel
theorem dX8_part_12 : decode cX8_part 12 = .ok (.l2i, 1) := by decide +kernel
theorem dX8_part_13 : decode cX8_part 13 = .ok (.ireturn, 1) := by decide +kernel
theorem dX8_formatIn_0 : decode cX8_formatIn 0 = .ok (.aload_n 0, 1) := by decide +kernel
theorem dX8_formatIn_1 : decode cX8_formatIn 1 = .ok (.getfield 7, 3) := by decide +kernel
theorem dX8_formatIn_4 : decode cX8_formatIn 4 = .ok (.bipush 12, 2) := by decide +kernel
theorem dX8_formatIn_6 : decode cX8_formatIn 6 = .ok (.iload_n 1, 1) := by decide +kernel
theorem dX8_formatIn_7 : decode cX8_formatIn 7 = .ok (.iadd, 1) := by decide +kernel
theorem dX8_formatIn_8 : decode cX8_formatIn 8 = .ok (.laload, 1) := by decide +kernel
theorem dX8_formatIn_9 : decode cX8_formatIn 9 = .ok (.l2i, 1) := by decide +kernel
theorem dX8_formatIn_10 : decode cX8_formatIn 10 = .ok (.ireturn, 1) := by decide +kernel
theorem dX8_setFormat_0 : decode cX8_setFormat 0 = .ok (.iload_n 1, 1) := by decide +kernel
theorem dX8_setFormat_1 : decode cX8_setFormat 1 = .ok (.invokestatic 100, 3) := by decide +kernel
theorem dX8_setFormat_4 : decode cX8_setFormat 4 = .ok (.ifCond .eq 43, 3) := by decide +kernel
theorem dX8_setFormat_7 : decode cX8_setFormat 7 = .ok (.iload_n 2, 1) := by decide +kernel
theorem dX8_setFormat_8 : decode cX8_setFormat 8 = .ok (.iconst 1, 1) := by decide +kernel
theorem dX8_setFormat_9 : decode cX8_setFormat 9 = .ok (.bipush 10, 2) := by decide +kernel
theorem dX8_setFormat_11 : decode cX8_setFormat 11 = .ok (.invokestatic 53, 3) := by decide +kernel
theorem dX8_setFormat_14 : decode cX8_setFormat 14 = .ok (.ifCond .eq 33, 3) := by decide +kernel
theorem dX8_setFormat_17 : decode cX8_setFormat 17 = .ok (.iload_n 3, 1) := by decide +kernel
theorem dX8_setFormat_18 : decode cX8_setFormat 18 = .ok (.bipush (-10), 2) := by decide +kernel
theorem dX8_setFormat_20 : decode cX8_setFormat 20 = .ok (.iconst 0, 1) := by decide +kernel
theorem dX8_setFormat_21 : decode cX8_setFormat 21 = .ok (.invokestatic 53, 3) := by decide +kernel
theorem dX8_setFormat_24 : decode cX8_setFormat 24 = .ok (.ifCond .eq 23, 3) := by decide +kernel
theorem dX8_setFormat_27 : decode cX8_setFormat 27 = .ok (.iload 4, 2) := by decide +kernel
theorem dX8_setFormat_29 : decode cX8_setFormat 29 = .ok (.iconst 0, 1) := by decide +kernel
theorem dX8_setFormat_30 : decode cX8_setFormat 30 = .ok (.bipush 9, 2) := by decide +kernel
theorem dX8_setFormat_32 : decode cX8_setFormat 32 = .ok (.invokestatic 53, 3) := by decide +kernel
theorem dX8_setFormat_35 : decode cX8_setFormat 35 = .ok (.ifCond .eq 12, 3) := by decide +kernel
theorem dX8_setFormat_38 : decode cX8_setFormat 38 = .ok (.iload_n 2, 1) := by decide +kernel
theorem dX8_setFormat_39 : decode cX8_setFormat 39 = .ok (.iload 4, 2) := by decide +kernel
theorem dX8_setFormat_41 : decode cX8_setFormat 41 = .ok (.iadd, 1) := by decide +kernel
theorem dX8_setFormat_42 : decode cX8_setFormat 42 = .ok (.bipush 10, 2) := by decide +kernel
theorem dX8_setFormat_44 : decode cX8_setFormat 44 = .ok (.if_icmp .le 6, 3) := by decide +kernel
theorem dX8_setFormat_47 : decode cX8_setFormat 47 = .ok (.ldc 104, 2) := by decide +kernel
theorem dX8_setFormat_49 : decode cX8_setFormat 49 = .ok (.ireturn, 1) := by decide +kernel
theorem dX8_setFormat_50 : decode cX8_setFormat 50 = .ok (.aload_n 0, 1) := by decide +kernel
theorem dX8_setFormat_51 : decode cX8_setFormat 51 = .ok (.invokevirtual 105, 3) := by decide +kernel
theorem dX8_setFormat_54 : decode cX8_setFormat 54 = .ok (.aload_n 0, 1) := by decide +kernel
theorem dX8_setFormat_55 : decode cX8_setFormat 55 = .ok (.iload_n 1, 1) := by decide +kernel
theorem dX8_setFormat_56 : decode cX8_setFormat 56 = .ok (.iconst 0, 1) := by decide +kernel
theorem dX8_setFormat_57 : decode cX8_setFormat 57 = .ok (.invokevirtual 108, 3) := by decide +kernel
theorem dX8_setFormat_60 : decode cX8_setFormat 60 = .ok (.istore 5, 2) := by decide +kernel
theorem dX8_setFormat_62 : decode cX8_setFormat 62 = .ok (.aload_n 0, 1) := by decide +kernel
theorem dX8_setFormat_63 : decode cX8_setFormat 63 = .ok (.getfield 7, 3) := by decide +kernel
theorem dX8_setFormat_66 : decode cX8_setFormat 66 = .ok (.iconst 0, 1) := by decide +kernel
theorem dX8_setFormat_67 : decode cX8_setFormat 67 = .ok (.iconst 3, 1) := by decide +kernel
theorem dX8_setFormat_68 : decode cX8_setFormat 68 = .ok (.iload_n 1, 1) := by decide +kernel
theorem dX8_setFormat_69 : decode cX8_setFormat 69 = .ok (.imul, 1) := by decide +kernel
theorem dX8_setFormat_70 : decode cX8_setFormat 70 = .ok (.iadd, 1) := by decide +kernel
theorem dX8_setFormat_71 : decode cX8_setFormat 71 = .ok (.iload_n 2, 1) := by decide +kernel
theorem dX8_setFormat_72 : decode cX8_setFormat 72 = .ok (.i2l, 1) := by decide +kernel
theorem dX8_setFormat_73 : decode cX8_setFormat 73 = .ok (.lastore, 1) := by decide +kernel
theorem dX8_setFormat_74 : decode cX8_setFormat 74 = .ok (.aload_n 0, 1) := by decide +kernel
theorem dX8_setFormat_75 : decode cX8_setFormat 75 = .ok (.getfield 7, 3) := by decide +kernel
theorem dX8_setFormat_78 : decode cX8_setFormat 78 = .ok (.iconst 0, 1) := by decide +kernel
theorem dX8_setFormat_79 : decode cX8_setFormat 79 = .ok (.iconst 3, 1) := by decide +kernel
theorem dX8_setFormat_80 : decode cX8_setFormat 80 = .ok (.iload_n 1, 1) := by decide +kernel
theorem dX8_setFormat_81 : decode cX8_setFormat 81 = .ok (.imul, 1) := by decide +kernel
theorem dX8_setFormat_82 : decode cX8_setFormat 82 = .ok (.iadd, 1) := by decide +kernel
theorem dX8_setFormat_83 : decode cX8_setFormat 83 = .ok (.iconst 1, 1) := by decide +kernel
theorem dX8_setFormat_84 : decode cX8_setFormat 84 = .ok (.iadd, 1) := by decide +kernel
theorem dX8_setFormat_85 : decode cX8_setFormat 85 = .ok (.iload_n 3, 1) := by decide +kernel
theorem dX8_setFormat_86 : decode cX8_setFormat 86 = .ok (.i2l, 1) := by decide +kernel
theorem dX8_setFormat_87 : decode cX8_setFormat 87 = .ok (.lastore, 1) := by decide +kernel
theorem dX8_setFormat_88 : decode cX8_setFormat 88 = .ok (.aload_n 0, 1) := by decide +kernel
theorem dX8_setFormat_89 : decode cX8_setFormat 89 = .ok (.getfield 7, 3) := by decide +kernel
theorem dX8_setFormat_92 : decode cX8_setFormat 92 = .ok (.iconst 0, 1) := by decide +kernel
theorem dX8_setFormat_93 : decode cX8_setFormat 93 = .ok (.iconst 3, 1) := by decide +kernel
theorem dX8_setFormat_94 : decode cX8_setFormat 94 = .ok (.iload_n 1, 1) := by decide +kernel
theorem dX8_setFormat_95 : decode cX8_setFormat 95 = .ok (.imul, 1) := by decide +kernel
theorem dX8_setFormat_96 : decode cX8_setFormat 96 = .ok (.iadd, 1) := by decide +kernel
theorem dX8_setFormat_97 : decode cX8_setFormat 97 = .ok (.iconst 2, 1) := by decide +kernel
theorem dX8_setFormat_98 : decode cX8_setFormat 98 = .ok (.iadd, 1) := by decide +kernel
theorem dX8_setFormat_99 : decode cX8_setFormat 99 = .ok (.iload 4, 2) := by decide +kernel
theorem dX8_setFormat_101 : decode cX8_setFormat 101 = .ok (.i2l, 1) := by decide +kernel
theorem dX8_setFormat_102 : decode cX8_setFormat 102 = .ok (.lastore, 1) := by decide +kernel
theorem dX8_setFormat_103 : decode cX8_setFormat 103 = .ok (.iconst 0, 1) := by decide +kernel
theorem dX8_setFormat_104 : decode cX8_setFormat 104 = .ok (.istore 6, 2) := by decide +kernel
theorem dX8_setFormat_106 : decode cX8_setFormat 106 = .ok (.iload 6, 2) := by decide +kernel
theorem dX8_setFormat_108 : decode cX8_setFormat 108 = .ok (.bipush 8, 2) := by decide +kernel
theorem dX8_setFormat_110 : decode cX8_setFormat 110 = .ok (.if_icmp .ge 43, 3) := by decide +kernel
theorem dX8_setFormat_113 : decode cX8_setFormat 113 = .ok (.aload_n 0, 1) := by decide +kernel
theorem dX8_setFormat_114 : decode cX8_setFormat 114 = .ok (.getfield 7, 3) := by decide +kernel
theorem dX8_setFormat_117 : decode cX8_setFormat 117 = .ok (.bipush 20, 2) := by decide +kernel
theorem dX8_setFormat_119 : decode cX8_setFormat 119 = .ok (.iload 6, 2) := by decide +kernel
theorem dX8_setFormat_121 : decode cX8_setFormat 121 = .ok (.iadd, 1) := by decide +kernel
theorem dX8_setFormat_122 : decode cX8_setFormat 122 = .ok (.aload_n 0, 1) := by decide +kernel
theorem dX8_setFormat_123 : decode cX8_setFormat 123 = .ok (.iload 6, 2) := by decide +kernel
theorem dX8_setFormat_125 : decode cX8_setFormat 125 = .ok (.invokevirtual 112, 3) := by decide +kernel
theorem dX8_setFormat_128 : decode cX8_setFormat 128 = .ok (.iload_n 1, 1) := by decide +kernel
theorem dX8_setFormat_129 : decode cX8_setFormat 129 = .ok (.if_icmp .ne 7, 3) := by decide +kernel
theorem dX8_setFormat_132 : decode cX8_setFormat 132 = .ok (.lconst 0, 1) := by decide +kernel
theorem dX8_setFormat_133 : decode cX8_setFormat 133 = .ok (.goto 13, 3) := by decide +kernel
theorem dX8_setFormat_136 : decode cX8_setFormat 136 = .ok (.aload_n 0, 1) := by decide +kernel
theorem dX8_setFormat_137 : decode cX8_setFormat 137 = .ok (.getfield 7, 3) := by decide +kernel
theorem dX8_setFormat_140 : decode cX8_setFormat 140 = .ok (.bipush 20, 2) := by decide +kernel
theorem dX8_setFormat_142 : decode cX8_setFormat 142 = .ok (.iload 6, 2) := by decide +kernel
theorem dX8_setFormat_144 : decode cX8_setFormat 144 = .ok (.iadd, 1) := by decide +kernel
theorem dX8_setFormat_145 : decode cX8_setFormat 145 = .ok (.laload, 1) := by decide +kernel
theorem dX8_setFormat_146 : decode cX8_setFormat 146 = .ok (.lastore, 1) := by decide +kernel
theorem dX8_setFormat_147 : decode cX8_setFormat 147 = .ok (.iinc 6 1, 3) := by decide +kernel
theorem dX8_setFormat_150 : decode cX8_setFormat 150 = .ok (.goto (-44), 3) := by decide +kernel
theorem dX8_setFormat_153 : decode cX8_setFormat 153 = .ok (.iload 5, 2) := by decide +kernel
theorem dX8_setFormat_155 : decode cX8_setFormat 155 = .ok (.ireturn, 1) := by decide +kernel
theorem dX8_setRegister_0 : decode cX8_setRegister 0 = .ok (.iload_n 1, 1) := by decide +kernel
theorem dX8_setRegister_1 : decode cX8_setRegister 1 = .ok (.invokestatic 116, 3) := by decide +kernel
theorem dX8_setRegister_4 : decode cX8_setRegister 4 = .ok (.ifCond .eq 10, 3) := by decide +kernel
theorem dX8_setRegister_7 : decode cX8_setRegister 7 = .ok (.iload_n 2, 1) := by decide +kernel
theorem dX8_setRegister_8 : decode cX8_setRegister 8 = .ok (.invokestatic 100, 3) := by decide +kernel
theorem dX8_setRegister_11 : decode cX8_setRegister 11 = .ok (.ifCond .ne 6, 3) := by decide +kernel
theorem dX8_setRegister_14 : decode cX8_setRegister 14 = .ok (.ldc 104, 2) := by decide +kernel
theorem dX8_setRegister_16 : decode cX8_setRegister 16 = .ok (.ireturn, 1) := by decide +kernel
theorem dX8_setRegister_17 : decode cX8_setRegister 17 = .ok (.aload_n 0, 1) := by decide +kernel
theorem dX8_setRegister_18 : decode cX8_setRegister 18 = .ok (.invokevirtual 105, 3) := by decide +kernel
theorem dX8_setRegister_21 : decode cX8_setRegister 21 = .ok (.aload_n 0, 1) := by decide +kernel
theorem dX8_setRegister_22 : decode cX8_setRegister 22 = .ok (.iload_n 1, 1) := by decide +kernel
theorem dX8_setRegister_23 : decode cX8_setRegister 23 = .ok (.invokevirtual 112, 3) := by decide +kernel
theorem dX8_setRegister_26 : decode cX8_setRegister 26 = .ok (.istore_n 3, 1) := by decide +kernel
theorem dX8_setRegister_27 : decode cX8_setRegister 27 = .ok (.aload_n 0, 1) := by decide +kernel
theorem dX8_setRegister_28 : decode cX8_setRegister 28 = .ok (.getfield 7, 3) := by decide +kernel
theorem dX8_setRegister_31 : decode cX8_setRegister 31 = .ok (.bipush 12, 2) := by decide +kernel
theorem dX8_setRegister_33 : decode cX8_setRegister 33 = .ok (.iload_n 1, 1) := by decide +kernel
theorem dX8_setRegister_34 : decode cX8_setRegister 34 = .ok (.iadd, 1) := by decide +kernel
theorem dX8_setRegister_35 : decode cX8_setRegister 35 = .ok (.iload_n 2, 1) := by decide +kernel
theorem dX8_setRegister_36 : decode cX8_setRegister 36 = .ok (.i2l, 1) := by decide +kernel
theorem dX8_setRegister_37 : decode cX8_setRegister 37 = .ok (.lastore, 1) := by decide +kernel
theorem dX8_setRegister_38 : decode cX8_setRegister 38 = .ok (.aload_n 0, 1) := by decide +kernel
theorem dX8_setRegister_39 : decode cX8_setRegister 39 = .ok (.getfield 7, 3) := by decide +kernel
theorem dX8_setRegister_42 : decode cX8_setRegister 42 = .ok (.bipush 20, 2) := by decide +kernel
theorem dX8_setRegister_44 : decode cX8_setRegister 44 = .ok (.iload_n 1, 1) := by decide +kernel
theorem dX8_setRegister_45 : decode cX8_setRegister 45 = .ok (.iadd, 1) := by decide +kernel
theorem dX8_setRegister_46 : decode cX8_setRegister 46 = .ok (.lconst 0, 1) := by decide +kernel
theorem dX8_setRegister_47 : decode cX8_setRegister 47 = .ok (.lastore, 1) := by decide +kernel
theorem dX8_setRegister_48 : decode cX8_setRegister 48 = .ok (.iload_n 3, 1) := by decide +kernel
theorem dX8_setRegister_49 : decode cX8_setRegister 49 = .ok (.ireturn, 1) := by decide +kernel
theorem dX8_setValue_0 : decode cX8_setValue 0 = .ok (.iload_n 1, 1) := by decide +kernel
theorem dX8_setValue_1 : decode cX8_setValue 1 = .ok (.invokestatic 116, 3) := by decide +kernel
theorem dX8_setValue_4 : decode cX8_setValue 4 = .ok (.ifCond .eq 14, 3) := by decide +kernel
theorem dX8_setValue_7 : decode cX8_setValue 7 = .ok (.iload_n 2, 1) := by decide +kernel
theorem dX8_setValue_8 : decode cX8_setValue 8 = .ok (.ldc 119, 2) := by decide +kernel
theorem dX8_setValue_10 : decode cX8_setValue 10 = .ok (.ldc 120, 2) := by decide +kernel
theorem dX8_setValue_12 : decode cX8_setValue 12 = .ok (.invokestatic 53, 3) := by decide +kernel
theorem dX8_setValue_15 : decode cX8_setValue 15 = .ok (.ifCond .ne 6, 3) := by decide +kernel
theorem dX8_setValue_18 : decode cX8_setValue 18 = .ok (.ldc 104, 2) := by decide +kernel
theorem dX8_setValue_20 : decode cX8_setValue 20 = .ok (.ireturn, 1) := by decide +kernel
theorem dX8_setValue_21 : decode cX8_setValue 21 = .ok (.aload_n 0, 1) := by decide +kernel
theorem dX8_setValue_22 : decode cX8_setValue 22 = .ok (.invokevirtual 105, 3) := by decide +kernel
theorem dX8_setValue_25 : decode cX8_setValue 25 = .ok (.aload_n 0, 1) := by decide +kernel
theorem dX8_setValue_26 : decode cX8_setValue 26 = .ok (.iload_n 1, 1) := by decide +kernel
theorem dX8_setValue_27 : decode cX8_setValue 27 = .ok (.invokevirtual 112, 3) := by decide +kernel
theorem dX8_setValue_30 : decode cX8_setValue 30 = .ok (.istore_n 3, 1) := by decide +kernel
theorem dX8_setValue_31 : decode cX8_setValue 31 = .ok (.aload_n 0, 1) := by decide +kernel
theorem dX8_setValue_32 : decode cX8_setValue 32 = .ok (.aload_n 0, 1) := by decide +kernel
theorem dX8_setValue_33 : decode cX8_setValue 33 = .ok (.iload_n 3, 1) := by decide +kernel
theorem dX8_setValue_34 : decode cX8_setValue 34 = .ok (.iconst 0, 1) := by decide +kernel
theorem dX8_setValue_35 : decode cX8_setValue 35 = .ok (.invokevirtual 108, 3) := by decide +kernel
theorem dX8_setValue_38 : decode cX8_setValue 38 = .ok (.aload_n 0, 1) := by decide +kernel
theorem dX8_setValue_39 : decode cX8_setValue 39 = .ok (.iload_n 3, 1) := by decide +kernel
theorem dX8_setValue_40 : decode cX8_setValue 40 = .ok (.iconst 1, 1) := by decide +kernel
theorem dX8_setValue_41 : decode cX8_setValue 41 = .ok (.invokevirtual 108, 3) := by decide +kernel
theorem dX8_setValue_44 : decode cX8_setValue 44 = .ok (.aload_n 0, 1) := by decide +kernel
theorem dX8_setValue_45 : decode cX8_setValue 45 = .ok (.iload_n 3, 1) := by decide +kernel
theorem dX8_setValue_46 : decode cX8_setValue 46 = .ok (.iconst 2, 1) := by decide +kernel
theorem dX8_setValue_47 : decode cX8_setValue 47 = .ok (.invokevirtual 108, 3) := by decide +kernel
theorem dX8_setValue_50 : decode cX8_setValue 50 = .ok (.iload_n 2, 1) := by decide +kernel
theorem dX8_setValue_51 : decode cX8_setValue 51 = .ok (.i2l, 1) := by decide +kernel
theorem dX8_setValue_52 : decode cX8_setValue 52 = .ok (.lconst 1, 1) := by decide +kernel
theorem dX8_setValue_53 : decode cX8_setValue 53 = .ok (.invokevirtual 121, 3) := by decide +kernel
theorem dX8_setValue_56 : decode cX8_setValue 56 = .ok (.aload_n 0, 1) := by decide +kernel
theorem dX8_setValue_57 : decode cX8_setValue 57 = .ok (.getfield 7, 3) := by decide +kernel
theorem dX8_setValue_60 : decode cX8_setValue 60 = .ok (.bipush 20, 2) := by decide +kernel
theorem dX8_setValue_62 : decode cX8_setValue 62 = .ok (.iload_n 1, 1) := by decide +kernel
theorem dX8_setValue_63 : decode cX8_setValue 63 = .ok (.iadd, 1) := by decide +kernel
theorem dX8_setValue_64 : decode cX8_setValue 64 = .ok (.aload_n 0, 1) := by decide +kernel
theorem dX8_setValue_65 : decode cX8_setValue 65 = .ok (.iload_n 2, 1) := by decide +kernel
theorem dX8_setValue_66 : decode cX8_setValue 66 = .ok (.i2l, 1) := by decide +kernel
theorem dX8_setValue_67 : decode cX8_setValue 67 = .ok (.lconst 1, 1) := by decide +kernel
theorem dX8_setValue_68 : decode cX8_setValue 68 = .ok (.iconst 3, 1) := by decide +kernel
theorem dX8_setValue_69 : decode cX8_setValue 69 = .ok (.lconst 0, 1) := by decide +kernel
theorem dX8_setValue_70 : decode cX8_setValue 70 = .ok (.iconst 0, 1) := by decide +kernel
theorem dX8_setValue_71 : decode cX8_setValue 71 = .ok (.invokevirtual 125, 3) := by decide +kernel
theorem dX8_setValue_74 : decode cX8_setValue 74 = .ok (.lastore, 1) := by decide +kernel
theorem dX8_setValue_75 : decode cX8_setValue 75 = .ok (.aload_n 0, 1) := by decide +kernel
theorem dX8_setValue_76 : decode cX8_setValue 76 = .ok (.getfield 7, 3) := by decide +kernel
theorem dX8_setValue_79 : decode cX8_setValue 79 = .ok (.bipush 20, 2) := by decide +kernel
theorem dX8_setValue_81 : decode cX8_setValue 81 = .ok (.iload_n 1, 1) := by decide +kernel
theorem dX8_setValue_82 : decode cX8_setValue 82 = .ok (.iadd, 1) := by decide +kernel
theorem dX8_setValue_83 : decode cX8_setValue 83 = .ok (.laload, 1) := by decide +kernel
theorem dX8_setValue_84 : decode cX8_setValue 84 = .ok (.l2i, 1) := by decide +kernel
theorem dX8_setValue_85 : decode cX8_setValue 85 = .ok (.ireturn, 1) := by decide +kernel
theorem dX8_sets_0 : decode cX8_sets 0 = .ok (.aload_n 0, 1) := by decide +kernel
theorem dX8_sets_1 : decode cX8_sets 1 = .ok (.invokevirtual 105, 3) := by decide +kernel
theorem dX8_sets_4 : decode cX8_sets 4 = .ok (.aload_n 0, 1) := by decide +kernel
theorem dX8_sets_5 : decode cX8_sets 5 = .ok (.getfield 7, 3) := by decide +kernel
theorem dX8_sets_8 : decode cX8_sets 8 = .ok (.iload_n 1, 1) := by decide +kernel
theorem dX8_sets_9 : decode cX8_sets 9 = .ok (.laload, 1) := by decide +kernel
theorem dX8_sets_10 : decode cX8_sets 10 = .ok (.l2i, 1) := by decide +kernel
theorem dX8_sets_11 : decode cX8_sets 11 = .ok (.istore_n 3, 1) := by decide +kernel
theorem dX8_sets_12 : decode cX8_sets 12 = .ok (.aload_n 0, 1) := by decide +kernel
theorem dX8_sets_13 : decode cX8_sets 13 = .ok (.getfield 7, 3) := by decide +kernel
theorem dX8_sets_16 : decode cX8_sets 16 = .ok (.iload_n 1, 1) := by decide +kernel
theorem dX8_sets_17 : decode cX8_sets 17 = .ok (.iload_n 2, 1) := by decide +kernel
theorem dX8_sets_18 : decode cX8_sets 18 = .ok (.i2l, 1) := by decide +kernel
theorem dX8_sets_19 : decode cX8_sets 19 = .ok (.lastore, 1) := by decide +kernel
theorem dX8_sets_20 : decode cX8_sets 20 = .ok (.iload_n 3, 1) := by decide +kernel
theorem dX8_sets_21 : decode cX8_sets 21 = .ok (.ireturn, 1) := by decide +kernel
theorem dX8_setMode_0 : decode cX8_setMode 0 = .ok (.iload_n 1, 1) := by decide +kernel
theorem dX8_setMode_1 : decode cX8_setMode 1 = .ok (.iconst 0, 1) := by decide +kernel
theorem dX8_setMode_2 : decode cX8_setMode 2 = .ok (.iconst 4, 1) := by decide +kernel
theorem dX8_setMode_3 : decode cX8_setMode 3 = .ok (.invokestatic 53, 3) := by decide +kernel
theorem dX8_setMode_6 : decode cX8_setMode 6 = .ok (.ifCond .eq 13, 3) := by decide +kernel
theorem dX8_setMode_9 : decode cX8_setMode 9 = .ok (.aload_n 0, 1) := by decide +kernel
theorem dX8_setMode_10 : decode cX8_setMode 10 = .ok (.bipush 28, 2) := by decide +kernel
theorem dX8_setMode_12 : decode cX8_setMode 12 = .ok (.iload_n 1, 1) := by decide +kernel
theorem dX8_setMode_13 : decode cX8_setMode 13 = .ok (.invokevirtual 129, 3) := by decide +kernel
theorem dX8_setMode_16 : decode cX8_setMode 16 = .ok (.goto 5, 3) := by decide +kernel
theorem dX8_setMode_19 : decode cX8_setMode 19 = .ok (.ldc 104, 2) := by decide +kernel
theorem dX8_setMode_21 : decode cX8_setMode 21 = .ok (.ireturn, 1) := by decide +kernel
theorem dX8_setBits_0 : decode cX8_setBits 0 = .ok (.iload_n 1, 1) := by decide +kernel
theorem dX8_setBits_1 : decode cX8_setBits 1 = .ok (.iconst 1, 1) := by decide +kernel
theorem dX8_setBits_2 : decode cX8_setBits 2 = .ok (.bipush 8, 2) := by decide +kernel
theorem dX8_setBits_4 : decode cX8_setBits 4 = .ok (.invokestatic 53, 3) := by decide +kernel
theorem dX8_setBits_7 : decode cX8_setBits 7 = .ok (.ifCond .eq 13, 3) := by decide +kernel
theorem dX8_setBits_10 : decode cX8_setBits 10 = .ok (.aload_n 0, 1) := by decide +kernel
theorem dX8_setBits_11 : decode cX8_setBits 11 = .ok (.bipush 29, 2) := by decide +kernel
theorem dX8_setBits_13 : decode cX8_setBits 13 = .ok (.iload_n 1, 1) := by decide +kernel
theorem dX8_setBits_14 : decode cX8_setBits 14 = .ok (.invokevirtual 129, 3) := by decide +kernel
theorem dX8_setBits_17 : decode cX8_setBits 17 = .ok (.goto 5, 3) := by decide +kernel
theorem dX8_setBits_20 : decode cX8_setBits 20 = .ok (.ldc 104, 2) := by decide +kernel
theorem dX8_setBits_22 : decode cX8_setBits 22 = .ok (.ireturn, 1) := by decide +kernel
theorem dX8_setSeed_0 : decode cX8_setSeed 0 = .ok (.aload_n 0, 1) := by decide +kernel
theorem dX8_setSeed_1 : decode cX8_setSeed 1 = .ok (.bipush 30, 2) := by decide +kernel
theorem dX8_setSeed_3 : decode cX8_setSeed 3 = .ok (.iload_n 1, 1) := by decide +kernel
theorem dX8_setSeed_4 : decode cX8_setSeed 4 = .ok (.invokevirtual 129, 3) := by decide +kernel
theorem dX8_setSeed_7 : decode cX8_setSeed 7 = .ok (.ireturn, 1) := by decide +kernel
theorem dX8_value_0 : decode cX8_value 0 = .ok (.iload_n 1, 1) := by decide +kernel
theorem dX8_value_1 : decode cX8_value 1 = .ok (.invokestatic 116, 3) := by decide +kernel
theorem dX8_value_4 : decode cX8_value 4 = .ok (.ifCond .eq 16, 3) := by decide +kernel
theorem dX8_value_7 : decode cX8_value 7 = .ok (.aload_n 0, 1) := by decide +kernel
theorem dX8_value_8 : decode cX8_value 8 = .ok (.getfield 7, 3) := by decide +kernel
theorem dX8_value_11 : decode cX8_value 11 = .ok (.bipush 20, 2) := by decide +kernel
theorem dX8_value_13 : decode cX8_value 13 = .ok (.iload_n 1, 1) := by decide +kernel
theorem dX8_value_14 : decode cX8_value 14 = .ok (.iadd, 1) := by decide +kernel
theorem dX8_value_15 : decode cX8_value 15 = .ok (.laload, 1) := by decide +kernel
theorem dX8_value_16 : decode cX8_value 16 = .ok (.l2i, 1) := by decide +kernel
theorem dX8_value_17 : decode cX8_value 17 = .ok (.goto 5, 3) := by decide +kernel
theorem dX8_value_20 : decode cX8_value 20 = .ok (.ldc 104, 2) := by decide +kernel
theorem dX8_value_22 : decode cX8_value 22 = .ok (.ireturn, 1) := by decide +kernel
theorem dX8_formatOf_0 : decode cX8_formatOf 0 = .ok (.iload_n 1, 1) := by decide +kernel
theorem dX8_formatOf_1 : decode cX8_formatOf 1 = .ok (.invokestatic 116, 3) := by decide +kernel
theorem dX8_formatOf_4 : decode cX8_formatOf 4 = .ok (.ifCond .eq 11, 3) := by decide +kernel
theorem dX8_formatOf_7 : decode cX8_formatOf 7 = .ok (.aload_n 0, 1) := by decide +kernel
theorem dX8_formatOf_8 : decode cX8_formatOf 8 = .ok (.iload_n 1, 1) := by decide +kernel
theorem dX8_formatOf_9 : decode cX8_formatOf 9 = .ok (.invokevirtual 112, 3) := by decide +kernel
theorem dX8_formatOf_12 : decode cX8_formatOf 12 = .ok (.goto 5, 3) := by decide +kernel
theorem dX8_formatOf_15 : decode cX8_formatOf 15 = .ok (.ldc 104, 2) := by decide +kernel
theorem dX8_formatOf_17 : decode cX8_formatOf 17 = .ok (.ireturn, 1) := by decide +kernel
theorem dX8_takes_0 : decode cX8_takes 0 = .ok (.iconst 0, 1) := by decide +kernel
theorem dX8_takes_1 : decode cX8_takes 1 = .ok (.istore_n 1, 1) := by decide +kernel
theorem dX8_takes_2 : decode cX8_takes 2 = .ok (.iload_n 1, 1) := by decide +kernel
theorem dX8_takes_3 : decode cX8_takes 3 = .ok (.bipush 8, 2) := by decide +kernel
theorem dX8_takes_5 : decode cX8_takes 5 = .ok (.if_icmp .ge 24, 3) := by decide +kernel
theorem dX8_takes_8 : decode cX8_takes 8 = .ok (.aload_n 0, 1) := by decide +kernel
theorem dX8_takes_9 : decode cX8_takes 9 = .ok (.getfield 17, 3) := by decide +kernel
theorem dX8_takes_12 : decode cX8_takes 12 = .ok (.iload_n 1, 1) := by decide +kernel
theorem dX8_takes_13 : decode cX8_takes 13 = .ok (.aload_n 0, 1) := by decide +kernel
theorem dX8_takes_14 : decode cX8_takes 14 = .ok (.getfield 7, 3) := by decide +kernel
theorem dX8_takes_17 : decode cX8_takes 17 = .ok (.bipush 20, 2) := by decide +kernel
theorem dX8_takes_19 : decode cX8_takes 19 = .ok (.iload_n 1, 1) := by decide +kernel
theorem dX8_takes_20 : decode cX8_takes 20 = .ok (.iadd, 1) := by decide +kernel
theorem dX8_takes_21 : decode cX8_takes 21 = .ok (.laload, 1) := by decide +kernel
theorem dX8_takes_22 : decode cX8_takes 22 = .ok (.lastore, 1) := by decide +kernel
theorem dX8_takes_23 : decode cX8_takes 23 = .ok (.iinc 1 1, 3) := by decide +kernel
theorem dX8_takes_26 : decode cX8_takes 26 = .ok (.goto (-24), 3) := by decide +kernel
theorem dX8_takes_29 : decode cX8_takes 29 = .ok (.aload_n 0, 1) := by decide +kernel
theorem dX8_takes_30 : decode cX8_takes 30 = .ok (.aload_n 0, 1) := by decide +kernel
theorem dX8_takes_31 : decode cX8_takes 31 = .ok (.getfield 7, 3) := by decide +kernel
theorem dX8_takes_34 : decode cX8_takes 34 = .ok (.bipush 28, 2) := by decide +kernel
theorem dX8_takes_36 : decode cX8_takes 36 = .ok (.laload, 1) := by decide +kernel
theorem dX8_takes_37 : decode cX8_takes 37 = .ok (.l2i, 1) := by decide +kernel
theorem dX8_takes_38 : decode cX8_takes 38 = .ok (.putfield 132, 3) := by decide +kernel
theorem dX8_takes_41 : decode cX8_takes 41 = .ok (.aload_n 0, 1) := by decide +kernel
theorem dX8_takes_42 : decode cX8_takes 42 = .ok (.aload_n 0, 1) := by decide +kernel
theorem dX8_takes_43 : decode cX8_takes 43 = .ok (.getfield 7, 3) := by decide +kernel
theorem dX8_takes_46 : decode cX8_takes 46 = .ok (.bipush 30, 2) := by decide +kernel
theorem dX8_takes_48 : decode cX8_takes 48 = .ok (.laload, 1) := by decide +kernel
theorem dX8_takes_49 : decode cX8_takes 49 = .ok (.l2i, 1) := by decide +kernel
theorem dX8_takes_50 : decode cX8_takes 50 = .ok (.putfield 135, 3) := by decide +kernel
theorem dX8_takes_53 : decode cX8_takes 53 = .ok (.aload_n 0, 1) := by decide +kernel
theorem dX8_takes_54 : decode cX8_takes 54 = .ok (.aload_n 0, 1) := by decide +kernel
theorem dX8_takes_55 : decode cX8_takes 55 = .ok (.getfield 7, 3) := by decide +kernel
theorem dX8_takes_58 : decode cX8_takes 58 = .ok (.bipush 31, 2) := by decide +kernel
theorem dX8_takes_60 : decode cX8_takes 60 = .ok (.laload, 1) := by decide +kernel
theorem dX8_takes_61 : decode cX8_takes 61 = .ok (.l2i, 1) := by decide +kernel
theorem dX8_takes_62 : decode cX8_takes 62 = .ok (.putfield 138, 3) := by decide +kernel
theorem dX8_takes_65 : decode cX8_takes 65 = .ok (.return_, 1) := by decide +kernel
theorem dX8_computes_0 : decode cX8_computes 0 = .ok (.aload_n 0, 1) := by decide +kernel
theorem dX8_computes_1 : decode cX8_computes 1 = .ok (.getfield 17, 3) := by decide +kernel
theorem dX8_computes_4 : decode cX8_computes 4 = .ok (.iload_n 3, 1) := by decide +kernel
theorem dX8_computes_5 : decode cX8_computes 5 = .ok (.laload, 1) := by decide +kernel
theorem dX8_computes_6 : decode cX8_computes 6 = .ok (.lstore 5, 2) := by decide +kernel
theorem dX8_computes_8 : decode cX8_computes 8 = .ok (.aload_n 0, 1) := by decide +kernel
theorem dX8_computes_9 : decode cX8_computes 9 = .ok (.getfield 17, 3) := by decide +kernel
theorem dX8_computes_12 : decode cX8_computes 12 = .ok (.iload 4, 2) := by decide +kernel
theorem dX8_computes_14 : decode cX8_computes 14 = .ok (.laload, 1) := by decide +kernel
theorem dX8_computes_15 : decode cX8_computes 15 = .ok (.lstore 7, 2) := by decide +kernel
theorem dX8_computes_17 : decode cX8_computes 17 = .ok (.aload_n 0, 1) := by decide +kernel
theorem dX8_computes_18 : decode cX8_computes 18 = .ok (.ldc2_w 141, 3) := by decide +kernel
theorem dX8_computes_21 : decode cX8_computes 21 = .ok (.putfield 143, 3) := by decide +kernel
theorem dX8_computes_24 : decode cX8_computes 24 = .ok (.iload_n 1, 1) := by decide +kernel
theorem dX8_computes_25 : decode cX8_computes 25 = .ok (.tableswitch 111 0 4 #[35, 47, 62, 77, 89], 35) := by decide +kernel
theorem dX8_computes_60 : decode cX8_computes 60 = .ok (.aload_n 0, 1) := by decide +kernel
theorem dX8_computes_61 : decode cX8_computes 61 = .ok (.lload 5, 2) := by decide +kernel
theorem dX8_computes_63 : decode cX8_computes 63 = .ok (.bipush 10, 2) := by decide +kernel
theorem dX8_computes_65 : decode cX8_computes 65 = .ok (.lshl, 1) := by decide +kernel
theorem dX8_computes_66 : decode cX8_computes 66 = .ok (.putfield 146, 3) := by decide +kernel
theorem dX8_computes_69 : decode cX8_computes 69 = .ok (.goto 105, 3) := by decide +kernel
theorem dX8_computes_72 : decode cX8_computes 72 = .ok (.aload_n 0, 1) := by decide +kernel
theorem dX8_computes_73 : decode cX8_computes 73 = .ok (.lload 5, 2) := by decide +kernel
theorem dX8_computes_75 : decode cX8_computes 75 = .ok (.lload 7, 2) := by decide +kernel
theorem dX8_computes_77 : decode cX8_computes 77 = .ok (.ladd, 1) := by decide +kernel
theorem dX8_computes_78 : decode cX8_computes 78 = .ok (.bipush 10, 2) := by decide +kernel
theorem dX8_computes_80 : decode cX8_computes 80 = .ok (.lshl, 1) := by decide +kernel
theorem dX8_computes_81 : decode cX8_computes 81 = .ok (.putfield 146, 3) := by decide +kernel
theorem dX8_computes_84 : decode cX8_computes 84 = .ok (.goto 90, 3) := by decide +kernel
theorem dX8_computes_87 : decode cX8_computes 87 = .ok (.aload_n 0, 1) := by decide +kernel
theorem dX8_computes_88 : decode cX8_computes 88 = .ok (.lload 5, 2) := by decide +kernel
theorem dX8_computes_90 : decode cX8_computes 90 = .ok (.lload 7, 2) := by decide +kernel
theorem dX8_computes_92 : decode cX8_computes 92 = .ok (.lsub, 1) := by decide +kernel
theorem dX8_computes_93 : decode cX8_computes 93 = .ok (.bipush 10, 2) := by decide +kernel
theorem dX8_computes_95 : decode cX8_computes 95 = .ok (.lshl, 1) := by decide +kernel
theorem dX8_computes_96 : decode cX8_computes 96 = .ok (.putfield 146, 3) := by decide +kernel
theorem dX8_computes_99 : decode cX8_computes 99 = .ok (.goto 75, 3) := by decide +kernel
theorem dX8_computes_102 : decode cX8_computes 102 = .ok (.aload_n 0, 1) := by decide +kernel
theorem dX8_computes_103 : decode cX8_computes 103 = .ok (.lload 5, 2) := by decide +kernel
theorem dX8_computes_105 : decode cX8_computes 105 = .ok (.lload 7, 2) := by decide +kernel
theorem dX8_computes_107 : decode cX8_computes 107 = .ok (.lmul, 1) := by decide +kernel
theorem dX8_computes_108 : decode cX8_computes 108 = .ok (.putfield 146, 3) := by decide +kernel
theorem dX8_computes_111 : decode cX8_computes 111 = .ok (.goto 63, 3) := by decide +kernel
theorem dX8_computes_114 : decode cX8_computes 114 = .ok (.aload_n 0, 1) := by decide +kernel
theorem dX8_computes_115 : decode cX8_computes 115 = .ok (.lload 5, 2) := by decide +kernel
theorem dX8_computes_117 : decode cX8_computes 117 = .ok (.lload 7, 2) := by decide +kernel
theorem dX8_computes_119 : decode cX8_computes 119 = .ok (.lmul, 1) := by decide +kernel
theorem dX8_computes_120 : decode cX8_computes 120 = .ok (.aload_n 0, 1) := by decide +kernel
theorem dX8_computes_121 : decode cX8_computes 121 = .ok (.getfield 17, 3) := by decide +kernel
theorem dX8_computes_124 : decode cX8_computes 124 = .ok (.iload_n 2, 1) := by decide +kernel
theorem dX8_computes_125 : decode cX8_computes 125 = .ok (.laload, 1) := by decide +kernel
theorem dX8_computes_126 : decode cX8_computes 126 = .ok (.bipush 10, 2) := by decide +kernel
theorem dX8_computes_128 : decode cX8_computes 128 = .ok (.lshl, 1) := by decide +kernel
theorem dX8_computes_129 : decode cX8_computes 129 = .ok (.ladd, 1) := by decide +kernel
theorem dX8_computes_130 : decode cX8_computes 130 = .ok (.putfield 146, 3) := by decide +kernel
theorem dX8_computes_133 : decode cX8_computes 133 = .ok (.goto 41, 3) := by decide +kernel
theorem dX8_computes_136 : decode cX8_computes 136 = .ok (.aload_n 0, 1) := by decide +kernel
theorem dX8_computes_137 : decode cX8_computes 137 = .ok (.lload 7, 2) := by decide +kernel
theorem dX8_computes_139 : decode cX8_computes 139 = .ok (.lconst 0, 1) := by decide +kernel
theorem dX8_computes_140 : decode cX8_computes 140 = .ok (.lcmp, 1) := by decide +kernel
theorem dX8_computes_141 : decode cX8_computes 141 = .ok (.ifCond .ge 9, 3) := by decide +kernel
theorem dX8_computes_144 : decode cX8_computes 144 = .ok (.lload 5, 2) := by decide +kernel
theorem dX8_computes_146 : decode cX8_computes 146 = .ok (.lneg, 1) := by decide +kernel
theorem dX8_computes_147 : decode cX8_computes 147 = .ok (.goto 5, 3) := by decide +kernel
theorem dX8_computes_150 : decode cX8_computes 150 = .ok (.lload 5, 2) := by decide +kernel
theorem dX8_computes_152 : decode cX8_computes 152 = .ok (.putfield 146, 3) := by decide +kernel
theorem dX8_computes_155 : decode cX8_computes 155 = .ok (.aload_n 0, 1) := by decide +kernel
theorem dX8_computes_156 : decode cX8_computes 156 = .ok (.lload 7, 2) := by decide +kernel
theorem dX8_computes_158 : decode cX8_computes 158 = .ok (.lconst 0, 1) := by decide +kernel
theorem dX8_computes_159 : decode cX8_computes 159 = .ok (.lcmp, 1) := by decide +kernel
theorem dX8_computes_160 : decode cX8_computes 160 = .ok (.ifCond .ge 9, 3) := by decide +kernel
theorem dX8_computes_163 : decode cX8_computes 163 = .ok (.lload 7, 2) := by decide +kernel
theorem dX8_computes_165 : decode cX8_computes 165 = .ok (.lneg, 1) := by decide +kernel
theorem dX8_computes_166 : decode cX8_computes 166 = .ok (.goto 5, 3) := by decide +kernel
theorem dX8_computes_169 : decode cX8_computes 169 = .ok (.lload 7, 2) := by decide +kernel
theorem dX8_computes_171 : decode cX8_computes 171 = .ok (.putfield 143, 3) := by decide +kernel
theorem dX8_computes_174 : decode cX8_computes 174 = .ok (.return_, 1) := by decide +kernel
theorem dX8_works_0 : decode cX8_works 0 = .ok (.aload_n 0, 1) := by decide +kernel
theorem dX8_works_1 : decode cX8_works 1 = .ok (.iload_n 2, 1) := by decide +kernel
theorem dX8_works_2 : decode cX8_works 2 = .ok (.invokevirtual 112, 3) := by decide +kernel
theorem dX8_works_5 : decode cX8_works 5 = .ok (.istore 5, 2) := by decide +kernel
theorem dX8_works_7 : decode cX8_works 7 = .ok (.aload_n 0, 1) := by decide +kernel
theorem dX8_works_8 : decode cX8_works 8 = .ok (.iload_n 1, 1) := by decide +kernel
theorem dX8_works_9 : decode cX8_works 9 = .ok (.iload_n 2, 1) := by decide +kernel
theorem dX8_works_10 : decode cX8_works 10 = .ok (.iload_n 3, 1) := by decide +kernel
theorem dX8_works_11 : decode cX8_works 11 = .ok (.iload 4, 2) := by decide +kernel
theorem dX8_works_13 : decode cX8_works 13 = .ok (.invokevirtual 149, 3) := by decide +kernel
theorem dX8_works_16 : decode cX8_works 16 = .ok (.aload_n 0, 1) := by decide +kernel
theorem dX8_works_17 : decode cX8_works 17 = .ok (.aload_n 0, 1) := by decide +kernel
theorem dX8_works_18 : decode cX8_works 18 = .ok (.iload 5, 2) := by decide +kernel
theorem dX8_works_20 : decode cX8_works 20 = .ok (.iconst 0, 1) := by decide +kernel
theorem dX8_works_21 : decode cX8_works 21 = .ok (.invokevirtual 108, 3) := by decide +kernel
theorem dX8_works_24 : decode cX8_works 24 = .ok (.aload_n 0, 1) := by decide +kernel
theorem dX8_works_25 : decode cX8_works 25 = .ok (.iload 5, 2) := by decide +kernel
theorem dX8_works_27 : decode cX8_works 27 = .ok (.iconst 1, 1) := by decide +kernel
theorem dX8_works_28 : decode cX8_works 28 = .ok (.invokevirtual 108, 3) := by decide +kernel
theorem dX8_works_31 : decode cX8_works 31 = .ok (.aload_n 0, 1) := by decide +kernel
theorem dX8_works_32 : decode cX8_works 32 = .ok (.iload 5, 2) := by decide +kernel
theorem dX8_works_34 : decode cX8_works 34 = .ok (.iconst 2, 1) := by decide +kernel
theorem dX8_works_35 : decode cX8_works 35 = .ok (.invokevirtual 108, 3) := by decide +kernel
theorem dX8_works_38 : decode cX8_works 38 = .ok (.aload_n 0, 1) := by decide +kernel
theorem dX8_works_39 : decode cX8_works 39 = .ok (.getfield 146, 3) := by decide +kernel
theorem dX8_works_42 : decode cX8_works 42 = .ok (.bipush 10, 2) := by decide +kernel
theorem dX8_works_44 : decode cX8_works 44 = .ok (.lshl, 1) := by decide +kernel
theorem dX8_works_45 : decode cX8_works 45 = .ok (.aload_n 0, 1) := by decide +kernel
theorem dX8_works_46 : decode cX8_works 46 = .ok (.getfield 143, 3) := by decide +kernel
theorem dX8_works_49 : decode cX8_works 49 = .ok (.invokevirtual 121, 3) := by decide +kernel
theorem dX8_works_52 : decode cX8_works 52 = .ok (.aload_n 0, 1) := by decide +kernel
theorem dX8_works_53 : decode cX8_works 53 = .ok (.aload_n 0, 1) := by decide +kernel
theorem dX8_works_54 : decode cX8_works 54 = .ok (.getfield 132, 3) := by decide +kernel
theorem dX8_works_57 : decode cX8_works 57 = .ok (.iconst 4, 1) := by decide +kernel
theorem dX8_works_58 : decode cX8_works 58 = .ok (.if_icmp .ne 25, 3) := by decide +kernel
theorem dX8_works_61 : decode cX8_works 61 = .ok (.aload_n 0, 1) := by decide +kernel
theorem dX8_works_62 : decode cX8_works 62 = .ok (.getfield 135, 3) := by decide +kernel
theorem dX8_works_65 : decode cX8_works 65 = .ok (.aload_n 0, 1) := by decide +kernel
theorem dX8_works_66 : decode cX8_works 66 = .ok (.getfield 138, 3) := by decide +kernel
theorem dX8_works_69 : decode cX8_works 69 = .ok (.aload_n 0, 1) := by decide +kernel
theorem dX8_works_70 : decode cX8_works 70 = .ok (.getfield 7, 3) := by decide +kernel
theorem dX8_works_73 : decode cX8_works 73 = .ok (.bipush 29, 2) := by decide +kernel
theorem dX8_works_75 : decode cX8_works 75 = .ok (.laload, 1) := by decide +kernel
theorem dX8_works_76 : decode cX8_works 76 = .ok (.l2i, 1) := by decide +kernel
theorem dX8_works_77 : decode cX8_works 77 = .ok (.invokestatic 153, 3) := by decide +kernel
theorem dX8_works_80 : decode cX8_works 80 = .ok (.goto 4, 3) := by decide +kernel
theorem dX8_works_83 : decode cX8_works 83 = .ok (.lconst 0, 1) := by decide +kernel
theorem dX8_works_84 : decode cX8_works 84 = .ok (.putfield 157, 3) := by decide +kernel
theorem dX8_works_87 : decode cX8_works 87 = .ok (.aload_n 0, 1) := by decide +kernel
theorem dX8_works_88 : decode cX8_works 88 = .ok (.aload_n 0, 1) := by decide +kernel
theorem dX8_works_89 : decode cX8_works 89 = .ok (.getfield 146, 3) := by decide +kernel
theorem dX8_works_92 : decode cX8_works 92 = .ok (.bipush 10, 2) := by decide +kernel
theorem dX8_works_94 : decode cX8_works 94 = .ok (.lshl, 1) := by decide +kernel
theorem dX8_works_95 : decode cX8_works 95 = .ok (.aload_n 0, 1) := by decide +kernel
theorem dX8_works_96 : decode cX8_works 96 = .ok (.getfield 143, 3) := by decide +kernel
theorem dX8_works_99 : decode cX8_works 99 = .ok (.aload_n 0, 1) := by decide +kernel
theorem dX8_works_100 : decode cX8_works 100 = .ok (.getfield 132, 3) := by decide +kernel
theorem dX8_works_103 : decode cX8_works 103 = .ok (.aload_n 0, 1) := by decide +kernel
theorem dX8_works_104 : decode cX8_works 104 = .ok (.getfield 157, 3) := by decide +kernel
theorem dX8_works_107 : decode cX8_works 107 = .ok (.aload_n 0, 1) := by decide +kernel
theorem dX8_works_108 : decode cX8_works 108 = .ok (.getfield 7, 3) := by decide +kernel
theorem dX8_works_111 : decode cX8_works 111 = .ok (.bipush 29, 2) := by decide +kernel
theorem dX8_works_113 : decode cX8_works 113 = .ok (.laload, 1) := by decide +kernel
theorem dX8_works_114 : decode cX8_works 114 = .ok (.l2i, 1) := by decide +kernel
theorem dX8_works_115 : decode cX8_works 115 = .ok (.invokevirtual 125, 3) := by decide +kernel
theorem dX8_works_118 : decode cX8_works 118 = .ok (.lstore 6, 2) := by decide +kernel
theorem dX8_works_120 : decode cX8_works 120 = .ok (.aload_n 0, 1) := by decide +kernel
theorem dX8_works_121 : decode cX8_works 121 = .ok (.dup, 1) := by decide +kernel
theorem dX8_works_122 : decode cX8_works 122 = .ok (.getfield 138, 3) := by decide +kernel
theorem dX8_works_125 : decode cX8_works 125 = .ok (.iconst 1, 1) := by decide +kernel
theorem dX8_works_126 : decode cX8_works 126 = .ok (.iadd, 1) := by decide +kernel
theorem dX8_works_127 : decode cX8_works 127 = .ok (.putfield 138, 3) := by decide +kernel
theorem dX8_works_130 : decode cX8_works 130 = .ok (.lload 6, 2) := by decide +kernel
theorem dX8_works_132 : decode cX8_works 132 = .ok (.lreturn, 1) := by decide +kernel
theorem dX8_divisor_0 : decode cX8_divisor 0 = .ok (.lload_n 0, 1) := by decide +kernel
theorem dX8_divisor_1 : decode cX8_divisor 1 = .ok (.lconst 0, 1) := by decide +kernel
theorem dX8_divisor_2 : decode cX8_divisor 2 = .ok (.lcmp, 1) := by decide +kernel
theorem dX8_divisor_3 : decode cX8_divisor 3 = .ok (.ifCond .ge 8, 3) := by decide +kernel
theorem dX8_divisor_6 : decode cX8_divisor 6 = .ok (.lload_n 0, 1) := by decide +kernel
theorem dX8_divisor_7 : decode cX8_divisor 7 = .ok (.lneg, 1) := by decide +kernel
theorem dX8_divisor_8 : decode cX8_divisor 8 = .ok (.goto 4, 3) := by decide +kernel
theorem dX8_divisor_11 : decode cX8_divisor 11 = .ok (.lload_n 0, 1) := by decide +kernel
theorem dX8_divisor_12 : decode cX8_divisor 12 = .ok (.lstore 4, 2) := by decide +kernel
theorem dX8_divisor_14 : decode cX8_divisor 14 = .ok (.lload_n 2, 1) := by decide +kernel
theorem dX8_divisor_15 : decode cX8_divisor 15 = .ok (.lstore 6, 2) := by decide +kernel
theorem dX8_divisor_17 : decode cX8_divisor 17 = .ok (.lload 6, 2) := by decide +kernel
theorem dX8_divisor_19 : decode cX8_divisor 19 = .ok (.lconst 0, 1) := by decide +kernel
theorem dX8_divisor_20 : decode cX8_divisor 20 = .ok (.lcmp, 1) := by decide +kernel
theorem dX8_divisor_21 : decode cX8_divisor 21 = .ok (.ifCond .le 21, 3) := by decide +kernel
theorem dX8_divisor_24 : decode cX8_divisor 24 = .ok (.lload 4, 2) := by decide +kernel
theorem dX8_divisor_26 : decode cX8_divisor 26 = .ok (.lload 6, 2) := by decide +kernel
theorem dX8_divisor_28 : decode cX8_divisor 28 = .ok (.lrem, 1) := by decide +kernel
theorem dX8_divisor_29 : decode cX8_divisor 29 = .ok (.lstore 8, 2) := by decide +kernel
theorem dX8_divisor_31 : decode cX8_divisor 31 = .ok (.lload 6, 2) := by decide +kernel
theorem dX8_divisor_33 : decode cX8_divisor 33 = .ok (.lstore 4, 2) := by decide +kernel
theorem dX8_divisor_35 : decode cX8_divisor 35 = .ok (.lload 8, 2) := by decide +kernel
theorem dX8_divisor_37 : decode cX8_divisor 37 = .ok (.lstore 6, 2) := by decide +kernel
theorem dX8_divisor_39 : decode cX8_divisor 39 = .ok (.goto (-22), 3) := by decide +kernel
theorem dX8_divisor_42 : decode cX8_divisor 42 = .ok (.lload 4, 2) := by decide +kernel
theorem dX8_divisor_44 : decode cX8_divisor 44 = .ok (.lreturn, 1) := by decide +kernel
theorem dX8_at_0 : decode cX8_at 0 = .ok (.bipush 40, 2) := by decide +kernel
theorem dX8_at_2 : decode cX8_at 2 = .ok (.bipush 17, 2) := by decide +kernel
theorem dX8_at_4 : decode cX8_at 4 = .ok (.iload_n 1, 1) := by decide +kernel
theorem dX8_at_5 : decode cX8_at 5 = .ok (.imul, 1) := by decide +kernel
theorem dX8_at_6 : decode cX8_at 6 = .ok (.iadd, 1) := by decide +kernel
theorem dX8_at_7 : decode cX8_at 7 = .ok (.ireturn, 1) := by decide +kernel
theorem dX8_dropsOldest_0 : decode cX8_dropsOldest 0 = .ok (.bipush 40, 2) := by decide +kernel
theorem dX8_dropsOldest_2 : decode cX8_dropsOldest 2 = .ok (.istore_n 1, 1) := by decide +kernel
theorem dX8_dropsOldest_3 : decode cX8_dropsOldest 3 = .ok (.iload_n 1, 1) := by decide +kernel
theorem dX8_dropsOldest_4 : decode cX8_dropsOldest 4 = .ok (.bipush 17, 2) := by decide +kernel
theorem dX8_dropsOldest_6 : decode cX8_dropsOldest 6 = .ok (.iadd, 1) := by decide +kernel
theorem dX8_dropsOldest_7 : decode cX8_dropsOldest 7 = .ok (.sipush 1128, 3) := by decide +kernel
theorem dX8_dropsOldest_10 : decode cX8_dropsOldest 10 = .ok (.if_icmp .ge 24, 3) := by decide +kernel
theorem dX8_dropsOldest_13 : decode cX8_dropsOldest 13 = .ok (.aload_n 0, 1) := by decide +kernel
theorem dX8_dropsOldest_14 : decode cX8_dropsOldest 14 = .ok (.getfield 7, 3) := by decide +kernel
theorem dX8_dropsOldest_17 : decode cX8_dropsOldest 17 = .ok (.iload_n 1, 1) := by decide +kernel
theorem dX8_dropsOldest_18 : decode cX8_dropsOldest 18 = .ok (.aload_n 0, 1) := by decide +kernel
theorem dX8_dropsOldest_19 : decode cX8_dropsOldest 19 = .ok (.getfield 7, 3) := by decide +kernel
theorem dX8_dropsOldest_22 : decode cX8_dropsOldest 22 = .ok (.iload_n 1, 1) := by decide +kernel
theorem dX8_dropsOldest_23 : decode cX8_dropsOldest 23 = .ok (.bipush 17, 2) := by decide +kernel
theorem dX8_dropsOldest_25 : decode cX8_dropsOldest 25 = .ok (.iadd, 1) := by decide +kernel
theorem dX8_dropsOldest_26 : decode cX8_dropsOldest 26 = .ok (.laload, 1) := by decide +kernel
theorem dX8_dropsOldest_27 : decode cX8_dropsOldest 27 = .ok (.lastore, 1) := by decide +kernel
theorem dX8_dropsOldest_28 : decode cX8_dropsOldest 28 = .ok (.iinc 1 1, 3) := by decide +kernel
theorem dX8_dropsOldest_31 : decode cX8_dropsOldest 31 = .ok (.goto (-28), 3) := by decide +kernel
theorem dX8_dropsOldest_34 : decode cX8_dropsOldest 34 = .ok (.aload_n 0, 1) := by decide +kernel
theorem dX8_dropsOldest_35 : decode cX8_dropsOldest 35 = .ok (.getfield 7, 3) := by decide +kernel
theorem dX8_dropsOldest_38 : decode cX8_dropsOldest 38 = .ok (.bipush 32, 2) := by decide +kernel
theorem dX8_dropsOldest_40 : decode cX8_dropsOldest 40 = .ok (.dup2, 1) := by decide +kernel
theorem dX8_dropsOldest_41 : decode cX8_dropsOldest 41 = .ok (.laload, 1) := by decide +kernel
theorem dX8_dropsOldest_42 : decode cX8_dropsOldest 42 = .ok (.lconst 1, 1) := by decide +kernel
theorem dX8_dropsOldest_43 : decode cX8_dropsOldest 43 = .ok (.lsub, 1) := by decide +kernel
theorem dX8_dropsOldest_44 : decode cX8_dropsOldest 44 = .ok (.lastore, 1) := by decide +kernel
theorem dX8_dropsOldest_45 : decode cX8_dropsOldest 45 = .ok (.return_, 1) := by decide +kernel
theorem dX8_books_0 : decode cX8_books 0 = .ok (.aload_n 0, 1) := by decide +kernel
theorem dX8_books_1 : decode cX8_books 1 = .ok (.getfield 7, 3) := by decide +kernel
theorem dX8_books_4 : decode cX8_books 4 = .ok (.bipush 32, 2) := by decide +kernel
theorem dX8_books_6 : decode cX8_books 6 = .ok (.laload, 1) := by decide +kernel
theorem dX8_books_7 : decode cX8_books 7 = .ok (.ldc2_w 160, 3) := by decide +kernel
theorem dX8_books_10 : decode cX8_books 10 = .ok (.lcmp, 1) := by decide +kernel
theorem dX8_books_11 : decode cX8_books 11 = .ok (.ifCond .ne 7, 3) := by decide +kernel
theorem dX8_books_14 : decode cX8_books 14 = .ok (.aload_n 0, 1) := by decide +kernel
theorem dX8_books_15 : decode cX8_books 15 = .ok (.invokevirtual 162, 3) := by decide +kernel
theorem dX8_books_18 : decode cX8_books 18 = .ok (.aload_n 0, 1) := by decide +kernel
theorem dX8_books_19 : decode cX8_books 19 = .ok (.aload_n 0, 1) := by decide +kernel
theorem dX8_books_20 : decode cX8_books 20 = .ok (.getfield 7, 3) := by decide +kernel
theorem dX8_books_23 : decode cX8_books 23 = .ok (.bipush 32, 2) := by decide +kernel
theorem dX8_books_25 : decode cX8_books 25 = .ok (.laload, 1) := by decide +kernel
theorem dX8_books_26 : decode cX8_books 26 = .ok (.l2i, 1) := by decide +kernel
theorem dX8_books_27 : decode cX8_books 27 = .ok (.invokevirtual 165, 3) := by decide +kernel
theorem dX8_books_30 : decode cX8_books 30 = .ok (.istore 7, 2) := by decide +kernel
theorem dX8_books_32 : decode cX8_books 32 = .ok (.aload_n 0, 1) := by decide +kernel
theorem dX8_books_33 : decode cX8_books 33 = .ok (.getfield 7, 3) := by decide +kernel
theorem dX8_books_36 : decode cX8_books 36 = .ok (.bipush 32, 2) := by decide +kernel
theorem dX8_books_38 : decode cX8_books 38 = .ok (.dup2, 1) := by decide +kernel
theorem dX8_books_39 : decode cX8_books 39 = .ok (.laload, 1) := by decide +kernel
theorem dX8_books_40 : decode cX8_books 40 = .ok (.lconst 1, 1) := by decide +kernel
theorem dX8_books_41 : decode cX8_books 41 = .ok (.ladd, 1) := by decide +kernel
theorem dX8_books_42 : decode cX8_books 42 = .ok (.lastore, 1) := by decide +kernel
theorem dX8_books_43 : decode cX8_books 43 = .ok (.aload_n 0, 1) := by decide +kernel
theorem dX8_books_44 : decode cX8_books 44 = .ok (.getfield 146, 3) := by decide +kernel
theorem dX8_books_47 : decode cX8_books 47 = .ok (.aload_n 0, 1) := by decide +kernel
theorem dX8_books_48 : decode cX8_books 48 = .ok (.getfield 143, 3) := by decide +kernel
theorem dX8_books_51 : decode cX8_books 51 = .ok (.invokestatic 168, 3) := by decide +kernel
theorem dX8_books_54 : decode cX8_books 54 = .ok (.lstore 8, 2) := by decide +kernel
theorem dX8_books_56 : decode cX8_books 56 = .ok (.aload_n 0, 1) := by decide +kernel
theorem dX8_books_57 : decode cX8_books 57 = .ok (.iload_n 2, 1) := by decide +kernel
theorem dX8_books_58 : decode cX8_books 58 = .ok (.invokevirtual 112, 3) := by decide +kernel
theorem dX8_books_61 : decode cX8_books 61 = .ok (.istore 10, 2) := by decide +kernel
theorem dX8_books_63 : decode cX8_books 63 = .ok (.lload 5, 2) := by decide +kernel
theorem dX8_books_65 : decode cX8_books 65 = .ok (.aload_n 0, 1) := by decide +kernel
theorem dX8_books_66 : decode cX8_books 66 = .ok (.getfield 7, 3) := by decide +kernel
theorem dX8_books_69 : decode cX8_books 69 = .ok (.bipush 20, 2) := by decide +kernel
theorem dX8_books_71 : decode cX8_books 71 = .ok (.iload_n 2, 1) := by decide +kernel
theorem dX8_books_72 : decode cX8_books 72 = .ok (.iadd, 1) := by decide +kernel
theorem dX8_books_73 : decode cX8_books 73 = .ok (.laload, 1) := by decide +kernel
theorem dX8_books_74 : decode cX8_books 74 = .ok (.lcmp, 1) := by decide +kernel
theorem dX8_books_75 : decode cX8_books 75 = .ok (.ifCond .ne 25, 3) := by decide +kernel
theorem dX8_books_78 : decode cX8_books 78 = .ok (.aload_n 0, 1) := by decide +kernel
theorem dX8_books_79 : decode cX8_books 79 = .ok (.getfield 146, 3) := by decide +kernel
theorem dX8_books_82 : decode cX8_books 82 = .ok (.bipush 10, 2) := by decide +kernel
theorem dX8_books_84 : decode cX8_books 84 = .ok (.lshl, 1) := by decide +kernel
theorem dX8_books_85 : decode cX8_books 85 = .ok (.lload 5, 2) := by decide +kernel
theorem dX8_books_87 : decode cX8_books 87 = .ok (.aload_n 0, 1) := by decide +kernel
theorem dX8_books_88 : decode cX8_books 88 = .ok (.getfield 143, 3) := by decide +kernel
theorem dX8_books_91 : decode cX8_books 91 = .ok (.lmul, 1) := by decide +kernel
theorem dX8_books_92 : decode cX8_books 92 = .ok (.lcmp, 1) := by decide +kernel
theorem dX8_books_93 : decode cX8_books 93 = .ok (.ifCond .eq 7, 3) := by decide +kernel
theorem dX8_books_96 : decode cX8_books 96 = .ok (.iconst 1, 1) := by decide +kernel
theorem dX8_books_97 : decode cX8_books 97 = .ok (.goto 4, 3) := by decide +kernel
theorem dX8_books_100 : decode cX8_books 100 = .ok (.iconst 0, 1) := by decide +kernel
theorem dX8_books_101 : decode cX8_books 101 = .ok (.istore 11, 2) := by decide +kernel
theorem dX8_books_103 : decode cX8_books 103 = .ok (.aload_n 0, 1) := by decide +kernel
theorem dX8_books_104 : decode cX8_books 104 = .ok (.getfield 7, 3) := by decide +kernel
theorem dX8_books_107 : decode cX8_books 107 = .ok (.iload 7, 2) := by decide +kernel
theorem dX8_books_109 : decode cX8_books 109 = .ok (.iconst 0, 1) := by decide +kernel
theorem dX8_books_110 : decode cX8_books 110 = .ok (.iadd, 1) := by decide +kernel
theorem dX8_books_111 : decode cX8_books 111 = .ok (.aload_n 0, 1) := by decide +kernel
theorem dX8_books_112 : decode cX8_books 112 = .ok (.getfield 7, 3) := by decide +kernel
theorem dX8_books_115 : decode cX8_books 115 = .ok (.bipush 31, 2) := by decide +kernel
theorem dX8_books_117 : decode cX8_books 117 = .ok (.laload, 1) := by decide +kernel
theorem dX8_books_118 : decode cX8_books 118 = .ok (.lastore, 1) := by decide +kernel
theorem dX8_books_119 : decode cX8_books 119 = .ok (.aload_n 0, 1) := by decide +kernel
theorem dX8_books_120 : decode cX8_books 120 = .ok (.getfield 7, 3) := by decide +kernel
theorem dX8_books_123 : decode cX8_books 123 = .ok (.iload 7, 2) := by decide +kernel
theorem dX8_books_125 : decode cX8_books 125 = .ok (.iconst 1, 1) := by decide +kernel
theorem dX8_books_126 : decode cX8_books 126 = .ok (.iadd, 1) := by decide +kernel
theorem dX8_books_127 : decode cX8_books 127 = .ok (.iload_n 1, 1) := by decide +kernel
theorem dX8_books_128 : decode cX8_books 128 = .ok (.i2l, 1) := by decide +kernel
theorem dX8_books_129 : decode cX8_books 129 = .ok (.lastore, 1) := by decide +kernel
theorem dX8_books_130 : decode cX8_books 130 = .ok (.aload_n 0, 1) := by decide +kernel
theorem dX8_books_131 : decode cX8_books 131 = .ok (.getfield 7, 3) := by decide +kernel
theorem dX8_books_134 : decode cX8_books 134 = .ok (.iload 7, 2) := by decide +kernel
theorem dX8_books_136 : decode cX8_books 136 = .ok (.iconst 2, 1) := by decide +kernel
theorem dX8_books_137 : decode cX8_books 137 = .ok (.iadd, 1) := by decide +kernel
theorem dX8_books_138 : decode cX8_books 138 = .ok (.iload_n 2, 1) := by decide +kernel
theorem dX8_books_139 : decode cX8_books 139 = .ok (.i2l, 1) := by decide +kernel
theorem dX8_books_140 : decode cX8_books 140 = .ok (.lastore, 1) := by decide +kernel
theorem dX8_books_141 : decode cX8_books 141 = .ok (.aload_n 0, 1) := by decide +kernel
theorem dX8_books_142 : decode cX8_books 142 = .ok (.getfield 7, 3) := by decide +kernel
theorem dX8_books_145 : decode cX8_books 145 = .ok (.iload 7, 2) := by decide +kernel
theorem dX8_books_147 : decode cX8_books 147 = .ok (.iconst 3, 1) := by decide +kernel
theorem dX8_books_148 : decode cX8_books 148 = .ok (.iadd, 1) := by decide +kernel
theorem dX8_books_149 : decode cX8_books 149 = .ok (.iload_n 3, 1) := by decide +kernel
theorem dX8_books_150 : decode cX8_books 150 = .ok (.i2l, 1) := by decide +kernel
theorem dX8_books_151 : decode cX8_books 151 = .ok (.lastore, 1) := by decide +kernel
theorem dX8_books_152 : decode cX8_books 152 = .ok (.aload_n 0, 1) := by decide +kernel
theorem dX8_books_153 : decode cX8_books 153 = .ok (.getfield 7, 3) := by decide +kernel
theorem dX8_books_156 : decode cX8_books 156 = .ok (.iload 7, 2) := by decide +kernel
theorem dX8_books_158 : decode cX8_books 158 = .ok (.iconst 4, 1) := by decide +kernel
theorem dX8_books_159 : decode cX8_books 159 = .ok (.iadd, 1) := by decide +kernel
theorem dX8_books_160 : decode cX8_books 160 = .ok (.iload 4, 2) := by decide +kernel
theorem dX8_books_162 : decode cX8_books 162 = .ok (.i2l, 1) := by decide +kernel
theorem dX8_books_163 : decode cX8_books 163 = .ok (.lastore, 1) := by decide +kernel
theorem dX8_books_164 : decode cX8_books 164 = .ok (.aload_n 0, 1) := by decide +kernel
theorem dX8_books_165 : decode cX8_books 165 = .ok (.getfield 7, 3) := by decide +kernel
theorem dX8_books_168 : decode cX8_books 168 = .ok (.iload 7, 2) := by decide +kernel
theorem dX8_books_170 : decode cX8_books 170 = .ok (.iconst 5, 1) := by decide +kernel
theorem dX8_books_171 : decode cX8_books 171 = .ok (.iadd, 1) := by decide +kernel
theorem dX8_books_172 : decode cX8_books 172 = .ok (.aload_n 0, 1) := by decide +kernel
theorem dX8_books_173 : decode cX8_books 173 = .ok (.iload 10, 2) := by decide +kernel
theorem dX8_books_175 : decode cX8_books 175 = .ok (.iconst 0, 1) := by decide +kernel
theorem dX8_books_176 : decode cX8_books 176 = .ok (.invokevirtual 108, 3) := by decide +kernel
theorem dX8_books_179 : decode cX8_books 179 = .ok (.i2l, 1) := by decide +kernel
theorem dX8_books_180 : decode cX8_books 180 = .ok (.lastore, 1) := by decide +kernel
theorem dX8_books_181 : decode cX8_books 181 = .ok (.aload_n 0, 1) := by decide +kernel
theorem dX8_books_182 : decode cX8_books 182 = .ok (.getfield 7, 3) := by decide +kernel
theorem dX8_books_185 : decode cX8_books 185 = .ok (.iload 7, 2) := by decide +kernel
theorem dX8_books_187 : decode cX8_books 187 = .ok (.bipush 6, 2) := by decide +kernel
theorem dX8_books_189 : decode cX8_books 189 = .ok (.iadd, 1) := by decide +kernel
theorem dX8_books_190 : decode cX8_books 190 = .ok (.aload_n 0, 1) := by decide +kernel
theorem dX8_books_191 : decode cX8_books 191 = .ok (.iload 10, 2) := by decide +kernel
theorem dX8_books_193 : decode cX8_books 193 = .ok (.iconst 1, 1) := by decide +kernel
theorem dX8_books_194 : decode cX8_books 194 = .ok (.invokevirtual 108, 3) := by decide +kernel
theorem dX8_books_197 : decode cX8_books 197 = .ok (.i2l, 1) := by decide +kernel
theorem dX8_books_198 : decode cX8_books 198 = .ok (.lastore, 1) := by decide +kernel
theorem dX8_books_199 : decode cX8_books 199 = .ok (.aload_n 0, 1) := by decide +kernel
theorem dX8_books_200 : decode cX8_books 200 = .ok (.getfield 7, 3) := by decide +kernel
theorem dX8_books_203 : decode cX8_books 203 = .ok (.iload 7, 2) := by decide +kernel
theorem dX8_books_205 : decode cX8_books 205 = .ok (.bipush 7, 2) := by decide +kernel
theorem dX8_books_207 : decode cX8_books 207 = .ok (.iadd, 1) := by decide +kernel
theorem dX8_books_208 : decode cX8_books 208 = .ok (.aload_n 0, 1) := by decide +kernel
theorem dX8_books_209 : decode cX8_books 209 = .ok (.iload 10, 2) := by decide +kernel
theorem dX8_books_211 : decode cX8_books 211 = .ok (.iconst 2, 1) := by decide +kernel
theorem dX8_books_212 : decode cX8_books 212 = .ok (.invokevirtual 108, 3) := by decide +kernel
theorem dX8_books_215 : decode cX8_books 215 = .ok (.i2l, 1) := by decide +kernel
theorem dX8_books_216 : decode cX8_books 216 = .ok (.lastore, 1) := by decide +kernel
theorem dX8_books_217 : decode cX8_books 217 = .ok (.aload_n 0, 1) := by decide +kernel
theorem dX8_books_218 : decode cX8_books 218 = .ok (.getfield 7, 3) := by decide +kernel
theorem dX8_books_221 : decode cX8_books 221 = .ok (.iload 7, 2) := by decide +kernel
theorem dX8_books_223 : decode cX8_books 223 = .ok (.bipush 8, 2) := by decide +kernel
theorem dX8_books_225 : decode cX8_books 225 = .ok (.iadd, 1) := by decide +kernel
theorem dX8_books_226 : decode cX8_books 226 = .ok (.aload_n 0, 1) := by decide +kernel
theorem dX8_books_227 : decode cX8_books 227 = .ok (.getfield 146, 3) := by decide +kernel
theorem dX8_books_230 : decode cX8_books 230 = .ok (.lload 8, 2) := by decide +kernel
theorem dX8_books_232 : decode cX8_books 232 = .ok (.ldiv, 1) := by decide +kernel
theorem dX8_books_233 : decode cX8_books 233 = .ok (.lastore, 1) := by decide +kernel
theorem dX8_books_234 : decode cX8_books 234 = .ok (.aload_n 0, 1) := by decide +kernel
theorem dX8_books_235 : decode cX8_books 235 = .ok (.getfield 7, 3) := by decide +kernel
theorem dX8_books_238 : decode cX8_books 238 = .ok (.iload 7, 2) := by decide +kernel
theorem dX8_books_240 : decode cX8_books 240 = .ok (.bipush 9, 2) := by decide +kernel
theorem dX8_books_242 : decode cX8_books 242 = .ok (.iadd, 1) := by decide +kernel
theorem dX8_books_243 : decode cX8_books 243 = .ok (.aload_n 0, 1) := by decide +kernel
theorem dX8_books_244 : decode cX8_books 244 = .ok (.getfield 143, 3) := by decide +kernel
theorem dX8_books_247 : decode cX8_books 247 = .ok (.lload 8, 2) := by decide +kernel
theorem dX8_books_249 : decode cX8_books 249 = .ok (.ldiv, 1) := by decide +kernel
theorem dX8_books_250 : decode cX8_books 250 = .ok (.lastore, 1) := by decide +kernel
theorem dX8_books_251 : decode cX8_books 251 = .ok (.aload_n 0, 1) := by decide +kernel
theorem dX8_books_252 : decode cX8_books 252 = .ok (.getfield 7, 3) := by decide +kernel
theorem dX8_books_255 : decode cX8_books 255 = .ok (.iload 7, 2) := by decide +kernel
theorem dX8_books_257 : decode cX8_books 257 = .ok (.bipush 10, 2) := by decide +kernel
theorem dX8_books_259 : decode cX8_books 259 = .ok (.iadd, 1) := by decide +kernel
theorem dX8_books_260 : decode cX8_books 260 = .ok (.aload_n 0, 1) := by decide +kernel
theorem dX8_books_261 : decode cX8_books 261 = .ok (.getfield 79, 3) := by decide +kernel
theorem dX8_books_264 : decode cX8_books 264 = .ok (.lastore, 1) := by decide +kernel
theorem dX8_books_265 : decode cX8_books 265 = .ok (.aload_n 0, 1) := by decide +kernel
theorem dX8_books_266 : decode cX8_books 266 = .ok (.getfield 7, 3) := by decide +kernel
theorem dX8_books_269 : decode cX8_books 269 = .ok (.iload 7, 2) := by decide +kernel
theorem dX8_books_271 : decode cX8_books 271 = .ok (.bipush 11, 2) := by decide +kernel
theorem dX8_books_273 : decode cX8_books 273 = .ok (.iadd, 1) := by decide +kernel
theorem dX8_books_274 : decode cX8_books 274 = .ok (.aload_n 0, 1) := by decide +kernel
theorem dX8_books_275 : decode cX8_books 275 = .ok (.getfield 83, 3) := by decide +kernel
theorem dX8_books_278 : decode cX8_books 278 = .ok (.lastore, 1) := by decide +kernel
theorem dX8_books_279 : decode cX8_books 279 = .ok (.aload_n 0, 1) := by decide +kernel
theorem dX8_books_280 : decode cX8_books 280 = .ok (.getfield 7, 3) := by decide +kernel
theorem dX8_books_283 : decode cX8_books 283 = .ok (.iload 7, 2) := by decide +kernel
theorem dX8_books_285 : decode cX8_books 285 = .ok (.bipush 12, 2) := by decide +kernel
theorem dX8_books_287 : decode cX8_books 287 = .ok (.iadd, 1) := by decide +kernel
theorem dX8_books_288 : decode cX8_books 288 = .ok (.aload_n 0, 1) := by decide +kernel
theorem dX8_books_289 : decode cX8_books 289 = .ok (.getfield 132, 3) := by decide +kernel
theorem dX8_books_292 : decode cX8_books 292 = .ok (.i2l, 1) := by decide +kernel
theorem dX8_books_293 : decode cX8_books 293 = .ok (.lastore, 1) := by decide +kernel
theorem dX8_books_294 : decode cX8_books 294 = .ok (.aload_n 0, 1) := by decide +kernel
theorem dX8_books_295 : decode cX8_books 295 = .ok (.getfield 7, 3) := by decide +kernel
theorem dX8_books_298 : decode cX8_books 298 = .ok (.iload 7, 2) := by decide +kernel
theorem dX8_books_300 : decode cX8_books 300 = .ok (.bipush 13, 2) := by decide +kernel
theorem dX8_books_302 : decode cX8_books 302 = .ok (.iadd, 1) := by decide +kernel
theorem dX8_books_303 : decode cX8_books 303 = .ok (.aload_n 0, 1) := by decide +kernel
theorem dX8_books_304 : decode cX8_books 304 = .ok (.getfield 7, 3) := by decide +kernel
theorem dX8_books_307 : decode cX8_books 307 = .ok (.bipush 29, 2) := by decide +kernel
theorem dX8_books_309 : decode cX8_books 309 = .ok (.laload, 1) := by decide +kernel
theorem dX8_books_310 : decode cX8_books 310 = .ok (.lastore, 1) := by decide +kernel
theorem dX8_books_311 : decode cX8_books 311 = .ok (.aload_n 0, 1) := by decide +kernel
theorem dX8_books_312 : decode cX8_books 312 = .ok (.getfield 7, 3) := by decide +kernel
theorem dX8_books_315 : decode cX8_books 315 = .ok (.iload 7, 2) := by decide +kernel
theorem dX8_books_317 : decode cX8_books 317 = .ok (.bipush 14, 2) := by decide +kernel
theorem dX8_books_319 : decode cX8_books 319 = .ok (.iadd, 1) := by decide +kernel
theorem dX8_books_320 : decode cX8_books 320 = .ok (.aload_n 0, 1) := by decide +kernel
theorem dX8_books_321 : decode cX8_books 321 = .ok (.getfield 157, 3) := by decide +kernel
theorem dX8_books_324 : decode cX8_books 324 = .ok (.lastore, 1) := by decide +kernel
theorem dX8_books_325 : decode cX8_books 325 = .ok (.aload_n 0, 1) := by decide +kernel
theorem dX8_books_326 : decode cX8_books 326 = .ok (.getfield 7, 3) := by decide +kernel
theorem dX8_books_329 : decode cX8_books 329 = .ok (.iload 7, 2) := by decide +kernel
theorem dX8_books_331 : decode cX8_books 331 = .ok (.bipush 15, 2) := by decide +kernel
theorem dX8_books_333 : decode cX8_books 333 = .ok (.iadd, 1) := by decide +kernel
theorem dX8_books_334 : decode cX8_books 334 = .ok (.lload 5, 2) := by decide +kernel
theorem dX8_books_336 : decode cX8_books 336 = .ok (.lastore, 1) := by decide +kernel
theorem dX8_books_337 : decode cX8_books 337 = .ok (.aload_n 0, 1) := by decide +kernel
theorem dX8_books_338 : decode cX8_books 338 = .ok (.getfield 7, 3) := by decide +kernel
theorem dX8_books_341 : decode cX8_books 341 = .ok (.iload 7, 2) := by decide +kernel
theorem dX8_books_343 : decode cX8_books 343 = .ok (.bipush 16, 2) := by decide +kernel
theorem dX8_books_345 : decode cX8_books 345 = .ok (.iadd, 1) := by decide +kernel
theorem dX8_books_346 : decode cX8_books 346 = .ok (.aload_n 0, 1) := by decide +kernel
theorem dX8_books_347 : decode cX8_books 347 = .ok (.getfield 75, 3) := by decide +kernel
theorem dX8_books_350 : decode cX8_books 350 = .ok (.ifCond .eq 7, 3) := by decide +kernel
theorem dX8_books_353 : decode cX8_books 353 = .ok (.lconst 1, 1) := by decide +kernel
theorem dX8_books_354 : decode cX8_books 354 = .ok (.goto 4, 3) := by decide +kernel
theorem dX8_books_357 : decode cX8_books 357 = .ok (.lconst 0, 1) := by decide +kernel
theorem dX8_books_358 : decode cX8_books 358 = .ok (.iload 11, 2) := by decide +kernel
theorem dX8_books_360 : decode cX8_books 360 = .ok (.ifCond .eq 9, 3) := by decide +kernel
theorem dX8_books_363 : decode cX8_books 363 = .ok (.ldc2_w 96, 3) := by decide +kernel
theorem dX8_books_366 : decode cX8_books 366 = .ok (.goto 4, 3) := by decide +kernel
theorem dX8_books_369 : decode cX8_books 369 = .ok (.lconst 0, 1) := by decide +kernel
theorem dX8_books_370 : decode cX8_books 370 = .ok (.ladd, 1) := by decide +kernel
theorem dX8_books_371 : decode cX8_books 371 = .ok (.lastore, 1) := by decide +kernel
theorem dX8_books_372 : decode cX8_books 372 = .ok (.aload_n 0, 1) := by decide +kernel
theorem dX8_books_373 : decode cX8_books 373 = .ok (.getfield 7, 3) := by decide +kernel
theorem dX8_books_376 : decode cX8_books 376 = .ok (.bipush 37, 2) := by decide +kernel
theorem dX8_books_378 : decode cX8_books 378 = .ok (.dup2, 1) := by decide +kernel
theorem dX8_books_379 : decode cX8_books 379 = .ok (.laload, 1) := by decide +kernel
theorem dX8_books_380 : decode cX8_books 380 = .ok (.aload_n 0, 1) := by decide +kernel
theorem dX8_books_381 : decode cX8_books 381 = .ok (.getfield 75, 3) := by decide +kernel
theorem dX8_books_384 : decode cX8_books 384 = .ok (.ifCond .eq 7, 3) := by decide +kernel
theorem dX8_books_387 : decode cX8_books 387 = .ok (.lconst 1, 1) := by decide +kernel
theorem dX8_books_388 : decode cX8_books 388 = .ok (.goto 4, 3) := by decide +kernel
theorem dX8_books_391 : decode cX8_books 391 = .ok (.lconst 0, 1) := by decide +kernel
theorem dX8_books_392 : decode cX8_books 392 = .ok (.ladd, 1) := by decide +kernel
theorem dX8_books_393 : decode cX8_books 393 = .ok (.lastore, 1) := by decide +kernel
theorem dX8_books_394 : decode cX8_books 394 = .ok (.aload_n 0, 1) := by decide +kernel
theorem dX8_books_395 : decode cX8_books 395 = .ok (.getfield 7, 3) := by decide +kernel
theorem dX8_books_398 : decode cX8_books 398 = .ok (.bipush 38, 2) := by decide +kernel
theorem dX8_books_400 : decode cX8_books 400 = .ok (.dup2, 1) := by decide +kernel
theorem dX8_books_401 : decode cX8_books 401 = .ok (.laload, 1) := by decide +kernel
theorem dX8_books_402 : decode cX8_books 402 = .ok (.iload 11, 2) := by decide +kernel
theorem dX8_books_404 : decode cX8_books 404 = .ok (.ifCond .eq 7, 3) := by decide +kernel
theorem dX8_books_407 : decode cX8_books 407 = .ok (.lconst 1, 1) := by decide +kernel
theorem dX8_books_408 : decode cX8_books 408 = .ok (.goto 4, 3) := by decide +kernel
theorem dX8_books_411 : decode cX8_books 411 = .ok (.lconst 0, 1) := by decide +kernel
theorem dX8_books_412 : decode cX8_books 412 = .ok (.ladd, 1) := by decide +kernel
theorem dX8_books_413 : decode cX8_books 413 = .ok (.lastore, 1) := by decide +kernel
theorem dX8_books_414 : decode cX8_books 414 = .ok (.iload_n 1, 1) := by decide +kernel
theorem dX8_books_415 : decode cX8_books 415 = .ok (.iconst 5, 1) := by decide +kernel
theorem dX8_books_416 : decode cX8_books 416 = .ok (.if_icmp .ne 17, 3) := by decide +kernel
theorem dX8_books_419 : decode cX8_books 419 = .ok (.aload_n 0, 1) := by decide +kernel
theorem dX8_books_420 : decode cX8_books 420 = .ok (.getfield 7, 3) := by decide +kernel
theorem dX8_books_423 : decode cX8_books 423 = .ok (.bipush 39, 2) := by decide +kernel
theorem dX8_books_425 : decode cX8_books 425 = .ok (.dup2, 1) := by decide +kernel
theorem dX8_books_426 : decode cX8_books 426 = .ok (.laload, 1) := by decide +kernel
theorem dX8_books_427 : decode cX8_books 427 = .ok (.lconst 1, 1) := by decide +kernel
theorem dX8_books_428 : decode cX8_books 428 = .ok (.ladd, 1) := by decide +kernel
theorem dX8_books_429 : decode cX8_books 429 = .ok (.lastore, 1) := by decide +kernel
theorem dX8_books_430 : decode cX8_books 430 = .ok (.goto 75, 3) := by decide +kernel
theorem dX8_books_433 : decode cX8_books 433 = .ok (.aload_n 0, 1) := by decide +kernel
theorem dX8_books_434 : decode cX8_books 434 = .ok (.getfield 7, 3) := by decide +kernel
theorem dX8_books_437 : decode cX8_books 437 = .ok (.bipush 33, 2) := by decide +kernel
theorem dX8_books_439 : decode cX8_books 439 = .ok (.dup2, 1) := by decide +kernel
theorem dX8_books_440 : decode cX8_books 440 = .ok (.laload, 1) := by decide +kernel
theorem dX8_books_441 : decode cX8_books 441 = .ok (.lconst 1, 1) := by decide +kernel
theorem dX8_books_442 : decode cX8_books 442 = .ok (.ladd, 1) := by decide +kernel
theorem dX8_books_443 : decode cX8_books 443 = .ok (.lastore, 1) := by decide +kernel
theorem dX8_books_444 : decode cX8_books 444 = .ok (.aload_n 0, 1) := by decide +kernel
theorem dX8_books_445 : decode cX8_books 445 = .ok (.getfield 7, 3) := by decide +kernel
theorem dX8_books_448 : decode cX8_books 448 = .ok (.bipush 34, 2) := by decide +kernel
theorem dX8_books_450 : decode cX8_books 450 = .ok (.dup2, 1) := by decide +kernel
theorem dX8_books_451 : decode cX8_books 451 = .ok (.laload, 1) := by decide +kernel
theorem dX8_books_452 : decode cX8_books 452 = .ok (.lload 5, 2) := by decide +kernel
theorem dX8_books_454 : decode cX8_books 454 = .ok (.bipush 10, 2) := by decide +kernel
theorem dX8_books_456 : decode cX8_books 456 = .ok (.lshl, 1) := by decide +kernel
theorem dX8_books_457 : decode cX8_books 457 = .ok (.aload_n 0, 1) := by decide +kernel
theorem dX8_books_458 : decode cX8_books 458 = .ok (.getfield 146, 3) := by decide +kernel
theorem dX8_books_461 : decode cX8_books 461 = .ok (.lsub, 1) := by decide +kernel
theorem dX8_books_462 : decode cX8_books 462 = .ok (.ladd, 1) := by decide +kernel
theorem dX8_books_463 : decode cX8_books 463 = .ok (.lastore, 1) := by decide +kernel
theorem dX8_books_464 : decode cX8_books 464 = .ok (.aload_n 0, 1) := by decide +kernel
theorem dX8_books_465 : decode cX8_books 465 = .ok (.getfield 7, 3) := by decide +kernel
theorem dX8_books_468 : decode cX8_books 468 = .ok (.bipush 35, 2) := by decide +kernel
theorem dX8_books_470 : decode cX8_books 470 = .ok (.dup2, 1) := by decide +kernel
theorem dX8_books_471 : decode cX8_books 471 = .ok (.laload, 1) := by decide +kernel
theorem dX8_books_472 : decode cX8_books 472 = .ok (.ldc2_w 41, 3) := by decide +kernel
theorem dX8_books_475 : decode cX8_books 475 = .ok (.aload_n 0, 1) := by decide +kernel
theorem dX8_books_476 : decode cX8_books 476 = .ok (.iload 7, 2) := by decide +kernel
theorem dX8_books_478 : decode cX8_books 478 = .ok (.invokevirtual 171, 3) := by decide +kernel
theorem dX8_books_481 : decode cX8_books 481 = .ok (.lmul, 1) := by decide +kernel
theorem dX8_books_482 : decode cX8_books 482 = .ok (.aload_n 0, 1) := by decide +kernel
theorem dX8_books_483 : decode cX8_books 483 = .ok (.getfield 146, 3) := by decide +kernel
theorem dX8_books_486 : decode cX8_books 486 = .ok (.lsub, 1) := by decide +kernel
theorem dX8_books_487 : decode cX8_books 487 = .ok (.ladd, 1) := by decide +kernel
theorem dX8_books_488 : decode cX8_books 488 = .ok (.lastore, 1) := by decide +kernel
theorem dX8_books_489 : decode cX8_books 489 = .ok (.aload_n 0, 1) := by decide +kernel
theorem dX8_books_490 : decode cX8_books 490 = .ok (.getfield 7, 3) := by decide +kernel
theorem dX8_books_493 : decode cX8_books 493 = .ok (.bipush 36, 2) := by decide +kernel
theorem dX8_books_495 : decode cX8_books 495 = .ok (.dup2, 1) := by decide +kernel
theorem dX8_books_496 : decode cX8_books 496 = .ok (.laload, 1) := by decide +kernel
theorem dX8_books_497 : decode cX8_books 497 = .ok (.aload_n 0, 1) := by decide +kernel
theorem dX8_books_498 : decode cX8_books 498 = .ok (.iload 7, 2) := by decide +kernel
theorem dX8_books_500 : decode cX8_books 500 = .ok (.invokevirtual 175, 3) := by decide +kernel
theorem dX8_books_503 : decode cX8_books 503 = .ok (.ladd, 1) := by decide +kernel
theorem dX8_books_504 : decode cX8_books 504 = .ok (.lastore, 1) := by decide +kernel
theorem dX8_books_505 : decode cX8_books 505 = .ok (.return_, 1) := by decide +kernel
theorem dX8_does_0 : decode cX8_does 0 = .ok (.aload_n 0, 1) := by decide +kernel
theorem dX8_does_1 : decode cX8_does 1 = .ok (.iload_n 1, 1) := by decide +kernel
theorem dX8_does_2 : decode cX8_does 2 = .ok (.iload_n 2, 1) := by decide +kernel
theorem dX8_does_3 : decode cX8_does 3 = .ok (.iload_n 3, 1) := by decide +kernel
theorem dX8_does_4 : decode cX8_does 4 = .ok (.iload 4, 2) := by decide +kernel
theorem dX8_does_6 : decode cX8_does 6 = .ok (.invokevirtual 178, 3) := by decide +kernel
theorem dX8_does_9 : decode cX8_does 9 = .ok (.lstore 5, 2) := by decide +kernel
theorem dX8_does_11 : decode cX8_does 11 = .ok (.aload_n 0, 1) := by decide +kernel
theorem dX8_does_12 : decode cX8_does 12 = .ok (.iload_n 1, 1) := by decide +kernel
theorem dX8_does_13 : decode cX8_does 13 = .ok (.iload_n 2, 1) := by decide +kernel
theorem dX8_does_14 : decode cX8_does 14 = .ok (.iload_n 3, 1) := by decide +kernel
theorem dX8_does_15 : decode cX8_does 15 = .ok (.iload 4, 2) := by decide +kernel
theorem dX8_does_17 : decode cX8_does 17 = .ok (.lload 5, 2) := by decide +kernel
theorem dX8_does_19 : decode cX8_does 19 = .ok (.invokevirtual 182, 3) := by decide +kernel
theorem dX8_does_22 : decode cX8_does 22 = .ok (.aload_n 0, 1) := by decide +kernel
theorem dX8_does_23 : decode cX8_does 23 = .ok (.getfield 17, 3) := by decide +kernel
theorem dX8_does_26 : decode cX8_does 26 = .ok (.iload_n 2, 1) := by decide +kernel
theorem dX8_does_27 : decode cX8_does 27 = .ok (.lload 5, 2) := by decide +kernel
theorem dX8_does_29 : decode cX8_does 29 = .ok (.lastore, 1) := by decide +kernel
theorem dX8_does_30 : decode cX8_does 30 = .ok (.aload_n 0, 1) := by decide +kernel
theorem dX8_does_31 : decode cX8_does 31 = .ok (.getfield 7, 3) := by decide +kernel
theorem dX8_does_34 : decode cX8_does 34 = .ok (.bipush 20, 2) := by decide +kernel
theorem dX8_does_36 : decode cX8_does 36 = .ok (.iload_n 2, 1) := by decide +kernel
theorem dX8_does_37 : decode cX8_does 37 = .ok (.iadd, 1) := by decide +kernel
theorem dX8_does_38 : decode cX8_does 38 = .ok (.lload 5, 2) := by decide +kernel
theorem dX8_does_40 : decode cX8_does 40 = .ok (.lastore, 1) := by decide +kernel
theorem dX8_does_41 : decode cX8_does 41 = .ok (.aload_n 0, 1) := by decide +kernel
theorem dX8_does_42 : decode cX8_does 42 = .ok (.getfield 7, 3) := by decide +kernel
theorem dX8_does_45 : decode cX8_does 45 = .ok (.bipush 31, 2) := by decide +kernel
theorem dX8_does_47 : decode cX8_does 47 = .ok (.aload_n 0, 1) := by decide +kernel
theorem dX8_does_48 : decode cX8_does 48 = .ok (.getfield 138, 3) := by decide +kernel
theorem dX8_does_51 : decode cX8_does 51 = .ok (.i2l, 1) := by decide +kernel
theorem dX8_does_52 : decode cX8_does 52 = .ok (.lastore, 1) := by decide +kernel
theorem dX8_does_53 : decode cX8_does 53 = .ok (.lload 5, 2) := by decide +kernel
theorem dX8_does_55 : decode cX8_does 55 = .ok (.lreturn, 1) := by decide +kernel
theorem dX8_operate_0 : decode cX8_operate 0 = .ok (.iload_n 1, 1) := by decide +kernel
theorem dX8_operate_1 : decode cX8_operate 1 = .ok (.iconst 0, 1) := by decide +kernel
theorem dX8_operate_2 : decode cX8_operate 2 = .ok (.iconst 5, 1) := by decide +kernel
theorem dX8_operate_3 : decode cX8_operate 3 = .ok (.invokestatic 53, 3) := by decide +kernel
theorem dX8_operate_6 : decode cX8_operate 6 = .ok (.ifCond .eq 25, 3) := by decide +kernel
theorem dX8_operate_9 : decode cX8_operate 9 = .ok (.iload_n 2, 1) := by decide +kernel
theorem dX8_operate_10 : decode cX8_operate 10 = .ok (.invokestatic 116, 3) := by decide +kernel
theorem dX8_operate_13 : decode cX8_operate 13 = .ok (.ifCond .eq 18, 3) := by decide +kernel
theorem dX8_operate_16 : decode cX8_operate 16 = .ok (.iload_n 3, 1) := by decide +kernel
theorem dX8_operate_17 : decode cX8_operate 17 = .ok (.invokestatic 116, 3) := by decide +kernel
theorem dX8_operate_20 : decode cX8_operate 20 = .ok (.ifCond .eq 11, 3) := by decide +kernel
theorem dX8_operate_23 : decode cX8_operate 23 = .ok (.iload 4, 2) := by decide +kernel
theorem dX8_operate_25 : decode cX8_operate 25 = .ok (.invokestatic 116, 3) := by decide +kernel
theorem dX8_operate_28 : decode cX8_operate 28 = .ok (.ifCond .ne 6, 3) := by decide +kernel
theorem dX8_operate_31 : decode cX8_operate 31 = .ok (.ldc 104, 2) := by decide +kernel
theorem dX8_operate_33 : decode cX8_operate 33 = .ok (.ireturn, 1) := by decide +kernel
theorem dX8_operate_34 : decode cX8_operate 34 = .ok (.iload_n 1, 1) := by decide +kernel
theorem dX8_operate_35 : decode cX8_operate 35 = .ok (.iconst 5, 1) := by decide +kernel
theorem dX8_operate_36 : decode cX8_operate 36 = .ok (.if_icmp .ne 21, 3) := by decide +kernel
theorem dX8_operate_39 : decode cX8_operate 39 = .ok (.aload_n 0, 1) := by decide +kernel
theorem dX8_operate_40 : decode cX8_operate 40 = .ok (.getfield 7, 3) := by decide +kernel
theorem dX8_operate_43 : decode cX8_operate 43 = .ok (.bipush 20, 2) := by decide +kernel
theorem dX8_operate_45 : decode cX8_operate 45 = .ok (.iload 4, 2) := by decide +kernel
theorem dX8_operate_47 : decode cX8_operate 47 = .ok (.iadd, 1) := by decide +kernel
theorem dX8_operate_48 : decode cX8_operate 48 = .ok (.laload, 1) := by decide +kernel
theorem dX8_operate_49 : decode cX8_operate 49 = .ok (.lconst 0, 1) := by decide +kernel
theorem dX8_operate_50 : decode cX8_operate 50 = .ok (.lcmp, 1) := by decide +kernel
theorem dX8_operate_51 : decode cX8_operate 51 = .ok (.ifCond .ne 6, 3) := by decide +kernel
theorem dX8_operate_54 : decode cX8_operate 54 = .ok (.ldc 186, 2) := by decide +kernel
theorem dX8_operate_56 : decode cX8_operate 56 = .ok (.ireturn, 1) := by decide +kernel
theorem dX8_operate_57 : decode cX8_operate 57 = .ok (.aload_n 0, 1) := by decide +kernel
theorem dX8_operate_58 : decode cX8_operate 58 = .ok (.invokevirtual 105, 3) := by decide +kernel
theorem dX8_operate_61 : decode cX8_operate 61 = .ok (.aload_n 0, 1) := by decide +kernel
theorem dX8_operate_62 : decode cX8_operate 62 = .ok (.invokevirtual 187, 3) := by decide +kernel
theorem dX8_operate_65 : decode cX8_operate 65 = .ok (.aload_n 0, 1) := by decide +kernel
theorem dX8_operate_66 : decode cX8_operate 66 = .ok (.iload_n 1, 1) := by decide +kernel
theorem dX8_operate_67 : decode cX8_operate 67 = .ok (.iload_n 2, 1) := by decide +kernel
theorem dX8_operate_68 : decode cX8_operate 68 = .ok (.iload_n 3, 1) := by decide +kernel
theorem dX8_operate_69 : decode cX8_operate 69 = .ok (.iload 4, 2) := by decide +kernel
theorem dX8_operate_71 : decode cX8_operate 71 = .ok (.invokevirtual 190, 3) := by decide +kernel
theorem dX8_operate_74 : decode cX8_operate 74 = .ok (.l2i, 1) := by decide +kernel
theorem dX8_operate_75 : decode cX8_operate 75 = .ok (.ireturn, 1) := by decide +kernel
theorem dX8_type_0 : decode cX8_type 0 = .ok (.iload_n 1, 1) := by decide +kernel
theorem dX8_type_1 : decode cX8_type 1 = .ok (.iconst 0, 1) := by decide +kernel
theorem dX8_type_2 : decode cX8_type 2 = .ok (.bipush 127, 2) := by decide +kernel
theorem dX8_type_4 : decode cX8_type 4 = .ok (.invokestatic 53, 3) := by decide +kernel
theorem dX8_type_7 : decode cX8_type 7 = .ok (.ifCond .ne 6, 3) := by decide +kernel
theorem dX8_type_10 : decode cX8_type 10 = .ok (.ldc 104, 2) := by decide +kernel
theorem dX8_type_12 : decode cX8_type 12 = .ok (.ireturn, 1) := by decide +kernel
theorem dX8_type_13 : decode cX8_type 13 = .ok (.aload_n 0, 1) := by decide +kernel
theorem dX8_type_14 : decode cX8_type 14 = .ok (.getfield 193, 3) := by decide +kernel
theorem dX8_type_17 : decode cX8_type 17 = .ok (.bipush 80, 2) := by decide +kernel
theorem dX8_type_19 : decode cX8_type 19 = .ok (.if_icmp .ne 6, 3) := by decide +kernel
theorem dX8_type_22 : decode cX8_type 22 = .ok (.ldc 196, 2) := by decide +kernel
theorem dX8_type_24 : decode cX8_type 24 = .ok (.ireturn, 1) := by decide +kernel
theorem dX8_type_25 : decode cX8_type 25 = .ok (.aload_n 0, 1) := by decide +kernel
theorem dX8_type_26 : decode cX8_type 26 = .ok (.getfield 13, 3) := by decide +kernel
theorem dX8_type_29 : decode cX8_type 29 = .ok (.aload_n 0, 1) := by decide +kernel
theorem dX8_type_30 : decode cX8_type 30 = .ok (.getfield 193, 3) := by decide +kernel
theorem dX8_type_33 : decode cX8_type 33 = .ok (.iload_n 1, 1) := by decide +kernel
theorem dX8_type_34 : decode cX8_type 34 = .ok (.iastore, 1) := by decide +kernel
theorem dX8_type_35 : decode cX8_type 35 = .ok (.aload_n 0, 1) := by decide +kernel
theorem dX8_type_36 : decode cX8_type 36 = .ok (.dup, 1) := by decide +kernel
theorem dX8_type_37 : decode cX8_type 37 = .ok (.getfield 193, 3) := by decide +kernel
theorem dX8_type_40 : decode cX8_type 40 = .ok (.iconst 1, 1) := by decide +kernel
theorem dX8_type_41 : decode cX8_type 41 = .ok (.iadd, 1) := by decide +kernel
theorem dX8_type_42 : decode cX8_type 42 = .ok (.putfield 193, 3) := by decide +kernel
theorem dX8_type_45 : decode cX8_type 45 = .ok (.aload_n 0, 1) := by decide +kernel
theorem dX8_type_46 : decode cX8_type 46 = .ok (.getfield 193, 3) := by decide +kernel
theorem dX8_type_49 : decode cX8_type 49 = .ok (.ireturn, 1) := by decide +kernel
theorem dX8_clear_0 : decode cX8_clear 0 = .ok (.aload_n 0, 1) := by decide +kernel
theorem dX8_clear_1 : decode cX8_clear 1 = .ok (.getfield 193, 3) := by decide +kernel
theorem dX8_clear_4 : decode cX8_clear 4 = .ok (.istore_n 1, 1) := by decide +kernel
theorem dX8_clear_5 : decode cX8_clear 5 = .ok (.aload_n 0, 1) := by decide +kernel
theorem dX8_clear_6 : decode cX8_clear 6 = .ok (.iconst 0, 1) := by decide +kernel
theorem dX8_clear_7 : decode cX8_clear 7 = .ok (.putfield 193, 3) := by decide +kernel
theorem dX8_clear_10 : decode cX8_clear 10 = .ok (.iload_n 1, 1) := by decide +kernel
theorem dX8_clear_11 : decode cX8_clear 11 = .ok (.ireturn, 1) := by decide +kernel
theorem dX8_here_0 : decode cX8_here 0 = .ok (.aload_n 0, 1) := by decide +kernel
theorem dX8_here_1 : decode cX8_here 1 = .ok (.getfield 197, 3) := by decide +kernel
theorem dX8_here_4 : decode cX8_here 4 = .ok (.aload_n 0, 1) := by decide +kernel
theorem dX8_here_5 : decode cX8_here 5 = .ok (.getfield 193, 3) := by decide +kernel
theorem dX8_here_8 : decode cX8_here 8 = .ok (.if_icmp .ge 15, 3) := by decide +kernel
theorem dX8_here_11 : decode cX8_here 11 = .ok (.aload_n 0, 1) := by decide +kernel
theorem dX8_here_12 : decode cX8_here 12 = .ok (.getfield 13, 3) := by decide +kernel
theorem dX8_here_15 : decode cX8_here 15 = .ok (.aload_n 0, 1) := by decide +kernel
theorem dX8_here_16 : decode cX8_here 16 = .ok (.getfield 197, 3) := by decide +kernel
theorem dX8_here_19 : decode cX8_here 19 = .ok (.iaload, 1) := by decide +kernel
theorem dX8_here_20 : decode cX8_here 20 = .ok (.goto 5, 3) := by decide +kernel
theorem dX8_here_23 : decode cX8_here 23 = .ok (.ldc 200, 2) := by decide +kernel
theorem dX8_here_25 : decode cX8_here 25 = .ok (.ireturn, 1) := by decide +kernel
theorem dX8_skips_0 : decode cX8_skips 0 = .ok (.aload_n 0, 1) := by decide +kernel
theorem dX8_skips_1 : decode cX8_skips 1 = .ok (.invokevirtual 201, 3) := by decide +kernel
theorem dX8_skips_4 : decode cX8_skips 4 = .ok (.bipush 32, 2) := by decide +kernel
theorem dX8_skips_6 : decode cX8_skips 6 = .ok (.if_icmp .ne 16, 3) := by decide +kernel
theorem dX8_skips_9 : decode cX8_skips 9 = .ok (.aload_n 0, 1) := by decide +kernel
theorem dX8_skips_10 : decode cX8_skips 10 = .ok (.dup, 1) := by decide +kernel
theorem dX8_skips_11 : decode cX8_skips 11 = .ok (.getfield 197, 3) := by decide +kernel
theorem dX8_skips_14 : decode cX8_skips 14 = .ok (.iconst 1, 1) := by decide +kernel
theorem dX8_skips_15 : decode cX8_skips 15 = .ok (.iadd, 1) := by decide +kernel
theorem dX8_skips_16 : decode cX8_skips 16 = .ok (.putfield 197, 3) := by decide +kernel
theorem dX8_skips_19 : decode cX8_skips 19 = .ok (.goto (-19), 3) := by decide +kernel
theorem dX8_skips_22 : decode cX8_skips 22 = .ok (.return_, 1) := by decide +kernel
theorem dX8_fails_0 : decode cX8_fails 0 = .ok (.aload_n 0, 1) := by decide +kernel
theorem dX8_fails_1 : decode cX8_fails 1 = .ok (.aload_n 0, 1) := by decide +kernel
theorem dX8_fails_2 : decode cX8_fails 2 = .ok (.getfield 205, 3) := by decide +kernel
theorem dX8_fails_5 : decode cX8_fails 5 = .ok (.ldc 200, 2) := by decide +kernel
theorem dX8_fails_7 : decode cX8_fails 7 = .ok (.if_icmp .ne 10, 3) := by decide +kernel
theorem dX8_fails_10 : decode cX8_fails 10 = .ok (.aload_n 0, 1) := by decide +kernel
theorem dX8_fails_11 : decode cX8_fails 11 = .ok (.getfield 197, 3) := by decide +kernel
theorem dX8_fails_14 : decode cX8_fails 14 = .ok (.goto 7, 3) := by decide +kernel
theorem dX8_fails_17 : decode cX8_fails 17 = .ok (.aload_n 0, 1) := by decide +kernel
theorem dX8_fails_18 : decode cX8_fails 18 = .ok (.getfield 205, 3) := by decide +kernel
theorem dX8_fails_21 : decode cX8_fails 21 = .ok (.putfield 205, 3) := by decide +kernel
theorem dX8_fails_24 : decode cX8_fails 24 = .ok (.return_, 1) := by decide +kernel
theorem dX8_takesIn_0 : decode cX8_takesIn 0 = .ok (.aload_n 0, 1) := by decide +kernel
theorem dX8_takesIn_1 : decode cX8_takesIn 1 = .ok (.invokevirtual 208, 3) := by decide +kernel
theorem dX8_takesIn_4 : decode cX8_takesIn 4 = .ok (.aload_n 0, 1) := by decide +kernel
theorem dX8_takesIn_5 : decode cX8_takesIn 5 = .ok (.getfield 205, 3) := by decide +kernel
theorem dX8_takesIn_8 : decode cX8_takesIn 8 = .ok (.ldc 200, 2) := by decide +kernel
theorem dX8_takesIn_10 : decode cX8_takesIn 10 = .ok (.if_icmp .ne 15, 3) := by decide +kernel
theorem dX8_takesIn_13 : decode cX8_takesIn 13 = .ok (.aload_n 0, 1) := by decide +kernel
theorem dX8_takesIn_14 : decode cX8_takesIn 14 = .ok (.invokevirtual 201, 3) := by decide +kernel
theorem dX8_takesIn_17 : decode cX8_takesIn 17 = .ok (.iload_n 1, 1) := by decide +kernel
theorem dX8_takesIn_18 : decode cX8_takesIn 18 = .ok (.iload_n 2, 1) := by decide +kernel
theorem dX8_takesIn_19 : decode cX8_takesIn 19 = .ok (.invokestatic 53, 3) := by decide +kernel
theorem dX8_takesIn_22 : decode cX8_takesIn 22 = .ok (.ifCond .ne 9, 3) := by decide +kernel
theorem dX8_takesIn_25 : decode cX8_takesIn 25 = .ok (.aload_n 0, 1) := by decide +kernel
theorem dX8_takesIn_26 : decode cX8_takesIn 26 = .ok (.invokevirtual 211, 3) := by decide +kernel
theorem dX8_takesIn_29 : decode cX8_takesIn 29 = .ok (.iconst 0, 1) := by decide +kernel
theorem dX8_takesIn_30 : decode cX8_takesIn 30 = .ok (.ireturn, 1) := by decide +kernel
theorem dX8_takesIn_31 : decode cX8_takesIn 31 = .ok (.aload_n 0, 1) := by decide +kernel
theorem dX8_takesIn_32 : decode cX8_takesIn 32 = .ok (.dup, 1) := by decide +kernel
theorem dX8_takesIn_33 : decode cX8_takesIn 33 = .ok (.getfield 197, 3) := by decide +kernel
theorem dX8_takesIn_36 : decode cX8_takesIn 36 = .ok (.iconst 1, 1) := by decide +kernel
theorem dX8_takesIn_37 : decode cX8_takesIn 37 = .ok (.iadd, 1) := by decide +kernel
theorem dX8_takesIn_38 : decode cX8_takesIn 38 = .ok (.putfield 197, 3) := by decide +kernel
theorem dX8_takesIn_41 : decode cX8_takesIn 41 = .ok (.aload_n 0, 1) := by decide +kernel
theorem dX8_takesIn_42 : decode cX8_takesIn 42 = .ok (.getfield 13, 3) := by decide +kernel
theorem dX8_takesIn_45 : decode cX8_takesIn 45 = .ok (.aload_n 0, 1) := by decide +kernel
theorem dX8_takesIn_46 : decode cX8_takesIn 46 = .ok (.getfield 197, 3) := by decide +kernel
theorem dX8_takesIn_49 : decode cX8_takesIn 49 = .ok (.iconst 1, 1) := by decide +kernel
theorem dX8_takesIn_50 : decode cX8_takesIn 50 = .ok (.isub, 1) := by decide +kernel
theorem dX8_takesIn_51 : decode cX8_takesIn 51 = .ok (.iaload, 1) := by decide +kernel
theorem dX8_takesIn_52 : decode cX8_takesIn 52 = .ok (.iload_n 1, 1) := by decide +kernel
theorem dX8_takesIn_53 : decode cX8_takesIn 53 = .ok (.isub, 1) := by decide +kernel
theorem dX8_takesIn_54 : decode cX8_takesIn 54 = .ok (.ireturn, 1) := by decide +kernel
theorem dX8_takesOne_0 : decode cX8_takesOne 0 = .ok (.aload_n 0, 1) := by decide +kernel
theorem dX8_takesOne_1 : decode cX8_takesOne 1 = .ok (.invokevirtual 208, 3) := by decide +kernel
theorem dX8_takesOne_4 : decode cX8_takesOne 4 = .ok (.aload_n 0, 1) := by decide +kernel
theorem dX8_takesOne_5 : decode cX8_takesOne 5 = .ok (.getfield 205, 3) := by decide +kernel
theorem dX8_takesOne_8 : decode cX8_takesOne 8 = .ok (.ldc 200, 2) := by decide +kernel
theorem dX8_takesOne_10 : decode cX8_takesOne 10 = .ok (.if_icmp .ne 15, 3) := by decide +kernel
theorem dX8_takesOne_13 : decode cX8_takesOne 13 = .ok (.aload_n 0, 1) := by decide +kernel
theorem dX8_takesOne_14 : decode cX8_takesOne 14 = .ok (.invokevirtual 201, 3) := by decide +kernel
theorem dX8_takesOne_17 : decode cX8_takesOne 17 = .ok (.iload_n 1, 1) := by decide +kernel
theorem dX8_takesOne_18 : decode cX8_takesOne 18 = .ok (.if_icmp .ne 7, 3) := by decide +kernel
theorem dX8_takesOne_21 : decode cX8_takesOne 21 = .ok (.iconst 1, 1) := by decide +kernel
theorem dX8_takesOne_22 : decode cX8_takesOne 22 = .ok (.goto 4, 3) := by decide +kernel
theorem dX8_takesOne_25 : decode cX8_takesOne 25 = .ok (.iconst 0, 1) := by decide +kernel
theorem dX8_takesOne_26 : decode cX8_takesOne 26 = .ok (.istore_n 2, 1) := by decide +kernel
theorem dX8_takesOne_27 : decode cX8_takesOne 27 = .ok (.aload_n 0, 1) := by decide +kernel
theorem dX8_takesOne_28 : decode cX8_takesOne 28 = .ok (.dup, 1) := by decide +kernel
theorem dX8_takesOne_29 : decode cX8_takesOne 29 = .ok (.getfield 197, 3) := by decide +kernel
theorem dX8_takesOne_32 : decode cX8_takesOne 32 = .ok (.iload_n 2, 1) := by decide +kernel
theorem dX8_takesOne_33 : decode cX8_takesOne 33 = .ok (.ifCond .eq 7, 3) := by decide +kernel
theorem dX8_takesOne_36 : decode cX8_takesOne 36 = .ok (.iconst 1, 1) := by decide +kernel
theorem dX8_takesOne_37 : decode cX8_takesOne 37 = .ok (.goto 4, 3) := by decide +kernel
theorem dX8_takesOne_40 : decode cX8_takesOne 40 = .ok (.iconst 0, 1) := by decide +kernel
theorem dX8_takesOne_41 : decode cX8_takesOne 41 = .ok (.iadd, 1) := by decide +kernel
theorem dX8_takesOne_42 : decode cX8_takesOne 42 = .ok (.putfield 197, 3) := by decide +kernel
theorem dX8_takesOne_45 : decode cX8_takesOne 45 = .ok (.iload_n 2, 1) := by decide +kernel
theorem dX8_takesOne_46 : decode cX8_takesOne 46 = .ok (.ireturn, 1) := by decide +kernel
theorem dX8_readsTerm_0 : decode cX8_readsTerm 0 = .ok (.aload_n 0, 1) := by decide +kernel
theorem dX8_readsTerm_1 : decode cX8_readsTerm 1 = .ok (.bipush 43, 2) := by decide +kernel
theorem dX8_readsTerm_3 : decode cX8_readsTerm 3 = .ok (.invokevirtual 214, 3) := by decide +kernel
theorem dX8_readsTerm_6 : decode cX8_readsTerm 6 = .ok (.ifCond .eq 48, 3) := by decide +kernel
theorem dX8_readsTerm_9 : decode cX8_readsTerm 9 = .ok (.aload_n 0, 1) := by decide +kernel
theorem dX8_readsTerm_10 : decode cX8_readsTerm 10 = .ok (.getfield 23, 3) := by decide +kernel
theorem dX8_readsTerm_13 : decode cX8_readsTerm 13 = .ok (.iload_n 1, 1) := by decide +kernel
theorem dX8_readsTerm_14 : decode cX8_readsTerm 14 = .ok (.iconst 4, 1) := by decide +kernel
theorem dX8_readsTerm_15 : decode cX8_readsTerm 15 = .ok (.iastore, 1) := by decide +kernel
theorem dX8_readsTerm_16 : decode cX8_readsTerm 16 = .ok (.aload_n 0, 1) := by decide +kernel
theorem dX8_readsTerm_17 : decode cX8_readsTerm 17 = .ok (.getfield 29, 3) := by decide +kernel
theorem dX8_readsTerm_20 : decode cX8_readsTerm 20 = .ok (.iload_n 1, 1) := by decide +kernel
theorem dX8_readsTerm_21 : decode cX8_readsTerm 21 = .ok (.aload_n 0, 1) := by decide +kernel
theorem dX8_readsTerm_22 : decode cX8_readsTerm 22 = .ok (.bipush 48, 2) := by decide +kernel
theorem dX8_readsTerm_24 : decode cX8_readsTerm 24 = .ok (.bipush 55, 2) := by decide +kernel
theorem dX8_readsTerm_26 : decode cX8_readsTerm 26 = .ok (.invokevirtual 217, 3) := by decide +kernel
theorem dX8_readsTerm_29 : decode cX8_readsTerm 29 = .ok (.iastore, 1) := by decide +kernel
theorem dX8_readsTerm_30 : decode cX8_readsTerm 30 = .ok (.aload_n 0, 1) := by decide +kernel
theorem dX8_readsTerm_31 : decode cX8_readsTerm 31 = .ok (.bipush 42, 2) := by decide +kernel
theorem dX8_readsTerm_33 : decode cX8_readsTerm 33 = .ok (.bipush 42, 2) := by decide +kernel
theorem dX8_readsTerm_35 : decode cX8_readsTerm 35 = .ok (.invokevirtual 217, 3) := by decide +kernel
theorem dX8_readsTerm_38 : decode cX8_readsTerm 38 = .ok (.pop, 1) := by decide +kernel
theorem dX8_readsTerm_39 : decode cX8_readsTerm 39 = .ok (.aload_n 0, 1) := by decide +kernel
theorem dX8_readsTerm_40 : decode cX8_readsTerm 40 = .ok (.getfield 32, 3) := by decide +kernel
theorem dX8_readsTerm_43 : decode cX8_readsTerm 43 = .ok (.iload_n 1, 1) := by decide +kernel
theorem dX8_readsTerm_44 : decode cX8_readsTerm 44 = .ok (.aload_n 0, 1) := by decide +kernel
theorem dX8_readsTerm_45 : decode cX8_readsTerm 45 = .ok (.bipush 48, 2) := by decide +kernel
theorem dX8_readsTerm_47 : decode cX8_readsTerm 47 = .ok (.bipush 55, 2) := by decide +kernel
theorem dX8_readsTerm_49 : decode cX8_readsTerm 49 = .ok (.invokevirtual 217, 3) := by decide +kernel
theorem dX8_readsTerm_52 : decode cX8_readsTerm 52 = .ok (.iastore, 1) := by decide +kernel
theorem dX8_readsTerm_53 : decode cX8_readsTerm 53 = .ok (.return_, 1) := by decide +kernel
theorem dX8_readsTerm_54 : decode cX8_readsTerm 54 = .ok (.aload_n 0, 1) := by decide +kernel
theorem dX8_readsTerm_55 : decode cX8_readsTerm 55 = .ok (.getfield 29, 3) := by decide +kernel
theorem dX8_readsTerm_58 : decode cX8_readsTerm 58 = .ok (.iload_n 1, 1) := by decide +kernel
theorem dX8_readsTerm_59 : decode cX8_readsTerm 59 = .ok (.aload_n 0, 1) := by decide +kernel
theorem dX8_readsTerm_60 : decode cX8_readsTerm 60 = .ok (.bipush 48, 2) := by decide +kernel
theorem dX8_readsTerm_62 : decode cX8_readsTerm 62 = .ok (.bipush 55, 2) := by decide +kernel
theorem dX8_readsTerm_64 : decode cX8_readsTerm 64 = .ok (.invokevirtual 217, 3) := by decide +kernel
theorem dX8_readsTerm_67 : decode cX8_readsTerm 67 = .ok (.iastore, 1) := by decide +kernel
theorem dX8_readsTerm_68 : decode cX8_readsTerm 68 = .ok (.aload_n 0, 1) := by decide +kernel
theorem dX8_readsTerm_69 : decode cX8_readsTerm 69 = .ok (.getfield 32, 3) := by decide +kernel
theorem dX8_readsTerm_72 : decode cX8_readsTerm 72 = .ok (.iload_n 1, 1) := by decide +kernel
theorem dX8_readsTerm_73 : decode cX8_readsTerm 73 = .ok (.aload_n 0, 1) := by decide +kernel
theorem dX8_readsTerm_74 : decode cX8_readsTerm 74 = .ok (.getfield 29, 3) := by decide +kernel
theorem dX8_readsTerm_77 : decode cX8_readsTerm 77 = .ok (.iload_n 1, 1) := by decide +kernel
theorem dX8_readsTerm_78 : decode cX8_readsTerm 78 = .ok (.iaload, 1) := by decide +kernel
theorem dX8_readsTerm_79 : decode cX8_readsTerm 79 = .ok (.iastore, 1) := by decide +kernel
theorem dX8_readsTerm_80 : decode cX8_readsTerm 80 = .ok (.aload_n 0, 1) := by decide +kernel
theorem dX8_readsTerm_81 : decode cX8_readsTerm 81 = .ok (.bipush 43, 2) := by decide +kernel
theorem dX8_readsTerm_83 : decode cX8_readsTerm 83 = .ok (.invokevirtual 214, 3) := by decide +kernel
theorem dX8_readsTerm_86 : decode cX8_readsTerm 86 = .ok (.ifCond .eq 7, 3) := by decide +kernel
theorem dX8_readsTerm_89 : decode cX8_readsTerm 89 = .ok (.iconst 1, 1) := by decide +kernel
theorem dX8_readsTerm_90 : decode cX8_readsTerm 90 = .ok (.goto 43, 3) := by decide +kernel
theorem dX8_readsTerm_93 : decode cX8_readsTerm 93 = .ok (.aload_n 0, 1) := by decide +kernel
theorem dX8_readsTerm_94 : decode cX8_readsTerm 94 = .ok (.bipush 45, 2) := by decide +kernel
theorem dX8_readsTerm_96 : decode cX8_readsTerm 96 = .ok (.invokevirtual 214, 3) := by decide +kernel
theorem dX8_readsTerm_99 : decode cX8_readsTerm 99 = .ok (.ifCond .eq 7, 3) := by decide +kernel
theorem dX8_readsTerm_102 : decode cX8_readsTerm 102 = .ok (.iconst 2, 1) := by decide +kernel
theorem dX8_readsTerm_103 : decode cX8_readsTerm 103 = .ok (.goto 30, 3) := by decide +kernel
theorem dX8_readsTerm_106 : decode cX8_readsTerm 106 = .ok (.aload_n 0, 1) := by decide +kernel
theorem dX8_readsTerm_107 : decode cX8_readsTerm 107 = .ok (.bipush 42, 2) := by decide +kernel
theorem dX8_readsTerm_109 : decode cX8_readsTerm 109 = .ok (.invokevirtual 214, 3) := by decide +kernel
theorem dX8_readsTerm_112 : decode cX8_readsTerm 112 = .ok (.ifCond .eq 7, 3) := by decide +kernel
theorem dX8_readsTerm_115 : decode cX8_readsTerm 115 = .ok (.iconst 3, 1) := by decide +kernel
theorem dX8_readsTerm_116 : decode cX8_readsTerm 116 = .ok (.goto 17, 3) := by decide +kernel
theorem dX8_readsTerm_119 : decode cX8_readsTerm 119 = .ok (.aload_n 0, 1) := by decide +kernel
theorem dX8_readsTerm_120 : decode cX8_readsTerm 120 = .ok (.bipush 47, 2) := by decide +kernel
theorem dX8_readsTerm_122 : decode cX8_readsTerm 122 = .ok (.invokevirtual 214, 3) := by decide +kernel
theorem dX8_readsTerm_125 : decode cX8_readsTerm 125 = .ok (.ifCond .eq 7, 3) := by decide +kernel
theorem dX8_readsTerm_128 : decode cX8_readsTerm 128 = .ok (.iconst 5, 1) := by decide +kernel
theorem dX8_readsTerm_129 : decode cX8_readsTerm 129 = .ok (.goto 4, 3) := by decide +kernel
theorem dX8_readsTerm_132 : decode cX8_readsTerm 132 = .ok (.iconst 0, 1) := by decide +kernel
theorem dX8_readsTerm_133 : decode cX8_readsTerm 133 = .ok (.istore_n 2, 1) := by decide +kernel
theorem dX8_readsTerm_134 : decode cX8_readsTerm 134 = .ok (.aload_n 0, 1) := by decide +kernel
theorem dX8_readsTerm_135 : decode cX8_readsTerm 135 = .ok (.getfield 23, 3) := by decide +kernel
theorem dX8_readsTerm_138 : decode cX8_readsTerm 138 = .ok (.iload_n 1, 1) := by decide +kernel
theorem dX8_readsTerm_139 : decode cX8_readsTerm 139 = .ok (.iload_n 2, 1) := by decide +kernel
theorem dX8_readsTerm_140 : decode cX8_readsTerm 140 = .ok (.iastore, 1) := by decide +kernel
theorem dX8_readsTerm_141 : decode cX8_readsTerm 141 = .ok (.iload_n 2, 1) := by decide +kernel
theorem dX8_readsTerm_142 : decode cX8_readsTerm 142 = .ok (.ifCond .le 17, 3) := by decide +kernel
theorem dX8_readsTerm_145 : decode cX8_readsTerm 145 = .ok (.aload_n 0, 1) := by decide +kernel
theorem dX8_readsTerm_146 : decode cX8_readsTerm 146 = .ok (.getfield 32, 3) := by decide +kernel
theorem dX8_readsTerm_149 : decode cX8_readsTerm 149 = .ok (.iload_n 1, 1) := by decide +kernel
theorem dX8_readsTerm_150 : decode cX8_readsTerm 150 = .ok (.aload_n 0, 1) := by decide +kernel
theorem dX8_readsTerm_151 : decode cX8_readsTerm 151 = .ok (.bipush 48, 2) := by decide +kernel
theorem dX8_readsTerm_153 : decode cX8_readsTerm 153 = .ok (.bipush 55, 2) := by decide +kernel
theorem dX8_readsTerm_155 : decode cX8_readsTerm 155 = .ok (.invokevirtual 217, 3) := by decide +kernel
theorem dX8_readsTerm_158 : decode cX8_readsTerm 158 = .ok (.iastore, 1) := by decide +kernel
theorem dX8_readsTerm_159 : decode cX8_readsTerm 159 = .ok (.return_, 1) := by decide +kernel
theorem dX8_readsCount_0 : decode cX8_readsCount 0 = .ok (.aload_n 0, 1) := by decide +kernel
theorem dX8_readsCount_1 : decode cX8_readsCount 1 = .ok (.dup, 1) := by decide +kernel
theorem dX8_readsCount_2 : decode cX8_readsCount 2 = .ok (.getfield 197, 3) := by decide +kernel
theorem dX8_readsCount_5 : decode cX8_readsCount 5 = .ok (.iconst 1, 1) := by decide +kernel
theorem dX8_readsCount_6 : decode cX8_readsCount 6 = .ok (.iadd, 1) := by decide +kernel
theorem dX8_readsCount_7 : decode cX8_readsCount 7 = .ok (.putfield 197, 3) := by decide +kernel
theorem dX8_readsCount_10 : decode cX8_readsCount 10 = .ok (.iconst 0, 1) := by decide +kernel
theorem dX8_readsCount_11 : decode cX8_readsCount 11 = .ok (.istore_n 2, 1) := by decide +kernel
theorem dX8_readsCount_12 : decode cX8_readsCount 12 = .ok (.iconst 0, 1) := by decide +kernel
theorem dX8_readsCount_13 : decode cX8_readsCount 13 = .ok (.istore_n 3, 1) := by decide +kernel
theorem dX8_readsCount_14 : decode cX8_readsCount 14 = .ok (.iload_n 3, 1) := by decide +kernel
theorem dX8_readsCount_15 : decode cX8_readsCount 15 = .ok (.iconst 2, 1) := by decide +kernel
theorem dX8_readsCount_16 : decode cX8_readsCount 16 = .ok (.if_icmp .ge 46, 3) := by decide +kernel
theorem dX8_readsCount_19 : decode cX8_readsCount 19 = .ok (.aload_n 0, 1) := by decide +kernel
theorem dX8_readsCount_20 : decode cX8_readsCount 20 = .ok (.invokevirtual 201, 3) := by decide +kernel
theorem dX8_readsCount_23 : decode cX8_readsCount 23 = .ok (.bipush 48, 2) := by decide +kernel
theorem dX8_readsCount_25 : decode cX8_readsCount 25 = .ok (.bipush 57, 2) := by decide +kernel
theorem dX8_readsCount_27 : decode cX8_readsCount 27 = .ok (.invokestatic 53, 3) := by decide +kernel
theorem dX8_readsCount_30 : decode cX8_readsCount 30 = .ok (.ifCond .eq 32, 3) := by decide +kernel
theorem dX8_readsCount_33 : decode cX8_readsCount 33 = .ok (.bipush 10, 2) := by decide +kernel
theorem dX8_readsCount_35 : decode cX8_readsCount 35 = .ok (.iload_n 2, 1) := by decide +kernel
theorem dX8_readsCount_36 : decode cX8_readsCount 36 = .ok (.imul, 1) := by decide +kernel
theorem dX8_readsCount_37 : decode cX8_readsCount 37 = .ok (.aload_n 0, 1) := by decide +kernel
theorem dX8_readsCount_38 : decode cX8_readsCount 38 = .ok (.invokevirtual 201, 3) := by decide +kernel
theorem dX8_readsCount_41 : decode cX8_readsCount 41 = .ok (.iadd, 1) := by decide +kernel
theorem dX8_readsCount_42 : decode cX8_readsCount 42 = .ok (.bipush 48, 2) := by decide +kernel
theorem dX8_readsCount_44 : decode cX8_readsCount 44 = .ok (.isub, 1) := by decide +kernel
theorem dX8_readsCount_45 : decode cX8_readsCount 45 = .ok (.istore_n 2, 1) := by decide +kernel
theorem dX8_readsCount_46 : decode cX8_readsCount 46 = .ok (.iinc 3 1, 3) := by decide +kernel
theorem dX8_readsCount_49 : decode cX8_readsCount 49 = .ok (.aload_n 0, 1) := by decide +kernel
theorem dX8_readsCount_50 : decode cX8_readsCount 50 = .ok (.dup, 1) := by decide +kernel
theorem dX8_readsCount_51 : decode cX8_readsCount 51 = .ok (.getfield 197, 3) := by decide +kernel
theorem dX8_readsCount_54 : decode cX8_readsCount 54 = .ok (.iconst 1, 1) := by decide +kernel
theorem dX8_readsCount_55 : decode cX8_readsCount 55 = .ok (.iadd, 1) := by decide +kernel
theorem dX8_readsCount_56 : decode cX8_readsCount 56 = .ok (.putfield 197, 3) := by decide +kernel
theorem dX8_readsCount_59 : decode cX8_readsCount 59 = .ok (.goto (-45), 3) := by decide +kernel
theorem dX8_readsCount_62 : decode cX8_readsCount 62 = .ok (.iload_n 3, 1) := by decide +kernel
theorem dX8_readsCount_63 : decode cX8_readsCount 63 = .ok (.ifCond .ne 7, 3) := by decide +kernel
theorem dX8_readsCount_66 : decode cX8_readsCount 66 = .ok (.aload_n 0, 1) := by decide +kernel
theorem dX8_readsCount_67 : decode cX8_readsCount 67 = .ok (.invokevirtual 211, 3) := by decide +kernel
theorem dX8_readsCount_70 : decode cX8_readsCount 70 = .ok (.aload_n 0, 1) := by decide +kernel
theorem dX8_readsCount_71 : decode cX8_readsCount 71 = .ok (.invokevirtual 208, 3) := by decide +kernel
theorem dX8_readsCount_74 : decode cX8_readsCount 74 = .ok (.aload_n 0, 1) := by decide +kernel
theorem dX8_readsCount_75 : decode cX8_readsCount 75 = .ok (.invokevirtual 201, 3) := by decide +kernel
theorem dX8_readsCount_78 : decode cX8_readsCount 78 = .ok (.bipush 40, 2) := by decide +kernel
theorem dX8_readsCount_80 : decode cX8_readsCount 80 = .ok (.if_icmp .ne 11, 3) := by decide +kernel
theorem dX8_readsCount_83 : decode cX8_readsCount 83 = .ok (.aload_n 0, 1) := by decide +kernel
theorem dX8_readsCount_84 : decode cX8_readsCount 84 = .ok (.getfield 220, 3) := by decide +kernel
theorem dX8_readsCount_87 : decode cX8_readsCount 87 = .ok (.iconst 3, 1) := by decide +kernel
theorem dX8_readsCount_88 : decode cX8_readsCount 88 = .ok (.if_icmp .ne 7, 3) := by decide +kernel
theorem dX8_readsCount_91 : decode cX8_readsCount 91 = .ok (.aload_n 0, 1) := by decide +kernel
theorem dX8_readsCount_92 : decode cX8_readsCount 92 = .ok (.invokevirtual 211, 3) := by decide +kernel
theorem dX8_readsCount_95 : decode cX8_readsCount 95 = .ok (.aload_n 0, 1) := by decide +kernel
theorem dX8_readsCount_96 : decode cX8_readsCount 96 = .ok (.getfield 205, 3) := by decide +kernel
theorem dX8_readsCount_99 : decode cX8_readsCount 99 = .ok (.ldc 200, 2) := by decide +kernel
theorem dX8_readsCount_101 : decode cX8_readsCount 101 = .ok (.if_icmp .ne 47, 3) := by decide +kernel
theorem dX8_readsCount_104 : decode cX8_readsCount 104 = .ok (.aload_n 0, 1) := by decide +kernel
theorem dX8_readsCount_105 : decode cX8_readsCount 105 = .ok (.dup, 1) := by decide +kernel
theorem dX8_readsCount_106 : decode cX8_readsCount 106 = .ok (.getfield 197, 3) := by decide +kernel
theorem dX8_readsCount_109 : decode cX8_readsCount 109 = .ok (.iconst 1, 1) := by decide +kernel
theorem dX8_readsCount_110 : decode cX8_readsCount 110 = .ok (.iadd, 1) := by decide +kernel
theorem dX8_readsCount_111 : decode cX8_readsCount 111 = .ok (.putfield 197, 3) := by decide +kernel
theorem dX8_readsCount_114 : decode cX8_readsCount 114 = .ok (.aload_n 0, 1) := by decide +kernel
theorem dX8_readsCount_115 : decode cX8_readsCount 115 = .ok (.getfield 20, 3) := by decide +kernel
theorem dX8_readsCount_118 : decode cX8_readsCount 118 = .ok (.iload_n 1, 1) := by decide +kernel
theorem dX8_readsCount_119 : decode cX8_readsCount 119 = .ok (.iconst 1, 1) := by decide +kernel
theorem dX8_readsCount_120 : decode cX8_readsCount 120 = .ok (.iastore, 1) := by decide +kernel
theorem dX8_readsCount_121 : decode cX8_readsCount 121 = .ok (.aload_n 0, 1) := by decide +kernel
theorem dX8_readsCount_122 : decode cX8_readsCount 122 = .ok (.getfield 23, 3) := by decide +kernel
theorem dX8_readsCount_125 : decode cX8_readsCount 125 = .ok (.iload_n 1, 1) := by decide +kernel
theorem dX8_readsCount_126 : decode cX8_readsCount 126 = .ok (.iload_n 2, 1) := by decide +kernel
theorem dX8_readsCount_127 : decode cX8_readsCount 127 = .ok (.iastore, 1) := by decide +kernel
theorem dX8_readsCount_128 : decode cX8_readsCount 128 = .ok (.aload_n 0, 1) := by decide +kernel
theorem dX8_readsCount_129 : decode cX8_readsCount 129 = .ok (.getfield 35, 3) := by decide +kernel
theorem dX8_readsCount_132 : decode cX8_readsCount 132 = .ok (.aload_n 0, 1) := by decide +kernel
theorem dX8_readsCount_133 : decode cX8_readsCount 133 = .ok (.getfield 220, 3) := by decide +kernel
theorem dX8_readsCount_136 : decode cX8_readsCount 136 = .ok (.iload_n 1, 1) := by decide +kernel
theorem dX8_readsCount_137 : decode cX8_readsCount 137 = .ok (.iastore, 1) := by decide +kernel
theorem dX8_readsCount_138 : decode cX8_readsCount 138 = .ok (.aload_n 0, 1) := by decide +kernel
theorem dX8_readsCount_139 : decode cX8_readsCount 139 = .ok (.dup, 1) := by decide +kernel
theorem dX8_readsCount_140 : decode cX8_readsCount 140 = .ok (.getfield 220, 3) := by decide +kernel
theorem dX8_readsCount_143 : decode cX8_readsCount 143 = .ok (.iconst 1, 1) := by decide +kernel
theorem dX8_readsCount_144 : decode cX8_readsCount 144 = .ok (.iadd, 1) := by decide +kernel
theorem dX8_readsCount_145 : decode cX8_readsCount 145 = .ok (.putfield 220, 3) := by decide +kernel
theorem dX8_readsCount_148 : decode cX8_readsCount 148 = .ok (.return_, 1) := by decide +kernel
theorem dX8_readsStep_0 : decode cX8_readsStep 0 = .ok (.aload_n 0, 1) := by decide +kernel
theorem dX8_readsStep_1 : decode cX8_readsStep 1 = .ok (.getfield 223, 3) := by decide +kernel
theorem dX8_readsStep_4 : decode cX8_readsStep 4 = .ok (.istore_n 1, 1) := by decide +kernel
theorem dX8_readsStep_5 : decode cX8_readsStep 5 = .ok (.aload_n 0, 1) := by decide +kernel
theorem dX8_readsStep_6 : decode cX8_readsStep 6 = .ok (.dup, 1) := by decide +kernel
theorem dX8_readsStep_7 : decode cX8_readsStep 7 = .ok (.getfield 223, 3) := by decide +kernel
theorem dX8_readsStep_10 : decode cX8_readsStep 10 = .ok (.iconst 1, 1) := by decide +kernel
theorem dX8_readsStep_11 : decode cX8_readsStep 11 = .ok (.iadd, 1) := by decide +kernel
theorem dX8_readsStep_12 : decode cX8_readsStep 12 = .ok (.putfield 223, 3) := by decide +kernel
theorem dX8_readsStep_15 : decode cX8_readsStep 15 = .ok (.aload_n 0, 1) := by decide +kernel
theorem dX8_readsStep_16 : decode cX8_readsStep 16 = .ok (.getfield 20, 3) := by decide +kernel
theorem dX8_readsStep_19 : decode cX8_readsStep 19 = .ok (.iload_n 1, 1) := by decide +kernel
theorem dX8_readsStep_20 : decode cX8_readsStep 20 = .ok (.iconst 0, 1) := by decide +kernel
theorem dX8_readsStep_21 : decode cX8_readsStep 21 = .ok (.iastore, 1) := by decide +kernel
theorem dX8_readsStep_22 : decode cX8_readsStep 22 = .ok (.aload_n 0, 1) := by decide +kernel
theorem dX8_readsStep_23 : decode cX8_readsStep 23 = .ok (.invokevirtual 201, 3) := by decide +kernel
theorem dX8_readsStep_26 : decode cX8_readsStep 26 = .ok (.bipush 35, 2) := by decide +kernel
theorem dX8_readsStep_28 : decode cX8_readsStep 28 = .ok (.if_icmp .ne 11, 3) := by decide +kernel
theorem dX8_readsStep_31 : decode cX8_readsStep 31 = .ok (.aload_n 0, 1) := by decide +kernel
theorem dX8_readsStep_32 : decode cX8_readsStep 32 = .ok (.iload_n 1, 1) := by decide +kernel
theorem dX8_readsStep_33 : decode cX8_readsStep 33 = .ok (.invokevirtual 226, 3) := by decide +kernel
theorem dX8_readsStep_36 : decode cX8_readsStep 36 = .ok (.goto 116, 3) := by decide +kernel
theorem dX8_readsStep_39 : decode cX8_readsStep 39 = .ok (.aload_n 0, 1) := by decide +kernel
theorem dX8_readsStep_40 : decode cX8_readsStep 40 = .ok (.invokevirtual 201, 3) := by decide +kernel
theorem dX8_readsStep_43 : decode cX8_readsStep 43 = .ok (.bipush 41, 2) := by decide +kernel
theorem dX8_readsStep_45 : decode cX8_readsStep 45 = .ok (.if_icmp .ne 70, 3) := by decide +kernel
theorem dX8_readsStep_48 : decode cX8_readsStep 48 = .ok (.aload_n 0, 1) := by decide +kernel
theorem dX8_readsStep_49 : decode cX8_readsStep 49 = .ok (.getfield 220, 3) := by decide +kernel
theorem dX8_readsStep_52 : decode cX8_readsStep 52 = .ok (.ifCond .le 63, 3) := by decide +kernel
theorem dX8_readsStep_55 : decode cX8_readsStep 55 = .ok (.aload_n 0, 1) := by decide +kernel
theorem dX8_readsStep_56 : decode cX8_readsStep 56 = .ok (.dup, 1) := by decide +kernel
theorem dX8_readsStep_57 : decode cX8_readsStep 57 = .ok (.getfield 197, 3) := by decide +kernel
theorem dX8_readsStep_60 : decode cX8_readsStep 60 = .ok (.iconst 1, 1) := by decide +kernel
theorem dX8_readsStep_61 : decode cX8_readsStep 61 = .ok (.iadd, 1) := by decide +kernel
theorem dX8_readsStep_62 : decode cX8_readsStep 62 = .ok (.putfield 197, 3) := by decide +kernel
