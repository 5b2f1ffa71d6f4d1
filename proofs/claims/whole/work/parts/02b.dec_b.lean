theorem dX4_init_0 : decode cX4_init 0 = .ok (.aload_n 0, 1) := by decide +kernel
theorem dX4_init_1 : decode cX4_init 1 = .ok (.invokespecial 3, 3) := by decide +kernel
theorem dX4_init_4 : decode cX4_init 4 = .ok (.aload_n 0, 1) := by decide +kernel
theorem dX4_init_5 : decode cX4_init 5 = .ok (.bipush 80, 2) := by decide +kernel
theorem dX4_init_7 : decode cX4_init 7 = .ok (.newarray .int, 2) := by decide +kernel
theorem dX4_init_9 : decode cX4_init 9 = .ok (.putfield 11, 3) := by decide +kernel
theorem dX4_init_12 : decode cX4_init 12 = .ok (.aload_n 0, 1) := by decide +kernel
theorem dX4_init_13 : decode cX4_init 13 = .ok (.bipush 80, 2) := by decide +kernel
theorem dX4_init_15 : decode cX4_init 15 = .ok (.newarray .int, 2) := by decide +kernel
theorem dX4_init_17 : decode cX4_init 17 = .ok (.putfield 15, 3) := by decide +kernel
theorem dX4_init_20 : decode cX4_init 20 = .ok (.aload_n 0, 1) := by decide +kernel
theorem dX4_init_21 : decode cX4_init 21 = .ok (.bipush 80, 2) := by decide +kernel
theorem dX4_init_23 : decode cX4_init 23 = .ok (.newarray .int, 2) := by decide +kernel
theorem dX4_init_25 : decode cX4_init 25 = .ok (.putfield 18, 3) := by decide +kernel
theorem dX4_init_28 : decode cX4_init 28 = .ok (.aload_n 0, 1) := by decide +kernel
theorem dX4_init_29 : decode cX4_init 29 = .ok (.bipush 80, 2) := by decide +kernel
theorem dX4_init_31 : decode cX4_init 31 = .ok (.newarray .int, 2) := by decide +kernel
theorem dX4_init_33 : decode cX4_init 33 = .ok (.putfield 21, 3) := by decide +kernel
theorem dX4_init_36 : decode cX4_init 36 = .ok (.aload_n 0, 1) := by decide +kernel
theorem dX4_init_37 : decode cX4_init 37 = .ok (.iconst 3, 1) := by decide +kernel
theorem dX4_init_38 : decode cX4_init 38 = .ok (.newarray .int, 2) := by decide +kernel
theorem dX4_init_40 : decode cX4_init 40 = .ok (.putfield 24, 3) := by decide +kernel
theorem dX4_init_43 : decode cX4_init 43 = .ok (.return_, 1) := by decide +kernel
theorem dX4_append_0 : decode cX4_append 0 = .ok (.aload_n 0, 1) := by decide +kernel
theorem dX4_append_1 : decode cX4_append 1 = .ok (.getfield 27, 3) := by decide +kernel
theorem dX4_append_4 : decode cX4_append 4 = .ok (.bipush 80, 2) := by decide +kernel
theorem dX4_append_6 : decode cX4_append 6 = .ok (.if_icmp .lt 5, 3) := by decide +kernel
theorem dX4_append_9 : decode cX4_append 9 = .ok (.iconst 0, 1) := by decide +kernel
theorem dX4_append_10 : decode cX4_append 10 = .ok (.ireturn, 1) := by decide +kernel
theorem dX4_append_11 : decode cX4_append 11 = .ok (.aload_n 0, 1) := by decide +kernel
theorem dX4_append_12 : decode cX4_append 12 = .ok (.getfield 21, 3) := by decide +kernel
theorem dX4_append_15 : decode cX4_append 15 = .ok (.aload_n 0, 1) := by decide +kernel
theorem dX4_append_16 : decode cX4_append 16 = .ok (.getfield 27, 3) := by decide +kernel
theorem dX4_append_19 : decode cX4_append 19 = .ok (.iload_n 1, 1) := by decide +kernel
theorem dX4_append_20 : decode cX4_append 20 = .ok (.iastore, 1) := by decide +kernel
theorem dX4_append_21 : decode cX4_append 21 = .ok (.aload_n 0, 1) := by decide +kernel
theorem dX4_append_22 : decode cX4_append 22 = .ok (.dup, 1) := by decide +kernel
theorem dX4_append_23 : decode cX4_append 23 = .ok (.getfield 27, 3) := by decide +kernel
theorem dX4_append_26 : decode cX4_append 26 = .ok (.iconst 1, 1) := by decide +kernel
theorem dX4_append_27 : decode cX4_append 27 = .ok (.iadd, 1) := by decide +kernel
theorem dX4_append_28 : decode cX4_append 28 = .ok (.putfield 27, 3) := by decide +kernel
theorem dX4_append_31 : decode cX4_append 31 = .ok (.iconst 1, 1) := by decide +kernel
theorem dX4_append_32 : decode cX4_append 32 = .ok (.ireturn, 1) := by decide +kernel
theorem dX4_read_0 : decode cX4_read 0 = .ok (.aload_n 0, 1) := by decide +kernel
theorem dX4_read_1 : decode cX4_read 1 = .ok (.iconst 0, 1) := by decide +kernel
theorem dX4_read_2 : decode cX4_read 2 = .ok (.putfield 31, 3) := by decide +kernel
theorem dX4_read_5 : decode cX4_read 5 = .ok (.aload_n 0, 1) := by decide +kernel
theorem dX4_read_6 : decode cX4_read 6 = .ok (.iconst 0, 1) := by decide +kernel
theorem dX4_read_7 : decode cX4_read 7 = .ok (.putfield 34, 3) := by decide +kernel
theorem dX4_read_10 : decode cX4_read 10 = .ok (.aload_n 0, 1) := by decide +kernel
theorem dX4_read_11 : decode cX4_read 11 = .ok (.iconst 0, 1) := by decide +kernel
theorem dX4_read_12 : decode cX4_read 12 = .ok (.putfield 37, 3) := by decide +kernel
theorem dX4_read_15 : decode cX4_read 15 = .ok (.iconst 0, 1) := by decide +kernel
theorem dX4_read_16 : decode cX4_read 16 = .ok (.istore_n 1, 1) := by decide +kernel
theorem dX4_read_17 : decode cX4_read 17 = .ok (.iload_n 1, 1) := by decide +kernel
theorem dX4_read_18 : decode cX4_read 18 = .ok (.aload_n 0, 1) := by decide +kernel
theorem dX4_read_19 : decode cX4_read 19 = .ok (.getfield 27, 3) := by decide +kernel
theorem dX4_read_22 : decode cX4_read 22 = .ok (.if_icmp .ge 24, 3) := by decide +kernel
theorem dX4_read_25 : decode cX4_read 25 = .ok (.aload_n 0, 1) := by decide +kernel
theorem dX4_read_26 : decode cX4_read 26 = .ok (.aload_n 0, 1) := by decide +kernel
theorem dX4_read_27 : decode cX4_read 27 = .ok (.getfield 21, 3) := by decide +kernel
theorem dX4_read_30 : decode cX4_read 30 = .ok (.iload_n 1, 1) := by decide +kernel
theorem dX4_read_31 : decode cX4_read 31 = .ok (.iaload, 1) := by decide +kernel
theorem dX4_read_32 : decode cX4_read 32 = .ok (.invokevirtual 40, 3) := by decide +kernel
theorem dX4_read_35 : decode cX4_read 35 = .ok (.ifCond .ne 5, 3) := by decide +kernel
theorem dX4_read_38 : decode cX4_read 38 = .ok (.iload_n 1, 1) := by decide +kernel
theorem dX4_read_39 : decode cX4_read 39 = .ok (.ireturn, 1) := by decide +kernel
theorem dX4_read_40 : decode cX4_read 40 = .ok (.iinc 1 1, 3) := by decide +kernel
theorem dX4_read_43 : decode cX4_read 43 = .ok (.goto (-26), 3) := by decide +kernel
theorem dX4_read_46 : decode cX4_read 46 = .ok (.aload_n 0, 1) := by decide +kernel
theorem dX4_read_47 : decode cX4_read 47 = .ok (.getfield 34, 3) := by decide +kernel
theorem dX4_read_50 : decode cX4_read 50 = .ok (.ifCond .ne 15, 3) := by decide +kernel
theorem dX4_read_53 : decode cX4_read 53 = .ok (.aload_n 0, 1) := by decide +kernel
theorem dX4_read_54 : decode cX4_read 54 = .ok (.getfield 37, 3) := by decide +kernel
theorem dX4_read_57 : decode cX4_read 57 = .ok (.ifCond .ne 8, 3) := by decide +kernel
theorem dX4_read_60 : decode cX4_read 60 = .ok (.ldc 44, 2) := by decide +kernel
theorem dX4_read_62 : decode cX4_read 62 = .ok (.goto 7, 3) := by decide +kernel
theorem dX4_read_65 : decode cX4_read 65 = .ok (.aload_n 0, 1) := by decide +kernel
theorem dX4_read_66 : decode cX4_read 66 = .ok (.getfield 27, 3) := by decide +kernel
theorem dX4_read_69 : decode cX4_read 69 = .ok (.ireturn, 1) := by decide +kernel
theorem dX4_take_0 : decode cX4_take 0 = .ok (.iload_n 1, 1) := by decide +kernel
theorem dX4_take_1 : decode cX4_take 1 = .ok (.bipush 32, 2) := by decide +kernel
theorem dX4_take_3 : decode cX4_take 3 = .ok (.if_icmp .ne 8, 3) := by decide +kernel
theorem dX4_take_6 : decode cX4_take 6 = .ok (.aload_n 0, 1) := by decide +kernel
theorem dX4_take_7 : decode cX4_take 7 = .ok (.invokevirtual 45, 3) := by decide +kernel
theorem dX4_take_10 : decode cX4_take 10 = .ok (.ireturn, 1) := by decide +kernel
theorem dX4_take_11 : decode cX4_take 11 = .ok (.aload_n 0, 1) := by decide +kernel
theorem dX4_take_12 : decode cX4_take 12 = .ok (.getfield 37, 3) := by decide +kernel
theorem dX4_take_15 : decode cX4_take 15 = .ok (.tableswitch 173 0 9 #[53, 59, 79, 85, 91, 97, 117, 125, 145, 151], 53) := by decide +kernel
theorem dX4_take_68 : decode cX4_take 68 = .ok (.aload_n 0, 1) := by decide +kernel
theorem dX4_take_69 : decode cX4_take 69 = .ok (.iload_n 1, 1) := by decide +kernel
theorem dX4_take_70 : decode cX4_take 70 = .ok (.invokevirtual 49, 3) := by decide +kernel
theorem dX4_take_73 : decode cX4_take 73 = .ok (.ireturn, 1) := by decide +kernel
theorem dX4_take_74 : decode cX4_take 74 = .ok (.iload_n 1, 1) := by decide +kernel
theorem dX4_take_75 : decode cX4_take 75 = .ok (.bipush 61, 2) := by decide +kernel
theorem dX4_take_77 : decode cX4_take 77 = .ok (.if_icmp .ne 15, 3) := by decide +kernel
theorem dX4_take_80 : decode cX4_take 80 = .ok (.aload_n 0, 1) := by decide +kernel
theorem dX4_take_81 : decode cX4_take 81 = .ok (.iconst 2, 1) := by decide +kernel
theorem dX4_take_82 : decode cX4_take 82 = .ok (.invokevirtual 52, 3) := by decide +kernel
theorem dX4_take_85 : decode cX4_take 85 = .ok (.ifCond .eq 7, 3) := by decide +kernel
theorem dX4_take_88 : decode cX4_take 88 = .ok (.iconst 1, 1) := by decide +kernel
theorem dX4_take_89 : decode cX4_take 89 = .ok (.goto 4, 3) := by decide +kernel
theorem dX4_take_92 : decode cX4_take 92 = .ok (.iconst 0, 1) := by decide +kernel
theorem dX4_take_93 : decode cX4_take 93 = .ok (.ireturn, 1) := by decide +kernel
theorem dX4_take_94 : decode cX4_take 94 = .ok (.aload_n 0, 1) := by decide +kernel
theorem dX4_take_95 : decode cX4_take 95 = .ok (.iload_n 1, 1) := by decide +kernel
theorem dX4_take_96 : decode cX4_take 96 = .ok (.invokevirtual 55, 3) := by decide +kernel
theorem dX4_take_99 : decode cX4_take 99 = .ok (.ireturn, 1) := by decide +kernel
theorem dX4_take_100 : decode cX4_take 100 = .ok (.aload_n 0, 1) := by decide +kernel
theorem dX4_take_101 : decode cX4_take 101 = .ok (.iload_n 1, 1) := by decide +kernel
theorem dX4_take_102 : decode cX4_take 102 = .ok (.invokevirtual 58, 3) := by decide +kernel
theorem dX4_take_105 : decode cX4_take 105 = .ok (.ireturn, 1) := by decide +kernel
theorem dX4_take_106 : decode cX4_take 106 = .ok (.aload_n 0, 1) := by decide +kernel
theorem dX4_take_107 : decode cX4_take 107 = .ok (.iload_n 1, 1) := by decide +kernel
theorem dX4_take_108 : decode cX4_take 108 = .ok (.invokevirtual 61, 3) := by decide +kernel
theorem dX4_take_111 : decode cX4_take 111 = .ok (.ireturn, 1) := by decide +kernel
theorem dX4_take_112 : decode cX4_take 112 = .ok (.iload_n 1, 1) := by decide +kernel
theorem dX4_take_113 : decode cX4_take 113 = .ok (.bipush 59, 2) := by decide +kernel
theorem dX4_take_115 : decode cX4_take 115 = .ok (.if_icmp .ne 15, 3) := by decide +kernel
theorem dX4_take_118 : decode cX4_take 118 = .ok (.aload_n 0, 1) := by decide +kernel
theorem dX4_take_119 : decode cX4_take 119 = .ok (.iconst 0, 1) := by decide +kernel
theorem dX4_take_120 : decode cX4_take 120 = .ok (.invokevirtual 52, 3) := by decide +kernel
theorem dX4_take_123 : decode cX4_take 123 = .ok (.ifCond .eq 7, 3) := by decide +kernel
theorem dX4_take_126 : decode cX4_take 126 = .ok (.iconst 1, 1) := by decide +kernel
theorem dX4_take_127 : decode cX4_take 127 = .ok (.goto 4, 3) := by decide +kernel
theorem dX4_take_130 : decode cX4_take 130 = .ok (.iconst 0, 1) := by decide +kernel
theorem dX4_take_131 : decode cX4_take 131 = .ok (.ireturn, 1) := by decide +kernel
theorem dX4_take_132 : decode cX4_take 132 = .ok (.aload_n 0, 1) := by decide +kernel
theorem dX4_take_133 : decode cX4_take 133 = .ok (.iload_n 1, 1) := by decide +kernel
theorem dX4_take_134 : decode cX4_take 134 = .ok (.bipush 7, 2) := by decide +kernel
theorem dX4_take_136 : decode cX4_take 136 = .ok (.invokevirtual 64, 3) := by decide +kernel
theorem dX4_take_139 : decode cX4_take 139 = .ok (.ireturn, 1) := by decide +kernel
theorem dX4_take_140 : decode cX4_take 140 = .ok (.iload_n 1, 1) := by decide +kernel
theorem dX4_take_141 : decode cX4_take 141 = .ok (.bipush 42, 2) := by decide +kernel
theorem dX4_take_143 : decode cX4_take 143 = .ok (.if_icmp .ne 15, 3) := by decide +kernel
theorem dX4_take_146 : decode cX4_take 146 = .ok (.aload_n 0, 1) := by decide +kernel
theorem dX4_take_147 : decode cX4_take 147 = .ok (.iconst 4, 1) := by decide +kernel
theorem dX4_take_148 : decode cX4_take 148 = .ok (.invokevirtual 68, 3) := by decide +kernel
theorem dX4_take_151 : decode cX4_take 151 = .ok (.ifCond .eq 7, 3) := by decide +kernel
theorem dX4_take_154 : decode cX4_take 154 = .ok (.iconst 1, 1) := by decide +kernel
theorem dX4_take_155 : decode cX4_take 155 = .ok (.goto 4, 3) := by decide +kernel
theorem dX4_take_158 : decode cX4_take 158 = .ok (.iconst 0, 1) := by decide +kernel
theorem dX4_take_159 : decode cX4_take 159 = .ok (.ireturn, 1) := by decide +kernel
theorem dX4_take_160 : decode cX4_take 160 = .ok (.aload_n 0, 1) := by decide +kernel
theorem dX4_take_161 : decode cX4_take 161 = .ok (.iload_n 1, 1) := by decide +kernel
theorem dX4_take_162 : decode cX4_take 162 = .ok (.invokevirtual 71, 3) := by decide +kernel
theorem dX4_take_165 : decode cX4_take 165 = .ok (.ireturn, 1) := by decide +kernel
theorem dX4_take_166 : decode cX4_take 166 = .ok (.aload_n 0, 1) := by decide +kernel
theorem dX4_take_167 : decode cX4_take 167 = .ok (.iload_n 1, 1) := by decide +kernel
theorem dX4_take_168 : decode cX4_take 168 = .ok (.invokevirtual 74, 3) := by decide +kernel
theorem dX4_take_171 : decode cX4_take 171 = .ok (.ifCond .ne 11, 3) := by decide +kernel
theorem dX4_take_174 : decode cX4_take 174 = .ok (.aload_n 0, 1) := by decide +kernel
theorem dX4_take_175 : decode cX4_take 175 = .ok (.iload_n 1, 1) := by decide +kernel
theorem dX4_take_176 : decode cX4_take 176 = .ok (.invokevirtual 77, 3) := by decide +kernel
theorem dX4_take_179 : decode cX4_take 179 = .ok (.ifCond .eq 7, 3) := by decide +kernel
theorem dX4_take_182 : decode cX4_take 182 = .ok (.iconst 1, 1) := by decide +kernel
theorem dX4_take_183 : decode cX4_take 183 = .ok (.goto 4, 3) := by decide +kernel
theorem dX4_take_186 : decode cX4_take 186 = .ok (.iconst 0, 1) := by decide +kernel
theorem dX4_take_187 : decode cX4_take 187 = .ok (.ireturn, 1) := by decide +kernel
theorem dX4_take_188 : decode cX4_take 188 = .ok (.aload_n 0, 1) := by decide +kernel
theorem dX4_take_189 : decode cX4_take 189 = .ok (.iload_n 1, 1) := by decide +kernel
theorem dX4_take_190 : decode cX4_take 190 = .ok (.invokevirtual 77, 3) := by decide +kernel
theorem dX4_take_193 : decode cX4_take 193 = .ok (.ireturn, 1) := by decide +kernel
theorem dX4_want_0 : decode cX4_want 0 = .ok (.aload_n 0, 1) := by decide +kernel
theorem dX4_want_1 : decode cX4_want 1 = .ok (.iload_n 1, 1) := by decide +kernel
theorem dX4_want_2 : decode cX4_want 2 = .ok (.putfield 37, 3) := by decide +kernel
theorem dX4_want_5 : decode cX4_want 5 = .ok (.iconst 1, 1) := by decide +kernel
theorem dX4_want_6 : decode cX4_want 6 = .ok (.ireturn, 1) := by decide +kernel
theorem dX4_wantSecond_0 : decode cX4_wantSecond 0 = .ok (.aload_n 0, 1) := by decide +kernel
theorem dX4_wantSecond_1 : decode cX4_wantSecond 1 = .ok (.iload_n 1, 1) := by decide +kernel
theorem dX4_wantSecond_2 : decode cX4_wantSecond 2 = .ok (.putfield 80, 3) := by decide +kernel
theorem dX4_wantSecond_5 : decode cX4_wantSecond 5 = .ok (.aload_n 0, 1) := by decide +kernel
theorem dX4_wantSecond_6 : decode cX4_wantSecond 6 = .ok (.iconst 4, 1) := by decide +kernel
theorem dX4_wantSecond_7 : decode cX4_wantSecond 7 = .ok (.invokevirtual 52, 3) := by decide +kernel
theorem dX4_wantSecond_10 : decode cX4_wantSecond 10 = .ok (.ireturn, 1) := by decide +kernel
theorem dX4_takeBlank_0 : decode cX4_takeBlank 0 = .ok (.aload_n 0, 1) := by decide +kernel
theorem dX4_takeBlank_1 : decode cX4_takeBlank 1 = .ok (.getfield 37, 3) := by decide +kernel
theorem dX4_takeBlank_4 : decode cX4_takeBlank 4 = .ok (.bipush 9, 2) := by decide +kernel
theorem dX4_takeBlank_6 : decode cX4_takeBlank 6 = .ok (.if_icmp .ne 10, 3) := by decide +kernel
theorem dX4_takeBlank_9 : decode cX4_takeBlank 9 = .ok (.aload_n 0, 1) := by decide +kernel
theorem dX4_takeBlank_10 : decode cX4_takeBlank 10 = .ok (.bipush 10, 2) := by decide +kernel
theorem dX4_takeBlank_12 : decode cX4_takeBlank 12 = .ok (.invokevirtual 52, 3) := by decide +kernel
theorem dX4_takeBlank_15 : decode cX4_takeBlank 15 = .ok (.ireturn, 1) := by decide +kernel
theorem dX4_takeBlank_16 : decode cX4_takeBlank 16 = .ok (.aload_n 0, 1) := by decide +kernel
theorem dX4_takeBlank_17 : decode cX4_takeBlank 17 = .ok (.getfield 37, 3) := by decide +kernel
theorem dX4_takeBlank_20 : decode cX4_takeBlank 20 = .ok (.bipush 8, 2) := by decide +kernel
theorem dX4_takeBlank_22 : decode cX4_takeBlank 22 = .ok (.if_icmp .eq 7, 3) := by decide +kernel
theorem dX4_takeBlank_25 : decode cX4_takeBlank 25 = .ok (.iconst 1, 1) := by decide +kernel
theorem dX4_takeBlank_26 : decode cX4_takeBlank 26 = .ok (.goto 4, 3) := by decide +kernel
theorem dX4_takeBlank_29 : decode cX4_takeBlank 29 = .ok (.iconst 0, 1) := by decide +kernel
theorem dX4_takeBlank_30 : decode cX4_takeBlank 30 = .ok (.ireturn, 1) := by decide +kernel
theorem dX4_takeStatement_0 : decode cX4_takeStatement 0 = .ok (.iload_n 1, 1) := by decide +kernel
theorem dX4_takeStatement_1 : decode cX4_takeStatement 1 = .ok (.invokestatic 83, 3) := by decide +kernel
theorem dX4_takeStatement_4 : decode cX4_takeStatement 4 = .ok (.ifCond .eq 17, 3) := by decide +kernel
theorem dX4_takeStatement_7 : decode cX4_takeStatement 7 = .ok (.aload_n 0, 1) := by decide +kernel
theorem dX4_takeStatement_8 : decode cX4_takeStatement 8 = .ok (.iload_n 1, 1) := by decide +kernel
theorem dX4_takeStatement_9 : decode cX4_takeStatement 9 = .ok (.bipush 48, 2) := by decide +kernel
theorem dX4_takeStatement_11 : decode cX4_takeStatement 11 = .ok (.isub, 1) := by decide +kernel
theorem dX4_takeStatement_12 : decode cX4_takeStatement 12 = .ok (.putfield 86, 3) := by decide +kernel
theorem dX4_takeStatement_15 : decode cX4_takeStatement 15 = .ok (.aload_n 0, 1) := by decide +kernel
theorem dX4_takeStatement_16 : decode cX4_takeStatement 16 = .ok (.iconst 1, 1) := by decide +kernel
theorem dX4_takeStatement_17 : decode cX4_takeStatement 17 = .ok (.invokevirtual 52, 3) := by decide +kernel
theorem dX4_takeStatement_20 : decode cX4_takeStatement 20 = .ok (.ireturn, 1) := by decide +kernel
theorem dX4_takeStatement_21 : decode cX4_takeStatement 21 = .ok (.iload_n 1, 1) := by decide +kernel
theorem dX4_takeStatement_22 : decode cX4_takeStatement 22 = .ok (.bipush 35, 2) := by decide +kernel
theorem dX4_takeStatement_24 : decode cX4_takeStatement 24 = .ok (.if_icmp .ne 10, 3) := by decide +kernel
theorem dX4_takeStatement_27 : decode cX4_takeStatement 27 = .ok (.aload_n 0, 1) := by decide +kernel
theorem dX4_takeStatement_28 : decode cX4_takeStatement 28 = .ok (.bipush 8, 2) := by decide +kernel
theorem dX4_takeStatement_30 : decode cX4_takeStatement 30 = .ok (.invokevirtual 52, 3) := by decide +kernel
theorem dX4_takeStatement_33 : decode cX4_takeStatement 33 = .ok (.ireturn, 1) := by decide +kernel
theorem dX4_takeStatement_34 : decode cX4_takeStatement 34 = .ok (.iload_n 1, 1) := by decide +kernel
theorem dX4_takeStatement_35 : decode cX4_takeStatement 35 = .ok (.bipush 41, 2) := by decide +kernel
theorem dX4_takeStatement_37 : decode cX4_takeStatement 37 = .ok (.if_icmp .ne 14, 3) := by decide +kernel
theorem dX4_takeStatement_40 : decode cX4_takeStatement 40 = .ok (.aload_n 0, 1) := by decide +kernel
theorem dX4_takeStatement_41 : decode cX4_takeStatement 41 = .ok (.invokevirtual 89, 3) := by decide +kernel
theorem dX4_takeStatement_44 : decode cX4_takeStatement 44 = .ok (.ifCond .eq 7, 3) := by decide +kernel
theorem dX4_takeStatement_47 : decode cX4_takeStatement 47 = .ok (.iconst 1, 1) := by decide +kernel
theorem dX4_takeStatement_48 : decode cX4_takeStatement 48 = .ok (.goto 4, 3) := by decide +kernel
theorem dX4_takeStatement_51 : decode cX4_takeStatement 51 = .ok (.iconst 0, 1) := by decide +kernel
theorem dX4_takeStatement_52 : decode cX4_takeStatement 52 = .ok (.ireturn, 1) := by decide +kernel
theorem dX4_takeTerm_0 : decode cX4_takeTerm 0 = .ok (.iload_n 1, 1) := by decide +kernel
theorem dX4_takeTerm_1 : decode cX4_takeTerm 1 = .ok (.bipush 43, 2) := by decide +kernel
theorem dX4_takeTerm_3 : decode cX4_takeTerm 3 = .ok (.if_icmp .ne 12, 3) := by decide +kernel
theorem dX4_takeTerm_6 : decode cX4_takeTerm 6 = .ok (.aload_n 0, 1) := by decide +kernel
theorem dX4_takeTerm_7 : decode cX4_takeTerm 7 = .ok (.bipush 6, 2) := by decide +kernel
theorem dX4_takeTerm_9 : decode cX4_takeTerm 9 = .ok (.invokevirtual 52, 3) := by decide +kernel
theorem dX4_takeTerm_12 : decode cX4_takeTerm 12 = .ok (.goto 9, 3) := by decide +kernel
theorem dX4_takeTerm_15 : decode cX4_takeTerm 15 = .ok (.aload_n 0, 1) := by decide +kernel
theorem dX4_takeTerm_16 : decode cX4_takeTerm 16 = .ok (.iload_n 1, 1) := by decide +kernel
theorem dX4_takeTerm_17 : decode cX4_takeTerm 17 = .ok (.iconst 3, 1) := by decide +kernel
theorem dX4_takeTerm_18 : decode cX4_takeTerm 18 = .ok (.invokevirtual 64, 3) := by decide +kernel
theorem dX4_takeTerm_21 : decode cX4_takeTerm 21 = .ok (.ireturn, 1) := by decide +kernel
theorem dX4_takeFirst_0 : decode cX4_takeFirst 0 = .ok (.iload_n 1, 1) := by decide +kernel
theorem dX4_takeFirst_1 : decode cX4_takeFirst 1 = .ok (.invokestatic 83, 3) := by decide +kernel
theorem dX4_takeFirst_4 : decode cX4_takeFirst 4 = .ok (.ifCond .ne 5, 3) := by decide +kernel
theorem dX4_takeFirst_7 : decode cX4_takeFirst 7 = .ok (.iconst 0, 1) := by decide +kernel
theorem dX4_takeFirst_8 : decode cX4_takeFirst 8 = .ok (.ireturn, 1) := by decide +kernel
theorem dX4_takeFirst_9 : decode cX4_takeFirst 9 = .ok (.aload_n 0, 1) := by decide +kernel
theorem dX4_takeFirst_10 : decode cX4_takeFirst 10 = .ok (.iload_n 1, 1) := by decide +kernel
theorem dX4_takeFirst_11 : decode cX4_takeFirst 11 = .ok (.bipush 48, 2) := by decide +kernel
theorem dX4_takeFirst_13 : decode cX4_takeFirst 13 = .ok (.isub, 1) := by decide +kernel
theorem dX4_takeFirst_14 : decode cX4_takeFirst 14 = .ok (.putfield 92, 3) := by decide +kernel
theorem dX4_takeFirst_17 : decode cX4_takeFirst 17 = .ok (.aload_n 0, 1) := by decide +kernel
theorem dX4_takeFirst_18 : decode cX4_takeFirst 18 = .ok (.iload_n 2, 1) := by decide +kernel
theorem dX4_takeFirst_19 : decode cX4_takeFirst 19 = .ok (.invokevirtual 52, 3) := by decide +kernel
theorem dX4_takeFirst_22 : decode cX4_takeFirst 22 = .ok (.ireturn, 1) := by decide +kernel
theorem dX4_takeSign_0 : decode cX4_takeSign 0 = .ok (.iload_n 1, 1) := by decide +kernel
theorem dX4_takeSign_1 : decode cX4_takeSign 1 = .ok (.lookupswitch 101 #[(42, 89), (43, 77), (45, 83), (47, 95), (59, 51)], 51) := by decide +kernel
theorem dX4_takeSign_52 : decode cX4_takeSign 52 = .ok (.aload_n 0, 1) := by decide +kernel
theorem dX4_takeSign_53 : decode cX4_takeSign 53 = .ok (.iconst 0, 1) := by decide +kernel
theorem dX4_takeSign_54 : decode cX4_takeSign 54 = .ok (.aload_n 0, 1) := by decide +kernel
theorem dX4_takeSign_55 : decode cX4_takeSign 55 = .ok (.getfield 92, 3) := by decide +kernel
theorem dX4_takeSign_58 : decode cX4_takeSign 58 = .ok (.invokevirtual 95, 3) := by decide +kernel
theorem dX4_takeSign_61 : decode cX4_takeSign 61 = .ok (.ifCond .eq 15, 3) := by decide +kernel
theorem dX4_takeSign_64 : decode cX4_takeSign 64 = .ok (.aload_n 0, 1) := by decide +kernel
theorem dX4_takeSign_65 : decode cX4_takeSign 65 = .ok (.iconst 0, 1) := by decide +kernel
theorem dX4_takeSign_66 : decode cX4_takeSign 66 = .ok (.invokevirtual 52, 3) := by decide +kernel
theorem dX4_takeSign_69 : decode cX4_takeSign 69 = .ok (.ifCond .eq 7, 3) := by decide +kernel
theorem dX4_takeSign_72 : decode cX4_takeSign 72 = .ok (.iconst 1, 1) := by decide +kernel
theorem dX4_takeSign_73 : decode cX4_takeSign 73 = .ok (.goto 4, 3) := by decide +kernel
theorem dX4_takeSign_76 : decode cX4_takeSign 76 = .ok (.iconst 0, 1) := by decide +kernel
theorem dX4_takeSign_77 : decode cX4_takeSign 77 = .ok (.ireturn, 1) := by decide +kernel
theorem dX4_takeSign_78 : decode cX4_takeSign 78 = .ok (.aload_n 0, 1) := by decide +kernel
theorem dX4_takeSign_79 : decode cX4_takeSign 79 = .ok (.iconst 1, 1) := by decide +kernel
theorem dX4_takeSign_80 : decode cX4_takeSign 80 = .ok (.invokevirtual 68, 3) := by decide +kernel
theorem dX4_takeSign_83 : decode cX4_takeSign 83 = .ok (.ireturn, 1) := by decide +kernel
theorem dX4_takeSign_84 : decode cX4_takeSign 84 = .ok (.aload_n 0, 1) := by decide +kernel
theorem dX4_takeSign_85 : decode cX4_takeSign 85 = .ok (.iconst 2, 1) := by decide +kernel
theorem dX4_takeSign_86 : decode cX4_takeSign 86 = .ok (.invokevirtual 68, 3) := by decide +kernel
theorem dX4_takeSign_89 : decode cX4_takeSign 89 = .ok (.ireturn, 1) := by decide +kernel
theorem dX4_takeSign_90 : decode cX4_takeSign 90 = .ok (.aload_n 0, 1) := by decide +kernel
theorem dX4_takeSign_91 : decode cX4_takeSign 91 = .ok (.iconst 3, 1) := by decide +kernel
theorem dX4_takeSign_92 : decode cX4_takeSign 92 = .ok (.invokevirtual 68, 3) := by decide +kernel
theorem dX4_takeSign_95 : decode cX4_takeSign 95 = .ok (.ireturn, 1) := by decide +kernel
theorem dX4_takeSign_96 : decode cX4_takeSign 96 = .ok (.aload_n 0, 1) := by decide +kernel
theorem dX4_takeSign_97 : decode cX4_takeSign 97 = .ok (.iconst 5, 1) := by decide +kernel
theorem dX4_takeSign_98 : decode cX4_takeSign 98 = .ok (.invokevirtual 68, 3) := by decide +kernel
theorem dX4_takeSign_101 : decode cX4_takeSign 101 = .ok (.ireturn, 1) := by decide +kernel
theorem dX4_takeSign_102 : decode cX4_takeSign 102 = .ok (.iconst 0, 1) := by decide +kernel
theorem dX4_takeSign_103 : decode cX4_takeSign 103 = .ok (.ireturn, 1) := by decide +kernel
theorem dX4_takeSecond_0 : decode cX4_takeSecond 0 = .ok (.iload_n 1, 1) := by decide +kernel
theorem dX4_takeSecond_1 : decode cX4_takeSecond 1 = .ok (.invokestatic 83, 3) := by decide +kernel
theorem dX4_takeSecond_4 : decode cX4_takeSecond 4 = .ok (.ifCond .eq 30, 3) := by decide +kernel
theorem dX4_takeSecond_7 : decode cX4_takeSecond 7 = .ok (.aload_n 0, 1) := by decide +kernel
theorem dX4_takeSecond_8 : decode cX4_takeSecond 8 = .ok (.aload_n 0, 1) := by decide +kernel
theorem dX4_takeSecond_9 : decode cX4_takeSecond 9 = .ok (.getfield 80, 3) := by decide +kernel
theorem dX4_takeSecond_12 : decode cX4_takeSecond 12 = .ok (.iload_n 1, 1) := by decide +kernel
theorem dX4_takeSecond_13 : decode cX4_takeSecond 13 = .ok (.bipush 48, 2) := by decide +kernel
theorem dX4_takeSecond_15 : decode cX4_takeSecond 15 = .ok (.isub, 1) := by decide +kernel
theorem dX4_takeSecond_16 : decode cX4_takeSecond 16 = .ok (.invokevirtual 95, 3) := by decide +kernel
theorem dX4_takeSecond_19 : decode cX4_takeSecond 19 = .ok (.ifCond .eq 15, 3) := by decide +kernel
theorem dX4_takeSecond_22 : decode cX4_takeSecond 22 = .ok (.aload_n 0, 1) := by decide +kernel
theorem dX4_takeSecond_23 : decode cX4_takeSecond 23 = .ok (.iconst 5, 1) := by decide +kernel
theorem dX4_takeSecond_24 : decode cX4_takeSecond 24 = .ok (.invokevirtual 52, 3) := by decide +kernel
theorem dX4_takeSecond_27 : decode cX4_takeSecond 27 = .ok (.ifCond .eq 7, 3) := by decide +kernel
theorem dX4_takeSecond_30 : decode cX4_takeSecond 30 = .ok (.iconst 1, 1) := by decide +kernel
theorem dX4_takeSecond_31 : decode cX4_takeSecond 31 = .ok (.goto 4, 3) := by decide +kernel
theorem dX4_takeSecond_34 : decode cX4_takeSecond 34 = .ok (.iconst 0, 1) := by decide +kernel
theorem dX4_takeSecond_35 : decode cX4_takeSecond 35 = .ok (.ireturn, 1) := by decide +kernel
theorem dX4_takeCount_0 : decode cX4_takeCount 0 = .ok (.iload_n 1, 1) := by decide +kernel
theorem dX4_takeCount_1 : decode cX4_takeCount 1 = .ok (.invokestatic 98, 3) := by decide +kernel
theorem dX4_takeCount_4 : decode cX4_takeCount 4 = .ok (.ifCond .ne 5, 3) := by decide +kernel
theorem dX4_takeCount_7 : decode cX4_takeCount 7 = .ok (.iconst 0, 1) := by decide +kernel
theorem dX4_takeCount_8 : decode cX4_takeCount 8 = .ok (.ireturn, 1) := by decide +kernel
theorem dX4_takeCount_9 : decode cX4_takeCount 9 = .ok (.aload_n 0, 1) := by decide +kernel
theorem dX4_takeCount_10 : decode cX4_takeCount 10 = .ok (.iload_n 1, 1) := by decide +kernel
theorem dX4_takeCount_11 : decode cX4_takeCount 11 = .ok (.bipush 48, 2) := by decide +kernel
theorem dX4_takeCount_13 : decode cX4_takeCount 13 = .ok (.isub, 1) := by decide +kernel
theorem dX4_takeCount_14 : decode cX4_takeCount 14 = .ok (.putfield 101, 3) := by decide +kernel
theorem dX4_takeCount_17 : decode cX4_takeCount 17 = .ok (.aload_n 0, 1) := by decide +kernel
theorem dX4_takeCount_18 : decode cX4_takeCount 18 = .ok (.bipush 9, 2) := by decide +kernel
theorem dX4_takeCount_20 : decode cX4_takeCount 20 = .ok (.invokevirtual 52, 3) := by decide +kernel
theorem dX4_takeCount_23 : decode cX4_takeCount 23 = .ok (.ireturn, 1) := by decide +kernel
theorem dX4_takeSecondOfCount_0 : decode cX4_takeSecondOfCount 0 = .ok (.iload_n 1, 1) := by decide +kernel
theorem dX4_takeSecondOfCount_1 : decode cX4_takeSecondOfCount 1 = .ok (.invokestatic 98, 3) := by decide +kernel
theorem dX4_takeSecondOfCount_4 : decode cX4_takeSecondOfCount 4 = .ok (.ifCond .ne 5, 3) := by decide +kernel
theorem dX4_takeSecondOfCount_7 : decode cX4_takeSecondOfCount 7 = .ok (.iconst 0, 1) := by decide +kernel
theorem dX4_takeSecondOfCount_8 : decode cX4_takeSecondOfCount 8 = .ok (.ireturn, 1) := by decide +kernel
theorem dX4_takeSecondOfCount_9 : decode cX4_takeSecondOfCount 9 = .ok (.aload_n 0, 1) := by decide +kernel
theorem dX4_takeSecondOfCount_10 : decode cX4_takeSecondOfCount 10 = .ok (.bipush 10, 2) := by decide +kernel
theorem dX4_takeSecondOfCount_12 : decode cX4_takeSecondOfCount 12 = .ok (.aload_n 0, 1) := by decide +kernel
theorem dX4_takeSecondOfCount_13 : decode cX4_takeSecondOfCount 13 = .ok (.getfield 101, 3) := by decide +kernel
theorem dX4_takeSecondOfCount_16 : decode cX4_takeSecondOfCount 16 = .ok (.imul, 1) := by decide +kernel
theorem dX4_takeSecondOfCount_17 : decode cX4_takeSecondOfCount 17 = .ok (.iload_n 1, 1) := by decide +kernel
theorem dX4_takeSecondOfCount_18 : decode cX4_takeSecondOfCount 18 = .ok (.iadd, 1) := by decide +kernel
theorem dX4_takeSecondOfCount_19 : decode cX4_takeSecondOfCount 19 = .ok (.bipush 48, 2) := by decide +kernel
theorem dX4_takeSecondOfCount_21 : decode cX4_takeSecondOfCount 21 = .ok (.isub, 1) := by decide +kernel
theorem dX4_takeSecondOfCount_22 : decode cX4_takeSecondOfCount 22 = .ok (.putfield 101, 3) := by decide +kernel
theorem dX4_takeSecondOfCount_25 : decode cX4_takeSecondOfCount 25 = .ok (.aload_n 0, 1) := by decide +kernel
theorem dX4_takeSecondOfCount_26 : decode cX4_takeSecondOfCount 26 = .ok (.bipush 10, 2) := by decide +kernel
theorem dX4_takeSecondOfCount_28 : decode cX4_takeSecondOfCount 28 = .ok (.invokevirtual 52, 3) := by decide +kernel
theorem dX4_takeSecondOfCount_31 : decode cX4_takeSecondOfCount 31 = .ok (.ireturn, 1) := by decide +kernel
theorem dX4_takeOpen_0 : decode cX4_takeOpen 0 = .ok (.iload_n 1, 1) := by decide +kernel
theorem dX4_takeOpen_1 : decode cX4_takeOpen 1 = .ok (.bipush 40, 2) := by decide +kernel
theorem dX4_takeOpen_3 : decode cX4_takeOpen 3 = .ok (.if_icmp .ne 23, 3) := by decide +kernel
theorem dX4_takeOpen_6 : decode cX4_takeOpen 6 = .ok (.aload_n 0, 1) := by decide +kernel
theorem dX4_takeOpen_7 : decode cX4_takeOpen 7 = .ok (.getfield 34, 3) := by decide +kernel
theorem dX4_takeOpen_10 : decode cX4_takeOpen 10 = .ok (.iconst 3, 1) := by decide +kernel
theorem dX4_takeOpen_11 : decode cX4_takeOpen 11 = .ok (.if_icmp .ge 15, 3) := by decide +kernel
theorem dX4_takeOpen_14 : decode cX4_takeOpen 14 = .ok (.aload_n 0, 1) := by decide +kernel
theorem dX4_takeOpen_15 : decode cX4_takeOpen 15 = .ok (.iconst 1, 1) := by decide +kernel
theorem dX4_takeOpen_16 : decode cX4_takeOpen 16 = .ok (.aload_n 0, 1) := by decide +kernel
theorem dX4_takeOpen_17 : decode cX4_takeOpen 17 = .ok (.getfield 101, 3) := by decide +kernel
theorem dX4_takeOpen_20 : decode cX4_takeOpen 20 = .ok (.invokevirtual 104, 3) := by decide +kernel
theorem dX4_takeOpen_23 : decode cX4_takeOpen 23 = .ok (.ifCond .ne 5, 3) := by decide +kernel
theorem dX4_takeOpen_26 : decode cX4_takeOpen 26 = .ok (.iconst 0, 1) := by decide +kernel
theorem dX4_takeOpen_27 : decode cX4_takeOpen 27 = .ok (.ireturn, 1) := by decide +kernel
theorem dX4_takeOpen_28 : decode cX4_takeOpen 28 = .ok (.aload_n 0, 1) := by decide +kernel
theorem dX4_takeOpen_29 : decode cX4_takeOpen 29 = .ok (.getfield 24, 3) := by decide +kernel
theorem dX4_takeOpen_32 : decode cX4_takeOpen 32 = .ok (.aload_n 0, 1) := by decide +kernel
theorem dX4_takeOpen_33 : decode cX4_takeOpen 33 = .ok (.getfield 34, 3) := by decide +kernel
theorem dX4_takeOpen_36 : decode cX4_takeOpen 36 = .ok (.aload_n 0, 1) := by decide +kernel
theorem dX4_takeOpen_37 : decode cX4_takeOpen 37 = .ok (.getfield 31, 3) := by decide +kernel
theorem dX4_takeOpen_40 : decode cX4_takeOpen 40 = .ok (.iconst 1, 1) := by decide +kernel
theorem dX4_takeOpen_41 : decode cX4_takeOpen 41 = .ok (.isub, 1) := by decide +kernel
theorem dX4_takeOpen_42 : decode cX4_takeOpen 42 = .ok (.iastore, 1) := by decide +kernel
theorem dX4_takeOpen_43 : decode cX4_takeOpen 43 = .ok (.aload_n 0, 1) := by decide +kernel
theorem dX4_takeOpen_44 : decode cX4_takeOpen 44 = .ok (.dup, 1) := by decide +kernel
theorem dX4_takeOpen_45 : decode cX4_takeOpen 45 = .ok (.getfield 34, 3) := by decide +kernel
theorem dX4_takeOpen_48 : decode cX4_takeOpen 48 = .ok (.iconst 1, 1) := by decide +kernel
theorem dX4_takeOpen_49 : decode cX4_takeOpen 49 = .ok (.iadd, 1) := by decide +kernel
theorem dX4_takeOpen_50 : decode cX4_takeOpen 50 = .ok (.putfield 34, 3) := by decide +kernel
theorem dX4_takeOpen_53 : decode cX4_takeOpen 53 = .ok (.aload_n 0, 1) := by decide +kernel
theorem dX4_takeOpen_54 : decode cX4_takeOpen 54 = .ok (.iconst 0, 1) := by decide +kernel
theorem dX4_takeOpen_55 : decode cX4_takeOpen 55 = .ok (.invokevirtual 52, 3) := by decide +kernel
theorem dX4_takeOpen_58 : decode cX4_takeOpen 58 = .ok (.ireturn, 1) := by decide +kernel
theorem dX4_takeClose_0 : decode cX4_takeClose 0 = .ok (.aload_n 0, 1) := by decide +kernel
theorem dX4_takeClose_1 : decode cX4_takeClose 1 = .ok (.getfield 34, 3) := by decide +kernel
theorem dX4_takeClose_4 : decode cX4_takeClose 4 = .ok (.iconst 1, 1) := by decide +kernel
theorem dX4_takeClose_5 : decode cX4_takeClose 5 = .ok (.if_icmp .lt 12, 3) := by decide +kernel
theorem dX4_takeClose_8 : decode cX4_takeClose 8 = .ok (.aload_n 0, 1) := by decide +kernel
theorem dX4_takeClose_9 : decode cX4_takeClose 9 = .ok (.iconst 2, 1) := by decide +kernel
theorem dX4_takeClose_10 : decode cX4_takeClose 10 = .ok (.iconst 0, 1) := by decide +kernel
theorem dX4_takeClose_11 : decode cX4_takeClose 11 = .ok (.invokevirtual 104, 3) := by decide +kernel
theorem dX4_takeClose_14 : decode cX4_takeClose 14 = .ok (.ifCond .ne 5, 3) := by decide +kernel
theorem dX4_takeClose_17 : decode cX4_takeClose 17 = .ok (.iconst 0, 1) := by decide +kernel
theorem dX4_takeClose_18 : decode cX4_takeClose 18 = .ok (.ireturn, 1) := by decide +kernel
theorem dX4_takeClose_19 : decode cX4_takeClose 19 = .ok (.aload_n 0, 1) := by decide +kernel
theorem dX4_takeClose_20 : decode cX4_takeClose 20 = .ok (.dup, 1) := by decide +kernel
theorem dX4_takeClose_21 : decode cX4_takeClose 21 = .ok (.getfield 34, 3) := by decide +kernel
theorem dX4_takeClose_24 : decode cX4_takeClose 24 = .ok (.iconst 1, 1) := by decide +kernel
theorem dX4_takeClose_25 : decode cX4_takeClose 25 = .ok (.isub, 1) := by decide +kernel
theorem dX4_takeClose_26 : decode cX4_takeClose 26 = .ok (.putfield 34, 3) := by decide +kernel
theorem dX4_takeClose_29 : decode cX4_takeClose 29 = .ok (.aload_n 0, 1) := by decide +kernel
theorem dX4_takeClose_30 : decode cX4_takeClose 30 = .ok (.getfield 24, 3) := by decide +kernel
theorem dX4_takeClose_33 : decode cX4_takeClose 33 = .ok (.aload_n 0, 1) := by decide +kernel
theorem dX4_takeClose_34 : decode cX4_takeClose 34 = .ok (.getfield 34, 3) := by decide +kernel
theorem dX4_takeClose_37 : decode cX4_takeClose 37 = .ok (.iaload, 1) := by decide +kernel
theorem dX4_takeClose_38 : decode cX4_takeClose 38 = .ok (.istore_n 1, 1) := by decide +kernel
theorem dX4_takeClose_39 : decode cX4_takeClose 39 = .ok (.aload_n 0, 1) := by decide +kernel
theorem dX4_takeClose_40 : decode cX4_takeClose 40 = .ok (.getfield 18, 3) := by decide +kernel
theorem dX4_takeClose_43 : decode cX4_takeClose 43 = .ok (.iload_n 1, 1) := by decide +kernel
theorem dX4_takeClose_44 : decode cX4_takeClose 44 = .ok (.aload_n 0, 1) := by decide +kernel
theorem dX4_takeClose_45 : decode cX4_takeClose 45 = .ok (.getfield 31, 3) := by decide +kernel
theorem dX4_takeClose_48 : decode cX4_takeClose 48 = .ok (.iconst 1, 1) := by decide +kernel
theorem dX4_takeClose_49 : decode cX4_takeClose 49 = .ok (.isub, 1) := by decide +kernel
theorem dX4_takeClose_50 : decode cX4_takeClose 50 = .ok (.iastore, 1) := by decide +kernel
theorem dX4_takeClose_51 : decode cX4_takeClose 51 = .ok (.aload_n 0, 1) := by decide +kernel
theorem dX4_takeClose_52 : decode cX4_takeClose 52 = .ok (.getfield 18, 3) := by decide +kernel
theorem dX4_takeClose_55 : decode cX4_takeClose 55 = .ok (.aload_n 0, 1) := by decide +kernel
theorem dX4_takeClose_56 : decode cX4_takeClose 56 = .ok (.getfield 31, 3) := by decide +kernel
theorem dX4_takeClose_59 : decode cX4_takeClose 59 = .ok (.iconst 1, 1) := by decide +kernel
theorem dX4_takeClose_60 : decode cX4_takeClose 60 = .ok (.isub, 1) := by decide +kernel
theorem dX4_takeClose_61 : decode cX4_takeClose 61 = .ok (.iload_n 1, 1) := by decide +kernel
theorem dX4_takeClose_62 : decode cX4_takeClose 62 = .ok (.iastore, 1) := by decide +kernel
theorem dX4_takeClose_63 : decode cX4_takeClose 63 = .ok (.aload_n 0, 1) := by decide +kernel
theorem dX4_takeClose_64 : decode cX4_takeClose 64 = .ok (.iconst 0, 1) := by decide +kernel
theorem dX4_takeClose_65 : decode cX4_takeClose 65 = .ok (.invokevirtual 52, 3) := by decide +kernel
theorem dX4_takeClose_68 : decode cX4_takeClose 68 = .ok (.ireturn, 1) := by decide +kernel
theorem dX4_addOperation_0 : decode cX4_addOperation 0 = .ok (.aload_n 0, 1) := by decide +kernel
theorem dX4_addOperation_1 : decode cX4_addOperation 1 = .ok (.iconst 0, 1) := by decide +kernel
theorem dX4_addOperation_2 : decode cX4_addOperation 2 = .ok (.iload_n 1, 1) := by decide +kernel
theorem dX4_addOperation_3 : decode cX4_addOperation 3 = .ok (.aload_n 0, 1) := by decide +kernel
theorem dX4_addOperation_4 : decode cX4_addOperation 4 = .ok (.getfield 86, 3) := by decide +kernel
theorem dX4_addOperation_7 : decode cX4_addOperation 7 = .ok (.aload_n 0, 1) := by decide +kernel
theorem dX4_addOperation_8 : decode cX4_addOperation 8 = .ok (.getfield 92, 3) := by decide +kernel
theorem dX4_addOperation_11 : decode cX4_addOperation 11 = .ok (.iload_n 2, 1) := by decide +kernel
theorem dX4_addOperation_12 : decode cX4_addOperation 12 = .ok (.invokestatic 107, 3) := by decide +kernel
theorem dX4_addOperation_15 : decode cX4_addOperation 15 = .ok (.invokevirtual 104, 3) := by decide +kernel
theorem dX4_addOperation_18 : decode cX4_addOperation 18 = .ok (.ireturn, 1) := by decide +kernel
theorem dX4_addStep_0 : decode cX4_addStep 0 = .ok (.aload_n 0, 1) := by decide +kernel
theorem dX4_addStep_1 : decode cX4_addStep 1 = .ok (.getfield 31, 3) := by decide +kernel
theorem dX4_addStep_4 : decode cX4_addStep 4 = .ok (.bipush 80, 2) := by decide +kernel
theorem dX4_addStep_6 : decode cX4_addStep 6 = .ok (.if_icmp .lt 5, 3) := by decide +kernel
theorem dX4_addStep_9 : decode cX4_addStep 9 = .ok (.iconst 0, 1) := by decide +kernel
theorem dX4_addStep_10 : decode cX4_addStep 10 = .ok (.ireturn, 1) := by decide +kernel
theorem dX4_addStep_11 : decode cX4_addStep 11 = .ok (.aload_n 0, 1) := by decide +kernel
theorem dX4_addStep_12 : decode cX4_addStep 12 = .ok (.getfield 11, 3) := by decide +kernel
theorem dX4_addStep_15 : decode cX4_addStep 15 = .ok (.aload_n 0, 1) := by decide +kernel
theorem dX4_addStep_16 : decode cX4_addStep 16 = .ok (.getfield 31, 3) := by decide +kernel
theorem dX4_addStep_19 : decode cX4_addStep 19 = .ok (.iload_n 1, 1) := by decide +kernel
theorem dX4_addStep_20 : decode cX4_addStep 20 = .ok (.iastore, 1) := by decide +kernel
theorem dX4_addStep_21 : decode cX4_addStep 21 = .ok (.aload_n 0, 1) := by decide +kernel
theorem dX4_addStep_22 : decode cX4_addStep 22 = .ok (.getfield 15, 3) := by decide +kernel
theorem dX4_addStep_25 : decode cX4_addStep 25 = .ok (.aload_n 0, 1) := by decide +kernel
theorem dX4_addStep_26 : decode cX4_addStep 26 = .ok (.getfield 31, 3) := by decide +kernel
theorem dX4_addStep_29 : decode cX4_addStep 29 = .ok (.iload_n 2, 1) := by decide +kernel
theorem dX4_addStep_30 : decode cX4_addStep 30 = .ok (.iastore, 1) := by decide +kernel
theorem dX4_addStep_31 : decode cX4_addStep 31 = .ok (.aload_n 0, 1) := by decide +kernel
theorem dX4_addStep_32 : decode cX4_addStep 32 = .ok (.dup, 1) := by decide +kernel
theorem dX4_addStep_33 : decode cX4_addStep 33 = .ok (.getfield 31, 3) := by decide +kernel
theorem dX4_addStep_36 : decode cX4_addStep 36 = .ok (.iconst 1, 1) := by decide +kernel
theorem dX4_addStep_37 : decode cX4_addStep 37 = .ok (.iadd, 1) := by decide +kernel
theorem dX4_addStep_38 : decode cX4_addStep 38 = .ok (.putfield 31, 3) := by decide +kernel
theorem dX4_addStep_41 : decode cX4_addStep 41 = .ok (.iconst 1, 1) := by decide +kernel
theorem dX4_addStep_42 : decode cX4_addStep 42 = .ok (.ireturn, 1) := by decide +kernel
theorem dX4_isDigit_0 : decode cX4_isDigit 0 = .ok (.iload_n 0, 1) := by decide +kernel
theorem dX4_isDigit_1 : decode cX4_isDigit 1 = .ok (.bipush 48, 2) := by decide +kernel
theorem dX4_isDigit_3 : decode cX4_isDigit 3 = .ok (.if_icmp .lt 13, 3) := by decide +kernel
theorem dX4_isDigit_6 : decode cX4_isDigit 6 = .ok (.iload_n 0, 1) := by decide +kernel
theorem dX4_isDigit_7 : decode cX4_isDigit 7 = .ok (.bipush 57, 2) := by decide +kernel
theorem dX4_isDigit_9 : decode cX4_isDigit 9 = .ok (.if_icmp .gt 7, 3) := by decide +kernel
theorem dX4_isDigit_12 : decode cX4_isDigit 12 = .ok (.iconst 1, 1) := by decide +kernel
theorem dX4_isDigit_13 : decode cX4_isDigit 13 = .ok (.goto 4, 3) := by decide +kernel
theorem dX4_isDigit_16 : decode cX4_isDigit 16 = .ok (.iconst 0, 1) := by decide +kernel
theorem dX4_isDigit_17 : decode cX4_isDigit 17 = .ok (.ireturn, 1) := by decide +kernel
theorem dX4_isRegisterDigit_0 : decode cX4_isRegisterDigit 0 = .ok (.iload_n 0, 1) := by decide +kernel
theorem dX4_isRegisterDigit_1 : decode cX4_isRegisterDigit 1 = .ok (.bipush 48, 2) := by decide +kernel
theorem dX4_isRegisterDigit_3 : decode cX4_isRegisterDigit 3 = .ok (.if_icmp .lt 13, 3) := by decide +kernel
theorem dX4_isRegisterDigit_6 : decode cX4_isRegisterDigit 6 = .ok (.iload_n 0, 1) := by decide +kernel
theorem dX4_isRegisterDigit_7 : decode cX4_isRegisterDigit 7 = .ok (.bipush 56, 2) := by decide +kernel
theorem dX4_isRegisterDigit_9 : decode cX4_isRegisterDigit 9 = .ok (.if_icmp .ge 7, 3) := by decide +kernel
theorem dX4_isRegisterDigit_12 : decode cX4_isRegisterDigit 12 = .ok (.iconst 1, 1) := by decide +kernel
theorem dX4_isRegisterDigit_13 : decode cX4_isRegisterDigit 13 = .ok (.goto 4, 3) := by decide +kernel
theorem dX4_isRegisterDigit_16 : decode cX4_isRegisterDigit 16 = .ok (.iconst 0, 1) := by decide +kernel
theorem dX4_isRegisterDigit_17 : decode cX4_isRegisterDigit 17 = .ok (.ireturn, 1) := by decide +kernel
theorem dX5_init_0 : decode cX5_init 0 = .ok (.aload_n 0, 1) := by decide +kernel
theorem dX5_init_1 : decode cX5_init 1 = .ok (.invokespecial 3, 3) := by decide +kernel
theorem dX5_init_4 : decode cX5_init 4 = .ok (.aload_n 0, 1) := by decide +kernel
theorem dX5_init_5 : decode cX5_init 5 = .ok (.iconst 3, 1) := by decide +kernel
theorem dX5_init_6 : decode cX5_init 6 = .ok (.newarray .int, 2) := by decide +kernel
theorem dX5_init_8 : decode cX5_init 8 = .ok (.putfield 11, 3) := by decide +kernel
theorem dX5_init_11 : decode cX5_init 11 = .ok (.aload_n 0, 1) := by decide +kernel
theorem dX5_init_12 : decode cX5_init 12 = .ok (.iconst 3, 1) := by decide +kernel
theorem dX5_init_13 : decode cX5_init 13 = .ok (.newarray .int, 2) := by decide +kernel
theorem dX5_init_15 : decode cX5_init 15 = .ok (.putfield 17, 3) := by decide +kernel
theorem dX5_init_18 : decode cX5_init 18 = .ok (.return_, 1) := by decide +kernel
theorem dX5_carryOut_0 : decode cX5_carryOut 0 = .ok (.aload_n 0, 1) := by decide +kernel
theorem dX5_carryOut_1 : decode cX5_carryOut 1 = .ok (.invokevirtual 20, 3) := by decide +kernel
theorem dX5_carryOut_4 : decode cX5_carryOut 4 = .ok (.aload_n 0, 1) := by decide +kernel
theorem dX5_carryOut_5 : decode cX5_carryOut 5 = .ok (.aload_n 1, 1) := by decide +kernel
theorem dX5_carryOut_6 : decode cX5_carryOut 6 = .ok (.invokevirtual 23, 3) := by decide +kernel
theorem dX5_carryOut_9 : decode cX5_carryOut 9 = .ok (.istore 5, 2) := by decide +kernel
theorem dX5_carryOut_11 : decode cX5_carryOut 11 = .ok (.aload_n 0, 1) := by decide +kernel
theorem dX5_carryOut_12 : decode cX5_carryOut 12 = .ok (.getfield 27, 3) := by decide +kernel
theorem dX5_carryOut_15 : decode cX5_carryOut 15 = .ok (.bipush 100, 2) := by decide +kernel
theorem dX5_carryOut_17 : decode cX5_carryOut 17 = .ok (.if_icmp .ge 56, 3) := by decide +kernel
theorem dX5_carryOut_20 : decode cX5_carryOut 20 = .ok (.iload 5, 2) := by decide +kernel
theorem dX5_carryOut_22 : decode cX5_carryOut 22 = .ok (.iconst (-1), 1) := by decide +kernel
theorem dX5_carryOut_23 : decode cX5_carryOut 23 = .ok (.if_icmp .eq 50, 3) := by decide +kernel
theorem dX5_carryOut_26 : decode cX5_carryOut 26 = .ok (.aload_n 2, 1) := by decide +kernel
theorem dX5_carryOut_27 : decode cX5_carryOut 27 = .ok (.iload 5, 2) := by decide +kernel
theorem dX5_carryOut_29 : decode cX5_carryOut 29 = .ok (.invokevirtual 31, 3) := by decide +kernel
theorem dX5_carryOut_32 : decode cX5_carryOut 32 = .ok (.ifCond .eq 41, 3) := by decide +kernel
theorem dX5_carryOut_35 : decode cX5_carryOut 35 = .ok (.aload_n 2, 1) := by decide +kernel
theorem dX5_carryOut_36 : decode cX5_carryOut 36 = .ok (.iload 5, 2) := by decide +kernel
theorem dX5_carryOut_38 : decode cX5_carryOut 38 = .ok (.aload_n 3, 1) := by decide +kernel
theorem dX5_carryOut_39 : decode cX5_carryOut 39 = .ok (.invokevirtual 37, 3) := by decide +kernel
theorem dX5_carryOut_42 : decode cX5_carryOut 42 = .ok (.aload 4, 2) := by decide +kernel
theorem dX5_carryOut_44 : decode cX5_carryOut 44 = .ok (.ifnull 9, 3) := by decide +kernel
theorem dX5_carryOut_47 : decode cX5_carryOut 47 = .ok (.aload 4, 2) := by decide +kernel
theorem dX5_carryOut_49 : decode cX5_carryOut 49 = .ok (.aload_n 3, 1) := by decide +kernel
theorem dX5_carryOut_50 : decode cX5_carryOut 50 = .ok (.invokevirtual 41, 3) := by decide +kernel
theorem dX5_carryOut_53 : decode cX5_carryOut 53 = .ok (.aload_n 0, 1) := by decide +kernel
theorem dX5_carryOut_54 : decode cX5_carryOut 54 = .ok (.dup, 1) := by decide +kernel
theorem dX5_carryOut_55 : decode cX5_carryOut 55 = .ok (.getfield 27, 3) := by decide +kernel
theorem dX5_carryOut_58 : decode cX5_carryOut 58 = .ok (.iconst 1, 1) := by decide +kernel
theorem dX5_carryOut_59 : decode cX5_carryOut 59 = .ok (.iadd, 1) := by decide +kernel
theorem dX5_carryOut_60 : decode cX5_carryOut 60 = .ok (.putfield 27, 3) := by decide +kernel
theorem dX5_carryOut_63 : decode cX5_carryOut 63 = .ok (.aload_n 0, 1) := by decide +kernel
theorem dX5_carryOut_64 : decode cX5_carryOut 64 = .ok (.aload_n 1, 1) := by decide +kernel
theorem dX5_carryOut_65 : decode cX5_carryOut 65 = .ok (.invokevirtual 23, 3) := by decide +kernel
theorem dX5_carryOut_68 : decode cX5_carryOut 68 = .ok (.istore 5, 2) := by decide +kernel
theorem dX5_carryOut_70 : decode cX5_carryOut 70 = .ok (.goto (-59), 3) := by decide +kernel
theorem dX5_carryOut_73 : decode cX5_carryOut 73 = .ok (.iload 5, 2) := by decide +kernel
theorem dX5_carryOut_75 : decode cX5_carryOut 75 = .ok (.iconst (-1), 1) := by decide +kernel
theorem dX5_carryOut_76 : decode cX5_carryOut 76 = .ok (.if_icmp .eq 21, 3) := by decide +kernel
theorem dX5_carryOut_79 : decode cX5_carryOut 79 = .ok (.aload_n 0, 1) := by decide +kernel
theorem dX5_carryOut_80 : decode cX5_carryOut 80 = .ok (.aload_n 0, 1) := by decide +kernel
theorem dX5_carryOut_81 : decode cX5_carryOut 81 = .ok (.getfield 27, 3) := by decide +kernel
theorem dX5_carryOut_84 : decode cX5_carryOut 84 = .ok (.bipush 100, 2) := by decide +kernel
theorem dX5_carryOut_86 : decode cX5_carryOut 86 = .ok (.if_icmp .ge 7, 3) := by decide +kernel
theorem dX5_carryOut_89 : decode cX5_carryOut 89 = .ok (.iconst 2, 1) := by decide +kernel
theorem dX5_carryOut_90 : decode cX5_carryOut 90 = .ok (.goto 4, 3) := by decide +kernel
theorem dX5_carryOut_93 : decode cX5_carryOut 93 = .ok (.iconst 1, 1) := by decide +kernel
theorem dX5_carryOut_94 : decode cX5_carryOut 94 = .ok (.putfield 47, 3) := by decide +kernel
theorem dX5_carryOut_97 : decode cX5_carryOut 97 = .ok (.return_, 1) := by decide +kernel
theorem dX5_start_0 : decode cX5_start 0 = .ok (.aload_n 0, 1) := by decide +kernel
theorem dX5_start_1 : decode cX5_start 1 = .ok (.iconst 0, 1) := by decide +kernel
theorem dX5_start_2 : decode cX5_start 2 = .ok (.putfield 27, 3) := by decide +kernel
theorem dX5_start_5 : decode cX5_start 5 = .ok (.aload_n 0, 1) := by decide +kernel
theorem dX5_start_6 : decode cX5_start 6 = .ok (.iconst 0, 1) := by decide +kernel
theorem dX5_start_7 : decode cX5_start 7 = .ok (.putfield 47, 3) := by decide +kernel
theorem dX5_start_10 : decode cX5_start 10 = .ok (.aload_n 0, 1) := by decide +kernel
theorem dX5_start_11 : decode cX5_start 11 = .ok (.iconst 0, 1) := by decide +kernel
theorem dX5_start_12 : decode cX5_start 12 = .ok (.putfield 50, 3) := by decide +kernel
theorem dX5_start_15 : decode cX5_start 15 = .ok (.aload_n 0, 1) := by decide +kernel
theorem dX5_start_16 : decode cX5_start 16 = .ok (.iconst 0, 1) := by decide +kernel
theorem dX5_start_17 : decode cX5_start 17 = .ok (.putfield 53, 3) := by decide +kernel
theorem dX5_start_20 : decode cX5_start 20 = .ok (.return_, 1) := by decide +kernel
theorem dX5_nextCode_0 : decode cX5_nextCode 0 = .ok (.iconst 0, 1) := by decide +kernel
theorem dX5_nextCode_1 : decode cX5_nextCode 1 = .ok (.istore_n 2, 1) := by decide +kernel
theorem dX5_nextCode_2 : decode cX5_nextCode 2 = .ok (.iload_n 2, 1) := by decide +kernel
theorem dX5_nextCode_3 : decode cX5_nextCode 3 = .ok (.ldc 56, 2) := by decide +kernel
theorem dX5_nextCode_5 : decode cX5_nextCode 5 = .ok (.if_icmp .ge 105, 3) := by decide +kernel
theorem dX5_nextCode_8 : decode cX5_nextCode 8 = .ok (.aload_n 0, 1) := by decide +kernel
theorem dX5_nextCode_9 : decode cX5_nextCode 9 = .ok (.getfield 53, 3) := by decide +kernel
theorem dX5_nextCode_12 : decode cX5_nextCode 12 = .ok (.aload_n 1, 1) := by decide +kernel
theorem dX5_nextCode_13 : decode cX5_nextCode 13 = .ok (.getfield 57, 3) := by decide +kernel
theorem dX5_nextCode_16 : decode cX5_nextCode 16 = .ok (.if_icmp .ge 94, 3) := by decide +kernel
theorem dX5_nextCode_19 : decode cX5_nextCode 19 = .ok (.aload_n 0, 1) := by decide +kernel
theorem dX5_nextCode_20 : decode cX5_nextCode 20 = .ok (.getfield 53, 3) := by decide +kernel
theorem dX5_nextCode_23 : decode cX5_nextCode 23 = .ok (.istore_n 3, 1) := by decide +kernel
theorem dX5_nextCode_24 : decode cX5_nextCode 24 = .ok (.aload_n 0, 1) := by decide +kernel
theorem dX5_nextCode_25 : decode cX5_nextCode 25 = .ok (.dup, 1) := by decide +kernel
theorem dX5_nextCode_26 : decode cX5_nextCode 26 = .ok (.getfield 53, 3) := by decide +kernel
theorem dX5_nextCode_29 : decode cX5_nextCode 29 = .ok (.iconst 1, 1) := by decide +kernel
theorem dX5_nextCode_30 : decode cX5_nextCode 30 = .ok (.iadd, 1) := by decide +kernel
theorem dX5_nextCode_31 : decode cX5_nextCode 31 = .ok (.putfield 53, 3) := by decide +kernel
theorem dX5_nextCode_34 : decode cX5_nextCode 34 = .ok (.aload_n 1, 1) := by decide +kernel
theorem dX5_nextCode_35 : decode cX5_nextCode 35 = .ok (.getfield 60, 3) := by decide +kernel
theorem dX5_nextCode_38 : decode cX5_nextCode 38 = .ok (.iload_n 3, 1) := by decide +kernel
theorem dX5_nextCode_39 : decode cX5_nextCode 39 = .ok (.iaload, 1) := by decide +kernel
theorem dX5_nextCode_40 : decode cX5_nextCode 40 = .ok (.lookupswitch 54 #[(0, 28), (1, 35)], 28) := by decide +kernel
theorem dX5_nextCode_68 : decode cX5_nextCode 68 = .ok (.aload_n 1, 1) := by decide +kernel
theorem dX5_nextCode_69 : decode cX5_nextCode 69 = .ok (.getfield 63, 3) := by decide +kernel
theorem dX5_nextCode_72 : decode cX5_nextCode 72 = .ok (.iload_n 3, 1) := by decide +kernel
theorem dX5_nextCode_73 : decode cX5_nextCode 73 = .ok (.iaload, 1) := by decide +kernel
theorem dX5_nextCode_74 : decode cX5_nextCode 74 = .ok (.ireturn, 1) := by decide +kernel
theorem dX5_nextCode_75 : decode cX5_nextCode 75 = .ok (.aload_n 0, 1) := by decide +kernel
theorem dX5_nextCode_76 : decode cX5_nextCode 76 = .ok (.aload_n 1, 1) := by decide +kernel
theorem dX5_nextCode_77 : decode cX5_nextCode 77 = .ok (.getfield 63, 3) := by decide +kernel
theorem dX5_nextCode_80 : decode cX5_nextCode 80 = .ok (.iload_n 3, 1) := by decide +kernel
theorem dX5_nextCode_81 : decode cX5_nextCode 81 = .ok (.iaload, 1) := by decide +kernel
theorem dX5_nextCode_82 : decode cX5_nextCode 82 = .ok (.aload_n 1, 1) := by decide +kernel
theorem dX5_nextCode_83 : decode cX5_nextCode 83 = .ok (.getfield 66, 3) := by decide +kernel
theorem dX5_nextCode_86 : decode cX5_nextCode 86 = .ok (.iload_n 3, 1) := by decide +kernel
theorem dX5_nextCode_87 : decode cX5_nextCode 87 = .ok (.iaload, 1) := by decide +kernel
theorem dX5_nextCode_88 : decode cX5_nextCode 88 = .ok (.invokevirtual 69, 3) := by decide +kernel
theorem dX5_nextCode_91 : decode cX5_nextCode 91 = .ok (.goto 13, 3) := by decide +kernel
theorem dX5_nextCode_94 : decode cX5_nextCode 94 = .ok (.aload_n 0, 1) := by decide +kernel
theorem dX5_nextCode_95 : decode cX5_nextCode 95 = .ok (.aload_n 1, 1) := by decide +kernel
theorem dX5_nextCode_96 : decode cX5_nextCode 96 = .ok (.getfield 66, 3) := by decide +kernel
theorem dX5_nextCode_99 : decode cX5_nextCode 99 = .ok (.iload_n 3, 1) := by decide +kernel
theorem dX5_nextCode_100 : decode cX5_nextCode 100 = .ok (.iaload, 1) := by decide +kernel
theorem dX5_nextCode_101 : decode cX5_nextCode 101 = .ok (.invokevirtual 73, 3) := by decide +kernel
theorem dX5_nextCode_104 : decode cX5_nextCode 104 = .ok (.iinc 2 1, 3) := by decide +kernel
theorem dX5_nextCode_107 : decode cX5_nextCode 107 = .ok (.goto (-105), 3) := by decide +kernel
theorem dX5_nextCode_110 : decode cX5_nextCode 110 = .ok (.iconst (-1), 1) := by decide +kernel
theorem dX5_nextCode_111 : decode cX5_nextCode 111 = .ok (.ireturn, 1) := by decide +kernel
theorem dX5_enterLoop_0 : decode cX5_enterLoop 0 = .ok (.iload_n 1, 1) := by decide +kernel
theorem dX5_enterLoop_1 : decode cX5_enterLoop 1 = .ok (.iconst 1, 1) := by decide +kernel
theorem dX5_enterLoop_2 : decode cX5_enterLoop 2 = .ok (.if_icmp .lt 11, 3) := by decide +kernel
theorem dX5_enterLoop_5 : decode cX5_enterLoop 5 = .ok (.aload_n 0, 1) := by decide +kernel
theorem dX5_enterLoop_6 : decode cX5_enterLoop 6 = .ok (.getfield 50, 3) := by decide +kernel
theorem dX5_enterLoop_9 : decode cX5_enterLoop 9 = .ok (.iconst 3, 1) := by decide +kernel
theorem dX5_enterLoop_10 : decode cX5_enterLoop 10 = .ok (.if_icmp .lt 11, 3) := by decide +kernel
theorem dX5_enterLoop_13 : decode cX5_enterLoop 13 = .ok (.aload_n 0, 1) := by decide +kernel
theorem dX5_enterLoop_14 : decode cX5_enterLoop 14 = .ok (.iload_n 2, 1) := by decide +kernel
theorem dX5_enterLoop_15 : decode cX5_enterLoop 15 = .ok (.iconst 1, 1) := by decide +kernel
theorem dX5_enterLoop_16 : decode cX5_enterLoop 16 = .ok (.iadd, 1) := by decide +kernel
theorem dX5_enterLoop_17 : decode cX5_enterLoop 17 = .ok (.putfield 53, 3) := by decide +kernel
theorem dX5_enterLoop_20 : decode cX5_enterLoop 20 = .ok (.return_, 1) := by decide +kernel
theorem dX5_enterLoop_21 : decode cX5_enterLoop 21 = .ok (.aload_n 0, 1) := by decide +kernel
theorem dX5_enterLoop_22 : decode cX5_enterLoop 22 = .ok (.getfield 11, 3) := by decide +kernel
theorem dX5_enterLoop_25 : decode cX5_enterLoop 25 = .ok (.aload_n 0, 1) := by decide +kernel
theorem dX5_enterLoop_26 : decode cX5_enterLoop 26 = .ok (.getfield 50, 3) := by decide +kernel
theorem dX5_enterLoop_29 : decode cX5_enterLoop 29 = .ok (.iload_n 1, 1) := by decide +kernel
theorem dX5_enterLoop_30 : decode cX5_enterLoop 30 = .ok (.iastore, 1) := by decide +kernel
theorem dX5_enterLoop_31 : decode cX5_enterLoop 31 = .ok (.aload_n 0, 1) := by decide +kernel
theorem dX5_enterLoop_32 : decode cX5_enterLoop 32 = .ok (.getfield 17, 3) := by decide +kernel
theorem dX5_enterLoop_35 : decode cX5_enterLoop 35 = .ok (.aload_n 0, 1) := by decide +kernel
theorem dX5_enterLoop_36 : decode cX5_enterLoop 36 = .ok (.getfield 50, 3) := by decide +kernel
theorem dX5_enterLoop_39 : decode cX5_enterLoop 39 = .ok (.aload_n 0, 1) := by decide +kernel
theorem dX5_enterLoop_40 : decode cX5_enterLoop 40 = .ok (.getfield 27, 3) := by decide +kernel
theorem dX5_enterLoop_43 : decode cX5_enterLoop 43 = .ok (.iastore, 1) := by decide +kernel
theorem dX5_enterLoop_44 : decode cX5_enterLoop 44 = .ok (.aload_n 0, 1) := by decide +kernel
theorem dX5_enterLoop_45 : decode cX5_enterLoop 45 = .ok (.dup, 1) := by decide +kernel
theorem dX5_enterLoop_46 : decode cX5_enterLoop 46 = .ok (.getfield 50, 3) := by decide +kernel
theorem dX5_enterLoop_49 : decode cX5_enterLoop 49 = .ok (.iconst 1, 1) := by decide +kernel
theorem dX5_enterLoop_50 : decode cX5_enterLoop 50 = .ok (.iadd, 1) := by decide +kernel
theorem dX5_enterLoop_51 : decode cX5_enterLoop 51 = .ok (.putfield 50, 3) := by decide +kernel
theorem dX5_enterLoop_54 : decode cX5_enterLoop 54 = .ok (.return_, 1) := by decide +kernel
theorem dX5_endRound_0 : decode cX5_endRound 0 = .ok (.aload_n 0, 1) := by decide +kernel
theorem dX5_endRound_1 : decode cX5_endRound 1 = .ok (.getfield 50, 3) := by decide +kernel
theorem dX5_endRound_4 : decode cX5_endRound 4 = .ok (.iconst 1, 1) := by decide +kernel
theorem dX5_endRound_5 : decode cX5_endRound 5 = .ok (.isub, 1) := by decide +kernel
theorem dX5_endRound_6 : decode cX5_endRound 6 = .ok (.istore_n 2, 1) := by decide +kernel
theorem dX5_endRound_7 : decode cX5_endRound 7 = .ok (.iload_n 2, 1) := by decide +kernel
theorem dX5_endRound_8 : decode cX5_endRound 8 = .ok (.ifCond .ge 4, 3) := by decide +kernel
theorem dX5_endRound_11 : decode cX5_endRound 11 = .ok (.return_, 1) := by decide +kernel
theorem dX5_endRound_12 : decode cX5_endRound 12 = .ok (.aload_n 0, 1) := by decide +kernel
theorem dX5_endRound_13 : decode cX5_endRound 13 = .ok (.getfield 11, 3) := by decide +kernel
theorem dX5_endRound_16 : decode cX5_endRound 16 = .ok (.iload_n 2, 1) := by decide +kernel
theorem dX5_endRound_17 : decode cX5_endRound 17 = .ok (.dup2, 1) := by decide +kernel
theorem dX5_endRound_18 : decode cX5_endRound 18 = .ok (.iaload, 1) := by decide +kernel
theorem dX5_endRound_19 : decode cX5_endRound 19 = .ok (.iconst 1, 1) := by decide +kernel
theorem dX5_endRound_20 : decode cX5_endRound 20 = .ok (.isub, 1) := by decide +kernel
theorem dX5_endRound_21 : decode cX5_endRound 21 = .ok (.iastore, 1) := by decide +kernel
theorem dX5_endRound_22 : decode cX5_endRound 22 = .ok (.aload_n 0, 1) := by decide +kernel
theorem dX5_endRound_23 : decode cX5_endRound 23 = .ok (.getfield 11, 3) := by decide +kernel
theorem dX5_endRound_26 : decode cX5_endRound 26 = .ok (.iload_n 2, 1) := by decide +kernel
theorem dX5_endRound_27 : decode cX5_endRound 27 = .ok (.iaload, 1) := by decide +kernel
theorem dX5_endRound_28 : decode cX5_endRound 28 = .ok (.ifCond .le 36, 3) := by decide +kernel
theorem dX5_endRound_31 : decode cX5_endRound 31 = .ok (.aload_n 0, 1) := by decide +kernel
theorem dX5_endRound_32 : decode cX5_endRound 32 = .ok (.getfield 27, 3) := by decide +kernel
theorem dX5_endRound_35 : decode cX5_endRound 35 = .ok (.aload_n 0, 1) := by decide +kernel
theorem dX5_endRound_36 : decode cX5_endRound 36 = .ok (.getfield 17, 3) := by decide +kernel
theorem dX5_endRound_39 : decode cX5_endRound 39 = .ok (.iload_n 2, 1) := by decide +kernel
theorem dX5_endRound_40 : decode cX5_endRound 40 = .ok (.iaload, 1) := by decide +kernel
theorem dX5_endRound_41 : decode cX5_endRound 41 = .ok (.if_icmp .le 23, 3) := by decide +kernel
theorem dX5_endRound_44 : decode cX5_endRound 44 = .ok (.aload_n 0, 1) := by decide +kernel
theorem dX5_endRound_45 : decode cX5_endRound 45 = .ok (.getfield 17, 3) := by decide +kernel
theorem dX5_endRound_48 : decode cX5_endRound 48 = .ok (.iload_n 2, 1) := by decide +kernel
theorem dX5_endRound_49 : decode cX5_endRound 49 = .ok (.aload_n 0, 1) := by decide +kernel
theorem dX5_endRound_50 : decode cX5_endRound 50 = .ok (.getfield 27, 3) := by decide +kernel
theorem dX5_endRound_53 : decode cX5_endRound 53 = .ok (.iastore, 1) := by decide +kernel
theorem dX5_endRound_54 : decode cX5_endRound 54 = .ok (.aload_n 0, 1) := by decide +kernel
theorem dX5_endRound_55 : decode cX5_endRound 55 = .ok (.iload_n 1, 1) := by decide +kernel
theorem dX5_endRound_56 : decode cX5_endRound 56 = .ok (.iconst 1, 1) := by decide +kernel
theorem dX5_endRound_57 : decode cX5_endRound 57 = .ok (.iadd, 1) := by decide +kernel
theorem dX5_endRound_58 : decode cX5_endRound 58 = .ok (.putfield 53, 3) := by decide +kernel
theorem dX5_endRound_61 : decode cX5_endRound 61 = .ok (.goto 13, 3) := by decide +kernel
theorem dX5_endRound_64 : decode cX5_endRound 64 = .ok (.aload_n 0, 1) := by decide +kernel
theorem dX5_endRound_65 : decode cX5_endRound 65 = .ok (.dup, 1) := by decide +kernel
theorem dX5_endRound_66 : decode cX5_endRound 66 = .ok (.getfield 50, 3) := by decide +kernel
theorem dX5_endRound_69 : decode cX5_endRound 69 = .ok (.iconst 1, 1) := by decide +kernel
theorem dX5_endRound_70 : decode cX5_endRound 70 = .ok (.isub, 1) := by decide +kernel
theorem dX5_endRound_71 : decode cX5_endRound 71 = .ok (.putfield 50, 3) := by decide +kernel
theorem dX5_endRound_74 : decode cX5_endRound 74 = .ok (.return_, 1) := by decide +kernel
theorem dX6_init_0 : decode cX6_init 0 = .ok (.aload_n 0, 1) := by decide +kernel
theorem dX6_init_1 : decode cX6_init 1 = .ok (.invokespecial 3, 3) := by decide +kernel
theorem dX6_init_4 : decode cX6_init 4 = .ok (.aload_n 0, 1) := by decide +kernel
theorem dX6_init_5 : decode cX6_init 5 = .ok (.iconst 4, 1) := by decide +kernel
theorem dX6_init_6 : decode cX6_init 6 = .ok (.anewarray 9, 3) := by decide +kernel
theorem dX6_init_9 : decode cX6_init 9 = .ok (.putfield 11, 3) := by decide +kernel
theorem dX6_init_12 : decode cX6_init 12 = .ok (.aload_n 0, 1) := by decide +kernel
theorem dX6_init_13 : decode cX6_init 13 = .ok (.bipush 8, 2) := by decide +kernel
theorem dX6_init_15 : decode cX6_init 15 = .ok (.newarray .int, 2) := by decide +kernel
theorem dX6_init_17 : decode cX6_init 17 = .ok (.putfield 17, 3) := by decide +kernel
theorem dX6_init_20 : decode cX6_init 20 = .ok (.aload_n 0, 1) := by decide +kernel
theorem dX6_init_21 : decode cX6_init 21 = .ok (.bipush 8, 2) := by decide +kernel
theorem dX6_init_23 : decode cX6_init 23 = .ok (.newarray .int, 2) := by decide +kernel
theorem dX6_init_25 : decode cX6_init 25 = .ok (.putfield 21, 3) := by decide +kernel
theorem dX6_init_28 : decode cX6_init 28 = .ok (.aload_n 0, 1) := by decide +kernel
theorem dX6_init_29 : decode cX6_init 29 = .ok (.iconst 4, 1) := by decide +kernel
theorem dX6_init_30 : decode cX6_init 30 = .ok (.putfield 24, 3) := by decide +kernel
theorem dX6_init_33 : decode cX6_init 33 = .ok (.aload_n 0, 1) := by decide +kernel
theorem dX6_init_34 : decode cX6_init 34 = .ok (.bipush 8, 2) := by decide +kernel
theorem dX6_init_36 : decode cX6_init 36 = .ok (.putfield 28, 3) := by decide +kernel
theorem dX6_init_39 : decode cX6_init 39 = .ok (.aload_n 0, 1) := by decide +kernel
theorem dX6_init_40 : decode cX6_init 40 = .ok (.iconst 1, 1) := by decide +kernel
theorem dX6_init_41 : decode cX6_init 41 = .ok (.putfield 31, 3) := by decide +kernel
theorem dX6_init_44 : decode cX6_init 44 = .ok (.iconst 0, 1) := by decide +kernel
theorem dX6_init_45 : decode cX6_init 45 = .ok (.istore_n 1, 1) := by decide +kernel
theorem dX6_init_46 : decode cX6_init 46 = .ok (.iload_n 1, 1) := by decide +kernel
theorem dX6_init_47 : decode cX6_init 47 = .ok (.iconst 4, 1) := by decide +kernel
theorem dX6_init_48 : decode cX6_init 48 = .ok (.if_icmp .ge 22, 3) := by decide +kernel
theorem dX6_init_51 : decode cX6_init 51 = .ok (.aload_n 0, 1) := by decide +kernel
theorem dX6_init_52 : decode cX6_init 52 = .ok (.getfield 11, 3) := by decide +kernel
theorem dX6_init_55 : decode cX6_init 55 = .ok (.iload_n 1, 1) := by decide +kernel
theorem dX6_init_56 : decode cX6_init 56 = .ok (.new 9, 3) := by decide +kernel
theorem dX6_init_59 : decode cX6_init 59 = .ok (.dup, 1) := by decide +kernel
theorem dX6_init_60 : decode cX6_init 60 = .ok (.invokespecial 34, 3) := by decide +kernel
theorem dX6_init_63 : decode cX6_init 63 = .ok (.aastore, 1) := by decide +kernel
theorem dX6_init_64 : decode cX6_init 64 = .ok (.iinc 1 1, 3) := by decide +kernel
theorem dX6_init_67 : decode cX6_init 67 = .ok (.goto (-21), 3) := by decide +kernel
theorem dX6_init_70 : decode cX6_init 70 = .ok (.return_, 1) := by decide +kernel
theorem dX6_copyFrom_0 : decode cX6_copyFrom 0 = .ok (.iconst 0, 1) := by decide +kernel
theorem dX6_copyFrom_1 : decode cX6_copyFrom 1 = .ok (.istore_n 2, 1) := by decide +kernel
theorem dX6_copyFrom_2 : decode cX6_copyFrom 2 = .ok (.iload_n 2, 1) := by decide +kernel
theorem dX6_copyFrom_3 : decode cX6_copyFrom 3 = .ok (.iconst 4, 1) := by decide +kernel
theorem dX6_copyFrom_4 : decode cX6_copyFrom 4 = .ok (.if_icmp .ge 37, 3) := by decide +kernel
theorem dX6_copyFrom_7 : decode cX6_copyFrom 7 = .ok (.aload_n 1, 1) := by decide +kernel
theorem dX6_copyFrom_8 : decode cX6_copyFrom 8 = .ok (.getfield 11, 3) := by decide +kernel
theorem dX6_copyFrom_11 : decode cX6_copyFrom 11 = .ok (.iload_n 2, 1) := by decide +kernel
theorem dX6_copyFrom_12 : decode cX6_copyFrom 12 = .ok (.aaload, 1) := by decide +kernel
theorem dX6_copyFrom_13 : decode cX6_copyFrom 13 = .ok (.astore_n 3, 1) := by decide +kernel
theorem dX6_copyFrom_14 : decode cX6_copyFrom 14 = .ok (.aload_n 0, 1) := by decide +kernel
theorem dX6_copyFrom_15 : decode cX6_copyFrom 15 = .ok (.getfield 11, 3) := by decide +kernel
theorem dX6_copyFrom_18 : decode cX6_copyFrom 18 = .ok (.iload_n 2, 1) := by decide +kernel
theorem dX6_copyFrom_19 : decode cX6_copyFrom 19 = .ok (.aaload, 1) := by decide +kernel
theorem dX6_copyFrom_20 : decode cX6_copyFrom 20 = .ok (.aload_n 3, 1) := by decide +kernel
theorem dX6_copyFrom_21 : decode cX6_copyFrom 21 = .ok (.getfield 35, 3) := by decide +kernel
theorem dX6_copyFrom_24 : decode cX6_copyFrom 24 = .ok (.aload_n 3, 1) := by decide +kernel
theorem dX6_copyFrom_25 : decode cX6_copyFrom 25 = .ok (.getfield 38, 3) := by decide +kernel
theorem dX6_copyFrom_28 : decode cX6_copyFrom 28 = .ok (.aload_n 3, 1) := by decide +kernel
theorem dX6_copyFrom_29 : decode cX6_copyFrom 29 = .ok (.getfield 41, 3) := by decide +kernel
theorem dX6_copyFrom_32 : decode cX6_copyFrom 32 = .ok (.invokevirtual 44, 3) := by decide +kernel
theorem dX6_copyFrom_35 : decode cX6_copyFrom 35 = .ok (.iinc 2 1, 3) := by decide +kernel
theorem dX6_copyFrom_38 : decode cX6_copyFrom 38 = .ok (.goto (-36), 3) := by decide +kernel
theorem dX6_copyFrom_41 : decode cX6_copyFrom 41 = .ok (.aload_n 1, 1) := by decide +kernel
theorem dX6_copyFrom_42 : decode cX6_copyFrom 42 = .ok (.getfield 17, 3) := by decide +kernel
theorem dX6_copyFrom_45 : decode cX6_copyFrom 45 = .ok (.iconst 0, 1) := by decide +kernel
theorem dX6_copyFrom_46 : decode cX6_copyFrom 46 = .ok (.aload_n 0, 1) := by decide +kernel
theorem dX6_copyFrom_47 : decode cX6_copyFrom 47 = .ok (.getfield 17, 3) := by decide +kernel
theorem dX6_copyFrom_50 : decode cX6_copyFrom 50 = .ok (.iconst 0, 1) := by decide +kernel
theorem dX6_copyFrom_51 : decode cX6_copyFrom 51 = .ok (.bipush 8, 2) := by decide +kernel
theorem dX6_copyFrom_53 : decode cX6_copyFrom 53 = .ok (.invokestatic 48, 3) := by decide +kernel
theorem dX6_copyFrom_56 : decode cX6_copyFrom 56 = .ok (.aload_n 1, 1) := by decide +kernel
theorem dX6_copyFrom_57 : decode cX6_copyFrom 57 = .ok (.getfield 21, 3) := by decide +kernel
theorem dX6_copyFrom_60 : decode cX6_copyFrom 60 = .ok (.iconst 0, 1) := by decide +kernel
theorem dX6_copyFrom_61 : decode cX6_copyFrom 61 = .ok (.aload_n 0, 1) := by decide +kernel
theorem dX6_copyFrom_62 : decode cX6_copyFrom 62 = .ok (.getfield 21, 3) := by decide +kernel
theorem dX6_copyFrom_65 : decode cX6_copyFrom 65 = .ok (.iconst 0, 1) := by decide +kernel
theorem dX6_copyFrom_66 : decode cX6_copyFrom 66 = .ok (.bipush 8, 2) := by decide +kernel
theorem dX6_copyFrom_68 : decode cX6_copyFrom 68 = .ok (.invokestatic 48, 3) := by decide +kernel
theorem dX6_copyFrom_71 : decode cX6_copyFrom 71 = .ok (.aload_n 0, 1) := by decide +kernel
theorem dX6_copyFrom_72 : decode cX6_copyFrom 72 = .ok (.aload_n 1, 1) := by decide +kernel
theorem dX6_copyFrom_73 : decode cX6_copyFrom 73 = .ok (.getfield 24, 3) := by decide +kernel
theorem dX6_copyFrom_76 : decode cX6_copyFrom 76 = .ok (.putfield 24, 3) := by decide +kernel
theorem dX6_copyFrom_79 : decode cX6_copyFrom 79 = .ok (.aload_n 0, 1) := by decide +kernel
theorem dX6_copyFrom_80 : decode cX6_copyFrom 80 = .ok (.aload_n 1, 1) := by decide +kernel
theorem dX6_copyFrom_81 : decode cX6_copyFrom 81 = .ok (.getfield 28, 3) := by decide +kernel
theorem dX6_copyFrom_84 : decode cX6_copyFrom 84 = .ok (.putfield 28, 3) := by decide +kernel
theorem dX6_copyFrom_87 : decode cX6_copyFrom 87 = .ok (.aload_n 0, 1) := by decide +kernel
theorem dX6_copyFrom_88 : decode cX6_copyFrom 88 = .ok (.aload_n 1, 1) := by decide +kernel
theorem dX6_copyFrom_89 : decode cX6_copyFrom 89 = .ok (.getfield 31, 3) := by decide +kernel
theorem dX6_copyFrom_92 : decode cX6_copyFrom 92 = .ok (.putfield 31, 3) := by decide +kernel
theorem dX6_copyFrom_95 : decode cX6_copyFrom 95 = .ok (.aload_n 0, 1) := by decide +kernel
theorem dX6_copyFrom_96 : decode cX6_copyFrom 96 = .ok (.aload_n 1, 1) := by decide +kernel
theorem dX6_copyFrom_97 : decode cX6_copyFrom 97 = .ok (.getfield 54, 3) := by decide +kernel
theorem dX6_copyFrom_100 : decode cX6_copyFrom 100 = .ok (.putfield 54, 3) := by decide +kernel
theorem dX6_copyFrom_103 : decode cX6_copyFrom 103 = .ok (.return_, 1) := by decide +kernel
theorem dX6_formatAt_0 : decode cX6_formatAt 0 = .ok (.aload_n 0, 1) := by decide +kernel
theorem dX6_formatAt_1 : decode cX6_formatAt 1 = .ok (.getfield 11, 3) := by decide +kernel
theorem dX6_formatAt_4 : decode cX6_formatAt 4 = .ok (.aload_n 0, 1) := by decide +kernel
theorem dX6_formatAt_5 : decode cX6_formatAt 5 = .ok (.getfield 17, 3) := by decide +kernel
theorem dX6_formatAt_8 : decode cX6_formatAt 8 = .ok (.iload_n 1, 1) := by decide +kernel
theorem dX6_formatAt_9 : decode cX6_formatAt 9 = .ok (.iaload, 1) := by decide +kernel
theorem dX6_formatAt_10 : decode cX6_formatAt 10 = .ok (.iconst 3, 1) := by decide +kernel
theorem dX6_formatAt_11 : decode cX6_formatAt 11 = .ok (.iand, 1) := by decide +kernel
theorem dX6_formatAt_12 : decode cX6_formatAt 12 = .ok (.aaload, 1) := by decide +kernel
theorem dX6_formatAt_13 : decode cX6_formatAt 13 = .ok (.areturn, 1) := by decide +kernel
theorem dX6_emptyRegistersOf_0 : decode cX6_emptyRegistersOf 0 = .ok (.iconst 0, 1) := by decide +kernel
theorem dX6_emptyRegistersOf_1 : decode cX6_emptyRegistersOf 1 = .ok (.istore_n 2, 1) := by decide +kernel
theorem dX6_emptyRegistersOf_2 : decode cX6_emptyRegistersOf 2 = .ok (.iload_n 2, 1) := by decide +kernel
theorem dX6_emptyRegistersOf_3 : decode cX6_emptyRegistersOf 3 = .ok (.bipush 8, 2) := by decide +kernel
theorem dX6_emptyRegistersOf_5 : decode cX6_emptyRegistersOf 5 = .ok (.if_icmp .ge 26, 3) := by decide +kernel
theorem dX6_emptyRegistersOf_8 : decode cX6_emptyRegistersOf 8 = .ok (.aload_n 0, 1) := by decide +kernel
theorem dX6_emptyRegistersOf_9 : decode cX6_emptyRegistersOf 9 = .ok (.getfield 17, 3) := by decide +kernel
theorem dX6_emptyRegistersOf_12 : decode cX6_emptyRegistersOf 12 = .ok (.iload_n 2, 1) := by decide +kernel
theorem dX6_emptyRegistersOf_13 : decode cX6_emptyRegistersOf 13 = .ok (.iaload, 1) := by decide +kernel
theorem dX6_emptyRegistersOf_14 : decode cX6_emptyRegistersOf 14 = .ok (.iload_n 1, 1) := by decide +kernel
theorem dX6_emptyRegistersOf_15 : decode cX6_emptyRegistersOf 15 = .ok (.if_icmp .ne 10, 3) := by decide +kernel
theorem dX6_emptyRegistersOf_18 : decode cX6_emptyRegistersOf 18 = .ok (.aload_n 0, 1) := by decide +kernel
theorem dX6_emptyRegistersOf_19 : decode cX6_emptyRegistersOf 19 = .ok (.getfield 21, 3) := by decide +kernel
theorem dX6_emptyRegistersOf_22 : decode cX6_emptyRegistersOf 22 = .ok (.iload_n 2, 1) := by decide +kernel
theorem dX6_emptyRegistersOf_23 : decode cX6_emptyRegistersOf 23 = .ok (.iconst 0, 1) := by decide +kernel
theorem dX6_emptyRegistersOf_24 : decode cX6_emptyRegistersOf 24 = .ok (.iastore, 1) := by decide +kernel
theorem dX6_emptyRegistersOf_25 : decode cX6_emptyRegistersOf 25 = .ok (.iinc 2 1, 3) := by decide +kernel
theorem dX6_emptyRegistersOf_28 : decode cX6_emptyRegistersOf 28 = .ok (.goto (-26), 3) := by decide +kernel
theorem dX6_emptyRegistersOf_31 : decode cX6_emptyRegistersOf 31 = .ok (.return_, 1) := by decide +kernel
theorem dX6_canCarryOut_0 : decode cX6_canCarryOut 0 = .ok (.iload_n 1, 1) := by decide +kernel
theorem dX6_canCarryOut_1 : decode cX6_canCarryOut 1 = .ok (.invokestatic 57, 3) := by decide +kernel
theorem dX6_canCarryOut_4 : decode cX6_canCarryOut 4 = .ok (.iconst 5, 1) := by decide +kernel
theorem dX6_canCarryOut_5 : decode cX6_canCarryOut 5 = .ok (.if_icmp .ne 15, 3) := by decide +kernel
theorem dX6_canCarryOut_8 : decode cX6_canCarryOut 8 = .ok (.aload_n 0, 1) := by decide +kernel
theorem dX6_canCarryOut_9 : decode cX6_canCarryOut 9 = .ok (.getfield 21, 3) := by decide +kernel
theorem dX6_canCarryOut_12 : decode cX6_canCarryOut 12 = .ok (.iload_n 1, 1) := by decide +kernel
theorem dX6_canCarryOut_13 : decode cX6_canCarryOut 13 = .ok (.invokestatic 63, 3) := by decide +kernel
theorem dX6_canCarryOut_16 : decode cX6_canCarryOut 16 = .ok (.iaload, 1) := by decide +kernel
theorem dX6_canCarryOut_17 : decode cX6_canCarryOut 17 = .ok (.ifCond .eq 7, 3) := by decide +kernel
theorem dX6_canCarryOut_20 : decode cX6_canCarryOut 20 = .ok (.iconst 1, 1) := by decide +kernel
theorem dX6_canCarryOut_21 : decode cX6_canCarryOut 21 = .ok (.goto 4, 3) := by decide +kernel
theorem dX6_canCarryOut_24 : decode cX6_canCarryOut 24 = .ok (.iconst 0, 1) := by decide +kernel
theorem dX6_canCarryOut_25 : decode cX6_canCarryOut 25 = .ok (.ireturn, 1) := by decide +kernel
theorem dX6_carryOut_0 : decode cX6_carryOut 0 = .ok (.iload_n 1, 1) := by decide +kernel
theorem dX6_carryOut_1 : decode cX6_carryOut 1 = .ok (.invokestatic 66, 3) := by decide +kernel
theorem dX6_carryOut_4 : decode cX6_carryOut 4 = .ok (.istore_n 3, 1) := by decide +kernel
theorem dX6_carryOut_5 : decode cX6_carryOut 5 = .ok (.aload_n 0, 1) := by decide +kernel
theorem dX6_carryOut_6 : decode cX6_carryOut 6 = .ok (.getfield 21, 3) := by decide +kernel
theorem dX6_carryOut_9 : decode cX6_carryOut 9 = .ok (.iload_n 3, 1) := by decide +kernel
theorem dX6_carryOut_10 : decode cX6_carryOut 10 = .ok (.iaload, 1) := by decide +kernel
theorem dX6_carryOut_11 : decode cX6_carryOut 11 = .ok (.istore 4, 2) := by decide +kernel
theorem dX6_carryOut_13 : decode cX6_carryOut 13 = .ok (.aload_n 2, 1) := by decide +kernel
theorem dX6_carryOut_14 : decode cX6_carryOut 14 = .ok (.aload_n 0, 1) := by decide +kernel
theorem dX6_carryOut_15 : decode cX6_carryOut 15 = .ok (.getfield 54, 3) := by decide +kernel
theorem dX6_carryOut_18 : decode cX6_carryOut 18 = .ok (.putfield 69, 3) := by decide +kernel
theorem dX6_carryOut_21 : decode cX6_carryOut 21 = .ok (.aload_n 2, 1) := by decide +kernel
theorem dX6_carryOut_22 : decode cX6_carryOut 22 = .ok (.iload_n 1, 1) := by decide +kernel
theorem dX6_carryOut_23 : decode cX6_carryOut 23 = .ok (.putfield 72, 3) := by decide +kernel
theorem dX6_carryOut_26 : decode cX6_carryOut 26 = .ok (.aload_n 2, 1) := by decide +kernel
theorem dX6_carryOut_27 : decode cX6_carryOut 27 = .ok (.aload_n 0, 1) := by decide +kernel
theorem dX6_carryOut_28 : decode cX6_carryOut 28 = .ok (.getfield 24, 3) := by decide +kernel
theorem dX6_carryOut_31 : decode cX6_carryOut 31 = .ok (.putfield 75, 3) := by decide +kernel
theorem dX6_carryOut_34 : decode cX6_carryOut 34 = .ok (.aload_n 2, 1) := by decide +kernel
theorem dX6_carryOut_35 : decode cX6_carryOut 35 = .ok (.aload_n 0, 1) := by decide +kernel
theorem dX6_carryOut_36 : decode cX6_carryOut 36 = .ok (.getfield 28, 3) := by decide +kernel
theorem dX6_carryOut_39 : decode cX6_carryOut 39 = .ok (.putfield 76, 3) := by decide +kernel
theorem dX6_carryOut_42 : decode cX6_carryOut 42 = .ok (.aload_n 2, 1) := by decide +kernel
theorem dX6_carryOut_43 : decode cX6_carryOut 43 = .ok (.aload_n 0, 1) := by decide +kernel
theorem dX6_carryOut_44 : decode cX6_carryOut 44 = .ok (.getfield 24, 3) := by decide +kernel
theorem dX6_carryOut_47 : decode cX6_carryOut 47 = .ok (.iconst 4, 1) := by decide +kernel
theorem dX6_carryOut_48 : decode cX6_carryOut 48 = .ok (.if_icmp .ne 21, 3) := by decide +kernel
theorem dX6_carryOut_51 : decode cX6_carryOut 51 = .ok (.aload_n 0, 1) := by decide +kernel
theorem dX6_carryOut_52 : decode cX6_carryOut 52 = .ok (.getfield 54, 3) := by decide +kernel
theorem dX6_carryOut_55 : decode cX6_carryOut 55 = .ok (.aload_n 0, 1) := by decide +kernel
theorem dX6_carryOut_56 : decode cX6_carryOut 56 = .ok (.getfield 31, 3) := by decide +kernel
theorem dX6_carryOut_59 : decode cX6_carryOut 59 = .ok (.aload_n 0, 1) := by decide +kernel
theorem dX6_carryOut_60 : decode cX6_carryOut 60 = .ok (.getfield 28, 3) := by decide +kernel
theorem dX6_carryOut_63 : decode cX6_carryOut 63 = .ok (.invokestatic 77, 3) := by decide +kernel
theorem dX6_carryOut_66 : decode cX6_carryOut 66 = .ok (.goto 4, 3) := by decide +kernel
theorem dX6_carryOut_69 : decode cX6_carryOut 69 = .ok (.iconst 0, 1) := by decide +kernel
theorem dX6_carryOut_70 : decode cX6_carryOut 70 = .ok (.putfield 81, 3) := by decide +kernel
theorem dX6_carryOut_73 : decode cX6_carryOut 73 = .ok (.aload_n 0, 1) := by decide +kernel
theorem dX6_carryOut_74 : decode cX6_carryOut 74 = .ok (.iload_n 1, 1) := by decide +kernel
theorem dX6_carryOut_75 : decode cX6_carryOut 75 = .ok (.aload_n 2, 1) := by decide +kernel
theorem dX6_carryOut_76 : decode cX6_carryOut 76 = .ok (.invokevirtual 84, 3) := by decide +kernel
theorem dX6_carryOut_79 : decode cX6_carryOut 79 = .ok (.aload_n 2, 1) := by decide +kernel
theorem dX6_carryOut_80 : decode cX6_carryOut 80 = .ok (.aload_n 0, 1) := by decide +kernel
theorem dX6_carryOut_81 : decode cX6_carryOut 81 = .ok (.iload_n 3, 1) := by decide +kernel
theorem dX6_carryOut_82 : decode cX6_carryOut 82 = .ok (.invokevirtual 88, 3) := by decide +kernel
theorem dX6_carryOut_85 : decode cX6_carryOut 85 = .ok (.invokevirtual 92, 3) := by decide +kernel
theorem dX6_carryOut_88 : decode cX6_carryOut 88 = .ok (.istore 5, 2) := by decide +kernel
theorem dX6_carryOut_90 : decode cX6_carryOut 90 = .ok (.aload_n 2, 1) := by decide +kernel
theorem dX6_carryOut_91 : decode cX6_carryOut 91 = .ok (.aload_n 2, 1) := by decide +kernel
theorem dX6_carryOut_92 : decode cX6_carryOut 92 = .ok (.aload_n 0, 1) := by decide +kernel
theorem dX6_carryOut_93 : decode cX6_carryOut 93 = .ok (.getfield 24, 3) := by decide +kernel
theorem dX6_carryOut_96 : decode cX6_carryOut 96 = .ok (.aload_n 2, 1) := by decide +kernel
theorem dX6_carryOut_97 : decode cX6_carryOut 97 = .ok (.getfield 81, 3) := by decide +kernel
theorem dX6_carryOut_100 : decode cX6_carryOut 100 = .ok (.invokevirtual 96, 3) := by decide +kernel
theorem dX6_carryOut_103 : decode cX6_carryOut 103 = .ok (.putfield 100, 3) := by decide +kernel
theorem dX6_carryOut_106 : decode cX6_carryOut 106 = .ok (.aload_n 2, 1) := by decide +kernel
theorem dX6_carryOut_107 : decode cX6_carryOut 107 = .ok (.getfield 100, 3) := by decide +kernel
theorem dX6_carryOut_110 : decode cX6_carryOut 110 = .ok (.iload 4, 2) := by decide +kernel
theorem dX6_carryOut_112 : decode cX6_carryOut 112 = .ok (.if_icmp .ne 22, 3) := by decide +kernel
theorem dX6_carryOut_115 : decode cX6_carryOut 115 = .ok (.aload_n 2, 1) := by decide +kernel
theorem dX6_carryOut_116 : decode cX6_carryOut 116 = .ok (.getfield 103, 3) := by decide +kernel
theorem dX6_carryOut_119 : decode cX6_carryOut 119 = .ok (.aload_n 2, 1) := by decide +kernel
theorem dX6_carryOut_120 : decode cX6_carryOut 120 = .ok (.iload 4, 2) := by decide +kernel
theorem dX6_carryOut_122 : decode cX6_carryOut 122 = .ok (.i2l, 1) := by decide +kernel
theorem dX6_carryOut_123 : decode cX6_carryOut 123 = .ok (.invokevirtual 107, 3) := by decide +kernel
theorem dX6_carryOut_126 : decode cX6_carryOut 126 = .ok (.lcmp, 1) := by decide +kernel
theorem dX6_carryOut_127 : decode cX6_carryOut 127 = .ok (.ifCond .eq 7, 3) := by decide +kernel
theorem dX6_carryOut_130 : decode cX6_carryOut 130 = .ok (.iconst 1, 1) := by decide +kernel
theorem dX6_carryOut_131 : decode cX6_carryOut 131 = .ok (.goto 4, 3) := by decide +kernel
theorem dX6_carryOut_134 : decode cX6_carryOut 134 = .ok (.iconst 0, 1) := by decide +kernel
theorem dX6_carryOut_135 : decode cX6_carryOut 135 = .ok (.istore 6, 2) := by decide +kernel
theorem dX6_carryOut_137 : decode cX6_carryOut 137 = .ok (.aload_n 2, 1) := by decide +kernel
theorem dX6_carryOut_138 : decode cX6_carryOut 138 = .ok (.iload 5, 2) := by decide +kernel
theorem dX6_carryOut_140 : decode cX6_carryOut 140 = .ok (.ifCond .eq 7, 3) := by decide +kernel
theorem dX6_carryOut_143 : decode cX6_carryOut 143 = .ok (.iconst 1, 1) := by decide +kernel
theorem dX6_carryOut_144 : decode cX6_carryOut 144 = .ok (.goto 4, 3) := by decide +kernel
theorem dX6_carryOut_147 : decode cX6_carryOut 147 = .ok (.iconst 0, 1) := by decide +kernel
theorem dX6_carryOut_148 : decode cX6_carryOut 148 = .ok (.iload 6, 2) := by decide +kernel
theorem dX6_carryOut_150 : decode cX6_carryOut 150 = .ok (.ifCond .eq 7, 3) := by decide +kernel
theorem dX6_carryOut_153 : decode cX6_carryOut 153 = .ok (.iconst 2, 1) := by decide +kernel
theorem dX6_carryOut_154 : decode cX6_carryOut 154 = .ok (.goto 4, 3) := by decide +kernel
theorem dX6_carryOut_157 : decode cX6_carryOut 157 = .ok (.iconst 0, 1) := by decide +kernel
theorem dX6_carryOut_158 : decode cX6_carryOut 158 = .ok (.iadd, 1) := by decide +kernel
theorem dX6_carryOut_159 : decode cX6_carryOut 159 = .ok (.putfield 111, 3) := by decide +kernel
theorem dX6_carryOut_162 : decode cX6_carryOut 162 = .ok (.aload_n 0, 1) := by decide +kernel
theorem dX6_carryOut_163 : decode cX6_carryOut 163 = .ok (.getfield 21, 3) := by decide +kernel
theorem dX6_carryOut_166 : decode cX6_carryOut 166 = .ok (.iload_n 3, 1) := by decide +kernel
theorem dX6_carryOut_167 : decode cX6_carryOut 167 = .ok (.aload_n 2, 1) := by decide +kernel
theorem dX6_carryOut_168 : decode cX6_carryOut 168 = .ok (.getfield 100, 3) := by decide +kernel
theorem dX6_carryOut_171 : decode cX6_carryOut 171 = .ok (.iastore, 1) := by decide +kernel
theorem dX6_carryOut_172 : decode cX6_carryOut 172 = .ok (.aload_n 0, 1) := by decide +kernel
theorem dX6_carryOut_173 : decode cX6_carryOut 173 = .ok (.dup, 1) := by decide +kernel
theorem dX6_carryOut_174 : decode cX6_carryOut 174 = .ok (.getfield 54, 3) := by decide +kernel
theorem dX6_carryOut_177 : decode cX6_carryOut 177 = .ok (.iconst 1, 1) := by decide +kernel
theorem dX6_carryOut_178 : decode cX6_carryOut 178 = .ok (.iadd, 1) := by decide +kernel
theorem dX6_carryOut_179 : decode cX6_carryOut 179 = .ok (.putfield 54, 3) := by decide +kernel
theorem dX6_carryOut_182 : decode cX6_carryOut 182 = .ok (.return_, 1) := by decide +kernel
theorem dX6_computeFraction_0 : decode cX6_computeFraction 0 = .ok (.aload_n 0, 1) := by decide +kernel
theorem dX6_computeFraction_1 : decode cX6_computeFraction 1 = .ok (.getfield 21, 3) := by decide +kernel
theorem dX6_computeFraction_4 : decode cX6_computeFraction 4 = .ok (.iload_n 1, 1) := by decide +kernel
theorem dX6_computeFraction_5 : decode cX6_computeFraction 5 = .ok (.invokestatic 114, 3) := by decide +kernel
theorem dX6_computeFraction_8 : decode cX6_computeFraction 8 = .ok (.iaload, 1) := by decide +kernel
theorem dX6_computeFraction_9 : decode cX6_computeFraction 9 = .ok (.i2l, 1) := by decide +kernel
theorem dX6_computeFraction_10 : decode cX6_computeFraction 10 = .ok (.lstore_n 3, 1) := by decide +kernel
theorem dX6_computeFraction_11 : decode cX6_computeFraction 11 = .ok (.aload_n 0, 1) := by decide +kernel
theorem dX6_computeFraction_12 : decode cX6_computeFraction 12 = .ok (.getfield 21, 3) := by decide +kernel
theorem dX6_computeFraction_15 : decode cX6_computeFraction 15 = .ok (.iload_n 1, 1) := by decide +kernel
theorem dX6_computeFraction_16 : decode cX6_computeFraction 16 = .ok (.invokestatic 63, 3) := by decide +kernel
theorem dX6_computeFraction_19 : decode cX6_computeFraction 19 = .ok (.iaload, 1) := by decide +kernel
theorem dX6_computeFraction_20 : decode cX6_computeFraction 20 = .ok (.i2l, 1) := by decide +kernel
theorem dX6_computeFraction_21 : decode cX6_computeFraction 21 = .ok (.lstore 5, 2) := by decide +kernel
theorem dX6_computeFraction_23 : decode cX6_computeFraction 23 = .ok (.aload_n 0, 1) := by decide +kernel
theorem dX6_computeFraction_24 : decode cX6_computeFraction 24 = .ok (.getfield 21, 3) := by decide +kernel
theorem dX6_computeFraction_27 : decode cX6_computeFraction 27 = .ok (.iload_n 1, 1) := by decide +kernel
theorem dX6_computeFraction_28 : decode cX6_computeFraction 28 = .ok (.invokestatic 66, 3) := by decide +kernel
theorem dX6_computeFraction_31 : decode cX6_computeFraction 31 = .ok (.iaload, 1) := by decide +kernel
theorem dX6_computeFraction_32 : decode cX6_computeFraction 32 = .ok (.i2l, 1) := by decide +kernel
theorem dX6_computeFraction_33 : decode cX6_computeFraction 33 = .ok (.lstore 7, 2) := by decide +kernel
theorem dX6_computeFraction_35 : decode cX6_computeFraction 35 = .ok (.iload_n 1, 1) := by decide +kernel
theorem dX6_computeFraction_36 : decode cX6_computeFraction 36 = .ok (.invokestatic 57, 3) := by decide +kernel
theorem dX6_computeFraction_39 : decode cX6_computeFraction 39 = .ok (.tableswitch 105 0 4 #[33, 45, 60, 75, 87], 33) := by decide +kernel
theorem dX6_computeFraction_72 : decode cX6_computeFraction 72 = .ok (.aload_n 2, 1) := by decide +kernel
theorem dX6_computeFraction_73 : decode cX6_computeFraction 73 = .ok (.lload_n 3, 1) := by decide +kernel
theorem dX6_computeFraction_74 : decode cX6_computeFraction 74 = .ok (.bipush 10, 2) := by decide +kernel
theorem dX6_computeFraction_76 : decode cX6_computeFraction 76 = .ok (.lshl, 1) := by decide +kernel
theorem dX6_computeFraction_77 : decode cX6_computeFraction 77 = .ok (.lconst 1, 1) := by decide +kernel
theorem dX6_computeFraction_78 : decode cX6_computeFraction 78 = .ok (.invokevirtual 117, 3) := by decide +kernel
theorem dX6_computeFraction_81 : decode cX6_computeFraction 81 = .ok (.goto 88, 3) := by decide +kernel
theorem dX6_computeFraction_84 : decode cX6_computeFraction 84 = .ok (.aload_n 2, 1) := by decide +kernel
theorem dX6_computeFraction_85 : decode cX6_computeFraction 85 = .ok (.lload_n 3, 1) := by decide +kernel
theorem dX6_computeFraction_86 : decode cX6_computeFraction 86 = .ok (.lload 5, 2) := by decide +kernel
theorem dX6_computeFraction_88 : decode cX6_computeFraction 88 = .ok (.ladd, 1) := by decide +kernel
theorem dX6_computeFraction_89 : decode cX6_computeFraction 89 = .ok (.bipush 10, 2) := by decide +kernel
theorem dX6_computeFraction_91 : decode cX6_computeFraction 91 = .ok (.lshl, 1) := by decide +kernel
theorem dX6_computeFraction_92 : decode cX6_computeFraction 92 = .ok (.lconst 1, 1) := by decide +kernel
theorem dX6_computeFraction_93 : decode cX6_computeFraction 93 = .ok (.invokevirtual 117, 3) := by decide +kernel
theorem dX6_computeFraction_96 : decode cX6_computeFraction 96 = .ok (.goto 73, 3) := by decide +kernel
theorem dX6_computeFraction_99 : decode cX6_computeFraction 99 = .ok (.aload_n 2, 1) := by decide +kernel
theorem dX6_computeFraction_100 : decode cX6_computeFraction 100 = .ok (.lload_n 3, 1) := by decide +kernel
theorem dX6_computeFraction_101 : decode cX6_computeFraction 101 = .ok (.lload 5, 2) := by decide +kernel
theorem dX6_computeFraction_103 : decode cX6_computeFraction 103 = .ok (.lsub, 1) := by decide +kernel
theorem dX6_computeFraction_104 : decode cX6_computeFraction 104 = .ok (.bipush 10, 2) := by decide +kernel
theorem dX6_computeFraction_106 : decode cX6_computeFraction 106 = .ok (.lshl, 1) := by decide +kernel
theorem dX6_computeFraction_107 : decode cX6_computeFraction 107 = .ok (.lconst 1, 1) := by decide +kernel
theorem dX6_computeFraction_108 : decode cX6_computeFraction 108 = .ok (.invokevirtual 117, 3) := by decide +kernel
theorem dX6_computeFraction_111 : decode cX6_computeFraction 111 = .ok (.goto 58, 3) := by decide +kernel
theorem dX6_computeFraction_114 : decode cX6_computeFraction 114 = .ok (.aload_n 2, 1) := by decide +kernel
theorem dX6_computeFraction_115 : decode cX6_computeFraction 115 = .ok (.lload_n 3, 1) := by decide +kernel
theorem dX6_computeFraction_116 : decode cX6_computeFraction 116 = .ok (.lload 5, 2) := by decide +kernel
theorem dX6_computeFraction_118 : decode cX6_computeFraction 118 = .ok (.lmul, 1) := by decide +kernel
theorem dX6_computeFraction_119 : decode cX6_computeFraction 119 = .ok (.lconst 1, 1) := by decide +kernel
theorem dX6_computeFraction_120 : decode cX6_computeFraction 120 = .ok (.invokevirtual 117, 3) := by decide +kernel
theorem dX6_computeFraction_123 : decode cX6_computeFraction 123 = .ok (.goto 46, 3) := by decide +kernel
theorem dX6_computeFraction_126 : decode cX6_computeFraction 126 = .ok (.aload_n 2, 1) := by decide +kernel
theorem dX6_computeFraction_127 : decode cX6_computeFraction 127 = .ok (.lload_n 3, 1) := by decide +kernel
theorem dX6_computeFraction_128 : decode cX6_computeFraction 128 = .ok (.lload 5, 2) := by decide +kernel
theorem dX6_computeFraction_130 : decode cX6_computeFraction 130 = .ok (.lmul, 1) := by decide +kernel
theorem dX6_computeFraction_131 : decode cX6_computeFraction 131 = .ok (.lload 7, 2) := by decide +kernel
theorem dX6_computeFraction_133 : decode cX6_computeFraction 133 = .ok (.bipush 10, 2) := by decide +kernel
theorem dX6_computeFraction_135 : decode cX6_computeFraction 135 = .ok (.lshl, 1) := by decide +kernel
theorem dX6_computeFraction_136 : decode cX6_computeFraction 136 = .ok (.ladd, 1) := by decide +kernel
theorem dX6_computeFraction_137 : decode cX6_computeFraction 137 = .ok (.lconst 1, 1) := by decide +kernel
theorem dX6_computeFraction_138 : decode cX6_computeFraction 138 = .ok (.invokevirtual 117, 3) := by decide +kernel
theorem dX6_computeFraction_141 : decode cX6_computeFraction 141 = .ok (.goto 28, 3) := by decide +kernel
theorem dX6_computeFraction_144 : decode cX6_computeFraction 144 = .ok (.aload_n 2, 1) := by decide +kernel
theorem dX6_computeFraction_145 : decode cX6_computeFraction 145 = .ok (.lload 5, 2) := by decide +kernel
theorem dX6_computeFraction_147 : decode cX6_computeFraction 147 = .ok (.lconst 0, 1) := by decide +kernel
theorem dX6_computeFraction_148 : decode cX6_computeFraction 148 = .ok (.lcmp, 1) := by decide +kernel
theorem dX6_computeFraction_149 : decode cX6_computeFraction 149 = .ok (.ifCond .ge 8, 3) := by decide +kernel
theorem dX6_computeFraction_152 : decode cX6_computeFraction 152 = .ok (.lload_n 3, 1) := by decide +kernel
theorem dX6_computeFraction_153 : decode cX6_computeFraction 153 = .ok (.lneg, 1) := by decide +kernel
theorem dX6_computeFraction_154 : decode cX6_computeFraction 154 = .ok (.goto 4, 3) := by decide +kernel
theorem dX6_computeFraction_157 : decode cX6_computeFraction 157 = .ok (.lload_n 3, 1) := by decide +kernel
theorem dX6_computeFraction_158 : decode cX6_computeFraction 158 = .ok (.bipush 20, 2) := by decide +kernel
theorem dX6_computeFraction_160 : decode cX6_computeFraction 160 = .ok (.lshl, 1) := by decide +kernel
theorem dX6_computeFraction_161 : decode cX6_computeFraction 161 = .ok (.lload 5, 2) := by decide +kernel
theorem dX6_computeFraction_163 : decode cX6_computeFraction 163 = .ok (.invokestatic 121, 3) := by decide +kernel
theorem dX6_computeFraction_166 : decode cX6_computeFraction 166 = .ok (.invokevirtual 117, 3) := by decide +kernel
theorem dX6_computeFraction_169 : decode cX6_computeFraction 169 = .ok (.return_, 1) := by decide +kernel
