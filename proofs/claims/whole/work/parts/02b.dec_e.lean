theorem dX8_readsStep_65 : decode cX8_readsStep 65 = .ok (.aload_n 0, 1) := by decide +kernel
theorem dX8_readsStep_66 : decode cX8_readsStep 66 = .ok (.dup, 1) := by decide +kernel
theorem dX8_readsStep_67 : decode cX8_readsStep 67 = .ok (.getfield 220, 3) := by decide +kernel
theorem dX8_readsStep_70 : decode cX8_readsStep 70 = .ok (.iconst 1, 1) := by decide +kernel
theorem dX8_readsStep_71 : decode cX8_readsStep 71 = .ok (.isub, 1) := by decide +kernel
theorem dX8_readsStep_72 : decode cX8_readsStep 72 = .ok (.putfield 220, 3) := by decide +kernel
theorem dX8_readsStep_75 : decode cX8_readsStep 75 = .ok (.aload_n 0, 1) := by decide +kernel
theorem dX8_readsStep_76 : decode cX8_readsStep 76 = .ok (.getfield 20, 3) := by decide +kernel
theorem dX8_readsStep_79 : decode cX8_readsStep 79 = .ok (.iload_n 1, 1) := by decide +kernel
theorem dX8_readsStep_80 : decode cX8_readsStep 80 = .ok (.iconst 2, 1) := by decide +kernel
theorem dX8_readsStep_81 : decode cX8_readsStep 81 = .ok (.iastore, 1) := by decide +kernel
theorem dX8_readsStep_82 : decode cX8_readsStep 82 = .ok (.aload_n 0, 1) := by decide +kernel
theorem dX8_readsStep_83 : decode cX8_readsStep 83 = .ok (.getfield 29, 3) := by decide +kernel
theorem dX8_readsStep_86 : decode cX8_readsStep 86 = .ok (.iload_n 1, 1) := by decide +kernel
theorem dX8_readsStep_87 : decode cX8_readsStep 87 = .ok (.aload_n 0, 1) := by decide +kernel
theorem dX8_readsStep_88 : decode cX8_readsStep 88 = .ok (.getfield 35, 3) := by decide +kernel
theorem dX8_readsStep_91 : decode cX8_readsStep 91 = .ok (.aload_n 0, 1) := by decide +kernel
theorem dX8_readsStep_92 : decode cX8_readsStep 92 = .ok (.getfield 220, 3) := by decide +kernel
theorem dX8_readsStep_95 : decode cX8_readsStep 95 = .ok (.iaload, 1) := by decide +kernel
theorem dX8_readsStep_96 : decode cX8_readsStep 96 = .ok (.iastore, 1) := by decide +kernel
theorem dX8_readsStep_97 : decode cX8_readsStep 97 = .ok (.aload_n 0, 1) := by decide +kernel
theorem dX8_readsStep_98 : decode cX8_readsStep 98 = .ok (.getfield 29, 3) := by decide +kernel
theorem dX8_readsStep_101 : decode cX8_readsStep 101 = .ok (.aload_n 0, 1) := by decide +kernel
theorem dX8_readsStep_102 : decode cX8_readsStep 102 = .ok (.getfield 35, 3) := by decide +kernel
theorem dX8_readsStep_105 : decode cX8_readsStep 105 = .ok (.aload_n 0, 1) := by decide +kernel
theorem dX8_readsStep_106 : decode cX8_readsStep 106 = .ok (.getfield 220, 3) := by decide +kernel
theorem dX8_readsStep_109 : decode cX8_readsStep 109 = .ok (.iaload, 1) := by decide +kernel
theorem dX8_readsStep_110 : decode cX8_readsStep 110 = .ok (.iload_n 1, 1) := by decide +kernel
theorem dX8_readsStep_111 : decode cX8_readsStep 111 = .ok (.iastore, 1) := by decide +kernel
theorem dX8_readsStep_112 : decode cX8_readsStep 112 = .ok (.goto 40, 3) := by decide +kernel
theorem dX8_readsStep_115 : decode cX8_readsStep 115 = .ok (.aload_n 0, 1) := by decide +kernel
theorem dX8_readsStep_116 : decode cX8_readsStep 116 = .ok (.getfield 26, 3) := by decide +kernel
theorem dX8_readsStep_119 : decode cX8_readsStep 119 = .ok (.iload_n 1, 1) := by decide +kernel
theorem dX8_readsStep_120 : decode cX8_readsStep 120 = .ok (.aload_n 0, 1) := by decide +kernel
theorem dX8_readsStep_121 : decode cX8_readsStep 121 = .ok (.bipush 48, 2) := by decide +kernel
theorem dX8_readsStep_123 : decode cX8_readsStep 123 = .ok (.bipush 55, 2) := by decide +kernel
theorem dX8_readsStep_125 : decode cX8_readsStep 125 = .ok (.invokevirtual 217, 3) := by decide +kernel
theorem dX8_readsStep_128 : decode cX8_readsStep 128 = .ok (.iastore, 1) := by decide +kernel
theorem dX8_readsStep_129 : decode cX8_readsStep 129 = .ok (.aload_n 0, 1) := by decide +kernel
theorem dX8_readsStep_130 : decode cX8_readsStep 130 = .ok (.bipush 61, 2) := by decide +kernel
theorem dX8_readsStep_132 : decode cX8_readsStep 132 = .ok (.bipush 61, 2) := by decide +kernel
theorem dX8_readsStep_134 : decode cX8_readsStep 134 = .ok (.invokevirtual 217, 3) := by decide +kernel
theorem dX8_readsStep_137 : decode cX8_readsStep 137 = .ok (.pop, 1) := by decide +kernel
theorem dX8_readsStep_138 : decode cX8_readsStep 138 = .ok (.aload_n 0, 1) := by decide +kernel
theorem dX8_readsStep_139 : decode cX8_readsStep 139 = .ok (.iload_n 1, 1) := by decide +kernel
theorem dX8_readsStep_140 : decode cX8_readsStep 140 = .ok (.invokevirtual 230, 3) := by decide +kernel
theorem dX8_readsStep_143 : decode cX8_readsStep 143 = .ok (.aload_n 0, 1) := by decide +kernel
theorem dX8_readsStep_144 : decode cX8_readsStep 144 = .ok (.bipush 59, 2) := by decide +kernel
theorem dX8_readsStep_146 : decode cX8_readsStep 146 = .ok (.bipush 59, 2) := by decide +kernel
theorem dX8_readsStep_148 : decode cX8_readsStep 148 = .ok (.invokevirtual 217, 3) := by decide +kernel
theorem dX8_readsStep_151 : decode cX8_readsStep 151 = .ok (.pop, 1) := by decide +kernel
theorem dX8_readsStep_152 : decode cX8_readsStep 152 = .ok (.return_, 1) := by decide +kernel
theorem dX8_reads_0 : decode cX8_reads 0 = .ok (.aload_n 0, 1) := by decide +kernel
theorem dX8_reads_1 : decode cX8_reads 1 = .ok (.iconst 0, 1) := by decide +kernel
theorem dX8_reads_2 : decode cX8_reads 2 = .ok (.putfield 197, 3) := by decide +kernel
theorem dX8_reads_5 : decode cX8_reads 5 = .ok (.aload_n 0, 1) := by decide +kernel
theorem dX8_reads_6 : decode cX8_reads 6 = .ok (.ldc 200, 2) := by decide +kernel
theorem dX8_reads_8 : decode cX8_reads 8 = .ok (.putfield 205, 3) := by decide +kernel
theorem dX8_reads_11 : decode cX8_reads 11 = .ok (.aload_n 0, 1) := by decide +kernel
theorem dX8_reads_12 : decode cX8_reads 12 = .ok (.iconst 0, 1) := by decide +kernel
theorem dX8_reads_13 : decode cX8_reads 13 = .ok (.putfield 223, 3) := by decide +kernel
theorem dX8_reads_16 : decode cX8_reads 16 = .ok (.aload_n 0, 1) := by decide +kernel
theorem dX8_reads_17 : decode cX8_reads 17 = .ok (.iconst 0, 1) := by decide +kernel
theorem dX8_reads_18 : decode cX8_reads 18 = .ok (.putfield 220, 3) := by decide +kernel
theorem dX8_reads_21 : decode cX8_reads 21 = .ok (.aload_n 0, 1) := by decide +kernel
theorem dX8_reads_22 : decode cX8_reads 22 = .ok (.invokevirtual 208, 3) := by decide +kernel
theorem dX8_reads_25 : decode cX8_reads 25 = .ok (.aload_n 0, 1) := by decide +kernel
theorem dX8_reads_26 : decode cX8_reads 26 = .ok (.getfield 197, 3) := by decide +kernel
theorem dX8_reads_29 : decode cX8_reads 29 = .ok (.aload_n 0, 1) := by decide +kernel
theorem dX8_reads_30 : decode cX8_reads 30 = .ok (.getfield 193, 3) := by decide +kernel
theorem dX8_reads_33 : decode cX8_reads 33 = .ok (.if_icmp .ge 23, 3) := by decide +kernel
theorem dX8_reads_36 : decode cX8_reads 36 = .ok (.aload_n 0, 1) := by decide +kernel
theorem dX8_reads_37 : decode cX8_reads 37 = .ok (.getfield 205, 3) := by decide +kernel
theorem dX8_reads_40 : decode cX8_reads 40 = .ok (.ldc 200, 2) := by decide +kernel
theorem dX8_reads_42 : decode cX8_reads 42 = .ok (.if_icmp .ne 14, 3) := by decide +kernel
theorem dX8_reads_45 : decode cX8_reads 45 = .ok (.aload_n 0, 1) := by decide +kernel
theorem dX8_reads_46 : decode cX8_reads 46 = .ok (.invokevirtual 233, 3) := by decide +kernel
theorem dX8_reads_49 : decode cX8_reads 49 = .ok (.aload_n 0, 1) := by decide +kernel
theorem dX8_reads_50 : decode cX8_reads 50 = .ok (.invokevirtual 208, 3) := by decide +kernel
theorem dX8_reads_53 : decode cX8_reads 53 = .ok (.goto (-28), 3) := by decide +kernel
theorem dX8_reads_56 : decode cX8_reads 56 = .ok (.aload_n 0, 1) := by decide +kernel
theorem dX8_reads_57 : decode cX8_reads 57 = .ok (.getfield 220, 3) := by decide +kernel
theorem dX8_reads_60 : decode cX8_reads 60 = .ok (.ifCond .le 7, 3) := by decide +kernel
theorem dX8_reads_63 : decode cX8_reads 63 = .ok (.aload_n 0, 1) := by decide +kernel
theorem dX8_reads_64 : decode cX8_reads 64 = .ok (.invokevirtual 211, 3) := by decide +kernel
theorem dX8_reads_67 : decode cX8_reads 67 = .ok (.aload_n 0, 1) := by decide +kernel
theorem dX8_reads_68 : decode cX8_reads 68 = .ok (.getfield 205, 3) := by decide +kernel
theorem dX8_reads_71 : decode cX8_reads 71 = .ok (.ireturn, 1) := by decide +kernel
theorem dX8_fault_0 : decode cX8_fault 0 = .ok (.aload_n 0, 1) := by decide +kernel
theorem dX8_fault_1 : decode cX8_fault 1 = .ok (.invokevirtual 236, 3) := by decide +kernel
theorem dX8_fault_4 : decode cX8_fault 4 = .ok (.ireturn, 1) := by decide +kernel
theorem dX8_hasWork_0 : decode cX8_hasWork 0 = .ok (.iconst 0, 1) := by decide +kernel
theorem dX8_hasWork_1 : decode cX8_hasWork 1 = .ok (.istore_n 2, 1) := by decide +kernel
theorem dX8_hasWork_2 : decode cX8_hasWork 2 = .ok (.iload_n 1, 1) := by decide +kernel
theorem dX8_hasWork_3 : decode cX8_hasWork 3 = .ok (.iconst 1, 1) := by decide +kernel
theorem dX8_hasWork_4 : decode cX8_hasWork 4 = .ok (.iadd, 1) := by decide +kernel
theorem dX8_hasWork_5 : decode cX8_hasWork 5 = .ok (.istore_n 3, 1) := by decide +kernel
theorem dX8_hasWork_6 : decode cX8_hasWork 6 = .ok (.iload_n 3, 1) := by decide +kernel
theorem dX8_hasWork_7 : decode cX8_hasWork 7 = .ok (.aload_n 0, 1) := by decide +kernel
theorem dX8_hasWork_8 : decode cX8_hasWork 8 = .ok (.getfield 29, 3) := by decide +kernel
theorem dX8_hasWork_11 : decode cX8_hasWork 11 = .ok (.iload_n 1, 1) := by decide +kernel
theorem dX8_hasWork_12 : decode cX8_hasWork 12 = .ok (.iaload, 1) := by decide +kernel
theorem dX8_hasWork_13 : decode cX8_hasWork 13 = .ok (.if_icmp .ge 28, 3) := by decide +kernel
theorem dX8_hasWork_16 : decode cX8_hasWork 16 = .ok (.iload_n 2, 1) := by decide +kernel
theorem dX8_hasWork_17 : decode cX8_hasWork 17 = .ok (.ifCond .ne 24, 3) := by decide +kernel
theorem dX8_hasWork_20 : decode cX8_hasWork 20 = .ok (.aload_n 0, 1) := by decide +kernel
theorem dX8_hasWork_21 : decode cX8_hasWork 21 = .ok (.getfield 20, 3) := by decide +kernel
theorem dX8_hasWork_24 : decode cX8_hasWork 24 = .ok (.iload_n 3, 1) := by decide +kernel
theorem dX8_hasWork_25 : decode cX8_hasWork 25 = .ok (.iaload, 1) := by decide +kernel
theorem dX8_hasWork_26 : decode cX8_hasWork 26 = .ok (.ifCond .ne 7, 3) := by decide +kernel
theorem dX8_hasWork_29 : decode cX8_hasWork 29 = .ok (.iconst 1, 1) := by decide +kernel
theorem dX8_hasWork_30 : decode cX8_hasWork 30 = .ok (.goto 4, 3) := by decide +kernel
theorem dX8_hasWork_33 : decode cX8_hasWork 33 = .ok (.iconst 0, 1) := by decide +kernel
theorem dX8_hasWork_34 : decode cX8_hasWork 34 = .ok (.istore_n 2, 1) := by decide +kernel
theorem dX8_hasWork_35 : decode cX8_hasWork 35 = .ok (.iinc 3 1, 3) := by decide +kernel
theorem dX8_hasWork_38 : decode cX8_hasWork 38 = .ok (.goto (-32), 3) := by decide +kernel
theorem dX8_hasWork_41 : decode cX8_hasWork 41 = .ok (.iload_n 2, 1) := by decide +kernel
theorem dX8_hasWork_42 : decode cX8_hasWork 42 = .ok (.ireturn, 1) := by decide +kernel
theorem dX8_goes_0 : decode cX8_goes 0 = .ok (.iconst 0, 1) := by decide +kernel
theorem dX8_goes_1 : decode cX8_goes 1 = .ok (.istore_n 2, 1) := by decide +kernel
theorem dX8_goes_2 : decode cX8_goes 2 = .ok (.iconst 0, 1) := by decide +kernel
theorem dX8_goes_3 : decode cX8_goes 3 = .ok (.istore_n 3, 1) := by decide +kernel
theorem dX8_goes_4 : decode cX8_goes 4 = .ok (.aload_n 0, 1) := by decide +kernel
theorem dX8_goes_5 : decode cX8_goes 5 = .ok (.iconst 0, 1) := by decide +kernel
theorem dX8_goes_6 : decode cX8_goes 6 = .ok (.putfield 239, 3) := by decide +kernel
theorem dX8_goes_9 : decode cX8_goes 9 = .ok (.iload_n 3, 1) := by decide +kernel
theorem dX8_goes_10 : decode cX8_goes 10 = .ok (.aload_n 0, 1) := by decide +kernel
theorem dX8_goes_11 : decode cX8_goes 11 = .ok (.getfield 223, 3) := by decide +kernel
theorem dX8_goes_14 : decode cX8_goes 14 = .ok (.if_icmp .ge 246, 3) := by decide +kernel
theorem dX8_goes_17 : decode cX8_goes 17 = .ok (.aload_n 0, 1) := by decide +kernel
theorem dX8_goes_18 : decode cX8_goes 18 = .ok (.getfield 20, 3) := by decide +kernel
theorem dX8_goes_21 : decode cX8_goes 21 = .ok (.iload_n 3, 1) := by decide +kernel
theorem dX8_goes_22 : decode cX8_goes 22 = .ok (.iaload, 1) := by decide +kernel
theorem dX8_goes_23 : decode cX8_goes 23 = .ok (.iconst 1, 1) := by decide +kernel
theorem dX8_goes_24 : decode cX8_goes 24 = .ok (.if_icmp .ne 50, 3) := by decide +kernel
theorem dX8_goes_27 : decode cX8_goes 27 = .ok (.aload_n 0, 1) := by decide +kernel
theorem dX8_goes_28 : decode cX8_goes 28 = .ok (.getfield 38, 3) := by decide +kernel
theorem dX8_goes_31 : decode cX8_goes 31 = .ok (.iload_n 3, 1) := by decide +kernel
theorem dX8_goes_32 : decode cX8_goes 32 = .ok (.aload_n 0, 1) := by decide +kernel
theorem dX8_goes_33 : decode cX8_goes 33 = .ok (.getfield 23, 3) := by decide +kernel
theorem dX8_goes_36 : decode cX8_goes 36 = .ok (.iload_n 3, 1) := by decide +kernel
theorem dX8_goes_37 : decode cX8_goes 37 = .ok (.iaload, 1) := by decide +kernel
theorem dX8_goes_38 : decode cX8_goes 38 = .ok (.iastore, 1) := by decide +kernel
theorem dX8_goes_39 : decode cX8_goes 39 = .ok (.aload_n 0, 1) := by decide +kernel
theorem dX8_goes_40 : decode cX8_goes 40 = .ok (.getfield 38, 3) := by decide +kernel
theorem dX8_goes_43 : decode cX8_goes 43 = .ok (.iload_n 3, 1) := by decide +kernel
theorem dX8_goes_44 : decode cX8_goes 44 = .ok (.iaload, 1) := by decide +kernel
theorem dX8_goes_45 : decode cX8_goes 45 = .ok (.ifCond .eq 11, 3) := by decide +kernel
theorem dX8_goes_48 : decode cX8_goes 48 = .ok (.aload_n 0, 1) := by decide +kernel
theorem dX8_goes_49 : decode cX8_goes 49 = .ok (.iload_n 3, 1) := by decide +kernel
theorem dX8_goes_50 : decode cX8_goes 50 = .ok (.invokevirtual 242, 3) := by decide +kernel
theorem dX8_goes_53 : decode cX8_goes 53 = .ok (.ifCond .ne 14, 3) := by decide +kernel
theorem dX8_goes_56 : decode cX8_goes 56 = .ok (.aload_n 0, 1) := by decide +kernel
theorem dX8_goes_57 : decode cX8_goes 57 = .ok (.getfield 29, 3) := by decide +kernel
theorem dX8_goes_60 : decode cX8_goes 60 = .ok (.iload_n 3, 1) := by decide +kernel
theorem dX8_goes_61 : decode cX8_goes 61 = .ok (.iaload, 1) := by decide +kernel
theorem dX8_goes_62 : decode cX8_goes 62 = .ok (.iconst 1, 1) := by decide +kernel
theorem dX8_goes_63 : decode cX8_goes 63 = .ok (.iadd, 1) := by decide +kernel
theorem dX8_goes_64 : decode cX8_goes 64 = .ok (.goto 6, 3) := by decide +kernel
theorem dX8_goes_67 : decode cX8_goes 67 = .ok (.iload_n 3, 1) := by decide +kernel
theorem dX8_goes_68 : decode cX8_goes 68 = .ok (.iconst 1, 1) := by decide +kernel
theorem dX8_goes_69 : decode cX8_goes 69 = .ok (.iadd, 1) := by decide +kernel
theorem dX8_goes_70 : decode cX8_goes 70 = .ok (.istore_n 3, 1) := by decide +kernel
theorem dX8_goes_71 : decode cX8_goes 71 = .ok (.goto (-62), 3) := by decide +kernel
theorem dX8_goes_74 : decode cX8_goes 74 = .ok (.aload_n 0, 1) := by decide +kernel
theorem dX8_goes_75 : decode cX8_goes 75 = .ok (.getfield 20, 3) := by decide +kernel
theorem dX8_goes_78 : decode cX8_goes 78 = .ok (.iload_n 3, 1) := by decide +kernel
theorem dX8_goes_79 : decode cX8_goes 79 = .ok (.iaload, 1) := by decide +kernel
theorem dX8_goes_80 : decode cX8_goes 80 = .ok (.iconst 2, 1) := by decide +kernel
theorem dX8_goes_81 : decode cX8_goes 81 = .ok (.if_icmp .ne 46, 3) := by decide +kernel
theorem dX8_goes_84 : decode cX8_goes 84 = .ok (.aload_n 0, 1) := by decide +kernel
theorem dX8_goes_85 : decode cX8_goes 85 = .ok (.getfield 29, 3) := by decide +kernel
theorem dX8_goes_88 : decode cX8_goes 88 = .ok (.iload_n 3, 1) := by decide +kernel
theorem dX8_goes_89 : decode cX8_goes 89 = .ok (.iaload, 1) := by decide +kernel
theorem dX8_goes_90 : decode cX8_goes 90 = .ok (.istore 4, 2) := by decide +kernel
theorem dX8_goes_92 : decode cX8_goes 92 = .ok (.aload_n 0, 1) := by decide +kernel
theorem dX8_goes_93 : decode cX8_goes 93 = .ok (.getfield 38, 3) := by decide +kernel
theorem dX8_goes_96 : decode cX8_goes 96 = .ok (.iload 4, 2) := by decide +kernel
theorem dX8_goes_98 : decode cX8_goes 98 = .ok (.dup2, 1) := by decide +kernel
theorem dX8_goes_99 : decode cX8_goes 99 = .ok (.iaload, 1) := by decide +kernel
theorem dX8_goes_100 : decode cX8_goes 100 = .ok (.iconst 1, 1) := by decide +kernel
theorem dX8_goes_101 : decode cX8_goes 101 = .ok (.isub, 1) := by decide +kernel
theorem dX8_goes_102 : decode cX8_goes 102 = .ok (.iastore, 1) := by decide +kernel
theorem dX8_goes_103 : decode cX8_goes 103 = .ok (.aload_n 0, 1) := by decide +kernel
theorem dX8_goes_104 : decode cX8_goes 104 = .ok (.getfield 38, 3) := by decide +kernel
theorem dX8_goes_107 : decode cX8_goes 107 = .ok (.iload 4, 2) := by decide +kernel
theorem dX8_goes_109 : decode cX8_goes 109 = .ok (.iaload, 1) := by decide +kernel
theorem dX8_goes_110 : decode cX8_goes 110 = .ok (.ifCond .le 10, 3) := by decide +kernel
theorem dX8_goes_113 : decode cX8_goes 113 = .ok (.iload 4, 2) := by decide +kernel
theorem dX8_goes_115 : decode cX8_goes 115 = .ok (.iconst 1, 1) := by decide +kernel
theorem dX8_goes_116 : decode cX8_goes 116 = .ok (.iadd, 1) := by decide +kernel
theorem dX8_goes_117 : decode cX8_goes 117 = .ok (.goto 6, 3) := by decide +kernel
theorem dX8_goes_120 : decode cX8_goes 120 = .ok (.iload_n 3, 1) := by decide +kernel
theorem dX8_goes_121 : decode cX8_goes 121 = .ok (.iconst 1, 1) := by decide +kernel
theorem dX8_goes_122 : decode cX8_goes 122 = .ok (.iadd, 1) := by decide +kernel
theorem dX8_goes_123 : decode cX8_goes 123 = .ok (.istore_n 3, 1) := by decide +kernel
theorem dX8_goes_124 : decode cX8_goes 124 = .ok (.goto (-115), 3) := by decide +kernel
theorem dX8_goes_127 : decode cX8_goes 127 = .ok (.iload_n 2, 1) := by decide +kernel
theorem dX8_goes_128 : decode cX8_goes 128 = .ok (.bipush 100, 2) := by decide +kernel
theorem dX8_goes_130 : decode cX8_goes 130 = .ok (.if_icmp .eq 29, 3) := by decide +kernel
theorem dX8_goes_133 : decode cX8_goes 133 = .ok (.aload_n 0, 1) := by decide +kernel
theorem dX8_goes_134 : decode cX8_goes 134 = .ok (.getfield 23, 3) := by decide +kernel
theorem dX8_goes_137 : decode cX8_goes 137 = .ok (.iload_n 3, 1) := by decide +kernel
theorem dX8_goes_138 : decode cX8_goes 138 = .ok (.iaload, 1) := by decide +kernel
theorem dX8_goes_139 : decode cX8_goes 139 = .ok (.iconst 5, 1) := by decide +kernel
theorem dX8_goes_140 : decode cX8_goes 140 = .ok (.if_icmp .ne 36, 3) := by decide +kernel
theorem dX8_goes_143 : decode cX8_goes 143 = .ok (.aload_n 0, 1) := by decide +kernel
theorem dX8_goes_144 : decode cX8_goes 144 = .ok (.getfield 17, 3) := by decide +kernel
theorem dX8_goes_147 : decode cX8_goes 147 = .ok (.aload_n 0, 1) := by decide +kernel
theorem dX8_goes_148 : decode cX8_goes 148 = .ok (.getfield 32, 3) := by decide +kernel
theorem dX8_goes_151 : decode cX8_goes 151 = .ok (.iload_n 3, 1) := by decide +kernel
theorem dX8_goes_152 : decode cX8_goes 152 = .ok (.iaload, 1) := by decide +kernel
theorem dX8_goes_153 : decode cX8_goes 153 = .ok (.laload, 1) := by decide +kernel
theorem dX8_goes_154 : decode cX8_goes 154 = .ok (.lconst 0, 1) := by decide +kernel
theorem dX8_goes_155 : decode cX8_goes 155 = .ok (.lcmp, 1) := by decide +kernel
theorem dX8_goes_156 : decode cX8_goes 156 = .ok (.ifCond .ne 20, 3) := by decide +kernel
theorem dX8_goes_159 : decode cX8_goes 159 = .ok (.aload_n 0, 1) := by decide +kernel
theorem dX8_goes_160 : decode cX8_goes 160 = .ok (.iload_n 2, 1) := by decide +kernel
theorem dX8_goes_161 : decode cX8_goes 161 = .ok (.bipush 100, 2) := by decide +kernel
theorem dX8_goes_163 : decode cX8_goes 163 = .ok (.if_icmp .ne 7, 3) := by decide +kernel
theorem dX8_goes_166 : decode cX8_goes 166 = .ok (.iconst 1, 1) := by decide +kernel
theorem dX8_goes_167 : decode cX8_goes 167 = .ok (.goto 4, 3) := by decide +kernel
theorem dX8_goes_170 : decode cX8_goes 170 = .ok (.iconst 2, 1) := by decide +kernel
theorem dX8_goes_171 : decode cX8_goes 171 = .ok (.putfield 239, 3) := by decide +kernel
theorem dX8_goes_174 : decode cX8_goes 174 = .ok (.iload_n 2, 1) := by decide +kernel
theorem dX8_goes_175 : decode cX8_goes 175 = .ok (.ireturn, 1) := by decide +kernel
theorem dX8_goes_176 : decode cX8_goes 176 = .ok (.iload_n 1, 1) := by decide +kernel
theorem dX8_goes_177 : decode cX8_goes 177 = .ok (.ifCond .eq 35, 3) := by decide +kernel
theorem dX8_goes_180 : decode cX8_goes 180 = .ok (.aload_n 0, 1) := by decide +kernel
theorem dX8_goes_181 : decode cX8_goes 181 = .ok (.aload_n 0, 1) := by decide +kernel
theorem dX8_goes_182 : decode cX8_goes 182 = .ok (.getfield 23, 3) := by decide +kernel
theorem dX8_goes_185 : decode cX8_goes 185 = .ok (.iload_n 3, 1) := by decide +kernel
theorem dX8_goes_186 : decode cX8_goes 186 = .ok (.iaload, 1) := by decide +kernel
theorem dX8_goes_187 : decode cX8_goes 187 = .ok (.aload_n 0, 1) := by decide +kernel
theorem dX8_goes_188 : decode cX8_goes 188 = .ok (.getfield 26, 3) := by decide +kernel
theorem dX8_goes_191 : decode cX8_goes 191 = .ok (.iload_n 3, 1) := by decide +kernel
theorem dX8_goes_192 : decode cX8_goes 192 = .ok (.iaload, 1) := by decide +kernel
theorem dX8_goes_193 : decode cX8_goes 193 = .ok (.aload_n 0, 1) := by decide +kernel
theorem dX8_goes_194 : decode cX8_goes 194 = .ok (.getfield 29, 3) := by decide +kernel
theorem dX8_goes_197 : decode cX8_goes 197 = .ok (.iload_n 3, 1) := by decide +kernel
theorem dX8_goes_198 : decode cX8_goes 198 = .ok (.iaload, 1) := by decide +kernel
theorem dX8_goes_199 : decode cX8_goes 199 = .ok (.aload_n 0, 1) := by decide +kernel
theorem dX8_goes_200 : decode cX8_goes 200 = .ok (.getfield 32, 3) := by decide +kernel
theorem dX8_goes_203 : decode cX8_goes 203 = .ok (.iload_n 3, 1) := by decide +kernel
theorem dX8_goes_204 : decode cX8_goes 204 = .ok (.iaload, 1) := by decide +kernel
theorem dX8_goes_205 : decode cX8_goes 205 = .ok (.invokevirtual 190, 3) := by decide +kernel
theorem dX8_goes_208 : decode cX8_goes 208 = .ok (.pop2, 1) := by decide +kernel
theorem dX8_goes_209 : decode cX8_goes 209 = .ok (.goto 42, 3) := by decide +kernel
theorem dX8_goes_212 : decode cX8_goes 212 = .ok (.aload_n 0, 1) := by decide +kernel
theorem dX8_goes_213 : decode cX8_goes 213 = .ok (.getfield 17, 3) := by decide +kernel
theorem dX8_goes_216 : decode cX8_goes 216 = .ok (.aload_n 0, 1) := by decide +kernel
theorem dX8_goes_217 : decode cX8_goes 217 = .ok (.getfield 26, 3) := by decide +kernel
theorem dX8_goes_220 : decode cX8_goes 220 = .ok (.iload_n 3, 1) := by decide +kernel
theorem dX8_goes_221 : decode cX8_goes 221 = .ok (.iaload, 1) := by decide +kernel
theorem dX8_goes_222 : decode cX8_goes 222 = .ok (.aload_n 0, 1) := by decide +kernel
theorem dX8_goes_223 : decode cX8_goes 223 = .ok (.aload_n 0, 1) := by decide +kernel
theorem dX8_goes_224 : decode cX8_goes 224 = .ok (.getfield 23, 3) := by decide +kernel
theorem dX8_goes_227 : decode cX8_goes 227 = .ok (.iload_n 3, 1) := by decide +kernel
theorem dX8_goes_228 : decode cX8_goes 228 = .ok (.iaload, 1) := by decide +kernel
theorem dX8_goes_229 : decode cX8_goes 229 = .ok (.aload_n 0, 1) := by decide +kernel
theorem dX8_goes_230 : decode cX8_goes 230 = .ok (.getfield 26, 3) := by decide +kernel
theorem dX8_goes_233 : decode cX8_goes 233 = .ok (.iload_n 3, 1) := by decide +kernel
theorem dX8_goes_234 : decode cX8_goes 234 = .ok (.iaload, 1) := by decide +kernel
theorem dX8_goes_235 : decode cX8_goes 235 = .ok (.aload_n 0, 1) := by decide +kernel
theorem dX8_goes_236 : decode cX8_goes 236 = .ok (.getfield 29, 3) := by decide +kernel
theorem dX8_goes_239 : decode cX8_goes 239 = .ok (.iload_n 3, 1) := by decide +kernel
theorem dX8_goes_240 : decode cX8_goes 240 = .ok (.iaload, 1) := by decide +kernel
theorem dX8_goes_241 : decode cX8_goes 241 = .ok (.aload_n 0, 1) := by decide +kernel
theorem dX8_goes_242 : decode cX8_goes 242 = .ok (.getfield 32, 3) := by decide +kernel
theorem dX8_goes_245 : decode cX8_goes 245 = .ok (.iload_n 3, 1) := by decide +kernel
theorem dX8_goes_246 : decode cX8_goes 246 = .ok (.iaload, 1) := by decide +kernel
theorem dX8_goes_247 : decode cX8_goes 247 = .ok (.invokevirtual 178, 3) := by decide +kernel
theorem dX8_goes_250 : decode cX8_goes 250 = .ok (.lastore, 1) := by decide +kernel
theorem dX8_goes_251 : decode cX8_goes 251 = .ok (.iinc 2 1, 3) := by decide +kernel
theorem dX8_goes_254 : decode cX8_goes 254 = .ok (.iinc 3 1, 3) := by decide +kernel
theorem dX8_goes_257 : decode cX8_goes 257 = .ok (.goto (-248), 3) := by decide +kernel
theorem dX8_goes_260 : decode cX8_goes 260 = .ok (.iload_n 2, 1) := by decide +kernel
theorem dX8_goes_261 : decode cX8_goes 261 = .ok (.ireturn, 1) := by decide +kernel
theorem dX8_run_0 : decode cX8_run 0 = .ok (.aload_n 0, 1) := by decide +kernel
theorem dX8_run_1 : decode cX8_run 1 = .ok (.invokevirtual 236, 3) := by decide +kernel
theorem dX8_run_4 : decode cX8_run 4 = .ok (.ldc 200, 2) := by decide +kernel
theorem dX8_run_6 : decode cX8_run 6 = .ok (.if_icmp .eq 6, 3) := by decide +kernel
theorem dX8_run_9 : decode cX8_run 9 = .ok (.ldc 186, 2) := by decide +kernel
theorem dX8_run_11 : decode cX8_run 11 = .ok (.ireturn, 1) := by decide +kernel
theorem dX8_run_12 : decode cX8_run 12 = .ok (.aload_n 0, 1) := by decide +kernel
theorem dX8_run_13 : decode cX8_run 13 = .ok (.invokevirtual 105, 3) := by decide +kernel
theorem dX8_run_16 : decode cX8_run 16 = .ok (.aload_n 0, 1) := by decide +kernel
theorem dX8_run_17 : decode cX8_run 17 = .ok (.invokevirtual 187, 3) := by decide +kernel
theorem dX8_run_20 : decode cX8_run 20 = .ok (.aload_n 0, 1) := by decide +kernel
theorem dX8_run_21 : decode cX8_run 21 = .ok (.iconst 1, 1) := by decide +kernel
theorem dX8_run_22 : decode cX8_run 22 = .ok (.invokevirtual 245, 3) := by decide +kernel
theorem dX8_run_25 : decode cX8_run 25 = .ok (.istore_n 1, 1) := by decide +kernel
theorem dX8_run_26 : decode cX8_run 26 = .ok (.aload_n 0, 1) := by decide +kernel
theorem dX8_run_27 : decode cX8_run 27 = .ok (.aload_n 0, 1) := by decide +kernel
theorem dX8_run_28 : decode cX8_run 28 = .ok (.getfield 239, 3) := by decide +kernel
theorem dX8_run_31 : decode cX8_run 31 = .ok (.putfield 249, 3) := by decide +kernel
theorem dX8_run_34 : decode cX8_run 34 = .ok (.iload_n 1, 1) := by decide +kernel
theorem dX8_run_35 : decode cX8_run 35 = .ok (.ireturn, 1) := by decide +kernel
theorem dX8_stopped_0 : decode cX8_stopped 0 = .ok (.aload_n 0, 1) := by decide +kernel
theorem dX8_stopped_1 : decode cX8_stopped 1 = .ok (.getfield 249, 3) := by decide +kernel
theorem dX8_stopped_4 : decode cX8_stopped 4 = .ok (.ireturn, 1) := by decide +kernel
theorem dX8_tries_0 : decode cX8_tries 0 = .ok (.aload_n 0, 1) := by decide +kernel
theorem dX8_tries_1 : decode cX8_tries 1 = .ok (.invokevirtual 187, 3) := by decide +kernel
theorem dX8_tries_4 : decode cX8_tries 4 = .ok (.aload_n 0, 1) := by decide +kernel
theorem dX8_tries_5 : decode cX8_tries 5 = .ok (.iload_n 2, 1) := by decide +kernel
theorem dX8_tries_6 : decode cX8_tries 6 = .ok (.putfield 132, 3) := by decide +kernel
theorem dX8_tries_9 : decode cX8_tries 9 = .ok (.aload_n 0, 1) := by decide +kernel
theorem dX8_tries_10 : decode cX8_tries 10 = .ok (.iload_n 3, 1) := by decide +kernel
theorem dX8_tries_11 : decode cX8_tries 11 = .ok (.putfield 135, 3) := by decide +kernel
theorem dX8_tries_14 : decode cX8_tries 14 = .ok (.aload_n 0, 1) := by decide +kernel
theorem dX8_tries_15 : decode cX8_tries 15 = .ok (.iconst 0, 1) := by decide +kernel
theorem dX8_tries_16 : decode cX8_tries 16 = .ok (.invokevirtual 245, 3) := by decide +kernel
theorem dX8_tries_19 : decode cX8_tries 19 = .ok (.pop, 1) := by decide +kernel
theorem dX8_tries_20 : decode cX8_tries 20 = .ok (.aload_n 0, 1) := by decide +kernel
theorem dX8_tries_21 : decode cX8_tries 21 = .ok (.getfield 17, 3) := by decide +kernel
theorem dX8_tries_24 : decode cX8_tries 24 = .ok (.iload_n 1, 1) := by decide +kernel
theorem dX8_tries_25 : decode cX8_tries 25 = .ok (.laload, 1) := by decide +kernel
theorem dX8_tries_26 : decode cX8_tries 26 = .ok (.l2i, 1) := by decide +kernel
theorem dX8_tries_27 : decode cX8_tries 27 = .ok (.ireturn, 1) := by decide +kernel
theorem dX8_ifRun_0 : decode cX8_ifRun 0 = .ok (.iload_n 1, 1) := by decide +kernel
theorem dX8_ifRun_1 : decode cX8_ifRun 1 = .ok (.invokestatic 116, 3) := by decide +kernel
theorem dX8_ifRun_4 : decode cX8_ifRun 4 = .ok (.ifCond .eq 12, 3) := by decide +kernel
theorem dX8_ifRun_7 : decode cX8_ifRun 7 = .ok (.iload_n 2, 1) := by decide +kernel
theorem dX8_ifRun_8 : decode cX8_ifRun 8 = .ok (.iconst 0, 1) := by decide +kernel
theorem dX8_ifRun_9 : decode cX8_ifRun 9 = .ok (.iconst 4, 1) := by decide +kernel
theorem dX8_ifRun_10 : decode cX8_ifRun 10 = .ok (.invokestatic 53, 3) := by decide +kernel
theorem dX8_ifRun_13 : decode cX8_ifRun 13 = .ok (.ifCond .ne 6, 3) := by decide +kernel
theorem dX8_ifRun_16 : decode cX8_ifRun 16 = .ok (.ldc 104, 2) := by decide +kernel
theorem dX8_ifRun_18 : decode cX8_ifRun 18 = .ok (.ireturn, 1) := by decide +kernel
theorem dX8_ifRun_19 : decode cX8_ifRun 19 = .ok (.aload_n 0, 1) := by decide +kernel
theorem dX8_ifRun_20 : decode cX8_ifRun 20 = .ok (.invokevirtual 236, 3) := by decide +kernel
theorem dX8_ifRun_23 : decode cX8_ifRun 23 = .ok (.ldc 200, 2) := by decide +kernel
theorem dX8_ifRun_25 : decode cX8_ifRun 25 = .ok (.if_icmp .eq 8, 3) := by decide +kernel
theorem dX8_ifRun_28 : decode cX8_ifRun 28 = .ok (.ldc 186, 2) := by decide +kernel
theorem dX8_ifRun_30 : decode cX8_ifRun 30 = .ok (.goto 10, 3) := by decide +kernel
theorem dX8_ifRun_33 : decode cX8_ifRun 33 = .ok (.aload_n 0, 1) := by decide +kernel
theorem dX8_ifRun_34 : decode cX8_ifRun 34 = .ok (.iload_n 1, 1) := by decide +kernel
theorem dX8_ifRun_35 : decode cX8_ifRun 35 = .ok (.iload_n 2, 1) := by decide +kernel
theorem dX8_ifRun_36 : decode cX8_ifRun 36 = .ok (.iload_n 3, 1) := by decide +kernel
theorem dX8_ifRun_37 : decode cX8_ifRun 37 = .ok (.invokevirtual 252, 3) := by decide +kernel
theorem dX8_ifRun_40 : decode cX8_ifRun 40 = .ok (.ireturn, 1) := by decide +kernel
theorem dX8_ensembleSum_0 : decode cX8_ensembleSum 0 = .ok (.iload_n 1, 1) := by decide +kernel
theorem dX8_ensembleSum_1 : decode cX8_ensembleSum 1 = .ok (.invokestatic 116, 3) := by decide +kernel
theorem dX8_ensembleSum_4 : decode cX8_ensembleSum 4 = .ok (.ifCond .eq 13, 3) := by decide +kernel
theorem dX8_ensembleSum_7 : decode cX8_ensembleSum 7 = .ok (.iload_n 3, 1) := by decide +kernel
theorem dX8_ensembleSum_8 : decode cX8_ensembleSum 8 = .ok (.iconst 1, 1) := by decide +kernel
theorem dX8_ensembleSum_9 : decode cX8_ensembleSum 9 = .ok (.bipush 8, 2) := by decide +kernel
theorem dX8_ensembleSum_11 : decode cX8_ensembleSum 11 = .ok (.invokestatic 53, 3) := by decide +kernel
theorem dX8_ensembleSum_14 : decode cX8_ensembleSum 14 = .ok (.ifCond .ne 6, 3) := by decide +kernel
theorem dX8_ensembleSum_17 : decode cX8_ensembleSum 17 = .ok (.ldc 104, 2) := by decide +kernel
theorem dX8_ensembleSum_19 : decode cX8_ensembleSum 19 = .ok (.ireturn, 1) := by decide +kernel
theorem dX8_ensembleSum_20 : decode cX8_ensembleSum 20 = .ok (.aload_n 0, 1) := by decide +kernel
theorem dX8_ensembleSum_21 : decode cX8_ensembleSum 21 = .ok (.invokevirtual 236, 3) := by decide +kernel
theorem dX8_ensembleSum_24 : decode cX8_ensembleSum 24 = .ok (.ldc 200, 2) := by decide +kernel
theorem dX8_ensembleSum_26 : decode cX8_ensembleSum 26 = .ok (.if_icmp .eq 6, 3) := by decide +kernel
theorem dX8_ensembleSum_29 : decode cX8_ensembleSum 29 = .ok (.ldc 186, 2) := by decide +kernel
theorem dX8_ensembleSum_31 : decode cX8_ensembleSum 31 = .ok (.ireturn, 1) := by decide +kernel
theorem dX8_ensembleSum_32 : decode cX8_ensembleSum 32 = .ok (.iconst 0, 1) := by decide +kernel
theorem dX8_ensembleSum_33 : decode cX8_ensembleSum 33 = .ok (.istore 4, 2) := by decide +kernel
theorem dX8_ensembleSum_35 : decode cX8_ensembleSum 35 = .ok (.iconst 0, 1) := by decide +kernel
theorem dX8_ensembleSum_36 : decode cX8_ensembleSum 36 = .ok (.istore 5, 2) := by decide +kernel
theorem dX8_ensembleSum_38 : decode cX8_ensembleSum 38 = .ok (.iload 5, 2) := by decide +kernel
theorem dX8_ensembleSum_40 : decode cX8_ensembleSum 40 = .ok (.iload_n 3, 1) := by decide +kernel
theorem dX8_ensembleSum_41 : decode cX8_ensembleSum 41 = .ok (.if_icmp .ge 24, 3) := by decide +kernel
theorem dX8_ensembleSum_44 : decode cX8_ensembleSum 44 = .ok (.iload 4, 2) := by decide +kernel
theorem dX8_ensembleSum_46 : decode cX8_ensembleSum 46 = .ok (.aload_n 0, 1) := by decide +kernel
theorem dX8_ensembleSum_47 : decode cX8_ensembleSum 47 = .ok (.iload_n 1, 1) := by decide +kernel
theorem dX8_ensembleSum_48 : decode cX8_ensembleSum 48 = .ok (.iconst 4, 1) := by decide +kernel
theorem dX8_ensembleSum_49 : decode cX8_ensembleSum 49 = .ok (.iload_n 2, 1) := by decide +kernel
theorem dX8_ensembleSum_50 : decode cX8_ensembleSum 50 = .ok (.iload 5, 2) := by decide +kernel
theorem dX8_ensembleSum_52 : decode cX8_ensembleSum 52 = .ok (.iadd, 1) := by decide +kernel
theorem dX8_ensembleSum_53 : decode cX8_ensembleSum 53 = .ok (.invokevirtual 252, 3) := by decide +kernel
theorem dX8_ensembleSum_56 : decode cX8_ensembleSum 56 = .ok (.iadd, 1) := by decide +kernel
theorem dX8_ensembleSum_57 : decode cX8_ensembleSum 57 = .ok (.istore 4, 2) := by decide +kernel
theorem dX8_ensembleSum_59 : decode cX8_ensembleSum 59 = .ok (.iinc 5 1, 3) := by decide +kernel
theorem dX8_ensembleSum_62 : decode cX8_ensembleSum 62 = .ok (.goto (-24), 3) := by decide +kernel
theorem dX8_ensembleSum_65 : decode cX8_ensembleSum 65 = .ok (.iload 4, 2) := by decide +kernel
theorem dX8_ensembleSum_67 : decode cX8_ensembleSum 67 = .ok (.ireturn, 1) := by decide +kernel
theorem dX8_ensembleSpread_0 : decode cX8_ensembleSpread 0 = .ok (.iload_n 1, 1) := by decide +kernel
theorem dX8_ensembleSpread_1 : decode cX8_ensembleSpread 1 = .ok (.invokestatic 116, 3) := by decide +kernel
theorem dX8_ensembleSpread_4 : decode cX8_ensembleSpread 4 = .ok (.ifCond .eq 13, 3) := by decide +kernel
theorem dX8_ensembleSpread_7 : decode cX8_ensembleSpread 7 = .ok (.iload_n 3, 1) := by decide +kernel
theorem dX8_ensembleSpread_8 : decode cX8_ensembleSpread 8 = .ok (.iconst 1, 1) := by decide +kernel
theorem dX8_ensembleSpread_9 : decode cX8_ensembleSpread 9 = .ok (.bipush 8, 2) := by decide +kernel
theorem dX8_ensembleSpread_11 : decode cX8_ensembleSpread 11 = .ok (.invokestatic 53, 3) := by decide +kernel
theorem dX8_ensembleSpread_14 : decode cX8_ensembleSpread 14 = .ok (.ifCond .ne 6, 3) := by decide +kernel
theorem dX8_ensembleSpread_17 : decode cX8_ensembleSpread 17 = .ok (.ldc 104, 2) := by decide +kernel
theorem dX8_ensembleSpread_19 : decode cX8_ensembleSpread 19 = .ok (.ireturn, 1) := by decide +kernel
theorem dX8_ensembleSpread_20 : decode cX8_ensembleSpread 20 = .ok (.aload_n 0, 1) := by decide +kernel
theorem dX8_ensembleSpread_21 : decode cX8_ensembleSpread 21 = .ok (.invokevirtual 236, 3) := by decide +kernel
theorem dX8_ensembleSpread_24 : decode cX8_ensembleSpread 24 = .ok (.ldc 200, 2) := by decide +kernel
theorem dX8_ensembleSpread_26 : decode cX8_ensembleSpread 26 = .ok (.if_icmp .eq 6, 3) := by decide +kernel
theorem dX8_ensembleSpread_29 : decode cX8_ensembleSpread 29 = .ok (.ldc 186, 2) := by decide +kernel
theorem dX8_ensembleSpread_31 : decode cX8_ensembleSpread 31 = .ok (.ireturn, 1) := by decide +kernel
theorem dX8_ensembleSpread_32 : decode cX8_ensembleSpread 32 = .ok (.aload_n 0, 1) := by decide +kernel
theorem dX8_ensembleSpread_33 : decode cX8_ensembleSpread 33 = .ok (.iload_n 1, 1) := by decide +kernel
theorem dX8_ensembleSpread_34 : decode cX8_ensembleSpread 34 = .ok (.iconst 4, 1) := by decide +kernel
theorem dX8_ensembleSpread_35 : decode cX8_ensembleSpread 35 = .ok (.iload_n 2, 1) := by decide +kernel
theorem dX8_ensembleSpread_36 : decode cX8_ensembleSpread 36 = .ok (.invokevirtual 252, 3) := by decide +kernel
theorem dX8_ensembleSpread_39 : decode cX8_ensembleSpread 39 = .ok (.istore 4, 2) := by decide +kernel
theorem dX8_ensembleSpread_41 : decode cX8_ensembleSpread 41 = .ok (.iload 4, 2) := by decide +kernel
theorem dX8_ensembleSpread_43 : decode cX8_ensembleSpread 43 = .ok (.istore 5, 2) := by decide +kernel
theorem dX8_ensembleSpread_45 : decode cX8_ensembleSpread 45 = .ok (.iconst 1, 1) := by decide +kernel
theorem dX8_ensembleSpread_46 : decode cX8_ensembleSpread 46 = .ok (.istore 6, 2) := by decide +kernel
theorem dX8_ensembleSpread_48 : decode cX8_ensembleSpread 48 = .ok (.iload 6, 2) := by decide +kernel
theorem dX8_ensembleSpread_50 : decode cX8_ensembleSpread 50 = .ok (.iload_n 3, 1) := by decide +kernel
theorem dX8_ensembleSpread_51 : decode cX8_ensembleSpread 51 = .ok (.if_icmp .ge 53, 3) := by decide +kernel
theorem dX8_ensembleSpread_54 : decode cX8_ensembleSpread 54 = .ok (.aload_n 0, 1) := by decide +kernel
theorem dX8_ensembleSpread_55 : decode cX8_ensembleSpread 55 = .ok (.iload_n 1, 1) := by decide +kernel
theorem dX8_ensembleSpread_56 : decode cX8_ensembleSpread 56 = .ok (.iconst 4, 1) := by decide +kernel
theorem dX8_ensembleSpread_57 : decode cX8_ensembleSpread 57 = .ok (.iload_n 2, 1) := by decide +kernel
theorem dX8_ensembleSpread_58 : decode cX8_ensembleSpread 58 = .ok (.iload 6, 2) := by decide +kernel
theorem dX8_ensembleSpread_60 : decode cX8_ensembleSpread 60 = .ok (.iadd, 1) := by decide +kernel
theorem dX8_ensembleSpread_61 : decode cX8_ensembleSpread 61 = .ok (.invokevirtual 252, 3) := by decide +kernel
theorem dX8_ensembleSpread_64 : decode cX8_ensembleSpread 64 = .ok (.istore 7, 2) := by decide +kernel
theorem dX8_ensembleSpread_66 : decode cX8_ensembleSpread 66 = .ok (.iload 7, 2) := by decide +kernel
theorem dX8_ensembleSpread_68 : decode cX8_ensembleSpread 68 = .ok (.iload 4, 2) := by decide +kernel
theorem dX8_ensembleSpread_70 : decode cX8_ensembleSpread 70 = .ok (.if_icmp .ge 8, 3) := by decide +kernel
theorem dX8_ensembleSpread_73 : decode cX8_ensembleSpread 73 = .ok (.iload 7, 2) := by decide +kernel
theorem dX8_ensembleSpread_75 : decode cX8_ensembleSpread 75 = .ok (.goto 5, 3) := by decide +kernel
theorem dX8_ensembleSpread_78 : decode cX8_ensembleSpread 78 = .ok (.iload 4, 2) := by decide +kernel
theorem dX8_ensembleSpread_80 : decode cX8_ensembleSpread 80 = .ok (.istore 4, 2) := by decide +kernel
theorem dX8_ensembleSpread_82 : decode cX8_ensembleSpread 82 = .ok (.iload 7, 2) := by decide +kernel
theorem dX8_ensembleSpread_84 : decode cX8_ensembleSpread 84 = .ok (.iload 5, 2) := by decide +kernel
theorem dX8_ensembleSpread_86 : decode cX8_ensembleSpread 86 = .ok (.if_icmp .le 8, 3) := by decide +kernel
theorem dX8_ensembleSpread_89 : decode cX8_ensembleSpread 89 = .ok (.iload 7, 2) := by decide +kernel
theorem dX8_ensembleSpread_91 : decode cX8_ensembleSpread 91 = .ok (.goto 5, 3) := by decide +kernel
theorem dX8_ensembleSpread_94 : decode cX8_ensembleSpread 94 = .ok (.iload 5, 2) := by decide +kernel
theorem dX8_ensembleSpread_96 : decode cX8_ensembleSpread 96 = .ok (.istore 5, 2) := by decide +kernel
theorem dX8_ensembleSpread_98 : decode cX8_ensembleSpread 98 = .ok (.iinc 6 1, 3) := by decide +kernel
theorem dX8_ensembleSpread_101 : decode cX8_ensembleSpread 101 = .ok (.goto (-53), 3) := by decide +kernel
theorem dX8_ensembleSpread_104 : decode cX8_ensembleSpread 104 = .ok (.iload 5, 2) := by decide +kernel
theorem dX8_ensembleSpread_106 : decode cX8_ensembleSpread 106 = .ok (.iload 4, 2) := by decide +kernel
theorem dX8_ensembleSpread_108 : decode cX8_ensembleSpread 108 = .ok (.isub, 1) := by decide +kernel
theorem dX8_ensembleSpread_109 : decode cX8_ensembleSpread 109 = .ok (.ireturn, 1) := by decide +kernel
theorem dX8_isRecord_0 : decode cX8_isRecord 0 = .ok (.iload_n 1, 1) := by decide +kernel
theorem dX8_isRecord_1 : decode cX8_isRecord 1 = .ok (.ifCond .lt 20, 3) := by decide +kernel
theorem dX8_isRecord_4 : decode cX8_isRecord 4 = .ok (.iload_n 1, 1) := by decide +kernel
theorem dX8_isRecord_5 : decode cX8_isRecord 5 = .ok (.i2l, 1) := by decide +kernel
theorem dX8_isRecord_6 : decode cX8_isRecord 6 = .ok (.aload_n 0, 1) := by decide +kernel
theorem dX8_isRecord_7 : decode cX8_isRecord 7 = .ok (.getfield 7, 3) := by decide +kernel
theorem dX8_isRecord_10 : decode cX8_isRecord 10 = .ok (.bipush 32, 2) := by decide +kernel
theorem dX8_isRecord_12 : decode cX8_isRecord 12 = .ok (.laload, 1) := by decide +kernel
theorem dX8_isRecord_13 : decode cX8_isRecord 13 = .ok (.lcmp, 1) := by decide +kernel
theorem dX8_isRecord_14 : decode cX8_isRecord 14 = .ok (.ifCond .ge 7, 3) := by decide +kernel
theorem dX8_isRecord_17 : decode cX8_isRecord 17 = .ok (.iconst 1, 1) := by decide +kernel
theorem dX8_isRecord_18 : decode cX8_isRecord 18 = .ok (.goto 4, 3) := by decide +kernel
theorem dX8_isRecord_21 : decode cX8_isRecord 21 = .ok (.iconst 0, 1) := by decide +kernel
theorem dX8_isRecord_22 : decode cX8_isRecord 22 = .ok (.ireturn, 1) := by decide +kernel
theorem dX8_records_0 : decode cX8_records 0 = .ok (.aload_n 0, 1) := by decide +kernel
theorem dX8_records_1 : decode cX8_records 1 = .ok (.getfield 7, 3) := by decide +kernel
theorem dX8_records_4 : decode cX8_records 4 = .ok (.bipush 32, 2) := by decide +kernel
theorem dX8_records_6 : decode cX8_records 6 = .ok (.laload, 1) := by decide +kernel
theorem dX8_records_7 : decode cX8_records 7 = .ok (.l2i, 1) := by decide +kernel
theorem dX8_records_8 : decode cX8_records 8 = .ok (.ireturn, 1) := by decide +kernel
theorem dX8_numberOf_0 : decode cX8_numberOf 0 = .ok (.aload_n 0, 1) := by decide +kernel
theorem dX8_numberOf_1 : decode cX8_numberOf 1 = .ok (.iload_n 1, 1) := by decide +kernel
theorem dX8_numberOf_2 : decode cX8_numberOf 2 = .ok (.invokevirtual 256, 3) := by decide +kernel
theorem dX8_numberOf_5 : decode cX8_numberOf 5 = .ok (.ifCond .eq 19, 3) := by decide +kernel
theorem dX8_numberOf_8 : decode cX8_numberOf 8 = .ok (.aload_n 0, 1) := by decide +kernel
theorem dX8_numberOf_9 : decode cX8_numberOf 9 = .ok (.getfield 7, 3) := by decide +kernel
theorem dX8_numberOf_12 : decode cX8_numberOf 12 = .ok (.aload_n 0, 1) := by decide +kernel
theorem dX8_numberOf_13 : decode cX8_numberOf 13 = .ok (.iload_n 1, 1) := by decide +kernel
theorem dX8_numberOf_14 : decode cX8_numberOf 14 = .ok (.invokevirtual 165, 3) := by decide +kernel
theorem dX8_numberOf_17 : decode cX8_numberOf 17 = .ok (.iconst 0, 1) := by decide +kernel
theorem dX8_numberOf_18 : decode cX8_numberOf 18 = .ok (.iadd, 1) := by decide +kernel
theorem dX8_numberOf_19 : decode cX8_numberOf 19 = .ok (.laload, 1) := by decide +kernel
theorem dX8_numberOf_20 : decode cX8_numberOf 20 = .ok (.l2i, 1) := by decide +kernel
theorem dX8_numberOf_21 : decode cX8_numberOf 21 = .ok (.goto 5, 3) := by decide +kernel
theorem dX8_numberOf_24 : decode cX8_numberOf 24 = .ok (.ldc 104, 2) := by decide +kernel
theorem dX8_numberOf_26 : decode cX8_numberOf 26 = .ok (.ireturn, 1) := by decide +kernel
theorem dX8_operation_0 : decode cX8_operation 0 = .ok (.aload_n 0, 1) := by decide +kernel
theorem dX8_operation_1 : decode cX8_operation 1 = .ok (.iload_n 1, 1) := by decide +kernel
theorem dX8_operation_2 : decode cX8_operation 2 = .ok (.invokevirtual 256, 3) := by decide +kernel
theorem dX8_operation_5 : decode cX8_operation 5 = .ok (.ifCond .eq 11, 3) := by decide +kernel
theorem dX8_operation_8 : decode cX8_operation 8 = .ok (.aload_n 0, 1) := by decide +kernel
theorem dX8_operation_9 : decode cX8_operation 9 = .ok (.iload_n 1, 1) := by decide +kernel
theorem dX8_operation_10 : decode cX8_operation 10 = .ok (.invokevirtual 165, 3) := by decide +kernel
theorem dX8_operation_13 : decode cX8_operation 13 = .ok (.goto 4, 3) := by decide +kernel
theorem dX8_operation_16 : decode cX8_operation 16 = .ok (.iconst 0, 1) := by decide +kernel
theorem dX8_operation_17 : decode cX8_operation 17 = .ok (.istore_n 2, 1) := by decide +kernel
theorem dX8_operation_18 : decode cX8_operation 18 = .ok (.aload_n 0, 1) := by decide +kernel
theorem dX8_operation_19 : decode cX8_operation 19 = .ok (.iload_n 1, 1) := by decide +kernel
theorem dX8_operation_20 : decode cX8_operation 20 = .ok (.invokevirtual 256, 3) := by decide +kernel
theorem dX8_operation_23 : decode cX8_operation 23 = .ok (.ifCond .eq 54, 3) := by decide +kernel
theorem dX8_operation_26 : decode cX8_operation 26 = .ok (.ldc2_w 259, 3) := by decide +kernel
theorem dX8_operation_29 : decode cX8_operation 29 = .ok (.aload_n 0, 1) := by decide +kernel
theorem dX8_operation_30 : decode cX8_operation 30 = .ok (.getfield 7, 3) := by decide +kernel
theorem dX8_operation_33 : decode cX8_operation 33 = .ok (.iload_n 2, 1) := by decide +kernel
theorem dX8_operation_34 : decode cX8_operation 34 = .ok (.iconst 1, 1) := by decide +kernel
theorem dX8_operation_35 : decode cX8_operation 35 = .ok (.iadd, 1) := by decide +kernel
theorem dX8_operation_36 : decode cX8_operation 36 = .ok (.laload, 1) := by decide +kernel
theorem dX8_operation_37 : decode cX8_operation 37 = .ok (.lmul, 1) := by decide +kernel
theorem dX8_operation_38 : decode cX8_operation 38 = .ok (.ldc2_w 261, 3) := by decide +kernel
theorem dX8_operation_41 : decode cX8_operation 41 = .ok (.aload_n 0, 1) := by decide +kernel
theorem dX8_operation_42 : decode cX8_operation 42 = .ok (.getfield 7, 3) := by decide +kernel
theorem dX8_operation_45 : decode cX8_operation 45 = .ok (.iload_n 2, 1) := by decide +kernel
theorem dX8_operation_46 : decode cX8_operation 46 = .ok (.iconst 2, 1) := by decide +kernel
theorem dX8_operation_47 : decode cX8_operation 47 = .ok (.iadd, 1) := by decide +kernel
theorem dX8_operation_48 : decode cX8_operation 48 = .ok (.laload, 1) := by decide +kernel
theorem dX8_operation_49 : decode cX8_operation 49 = .ok (.lmul, 1) := by decide +kernel
theorem dX8_operation_50 : decode cX8_operation 50 = .ok (.ladd, 1) := by decide +kernel
theorem dX8_operation_51 : decode cX8_operation 51 = .ok (.ldc2_w 263, 3) := by decide +kernel
theorem dX8_operation_54 : decode cX8_operation 54 = .ok (.aload_n 0, 1) := by decide +kernel
theorem dX8_operation_55 : decode cX8_operation 55 = .ok (.getfield 7, 3) := by decide +kernel
theorem dX8_operation_58 : decode cX8_operation 58 = .ok (.iload_n 2, 1) := by decide +kernel
theorem dX8_operation_59 : decode cX8_operation 59 = .ok (.iconst 3, 1) := by decide +kernel
theorem dX8_operation_60 : decode cX8_operation 60 = .ok (.iadd, 1) := by decide +kernel
theorem dX8_operation_61 : decode cX8_operation 61 = .ok (.laload, 1) := by decide +kernel
theorem dX8_operation_62 : decode cX8_operation 62 = .ok (.lmul, 1) := by decide +kernel
theorem dX8_operation_63 : decode cX8_operation 63 = .ok (.ladd, 1) := by decide +kernel
theorem dX8_operation_64 : decode cX8_operation 64 = .ok (.aload_n 0, 1) := by decide +kernel
theorem dX8_operation_65 : decode cX8_operation 65 = .ok (.getfield 7, 3) := by decide +kernel
theorem dX8_operation_68 : decode cX8_operation 68 = .ok (.iload_n 2, 1) := by decide +kernel
theorem dX8_operation_69 : decode cX8_operation 69 = .ok (.iconst 4, 1) := by decide +kernel
theorem dX8_operation_70 : decode cX8_operation 70 = .ok (.iadd, 1) := by decide +kernel
theorem dX8_operation_71 : decode cX8_operation 71 = .ok (.laload, 1) := by decide +kernel
theorem dX8_operation_72 : decode cX8_operation 72 = .ok (.ladd, 1) := by decide +kernel
theorem dX8_operation_73 : decode cX8_operation 73 = .ok (.l2i, 1) := by decide +kernel
theorem dX8_operation_74 : decode cX8_operation 74 = .ok (.goto 5, 3) := by decide +kernel
theorem dX8_operation_77 : decode cX8_operation 77 = .ok (.ldc 104, 2) := by decide +kernel
theorem dX8_operation_79 : decode cX8_operation 79 = .ok (.ireturn, 1) := by decide +kernel
theorem dX8_result_0 : decode cX8_result 0 = .ok (.aload_n 0, 1) := by decide +kernel
theorem dX8_result_1 : decode cX8_result 1 = .ok (.iload_n 1, 1) := by decide +kernel
theorem dX8_result_2 : decode cX8_result 2 = .ok (.invokevirtual 256, 3) := by decide +kernel
theorem dX8_result_5 : decode cX8_result 5 = .ok (.ifCond .eq 20, 3) := by decide +kernel
theorem dX8_result_8 : decode cX8_result 8 = .ok (.aload_n 0, 1) := by decide +kernel
theorem dX8_result_9 : decode cX8_result 9 = .ok (.getfield 7, 3) := by decide +kernel
theorem dX8_result_12 : decode cX8_result 12 = .ok (.aload_n 0, 1) := by decide +kernel
theorem dX8_result_13 : decode cX8_result 13 = .ok (.iload_n 1, 1) := by decide +kernel
theorem dX8_result_14 : decode cX8_result 14 = .ok (.invokevirtual 165, 3) := by decide +kernel
theorem dX8_result_17 : decode cX8_result 17 = .ok (.bipush 15, 2) := by decide +kernel
theorem dX8_result_19 : decode cX8_result 19 = .ok (.iadd, 1) := by decide +kernel
theorem dX8_result_20 : decode cX8_result 20 = .ok (.laload, 1) := by decide +kernel
theorem dX8_result_21 : decode cX8_result 21 = .ok (.l2i, 1) := by decide +kernel
theorem dX8_result_22 : decode cX8_result 22 = .ok (.goto 5, 3) := by decide +kernel
theorem dX8_result_25 : decode cX8_result 25 = .ok (.ldc 104, 2) := by decide +kernel
theorem dX8_result_27 : decode cX8_result 27 = .ok (.ireturn, 1) := by decide +kernel
theorem dX8_neighbor_0 : decode cX8_neighbor 0 = .ok (.aload_n 0, 1) := by decide +kernel
theorem dX8_neighbor_1 : decode cX8_neighbor 1 = .ok (.iload_n 1, 1) := by decide +kernel
theorem dX8_neighbor_2 : decode cX8_neighbor 2 = .ok (.invokevirtual 256, 3) := by decide +kernel
theorem dX8_neighbor_5 : decode cX8_neighbor 5 = .ok (.ifCond .eq 29, 3) := by decide +kernel
theorem dX8_neighbor_8 : decode cX8_neighbor 8 = .ok (.aload_n 0, 1) := by decide +kernel
theorem dX8_neighbor_9 : decode cX8_neighbor 9 = .ok (.getfield 7, 3) := by decide +kernel
theorem dX8_neighbor_12 : decode cX8_neighbor 12 = .ok (.aload_n 0, 1) := by decide +kernel
theorem dX8_neighbor_13 : decode cX8_neighbor 13 = .ok (.iload_n 1, 1) := by decide +kernel
theorem dX8_neighbor_14 : decode cX8_neighbor 14 = .ok (.invokevirtual 165, 3) := by decide +kernel
theorem dX8_neighbor_17 : decode cX8_neighbor 17 = .ok (.iload_n 2, 1) := by decide +kernel
theorem dX8_neighbor_18 : decode cX8_neighbor 18 = .ok (.ifCond .eq 8, 3) := by decide +kernel
theorem dX8_neighbor_21 : decode cX8_neighbor 21 = .ok (.bipush 11, 2) := by decide +kernel
theorem dX8_neighbor_23 : decode cX8_neighbor 23 = .ok (.goto 5, 3) := by decide +kernel
theorem dX8_neighbor_26 : decode cX8_neighbor 26 = .ok (.bipush 10, 2) := by decide +kernel
theorem dX8_neighbor_28 : decode cX8_neighbor 28 = .ok (.iadd, 1) := by decide +kernel
theorem dX8_neighbor_29 : decode cX8_neighbor 29 = .ok (.laload, 1) := by decide +kernel
theorem dX8_neighbor_30 : decode cX8_neighbor 30 = .ok (.l2i, 1) := by decide +kernel
theorem dX8_neighbor_31 : decode cX8_neighbor 31 = .ok (.goto 5, 3) := by decide +kernel
theorem dX8_neighbor_34 : decode cX8_neighbor 34 = .ok (.ldc 104, 2) := by decide +kernel
theorem dX8_neighbor_36 : decode cX8_neighbor 36 = .ok (.ireturn, 1) := by decide +kernel
theorem dX8_drawOf_0 : decode cX8_drawOf 0 = .ok (.aload_n 0, 1) := by decide +kernel
theorem dX8_drawOf_1 : decode cX8_drawOf 1 = .ok (.iload_n 1, 1) := by decide +kernel
theorem dX8_drawOf_2 : decode cX8_drawOf 2 = .ok (.invokevirtual 256, 3) := by decide +kernel
theorem dX8_drawOf_5 : decode cX8_drawOf 5 = .ok (.ifCond .eq 20, 3) := by decide +kernel
theorem dX8_drawOf_8 : decode cX8_drawOf 8 = .ok (.aload_n 0, 1) := by decide +kernel
theorem dX8_drawOf_9 : decode cX8_drawOf 9 = .ok (.getfield 7, 3) := by decide +kernel
theorem dX8_drawOf_12 : decode cX8_drawOf 12 = .ok (.aload_n 0, 1) := by decide +kernel
theorem dX8_drawOf_13 : decode cX8_drawOf 13 = .ok (.iload_n 1, 1) := by decide +kernel
theorem dX8_drawOf_14 : decode cX8_drawOf 14 = .ok (.invokevirtual 165, 3) := by decide +kernel
theorem dX8_drawOf_17 : decode cX8_drawOf 17 = .ok (.bipush 14, 2) := by decide +kernel
theorem dX8_drawOf_19 : decode cX8_drawOf 19 = .ok (.iadd, 1) := by decide +kernel
theorem dX8_drawOf_20 : decode cX8_drawOf 20 = .ok (.laload, 1) := by decide +kernel
theorem dX8_drawOf_21 : decode cX8_drawOf 21 = .ok (.l2i, 1) := by decide +kernel
theorem dX8_drawOf_22 : decode cX8_drawOf 22 = .ok (.goto 5, 3) := by decide +kernel
theorem dX8_drawOf_25 : decode cX8_drawOf 25 = .ok (.ldc 104, 2) := by decide +kernel
theorem dX8_drawOf_27 : decode cX8_drawOf 27 = .ok (.ireturn, 1) := by decide +kernel
theorem dX8_flags_0 : decode cX8_flags 0 = .ok (.aload_n 0, 1) := by decide +kernel
theorem dX8_flags_1 : decode cX8_flags 1 = .ok (.iload_n 1, 1) := by decide +kernel
theorem dX8_flags_2 : decode cX8_flags 2 = .ok (.invokevirtual 256, 3) := by decide +kernel
theorem dX8_flags_5 : decode cX8_flags 5 = .ok (.ifCond .eq 20, 3) := by decide +kernel
theorem dX8_flags_8 : decode cX8_flags 8 = .ok (.aload_n 0, 1) := by decide +kernel
theorem dX8_flags_9 : decode cX8_flags 9 = .ok (.getfield 7, 3) := by decide +kernel
theorem dX8_flags_12 : decode cX8_flags 12 = .ok (.aload_n 0, 1) := by decide +kernel
theorem dX8_flags_13 : decode cX8_flags 13 = .ok (.iload_n 1, 1) := by decide +kernel
theorem dX8_flags_14 : decode cX8_flags 14 = .ok (.invokevirtual 165, 3) := by decide +kernel
theorem dX8_flags_17 : decode cX8_flags 17 = .ok (.bipush 16, 2) := by decide +kernel
theorem dX8_flags_19 : decode cX8_flags 19 = .ok (.iadd, 1) := by decide +kernel
theorem dX8_flags_20 : decode cX8_flags 20 = .ok (.laload, 1) := by decide +kernel
theorem dX8_flags_21 : decode cX8_flags 21 = .ok (.l2i, 1) := by decide +kernel
theorem dX8_flags_22 : decode cX8_flags 22 = .ok (.goto 5, 3) := by decide +kernel
theorem dX8_flags_25 : decode cX8_flags 25 = .ok (.ldc 104, 2) := by decide +kernel
theorem dX8_flags_27 : decode cX8_flags 27 = .ok (.ireturn, 1) := by decide +kernel
theorem dX8_exactNumerator_0 : decode cX8_exactNumerator 0 = .ok (.aload_n 0, 1) := by decide +kernel
theorem dX8_exactNumerator_1 : decode cX8_exactNumerator 1 = .ok (.iload_n 1, 1) := by decide +kernel
theorem dX8_exactNumerator_2 : decode cX8_exactNumerator 2 = .ok (.invokevirtual 256, 3) := by decide +kernel
theorem dX8_exactNumerator_5 : decode cX8_exactNumerator 5 = .ok (.ifCond .eq 19, 3) := by decide +kernel
theorem dX8_exactNumerator_8 : decode cX8_exactNumerator 8 = .ok (.aload_n 0, 1) := by decide +kernel
theorem dX8_exactNumerator_9 : decode cX8_exactNumerator 9 = .ok (.getfield 7, 3) := by decide +kernel
theorem dX8_exactNumerator_12 : decode cX8_exactNumerator 12 = .ok (.aload_n 0, 1) := by decide +kernel
theorem dX8_exactNumerator_13 : decode cX8_exactNumerator 13 = .ok (.iload_n 1, 1) := by decide +kernel
theorem dX8_exactNumerator_14 : decode cX8_exactNumerator 14 = .ok (.invokevirtual 165, 3) := by decide +kernel
theorem dX8_exactNumerator_17 : decode cX8_exactNumerator 17 = .ok (.bipush 8, 2) := by decide +kernel
theorem dX8_exactNumerator_19 : decode cX8_exactNumerator 19 = .ok (.iadd, 1) := by decide +kernel
theorem dX8_exactNumerator_20 : decode cX8_exactNumerator 20 = .ok (.laload, 1) := by decide +kernel
theorem dX8_exactNumerator_21 : decode cX8_exactNumerator 21 = .ok (.goto 6, 3) := by decide +kernel
theorem dX8_exactNumerator_24 : decode cX8_exactNumerator 24 = .ok (.ldc2_w 265, 3) := by decide +kernel
theorem dX8_exactNumerator_27 : decode cX8_exactNumerator 27 = .ok (.lreturn, 1) := by decide +kernel
theorem dX8_exactDenominator_0 : decode cX8_exactDenominator 0 = .ok (.aload_n 0, 1) := by decide +kernel
theorem dX8_exactDenominator_1 : decode cX8_exactDenominator 1 = .ok (.iload_n 1, 1) := by decide +kernel
theorem dX8_exactDenominator_2 : decode cX8_exactDenominator 2 = .ok (.invokevirtual 256, 3) := by decide +kernel
theorem dX8_exactDenominator_5 : decode cX8_exactDenominator 5 = .ok (.ifCond .eq 19, 3) := by decide +kernel
theorem dX8_exactDenominator_8 : decode cX8_exactDenominator 8 = .ok (.aload_n 0, 1) := by decide +kernel
theorem dX8_exactDenominator_9 : decode cX8_exactDenominator 9 = .ok (.getfield 7, 3) := by decide +kernel
theorem dX8_exactDenominator_12 : decode cX8_exactDenominator 12 = .ok (.aload_n 0, 1) := by decide +kernel
theorem dX8_exactDenominator_13 : decode cX8_exactDenominator 13 = .ok (.iload_n 1, 1) := by decide +kernel
theorem dX8_exactDenominator_14 : decode cX8_exactDenominator 14 = .ok (.invokevirtual 165, 3) := by decide +kernel
theorem dX8_exactDenominator_17 : decode cX8_exactDenominator 17 = .ok (.bipush 9, 2) := by decide +kernel
theorem dX8_exactDenominator_19 : decode cX8_exactDenominator 19 = .ok (.iadd, 1) := by decide +kernel
theorem dX8_exactDenominator_20 : decode cX8_exactDenominator 20 = .ok (.laload, 1) := by decide +kernel
theorem dX8_exactDenominator_21 : decode cX8_exactDenominator 21 = .ok (.goto 6, 3) := by decide +kernel
theorem dX8_exactDenominator_24 : decode cX8_exactDenominator 24 = .ok (.ldc2_w 265, 3) := by decide +kernel
theorem dX8_exactDenominator_27 : decode cX8_exactDenominator 27 = .ok (.lreturn, 1) := by decide +kernel
theorem dX8_replay_0 : decode cX8_replay 0 = .ok (.aload_n 0, 1) := by decide +kernel
theorem dX8_replay_1 : decode cX8_replay 1 = .ok (.iload_n 1, 1) := by decide +kernel
theorem dX8_replay_2 : decode cX8_replay 2 = .ok (.invokevirtual 256, 3) := by decide +kernel
theorem dX8_replay_5 : decode cX8_replay 5 = .ok (.ifCond .eq 12, 3) := by decide +kernel
theorem dX8_replay_8 : decode cX8_replay 8 = .ok (.iload_n 2, 1) := by decide +kernel
theorem dX8_replay_9 : decode cX8_replay 9 = .ok (.iconst 0, 1) := by decide +kernel
theorem dX8_replay_10 : decode cX8_replay 10 = .ok (.iconst 4, 1) := by decide +kernel
theorem dX8_replay_11 : decode cX8_replay 11 = .ok (.invokestatic 53, 3) := by decide +kernel
theorem dX8_replay_14 : decode cX8_replay 14 = .ok (.ifCond .ne 6, 3) := by decide +kernel
theorem dX8_replay_17 : decode cX8_replay 17 = .ok (.ldc 104, 2) := by decide +kernel
theorem dX8_replay_19 : decode cX8_replay 19 = .ok (.ireturn, 1) := by decide +kernel
theorem dX8_replay_20 : decode cX8_replay 20 = .ok (.aload_n 0, 1) := by decide +kernel
theorem dX8_replay_21 : decode cX8_replay 21 = .ok (.iload_n 1, 1) := by decide +kernel
theorem dX8_replay_22 : decode cX8_replay 22 = .ok (.invokevirtual 165, 3) := by decide +kernel
theorem dX8_replay_25 : decode cX8_replay 25 = .ok (.istore 4, 2) := by decide +kernel
theorem dX8_replay_27 : decode cX8_replay 27 = .ok (.aload_n 0, 1) := by decide +kernel
theorem dX8_replay_28 : decode cX8_replay 28 = .ok (.getfield 7, 3) := by decide +kernel
theorem dX8_replay_31 : decode cX8_replay 31 = .ok (.iload 4, 2) := by decide +kernel
theorem dX8_replay_33 : decode cX8_replay 33 = .ok (.bipush 13, 2) := by decide +kernel
theorem dX8_replay_35 : decode cX8_replay 35 = .ok (.iadd, 1) := by decide +kernel
theorem dX8_replay_36 : decode cX8_replay 36 = .ok (.laload, 1) := by decide +kernel
theorem dX8_replay_37 : decode cX8_replay 37 = .ok (.l2i, 1) := by decide +kernel
theorem dX8_replay_38 : decode cX8_replay 38 = .ok (.istore 5, 2) := by decide +kernel
theorem dX8_replay_40 : decode cX8_replay 40 = .ok (.aload_n 0, 1) := by decide +kernel
theorem dX8_replay_41 : decode cX8_replay 41 = .ok (.aload_n 0, 1) := by decide +kernel
theorem dX8_replay_42 : decode cX8_replay 42 = .ok (.getfield 7, 3) := by decide +kernel
theorem dX8_replay_45 : decode cX8_replay 45 = .ok (.iload 4, 2) := by decide +kernel
theorem dX8_replay_47 : decode cX8_replay 47 = .ok (.iconst 5, 1) := by decide +kernel
theorem dX8_replay_48 : decode cX8_replay 48 = .ok (.iadd, 1) := by decide +kernel
theorem dX8_replay_49 : decode cX8_replay 49 = .ok (.laload, 1) := by decide +kernel
theorem dX8_replay_50 : decode cX8_replay 50 = .ok (.l2i, 1) := by decide +kernel
theorem dX8_replay_51 : decode cX8_replay 51 = .ok (.aload_n 0, 1) := by decide +kernel
theorem dX8_replay_52 : decode cX8_replay 52 = .ok (.getfield 7, 3) := by decide +kernel
theorem dX8_replay_55 : decode cX8_replay 55 = .ok (.iload 4, 2) := by decide +kernel
theorem dX8_replay_57 : decode cX8_replay 57 = .ok (.bipush 6, 2) := by decide +kernel
theorem dX8_replay_59 : decode cX8_replay 59 = .ok (.iadd, 1) := by decide +kernel
theorem dX8_replay_60 : decode cX8_replay 60 = .ok (.laload, 1) := by decide +kernel
theorem dX8_replay_61 : decode cX8_replay 61 = .ok (.l2i, 1) := by decide +kernel
theorem dX8_replay_62 : decode cX8_replay 62 = .ok (.aload_n 0, 1) := by decide +kernel
theorem dX8_replay_63 : decode cX8_replay 63 = .ok (.getfield 7, 3) := by decide +kernel
theorem dX8_replay_66 : decode cX8_replay 66 = .ok (.iload 4, 2) := by decide +kernel
theorem dX8_replay_68 : decode cX8_replay 68 = .ok (.bipush 7, 2) := by decide +kernel
theorem dX8_replay_70 : decode cX8_replay 70 = .ok (.iadd, 1) := by decide +kernel
theorem dX8_replay_71 : decode cX8_replay 71 = .ok (.laload, 1) := by decide +kernel
theorem dX8_replay_72 : decode cX8_replay 72 = .ok (.l2i, 1) := by decide +kernel
theorem dX8_replay_73 : decode cX8_replay 73 = .ok (.aload_n 0, 1) := by decide +kernel
theorem dX8_replay_74 : decode cX8_replay 74 = .ok (.getfield 7, 3) := by decide +kernel
theorem dX8_replay_77 : decode cX8_replay 77 = .ok (.iload 4, 2) := by decide +kernel
theorem dX8_replay_79 : decode cX8_replay 79 = .ok (.bipush 8, 2) := by decide +kernel
theorem dX8_replay_81 : decode cX8_replay 81 = .ok (.iadd, 1) := by decide +kernel
theorem dX8_replay_82 : decode cX8_replay 82 = .ok (.laload, 1) := by decide +kernel
theorem dX8_replay_83 : decode cX8_replay 83 = .ok (.bipush 10, 2) := by decide +kernel
theorem dX8_replay_85 : decode cX8_replay 85 = .ok (.lshl, 1) := by decide +kernel
theorem dX8_replay_86 : decode cX8_replay 86 = .ok (.aload_n 0, 1) := by decide +kernel
theorem dX8_replay_87 : decode cX8_replay 87 = .ok (.getfield 7, 3) := by decide +kernel
theorem dX8_replay_90 : decode cX8_replay 90 = .ok (.iload 4, 2) := by decide +kernel
theorem dX8_replay_92 : decode cX8_replay 92 = .ok (.bipush 9, 2) := by decide +kernel
theorem dX8_replay_94 : decode cX8_replay 94 = .ok (.iadd, 1) := by decide +kernel
theorem dX8_replay_95 : decode cX8_replay 95 = .ok (.laload, 1) := by decide +kernel
theorem dX8_replay_96 : decode cX8_replay 96 = .ok (.invokevirtual 121, 3) := by decide +kernel
theorem dX8_replay_99 : decode cX8_replay 99 = .ok (.aload_n 0, 1) := by decide +kernel
theorem dX8_replay_100 : decode cX8_replay 100 = .ok (.aload_n 0, 1) := by decide +kernel
theorem dX8_replay_101 : decode cX8_replay 101 = .ok (.getfield 7, 3) := by decide +kernel
theorem dX8_replay_104 : decode cX8_replay 104 = .ok (.iload 4, 2) := by decide +kernel
theorem dX8_replay_106 : decode cX8_replay 106 = .ok (.bipush 8, 2) := by decide +kernel
theorem dX8_replay_108 : decode cX8_replay 108 = .ok (.iadd, 1) := by decide +kernel
theorem dX8_replay_109 : decode cX8_replay 109 = .ok (.laload, 1) := by decide +kernel
theorem dX8_replay_110 : decode cX8_replay 110 = .ok (.bipush 10, 2) := by decide +kernel
theorem dX8_replay_112 : decode cX8_replay 112 = .ok (.lshl, 1) := by decide +kernel
theorem dX8_replay_113 : decode cX8_replay 113 = .ok (.aload_n 0, 1) := by decide +kernel
theorem dX8_replay_114 : decode cX8_replay 114 = .ok (.getfield 7, 3) := by decide +kernel
theorem dX8_replay_117 : decode cX8_replay 117 = .ok (.iload 4, 2) := by decide +kernel
theorem dX8_replay_119 : decode cX8_replay 119 = .ok (.bipush 9, 2) := by decide +kernel
theorem dX8_replay_121 : decode cX8_replay 121 = .ok (.iadd, 1) := by decide +kernel
theorem dX8_replay_122 : decode cX8_replay 122 = .ok (.laload, 1) := by decide +kernel
theorem dX8_replay_123 : decode cX8_replay 123 = .ok (.iload_n 2, 1) := by decide +kernel
theorem dX8_replay_124 : decode cX8_replay 124 = .ok (.iload_n 3, 1) := by decide +kernel
theorem dX8_replay_125 : decode cX8_replay 125 = .ok (.aload_n 0, 1) := by decide +kernel
theorem dX8_replay_126 : decode cX8_replay 126 = .ok (.getfield 7, 3) := by decide +kernel
theorem dX8_replay_129 : decode cX8_replay 129 = .ok (.iload 4, 2) := by decide +kernel
theorem dX8_replay_131 : decode cX8_replay 131 = .ok (.iconst 0, 1) := by decide +kernel
theorem dX8_replay_132 : decode cX8_replay 132 = .ok (.iadd, 1) := by decide +kernel
theorem dX8_replay_133 : decode cX8_replay 133 = .ok (.laload, 1) := by decide +kernel
theorem dX8_replay_134 : decode cX8_replay 134 = .ok (.l2i, 1) := by decide +kernel
theorem dX8_replay_135 : decode cX8_replay 135 = .ok (.iload 5, 2) := by decide +kernel
theorem dX8_replay_137 : decode cX8_replay 137 = .ok (.invokestatic 153, 3) := by decide +kernel
theorem dX8_replay_140 : decode cX8_replay 140 = .ok (.iload 5, 2) := by decide +kernel
theorem dX8_replay_142 : decode cX8_replay 142 = .ok (.invokevirtual 125, 3) := by decide +kernel
theorem dX8_replay_145 : decode cX8_replay 145 = .ok (.l2i, 1) := by decide +kernel
theorem dX8_replay_146 : decode cX8_replay 146 = .ok (.ireturn, 1) := by decide +kernel
theorem dX8_upsAt_0 : decode cX8_upsAt 0 = .ok (.aload_n 0, 1) := by decide +kernel
theorem dX8_upsAt_1 : decode cX8_upsAt 1 = .ok (.getfield 7, 3) := by decide +kernel
theorem dX8_upsAt_4 : decode cX8_upsAt 4 = .ok (.iload_n 1, 1) := by decide +kernel
theorem dX8_upsAt_5 : decode cX8_upsAt 5 = .ok (.bipush 11, 2) := by decide +kernel
theorem dX8_upsAt_7 : decode cX8_upsAt 7 = .ok (.iadd, 1) := by decide +kernel
theorem dX8_upsAt_8 : decode cX8_upsAt 8 = .ok (.laload, 1) := by decide +kernel
theorem dX8_upsAt_9 : decode cX8_upsAt 9 = .ok (.aload_n 0, 1) := by decide +kernel
theorem dX8_upsAt_10 : decode cX8_upsAt 10 = .ok (.getfield 7, 3) := by decide +kernel
theorem dX8_upsAt_13 : decode cX8_upsAt 13 = .ok (.iload_n 1, 1) := by decide +kernel
theorem dX8_upsAt_14 : decode cX8_upsAt 14 = .ok (.bipush 10, 2) := by decide +kernel
theorem dX8_upsAt_16 : decode cX8_upsAt 16 = .ok (.iadd, 1) := by decide +kernel
theorem dX8_upsAt_17 : decode cX8_upsAt 17 = .ok (.laload, 1) := by decide +kernel
theorem dX8_upsAt_18 : decode cX8_upsAt 18 = .ok (.lsub, 1) := by decide +kernel
theorem dX8_upsAt_19 : decode cX8_upsAt 19 = .ok (.lstore_n 2, 1) := by decide +kernel
theorem dX8_upsAt_20 : decode cX8_upsAt 20 = .ok (.aload_n 0, 1) := by decide +kernel
theorem dX8_upsAt_21 : decode cX8_upsAt 21 = .ok (.getfield 7, 3) := by decide +kernel
theorem dX8_upsAt_24 : decode cX8_upsAt 24 = .ok (.iload_n 1, 1) := by decide +kernel
theorem dX8_upsAt_25 : decode cX8_upsAt 25 = .ok (.bipush 12, 2) := by decide +kernel
theorem dX8_upsAt_27 : decode cX8_upsAt 27 = .ok (.iadd, 1) := by decide +kernel
theorem dX8_upsAt_28 : decode cX8_upsAt 28 = .ok (.laload, 1) := by decide +kernel
theorem dX8_upsAt_29 : decode cX8_upsAt 29 = .ok (.ldc2_w 41, 3) := by decide +kernel
theorem dX8_upsAt_32 : decode cX8_upsAt 32 = .ok (.lcmp, 1) := by decide +kernel
theorem dX8_upsAt_33 : decode cX8_upsAt 33 = .ok (.ifCond .ne 9, 3) := by decide +kernel
theorem dX8_upsAt_36 : decode cX8_upsAt 36 = .ok (.lload_n 2, 1) := by decide +kernel
theorem dX8_upsAt_37 : decode cX8_upsAt 37 = .ok (.lconst 0, 1) := by decide +kernel
theorem dX8_upsAt_38 : decode cX8_upsAt 38 = .ok (.lcmp, 1) := by decide +kernel
theorem dX8_upsAt_39 : decode cX8_upsAt 39 = .ok (.ifCond .ne 7, 3) := by decide +kernel
theorem dX8_upsAt_42 : decode cX8_upsAt 42 = .ok (.ldc2_w 267, 3) := by decide +kernel
theorem dX8_upsAt_45 : decode cX8_upsAt 45 = .ok (.lreturn, 1) := by decide +kernel
theorem dX8_upsAt_46 : decode cX8_upsAt 46 = .ok (.lload_n 2, 1) := by decide +kernel
theorem dX8_upsAt_47 : decode cX8_upsAt 47 = .ok (.aload_n 0, 1) := by decide +kernel
theorem dX8_upsAt_48 : decode cX8_upsAt 48 = .ok (.getfield 7, 3) := by decide +kernel
theorem dX8_upsAt_51 : decode cX8_upsAt 51 = .ok (.iload_n 1, 1) := by decide +kernel
theorem dX8_upsAt_52 : decode cX8_upsAt 52 = .ok (.bipush 9, 2) := by decide +kernel
theorem dX8_upsAt_54 : decode cX8_upsAt 54 = .ok (.iadd, 1) := by decide +kernel
theorem dX8_upsAt_55 : decode cX8_upsAt 55 = .ok (.laload, 1) := by decide +kernel
theorem dX8_upsAt_56 : decode cX8_upsAt 56 = .ok (.lmul, 1) := by decide +kernel
theorem dX8_upsAt_57 : decode cX8_upsAt 57 = .ok (.lstore 4, 2) := by decide +kernel
theorem dX8_upsAt_59 : decode cX8_upsAt 59 = .ok (.aload_n 0, 1) := by decide +kernel
theorem dX8_upsAt_60 : decode cX8_upsAt 60 = .ok (.getfield 7, 3) := by decide +kernel
theorem dX8_upsAt_63 : decode cX8_upsAt 63 = .ok (.iload_n 1, 1) := by decide +kernel
theorem dX8_upsAt_64 : decode cX8_upsAt 64 = .ok (.bipush 8, 2) := by decide +kernel
theorem dX8_upsAt_66 : decode cX8_upsAt 66 = .ok (.iadd, 1) := by decide +kernel
theorem dX8_upsAt_67 : decode cX8_upsAt 67 = .ok (.laload, 1) := by decide +kernel
theorem dX8_upsAt_68 : decode cX8_upsAt 68 = .ok (.bipush 10, 2) := by decide +kernel
theorem dX8_upsAt_70 : decode cX8_upsAt 70 = .ok (.lshl, 1) := by decide +kernel
theorem dX8_upsAt_71 : decode cX8_upsAt 71 = .ok (.aload_n 0, 1) := by decide +kernel
theorem dX8_upsAt_72 : decode cX8_upsAt 72 = .ok (.getfield 7, 3) := by decide +kernel
theorem dX8_upsAt_75 : decode cX8_upsAt 75 = .ok (.iload_n 1, 1) := by decide +kernel
theorem dX8_upsAt_76 : decode cX8_upsAt 76 = .ok (.bipush 10, 2) := by decide +kernel
theorem dX8_upsAt_78 : decode cX8_upsAt 78 = .ok (.iadd, 1) := by decide +kernel
theorem dX8_upsAt_79 : decode cX8_upsAt 79 = .ok (.laload, 1) := by decide +kernel
theorem dX8_upsAt_80 : decode cX8_upsAt 80 = .ok (.aload_n 0, 1) := by decide +kernel
theorem dX8_upsAt_81 : decode cX8_upsAt 81 = .ok (.getfield 7, 3) := by decide +kernel
theorem dX8_upsAt_84 : decode cX8_upsAt 84 = .ok (.iload_n 1, 1) := by decide +kernel
theorem dX8_upsAt_85 : decode cX8_upsAt 85 = .ok (.bipush 9, 2) := by decide +kernel
theorem dX8_upsAt_87 : decode cX8_upsAt 87 = .ok (.iadd, 1) := by decide +kernel
theorem dX8_upsAt_88 : decode cX8_upsAt 88 = .ok (.laload, 1) := by decide +kernel
theorem dX8_upsAt_89 : decode cX8_upsAt 89 = .ok (.lmul, 1) := by decide +kernel
theorem dX8_upsAt_90 : decode cX8_upsAt 90 = .ok (.lsub, 1) := by decide +kernel
theorem dX8_upsAt_91 : decode cX8_upsAt 91 = .ok (.lstore 6, 2) := by decide +kernel
theorem dX8_upsAt_93 : decode cX8_upsAt 93 = .ok (.lload 6, 2) := by decide +kernel
theorem dX8_upsAt_95 : decode cX8_upsAt 95 = .ok (.aload_n 0, 1) := by decide +kernel
theorem dX8_upsAt_96 : decode cX8_upsAt 96 = .ok (.getfield 7, 3) := by decide +kernel
theorem dX8_upsAt_99 : decode cX8_upsAt 99 = .ok (.iload_n 1, 1) := by decide +kernel
theorem dX8_upsAt_100 : decode cX8_upsAt 100 = .ok (.bipush 13, 2) := by decide +kernel
theorem dX8_upsAt_102 : decode cX8_upsAt 102 = .ok (.iadd, 1) := by decide +kernel
theorem dX8_upsAt_103 : decode cX8_upsAt 103 = .ok (.laload, 1) := by decide +kernel
theorem dX8_upsAt_104 : decode cX8_upsAt 104 = .ok (.l2i, 1) := by decide +kernel
theorem dX8_upsAt_105 : decode cX8_upsAt 105 = .ok (.lshl, 1) := by decide +kernel
theorem dX8_upsAt_106 : decode cX8_upsAt 106 = .ok (.lneg, 1) := by decide +kernel
theorem dX8_upsAt_107 : decode cX8_upsAt 107 = .ok (.lload 4, 2) := by decide +kernel
theorem dX8_upsAt_109 : decode cX8_upsAt 109 = .ok (.invokestatic 86, 3) := by decide +kernel
theorem dX8_upsAt_112 : decode cX8_upsAt 112 = .ok (.lneg, 1) := by decide +kernel
theorem dX8_upsAt_113 : decode cX8_upsAt 113 = .ok (.lreturn, 1) := by decide +kernel
theorem dX8_meanAt_0 : decode cX8_meanAt 0 = .ok (.aload_n 0, 1) := by decide +kernel
theorem dX8_meanAt_1 : decode cX8_meanAt 1 = .ok (.iload_n 1, 1) := by decide +kernel
theorem dX8_meanAt_2 : decode cX8_meanAt 2 = .ok (.invokevirtual 269, 3) := by decide +kernel
theorem dX8_meanAt_5 : decode cX8_meanAt 5 = .ok (.lstore_n 2, 1) := by decide +kernel
theorem dX8_meanAt_6 : decode cX8_meanAt 6 = .ok (.aload_n 0, 1) := by decide +kernel
theorem dX8_meanAt_7 : decode cX8_meanAt 7 = .ok (.getfield 7, 3) := by decide +kernel
theorem dX8_meanAt_10 : decode cX8_meanAt 10 = .ok (.iload_n 1, 1) := by decide +kernel
theorem dX8_meanAt_11 : decode cX8_meanAt 11 = .ok (.bipush 11, 2) := by decide +kernel
theorem dX8_meanAt_13 : decode cX8_meanAt 13 = .ok (.iadd, 1) := by decide +kernel
theorem dX8_meanAt_14 : decode cX8_meanAt 14 = .ok (.laload, 1) := by decide +kernel
theorem dX8_meanAt_15 : decode cX8_meanAt 15 = .ok (.aload_n 0, 1) := by decide +kernel
theorem dX8_meanAt_16 : decode cX8_meanAt 16 = .ok (.getfield 7, 3) := by decide +kernel
theorem dX8_meanAt_19 : decode cX8_meanAt 19 = .ok (.iload_n 1, 1) := by decide +kernel
theorem dX8_meanAt_20 : decode cX8_meanAt 20 = .ok (.bipush 10, 2) := by decide +kernel
theorem dX8_meanAt_22 : decode cX8_meanAt 22 = .ok (.iadd, 1) := by decide +kernel
theorem dX8_meanAt_23 : decode cX8_meanAt 23 = .ok (.laload, 1) := by decide +kernel
theorem dX8_meanAt_24 : decode cX8_meanAt 24 = .ok (.lsub, 1) := by decide +kernel
theorem dX8_meanAt_25 : decode cX8_meanAt 25 = .ok (.lstore 4, 2) := by decide +kernel
theorem dX8_meanAt_27 : decode cX8_meanAt 27 = .ok (.lload_n 2, 1) := by decide +kernel
theorem dX8_meanAt_28 : decode cX8_meanAt 28 = .ok (.ldc2_w 267, 3) := by decide +kernel
theorem dX8_meanAt_31 : decode cX8_meanAt 31 = .ok (.lcmp, 1) := by decide +kernel
theorem dX8_meanAt_32 : decode cX8_meanAt 32 = .ok (.ifCond .ne 18, 3) := by decide +kernel
theorem dX8_meanAt_35 : decode cX8_meanAt 35 = .ok (.aload_n 0, 1) := by decide +kernel
theorem dX8_meanAt_36 : decode cX8_meanAt 36 = .ok (.getfield 7, 3) := by decide +kernel
theorem dX8_meanAt_39 : decode cX8_meanAt 39 = .ok (.iload_n 1, 1) := by decide +kernel
theorem dX8_meanAt_40 : decode cX8_meanAt 40 = .ok (.bipush 15, 2) := by decide +kernel
theorem dX8_meanAt_42 : decode cX8_meanAt 42 = .ok (.iadd, 1) := by decide +kernel
theorem dX8_meanAt_43 : decode cX8_meanAt 43 = .ok (.laload, 1) := by decide +kernel
theorem dX8_meanAt_44 : decode cX8_meanAt 44 = .ok (.bipush 8, 2) := by decide +kernel
theorem dX8_meanAt_46 : decode cX8_meanAt 46 = .ok (.lshl, 1) := by decide +kernel
theorem dX8_meanAt_47 : decode cX8_meanAt 47 = .ok (.goto 34, 3) := by decide +kernel
theorem dX8_meanAt_50 : decode cX8_meanAt 50 = .ok (.aload_n 0, 1) := by decide +kernel
theorem dX8_meanAt_51 : decode cX8_meanAt 51 = .ok (.getfield 7, 3) := by decide +kernel
theorem dX8_meanAt_54 : decode cX8_meanAt 54 = .ok (.iload_n 1, 1) := by decide +kernel
theorem dX8_meanAt_55 : decode cX8_meanAt 55 = .ok (.bipush 10, 2) := by decide +kernel
theorem dX8_meanAt_57 : decode cX8_meanAt 57 = .ok (.iadd, 1) := by decide +kernel
theorem dX8_meanAt_58 : decode cX8_meanAt 58 = .ok (.laload, 1) := by decide +kernel
theorem dX8_meanAt_59 : decode cX8_meanAt 59 = .ok (.bipush 8, 2) := by decide +kernel
theorem dX8_meanAt_61 : decode cX8_meanAt 61 = .ok (.lshl, 1) := by decide +kernel
theorem dX8_meanAt_62 : decode cX8_meanAt 62 = .ok (.lload_n 2, 1) := by decide +kernel
theorem dX8_meanAt_63 : decode cX8_meanAt 63 = .ok (.lload 4, 2) := by decide +kernel
theorem dX8_meanAt_65 : decode cX8_meanAt 65 = .ok (.lmul, 1) := by decide +kernel
theorem dX8_meanAt_66 : decode cX8_meanAt 66 = .ok (.bipush 8, 2) := by decide +kernel
theorem dX8_meanAt_68 : decode cX8_meanAt 68 = .ok (.aload_n 0, 1) := by decide +kernel
theorem dX8_meanAt_69 : decode cX8_meanAt 69 = .ok (.getfield 7, 3) := by decide +kernel
theorem dX8_meanAt_72 : decode cX8_meanAt 72 = .ok (.iload_n 1, 1) := by decide +kernel
theorem dX8_meanAt_73 : decode cX8_meanAt 73 = .ok (.bipush 13, 2) := by decide +kernel
theorem dX8_meanAt_75 : decode cX8_meanAt 75 = .ok (.iadd, 1) := by decide +kernel
theorem dX8_meanAt_76 : decode cX8_meanAt 76 = .ok (.laload, 1) := by decide +kernel
theorem dX8_meanAt_77 : decode cX8_meanAt 77 = .ok (.l2i, 1) := by decide +kernel
theorem dX8_meanAt_78 : decode cX8_meanAt 78 = .ok (.isub, 1) := by decide +kernel
theorem dX8_meanAt_79 : decode cX8_meanAt 79 = .ok (.lshl, 1) := by decide +kernel
theorem dX8_meanAt_80 : decode cX8_meanAt 80 = .ok (.ladd, 1) := by decide +kernel
theorem dX8_meanAt_81 : decode cX8_meanAt 81 = .ok (.lreturn, 1) := by decide +kernel
theorem dX8_varianceAt_0 : decode cX8_varianceAt 0 = .ok (.aload_n 0, 1) := by decide +kernel
theorem dX8_varianceAt_1 : decode cX8_varianceAt 1 = .ok (.iload_n 1, 1) := by decide +kernel
theorem dX8_varianceAt_2 : decode cX8_varianceAt 2 = .ok (.invokevirtual 269, 3) := by decide +kernel
theorem dX8_varianceAt_5 : decode cX8_varianceAt 5 = .ok (.lstore_n 2, 1) := by decide +kernel
theorem dX8_varianceAt_6 : decode cX8_varianceAt 6 = .ok (.aload_n 0, 1) := by decide +kernel
theorem dX8_varianceAt_7 : decode cX8_varianceAt 7 = .ok (.getfield 7, 3) := by decide +kernel
theorem dX8_varianceAt_10 : decode cX8_varianceAt 10 = .ok (.iload_n 1, 1) := by decide +kernel
theorem dX8_varianceAt_11 : decode cX8_varianceAt 11 = .ok (.bipush 11, 2) := by decide +kernel
theorem dX8_varianceAt_13 : decode cX8_varianceAt 13 = .ok (.iadd, 1) := by decide +kernel
theorem dX8_varianceAt_14 : decode cX8_varianceAt 14 = .ok (.laload, 1) := by decide +kernel
theorem dX8_varianceAt_15 : decode cX8_varianceAt 15 = .ok (.aload_n 0, 1) := by decide +kernel
theorem dX8_varianceAt_16 : decode cX8_varianceAt 16 = .ok (.getfield 7, 3) := by decide +kernel
theorem dX8_varianceAt_19 : decode cX8_varianceAt 19 = .ok (.iload_n 1, 1) := by decide +kernel
theorem dX8_varianceAt_20 : decode cX8_varianceAt 20 = .ok (.bipush 10, 2) := by decide +kernel
theorem dX8_varianceAt_22 : decode cX8_varianceAt 22 = .ok (.iadd, 1) := by decide +kernel
theorem dX8_varianceAt_23 : decode cX8_varianceAt 23 = .ok (.laload, 1) := by decide +kernel
theorem dX8_varianceAt_24 : decode cX8_varianceAt 24 = .ok (.lsub, 1) := by decide +kernel
theorem dX8_varianceAt_25 : decode cX8_varianceAt 25 = .ok (.lstore 4, 2) := by decide +kernel
theorem dX8_varianceAt_27 : decode cX8_varianceAt 27 = .ok (.aload_n 0, 1) := by decide +kernel
theorem dX8_varianceAt_28 : decode cX8_varianceAt 28 = .ok (.getfield 7, 3) := by decide +kernel
theorem dX8_varianceAt_31 : decode cX8_varianceAt 31 = .ok (.iload_n 1, 1) := by decide +kernel
theorem dX8_varianceAt_32 : decode cX8_varianceAt 32 = .ok (.bipush 13, 2) := by decide +kernel
theorem dX8_varianceAt_34 : decode cX8_varianceAt 34 = .ok (.iadd, 1) := by decide +kernel
theorem dX8_varianceAt_35 : decode cX8_varianceAt 35 = .ok (.laload, 1) := by decide +kernel
theorem dX8_varianceAt_36 : decode cX8_varianceAt 36 = .ok (.l2i, 1) := by decide +kernel
theorem dX8_varianceAt_37 : decode cX8_varianceAt 37 = .ok (.istore 6, 2) := by decide +kernel
theorem dX8_varianceAt_39 : decode cX8_varianceAt 39 = .ok (.lload_n 2, 1) := by decide +kernel
theorem dX8_varianceAt_40 : decode cX8_varianceAt 40 = .ok (.ldc2_w 267, 3) := by decide +kernel
theorem dX8_varianceAt_43 : decode cX8_varianceAt 43 = .ok (.lcmp, 1) := by decide +kernel
theorem dX8_varianceAt_44 : decode cX8_varianceAt 44 = .ok (.ifCond .ne 7, 3) := by decide +kernel
theorem dX8_varianceAt_47 : decode cX8_varianceAt 47 = .ok (.lconst 0, 1) := by decide +kernel
theorem dX8_varianceAt_48 : decode cX8_varianceAt 48 = .ok (.goto 25, 3) := by decide +kernel
theorem dX8_varianceAt_51 : decode cX8_varianceAt 51 = .ok (.lload_n 2, 1) := by decide +kernel
theorem dX8_varianceAt_52 : decode cX8_varianceAt 52 = .ok (.lconst 1, 1) := by decide +kernel
theorem dX8_varianceAt_53 : decode cX8_varianceAt 53 = .ok (.iload 6, 2) := by decide +kernel
theorem dX8_varianceAt_55 : decode cX8_varianceAt 55 = .ok (.lshl, 1) := by decide +kernel
theorem dX8_varianceAt_56 : decode cX8_varianceAt 56 = .ok (.lload_n 2, 1) := by decide +kernel
theorem dX8_varianceAt_57 : decode cX8_varianceAt 57 = .ok (.lsub, 1) := by decide +kernel
theorem dX8_varianceAt_58 : decode cX8_varianceAt 58 = .ok (.lmul, 1) := by decide +kernel
theorem dX8_varianceAt_59 : decode cX8_varianceAt 59 = .ok (.lload 4, 2) := by decide +kernel
theorem dX8_varianceAt_61 : decode cX8_varianceAt 61 = .ok (.lmul, 1) := by decide +kernel
theorem dX8_varianceAt_62 : decode cX8_varianceAt 62 = .ok (.lload 4, 2) := by decide +kernel
theorem dX8_varianceAt_64 : decode cX8_varianceAt 64 = .ok (.lmul, 1) := by decide +kernel
theorem dX8_varianceAt_65 : decode cX8_varianceAt 65 = .ok (.bipush 16, 2) := by decide +kernel
theorem dX8_varianceAt_67 : decode cX8_varianceAt 67 = .ok (.iconst 2, 1) := by decide +kernel
theorem dX8_varianceAt_68 : decode cX8_varianceAt 68 = .ok (.iload 6, 2) := by decide +kernel
theorem dX8_varianceAt_70 : decode cX8_varianceAt 70 = .ok (.imul, 1) := by decide +kernel
theorem dX8_varianceAt_71 : decode cX8_varianceAt 71 = .ok (.isub, 1) := by decide +kernel
theorem dX8_varianceAt_72 : decode cX8_varianceAt 72 = .ok (.lshl, 1) := by decide +kernel
theorem dX8_varianceAt_73 : decode cX8_varianceAt 73 = .ok (.lreturn, 1) := by decide +kernel
theorem dX8_mean_0 : decode cX8_mean 0 = .ok (.aload_n 0, 1) := by decide +kernel
theorem dX8_mean_1 : decode cX8_mean 1 = .ok (.iload_n 1, 1) := by decide +kernel
theorem dX8_mean_2 : decode cX8_mean 2 = .ok (.invokevirtual 256, 3) := by decide +kernel
theorem dX8_mean_5 : decode cX8_mean 5 = .ok (.ifCond .eq 15, 3) := by decide +kernel
theorem dX8_mean_8 : decode cX8_mean 8 = .ok (.aload_n 0, 1) := by decide +kernel
theorem dX8_mean_9 : decode cX8_mean 9 = .ok (.aload_n 0, 1) := by decide +kernel
theorem dX8_mean_10 : decode cX8_mean 10 = .ok (.iload_n 1, 1) := by decide +kernel
theorem dX8_mean_11 : decode cX8_mean 11 = .ok (.invokevirtual 165, 3) := by decide +kernel
theorem dX8_mean_14 : decode cX8_mean 14 = .ok (.invokevirtual 171, 3) := by decide +kernel
theorem dX8_mean_17 : decode cX8_mean 17 = .ok (.goto 6, 3) := by decide +kernel
theorem dX8_mean_20 : decode cX8_mean 20 = .ok (.ldc2_w 265, 3) := by decide +kernel
theorem dX8_mean_23 : decode cX8_mean 23 = .ok (.lreturn, 1) := by decide +kernel
theorem dX8_biasUp_0 : decode cX8_biasUp 0 = .ok (.aload_n 0, 1) := by decide +kernel
theorem dX8_biasUp_1 : decode cX8_biasUp 1 = .ok (.iload_n 1, 1) := by decide +kernel
theorem dX8_biasUp_2 : decode cX8_biasUp 2 = .ok (.invokevirtual 171, 3) := by decide +kernel
theorem dX8_biasUp_5 : decode cX8_biasUp 5 = .ok (.aload_n 0, 1) := by decide +kernel
theorem dX8_biasUp_6 : decode cX8_biasUp 6 = .ok (.getfield 7, 3) := by decide +kernel
theorem dX8_biasUp_9 : decode cX8_biasUp 9 = .ok (.iload_n 1, 1) := by decide +kernel
theorem dX8_biasUp_10 : decode cX8_biasUp 10 = .ok (.bipush 9, 2) := by decide +kernel
theorem dX8_biasUp_12 : decode cX8_biasUp 12 = .ok (.iadd, 1) := by decide +kernel
theorem dX8_biasUp_13 : decode cX8_biasUp 13 = .ok (.laload, 1) := by decide +kernel
theorem dX8_biasUp_14 : decode cX8_biasUp 14 = .ok (.lmul, 1) := by decide +kernel
theorem dX8_biasUp_15 : decode cX8_biasUp 15 = .ok (.aload_n 0, 1) := by decide +kernel
theorem dX8_biasUp_16 : decode cX8_biasUp 16 = .ok (.getfield 7, 3) := by decide +kernel
theorem dX8_biasUp_19 : decode cX8_biasUp 19 = .ok (.iload_n 1, 1) := by decide +kernel
theorem dX8_biasUp_20 : decode cX8_biasUp 20 = .ok (.bipush 8, 2) := by decide +kernel
theorem dX8_biasUp_22 : decode cX8_biasUp 22 = .ok (.iadd, 1) := by decide +kernel
theorem dX8_biasUp_23 : decode cX8_biasUp 23 = .ok (.laload, 1) := by decide +kernel
theorem dX8_biasUp_24 : decode cX8_biasUp 24 = .ok (.bipush 18, 2) := by decide +kernel
theorem dX8_biasUp_26 : decode cX8_biasUp 26 = .ok (.lshl, 1) := by decide +kernel
theorem dX8_biasUp_27 : decode cX8_biasUp 27 = .ok (.lsub, 1) := by decide +kernel
theorem dX8_biasUp_28 : decode cX8_biasUp 28 = .ok (.lreturn, 1) := by decide +kernel
theorem dX8_biasDown_0 : decode cX8_biasDown 0 = .ok (.aload_n 0, 1) := by decide +kernel
theorem dX8_biasDown_1 : decode cX8_biasDown 1 = .ok (.getfield 7, 3) := by decide +kernel
theorem dX8_biasDown_4 : decode cX8_biasDown 4 = .ok (.iload_n 1, 1) := by decide +kernel
theorem dX8_biasDown_5 : decode cX8_biasDown 5 = .ok (.bipush 9, 2) := by decide +kernel
theorem dX8_biasDown_7 : decode cX8_biasDown 7 = .ok (.iadd, 1) := by decide +kernel
theorem dX8_biasDown_8 : decode cX8_biasDown 8 = .ok (.laload, 1) := by decide +kernel
theorem dX8_biasDown_9 : decode cX8_biasDown 9 = .ok (.bipush 18, 2) := by decide +kernel
theorem dX8_biasDown_11 : decode cX8_biasDown 11 = .ok (.lshl, 1) := by decide +kernel
theorem dX8_biasDown_12 : decode cX8_biasDown 12 = .ok (.lreturn, 1) := by decide +kernel
theorem dX8_biasNumerator_0 : decode cX8_biasNumerator 0 = .ok (.aload_n 0, 1) := by decide +kernel
theorem dX8_biasNumerator_1 : decode cX8_biasNumerator 1 = .ok (.iload_n 1, 1) := by decide +kernel
theorem dX8_biasNumerator_2 : decode cX8_biasNumerator 2 = .ok (.invokevirtual 256, 3) := by decide +kernel
theorem dX8_biasNumerator_5 : decode cX8_biasNumerator 5 = .ok (.ifCond .eq 37, 3) := by decide +kernel
theorem dX8_biasNumerator_8 : decode cX8_biasNumerator 8 = .ok (.aload_n 0, 1) := by decide +kernel
theorem dX8_biasNumerator_9 : decode cX8_biasNumerator 9 = .ok (.aload_n 0, 1) := by decide +kernel
theorem dX8_biasNumerator_10 : decode cX8_biasNumerator 10 = .ok (.iload_n 1, 1) := by decide +kernel
theorem dX8_biasNumerator_11 : decode cX8_biasNumerator 11 = .ok (.invokevirtual 165, 3) := by decide +kernel
theorem dX8_biasNumerator_14 : decode cX8_biasNumerator 14 = .ok (.invokevirtual 272, 3) := by decide +kernel
theorem dX8_biasNumerator_17 : decode cX8_biasNumerator 17 = .ok (.aload_n 0, 1) := by decide +kernel
theorem dX8_biasNumerator_18 : decode cX8_biasNumerator 18 = .ok (.aload_n 0, 1) := by decide +kernel
theorem dX8_biasNumerator_19 : decode cX8_biasNumerator 19 = .ok (.iload_n 1, 1) := by decide +kernel
theorem dX8_biasNumerator_20 : decode cX8_biasNumerator 20 = .ok (.invokevirtual 165, 3) := by decide +kernel
theorem dX8_biasNumerator_23 : decode cX8_biasNumerator 23 = .ok (.invokevirtual 272, 3) := by decide +kernel
theorem dX8_biasNumerator_26 : decode cX8_biasNumerator 26 = .ok (.aload_n 0, 1) := by decide +kernel
theorem dX8_biasNumerator_27 : decode cX8_biasNumerator 27 = .ok (.aload_n 0, 1) := by decide +kernel
theorem dX8_biasNumerator_28 : decode cX8_biasNumerator 28 = .ok (.iload_n 1, 1) := by decide +kernel
theorem dX8_biasNumerator_29 : decode cX8_biasNumerator 29 = .ok (.invokevirtual 165, 3) := by decide +kernel
theorem dX8_biasNumerator_32 : decode cX8_biasNumerator 32 = .ok (.invokevirtual 275, 3) := by decide +kernel
theorem dX8_biasNumerator_35 : decode cX8_biasNumerator 35 = .ok (.invokestatic 168, 3) := by decide +kernel
theorem dX8_biasNumerator_38 : decode cX8_biasNumerator 38 = .ok (.ldiv, 1) := by decide +kernel
theorem dX8_biasNumerator_39 : decode cX8_biasNumerator 39 = .ok (.goto 6, 3) := by decide +kernel
theorem dX8_biasNumerator_42 : decode cX8_biasNumerator 42 = .ok (.ldc2_w 265, 3) := by decide +kernel
theorem dX8_biasNumerator_45 : decode cX8_biasNumerator 45 = .ok (.lreturn, 1) := by decide +kernel
theorem dX8_biasDenominator_0 : decode cX8_biasDenominator 0 = .ok (.aload_n 0, 1) := by decide +kernel
theorem dX8_biasDenominator_1 : decode cX8_biasDenominator 1 = .ok (.iload_n 1, 1) := by decide +kernel
theorem dX8_biasDenominator_2 : decode cX8_biasDenominator 2 = .ok (.invokevirtual 256, 3) := by decide +kernel
theorem dX8_biasDenominator_5 : decode cX8_biasDenominator 5 = .ok (.ifCond .eq 37, 3) := by decide +kernel
theorem dX8_biasDenominator_8 : decode cX8_biasDenominator 8 = .ok (.aload_n 0, 1) := by decide +kernel
theorem dX8_biasDenominator_9 : decode cX8_biasDenominator 9 = .ok (.aload_n 0, 1) := by decide +kernel
theorem dX8_biasDenominator_10 : decode cX8_biasDenominator 10 = .ok (.iload_n 1, 1) := by decide +kernel
theorem dX8_biasDenominator_11 : decode cX8_biasDenominator 11 = .ok (.invokevirtual 165, 3) := by decide +kernel
theorem dX8_biasDenominator_14 : decode cX8_biasDenominator 14 = .ok (.invokevirtual 275, 3) := by decide +kernel
theorem dX8_biasDenominator_17 : decode cX8_biasDenominator 17 = .ok (.aload_n 0, 1) := by decide +kernel
theorem dX8_biasDenominator_18 : decode cX8_biasDenominator 18 = .ok (.aload_n 0, 1) := by decide +kernel
theorem dX8_biasDenominator_19 : decode cX8_biasDenominator 19 = .ok (.iload_n 1, 1) := by decide +kernel
theorem dX8_biasDenominator_20 : decode cX8_biasDenominator 20 = .ok (.invokevirtual 165, 3) := by decide +kernel
theorem dX8_biasDenominator_23 : decode cX8_biasDenominator 23 = .ok (.invokevirtual 272, 3) := by decide +kernel
theorem dX8_biasDenominator_26 : decode cX8_biasDenominator 26 = .ok (.aload_n 0, 1) := by decide +kernel
theorem dX8_biasDenominator_27 : decode cX8_biasDenominator 27 = .ok (.aload_n 0, 1) := by decide +kernel
theorem dX8_biasDenominator_28 : decode cX8_biasDenominator 28 = .ok (.iload_n 1, 1) := by decide +kernel
theorem dX8_biasDenominator_29 : decode cX8_biasDenominator 29 = .ok (.invokevirtual 165, 3) := by decide +kernel
theorem dX8_biasDenominator_32 : decode cX8_biasDenominator 32 = .ok (.invokevirtual 275, 3) := by decide +kernel
theorem dX8_biasDenominator_35 : decode cX8_biasDenominator 35 = .ok (.invokestatic 168, 3) := by decide +kernel
theorem dX8_biasDenominator_38 : decode cX8_biasDenominator 38 = .ok (.ldiv, 1) := by decide +kernel
theorem dX8_biasDenominator_39 : decode cX8_biasDenominator 39 = .ok (.goto 6, 3) := by decide +kernel
theorem dX8_biasDenominator_42 : decode cX8_biasDenominator 42 = .ok (.ldc2_w 265, 3) := by decide +kernel
theorem dX8_biasDenominator_45 : decode cX8_biasDenominator 45 = .ok (.lreturn, 1) := by decide +kernel
theorem dX8_variance_0 : decode cX8_variance 0 = .ok (.aload_n 0, 1) := by decide +kernel
theorem dX8_variance_1 : decode cX8_variance 1 = .ok (.iload_n 1, 1) := by decide +kernel
theorem dX8_variance_2 : decode cX8_variance 2 = .ok (.invokevirtual 256, 3) := by decide +kernel
theorem dX8_variance_5 : decode cX8_variance 5 = .ok (.ifCond .eq 15, 3) := by decide +kernel
theorem dX8_variance_8 : decode cX8_variance 8 = .ok (.aload_n 0, 1) := by decide +kernel
theorem dX8_variance_9 : decode cX8_variance 9 = .ok (.aload_n 0, 1) := by decide +kernel
theorem dX8_variance_10 : decode cX8_variance 10 = .ok (.iload_n 1, 1) := by decide +kernel
theorem dX8_variance_11 : decode cX8_variance 11 = .ok (.invokevirtual 165, 3) := by decide +kernel
theorem dX8_variance_14 : decode cX8_variance 14 = .ok (.invokevirtual 175, 3) := by decide +kernel
theorem dX8_variance_17 : decode cX8_variance 17 = .ok (.goto 6, 3) := by decide +kernel
theorem dX8_variance_20 : decode cX8_variance 20 = .ok (.ldc2_w 265, 3) := by decide +kernel
theorem dX8_variance_23 : decode cX8_variance 23 = .ok (.lreturn, 1) := by decide +kernel
theorem dX8_account_0 : decode cX8_account 0 = .ok (.iload_n 1, 1) := by decide +kernel
theorem dX8_account_1 : decode cX8_account 1 = .ok (.iconst 0, 1) := by decide +kernel
theorem dX8_account_2 : decode cX8_account 2 = .ok (.bipush 6, 2) := by decide +kernel
theorem dX8_account_4 : decode cX8_account 4 = .ok (.invokestatic 53, 3) := by decide +kernel
theorem dX8_account_7 : decode cX8_account 7 = .ok (.ifCond .eq 15, 3) := by decide +kernel
theorem dX8_account_10 : decode cX8_account 10 = .ok (.aload_n 0, 1) := by decide +kernel
theorem dX8_account_11 : decode cX8_account 11 = .ok (.getfield 7, 3) := by decide +kernel
theorem dX8_account_14 : decode cX8_account 14 = .ok (.bipush 33, 2) := by decide +kernel
theorem dX8_account_16 : decode cX8_account 16 = .ok (.iload_n 1, 1) := by decide +kernel
theorem dX8_account_17 : decode cX8_account 17 = .ok (.iadd, 1) := by decide +kernel
theorem dX8_account_18 : decode cX8_account 18 = .ok (.laload, 1) := by decide +kernel
theorem dX8_account_19 : decode cX8_account 19 = .ok (.goto 6, 3) := by decide +kernel
theorem dX8_account_22 : decode cX8_account 22 = .ok (.ldc2_w 265, 3) := by decide +kernel
theorem dX8_account_25 : decode cX8_account 25 = .ok (.lreturn, 1) := by decide +kernel
theorem dX8_clearAccount_0 : decode cX8_clearAccount 0 = .ok (.aload_n 0, 1) := by decide +kernel
theorem dX8_clearAccount_1 : decode cX8_clearAccount 1 = .ok (.invokevirtual 105, 3) := by decide +kernel
theorem dX8_clearAccount_4 : decode cX8_clearAccount 4 = .ok (.aload_n 0, 1) := by decide +kernel
theorem dX8_clearAccount_5 : decode cX8_clearAccount 5 = .ok (.getfield 7, 3) := by decide +kernel
theorem dX8_clearAccount_8 : decode cX8_clearAccount 8 = .ok (.bipush 33, 2) := by decide +kernel
theorem dX8_clearAccount_10 : decode cX8_clearAccount 10 = .ok (.laload, 1) := by decide +kernel
theorem dX8_clearAccount_11 : decode cX8_clearAccount 11 = .ok (.lstore_n 1, 1) := by decide +kernel
theorem dX8_clearAccount_12 : decode cX8_clearAccount 12 = .ok (.iconst 0, 1) := by decide +kernel
theorem dX8_clearAccount_13 : decode cX8_clearAccount 13 = .ok (.istore_n 3, 1) := by decide +kernel
theorem dX8_clearAccount_14 : decode cX8_clearAccount 14 = .ok (.iload_n 3, 1) := by decide +kernel
theorem dX8_clearAccount_15 : decode cX8_clearAccount 15 = .ok (.bipush 6, 2) := by decide +kernel
theorem dX8_clearAccount_17 : decode cX8_clearAccount 17 = .ok (.if_icmp .gt 19, 3) := by decide +kernel
theorem dX8_clearAccount_20 : decode cX8_clearAccount 20 = .ok (.aload_n 0, 1) := by decide +kernel
theorem dX8_clearAccount_21 : decode cX8_clearAccount 21 = .ok (.getfield 7, 3) := by decide +kernel
theorem dX8_clearAccount_24 : decode cX8_clearAccount 24 = .ok (.bipush 33, 2) := by decide +kernel
theorem dX8_clearAccount_26 : decode cX8_clearAccount 26 = .ok (.iload_n 3, 1) := by decide +kernel
theorem dX8_clearAccount_27 : decode cX8_clearAccount 27 = .ok (.iadd, 1) := by decide +kernel
theorem dX8_clearAccount_28 : decode cX8_clearAccount 28 = .ok (.lconst 0, 1) := by decide +kernel
theorem dX8_clearAccount_29 : decode cX8_clearAccount 29 = .ok (.lastore, 1) := by decide +kernel
theorem dX8_clearAccount_30 : decode cX8_clearAccount 30 = .ok (.iinc 3 1, 3) := by decide +kernel
theorem dX8_clearAccount_33 : decode cX8_clearAccount 33 = .ok (.goto (-19), 3) := by decide +kernel
theorem dX8_clearAccount_36 : decode cX8_clearAccount 36 = .ok (.lload_n 1, 1) := by decide +kernel
theorem dX8_clearAccount_37 : decode cX8_clearAccount 37 = .ok (.ldc2_w 278, 3) := by decide +kernel
theorem dX8_clearAccount_40 : decode cX8_clearAccount 40 = .ok (.land, 1) := by decide +kernel
theorem dX8_clearAccount_41 : decode cX8_clearAccount 41 = .ok (.l2i, 1) := by decide +kernel
theorem dX8_clearAccount_42 : decode cX8_clearAccount 42 = .ok (.ireturn, 1) := by decide +kernel
theorem dX8_isNumber_0 : decode cX8_isNumber 0 = .ok (.iload_n 0, 1) := by decide +kernel
theorem dX8_isNumber_1 : decode cX8_isNumber 1 = .ok (.ldc 119, 2) := by decide +kernel
theorem dX8_isNumber_3 : decode cX8_isNumber 3 = .ok (.ldc 120, 2) := by decide +kernel
theorem dX8_isNumber_5 : decode cX8_isNumber 5 = .ok (.invokestatic 53, 3) := by decide +kernel
theorem dX8_isNumber_8 : decode cX8_isNumber 8 = .ok (.ireturn, 1) := by decide +kernel
theorem dX8_most_0 : decode cX8_most 0 = .ok (.aload_n 0, 1) := by decide +kernel
theorem dX8_most_1 : decode cX8_most 1 = .ok (.iload_n 1, 1) := by decide +kernel
theorem dX8_most_2 : decode cX8_most 2 = .ok (.iconst 0, 1) := by decide +kernel
theorem dX8_most_3 : decode cX8_most 3 = .ok (.invokevirtual 108, 3) := by decide +kernel
theorem dX8_most_6 : decode cX8_most 6 = .ok (.aload_n 0, 1) := by decide +kernel
theorem dX8_most_7 : decode cX8_most 7 = .ok (.iload_n 1, 1) := by decide +kernel
theorem dX8_most_8 : decode cX8_most 8 = .ok (.iconst 2, 1) := by decide +kernel
theorem dX8_most_9 : decode cX8_most 9 = .ok (.invokevirtual 108, 3) := by decide +kernel
theorem dX8_most_12 : decode cX8_most 12 = .ok (.invokestatic 71, 3) := by decide +kernel
theorem dX8_most_15 : decode cX8_most 15 = .ok (.lreturn, 1) := by decide +kernel
theorem dX8_isIn_0 : decode cX8_isIn 0 = .ok (.lload_n 2, 1) := by decide +kernel
theorem dX8_isIn_1 : decode cX8_isIn 1 = .ok (.lconst 0, 1) := by decide +kernel
theorem dX8_isIn_2 : decode cX8_isIn 2 = .ok (.lcmp, 1) := by decide +kernel
theorem dX8_isIn_3 : decode cX8_isIn 3 = .ok (.ifCond .ge 8, 3) := by decide +kernel
theorem dX8_isIn_6 : decode cX8_isIn 6 = .ok (.lload_n 2, 1) := by decide +kernel
theorem dX8_isIn_7 : decode cX8_isIn 7 = .ok (.lneg, 1) := by decide +kernel
theorem dX8_isIn_8 : decode cX8_isIn 8 = .ok (.goto 4, 3) := by decide +kernel
theorem dX8_isIn_11 : decode cX8_isIn 11 = .ok (.lload_n 2, 1) := by decide +kernel
theorem dX8_isIn_12 : decode cX8_isIn 12 = .ok (.lstore 4, 2) := by decide +kernel
theorem dX8_isIn_14 : decode cX8_isIn 14 = .ok (.lload 4, 2) := by decide +kernel
theorem dX8_isIn_16 : decode cX8_isIn 16 = .ok (.aload_n 0, 1) := by decide +kernel
theorem dX8_isIn_17 : decode cX8_isIn 17 = .ok (.iload_n 1, 1) := by decide +kernel
theorem dX8_isIn_18 : decode cX8_isIn 18 = .ok (.invokevirtual 280, 3) := by decide +kernel
theorem dX8_isIn_21 : decode cX8_isIn 21 = .ok (.lcmp, 1) := by decide +kernel
theorem dX8_isIn_22 : decode cX8_isIn 22 = .ok (.ifCond .gt 36, 3) := by decide +kernel
theorem dX8_isIn_25 : decode cX8_isIn 25 = .ok (.aload_n 0, 1) := by decide +kernel
theorem dX8_isIn_26 : decode cX8_isIn 26 = .ok (.iload_n 1, 1) := by decide +kernel
theorem dX8_isIn_27 : decode cX8_isIn 27 = .ok (.iconst 0, 1) := by decide +kernel
theorem dX8_isIn_28 : decode cX8_isIn 28 = .ok (.invokevirtual 108, 3) := by decide +kernel
theorem dX8_isIn_31 : decode cX8_isIn 31 = .ok (.aload_n 0, 1) := by decide +kernel
theorem dX8_isIn_32 : decode cX8_isIn 32 = .ok (.iload_n 1, 1) := by decide +kernel
theorem dX8_isIn_33 : decode cX8_isIn 33 = .ok (.iconst 1, 1) := by decide +kernel
theorem dX8_isIn_34 : decode cX8_isIn 34 = .ok (.invokevirtual 108, 3) := by decide +kernel
theorem dX8_isIn_37 : decode cX8_isIn 37 = .ok (.aload_n 0, 1) := by decide +kernel
theorem dX8_isIn_38 : decode cX8_isIn 38 = .ok (.iload_n 1, 1) := by decide +kernel
theorem dX8_isIn_39 : decode cX8_isIn 39 = .ok (.iconst 2, 1) := by decide +kernel
theorem dX8_isIn_40 : decode cX8_isIn 40 = .ok (.invokevirtual 108, 3) := by decide +kernel
theorem dX8_isIn_43 : decode cX8_isIn 43 = .ok (.lload 4, 2) := by decide +kernel
theorem dX8_isIn_45 : decode cX8_isIn 45 = .ok (.invokestatic 61, 3) := by decide +kernel
theorem dX8_isIn_48 : decode cX8_isIn 48 = .ok (.lload 4, 2) := by decide +kernel
theorem dX8_isIn_50 : decode cX8_isIn 50 = .ok (.lcmp, 1) := by decide +kernel
theorem dX8_isIn_51 : decode cX8_isIn 51 = .ok (.ifCond .ne 7, 3) := by decide +kernel
theorem dX8_isIn_54 : decode cX8_isIn 54 = .ok (.iconst 1, 1) := by decide +kernel
theorem dX8_isIn_55 : decode cX8_isIn 55 = .ok (.goto 4, 3) := by decide +kernel
theorem dX8_isIn_58 : decode cX8_isIn 58 = .ok (.iconst 0, 1) := by decide +kernel
theorem dX8_isIn_59 : decode cX8_isIn 59 = .ok (.ireturn, 1) := by decide +kernel
theorem dX8_isValue_0 : decode cX8_isValue 0 = .ok (.iload_n 1, 1) := by decide +kernel
theorem dX8_isValue_1 : decode cX8_isValue 1 = .ok (.invokestatic 100, 3) := by decide +kernel
theorem dX8_isValue_4 : decode cX8_isValue 4 = .ok (.ifCond .eq 10, 3) := by decide +kernel
theorem dX8_isValue_7 : decode cX8_isValue 7 = .ok (.iload_n 2, 1) := by decide +kernel
theorem dX8_isValue_8 : decode cX8_isValue 8 = .ok (.invokestatic 283, 3) := by decide +kernel
theorem dX8_isValue_11 : decode cX8_isValue 11 = .ok (.ifCond .ne 6, 3) := by decide +kernel
theorem dX8_isValue_14 : decode cX8_isValue 14 = .ok (.ldc 104, 2) := by decide +kernel
theorem dX8_isValue_16 : decode cX8_isValue 16 = .ok (.ireturn, 1) := by decide +kernel
theorem dX8_isValue_17 : decode cX8_isValue 17 = .ok (.aload_n 0, 1) := by decide +kernel
theorem dX8_isValue_18 : decode cX8_isValue 18 = .ok (.iload_n 1, 1) := by decide +kernel
theorem dX8_isValue_19 : decode cX8_isValue 19 = .ok (.iload_n 2, 1) := by decide +kernel
theorem dX8_isValue_20 : decode cX8_isValue 20 = .ok (.i2l, 1) := by decide +kernel
theorem dX8_isValue_21 : decode cX8_isValue 21 = .ok (.invokevirtual 286, 3) := by decide +kernel
theorem dX8_isValue_24 : decode cX8_isValue 24 = .ok (.ifCond .eq 7, 3) := by decide +kernel
theorem dX8_isValue_27 : decode cX8_isValue 27 = .ok (.iconst 1, 1) := by decide +kernel
theorem dX8_isValue_28 : decode cX8_isValue 28 = .ok (.goto 4, 3) := by decide +kernel
theorem dX8_isValue_31 : decode cX8_isValue 31 = .ok (.iconst 0, 1) := by decide +kernel
theorem dX8_isValue_32 : decode cX8_isValue 32 = .ok (.ireturn, 1) := by decide +kernel
theorem dX8_from_0 : decode cX8_from 0 = .ok (.lload_n 2, 1) := by decide +kernel
theorem dX8_from_1 : decode cX8_from 1 = .ok (.aload_n 0, 1) := by decide +kernel
theorem dX8_from_2 : decode cX8_from 2 = .ok (.iload_n 1, 1) := by decide +kernel
theorem dX8_from_3 : decode cX8_from 3 = .ok (.invokevirtual 280, 3) := by decide +kernel
theorem dX8_from_6 : decode cX8_from 6 = .ok (.lcmp, 1) := by decide +kernel
theorem dX8_from_7 : decode cX8_from 7 = .ok (.ifCond .le 7, 3) := by decide +kernel
theorem dX8_from_10 : decode cX8_from 10 = .ok (.ldc2_w 267, 3) := by decide +kernel
theorem dX8_from_13 : decode cX8_from 13 = .ok (.lreturn, 1) := by decide +kernel
theorem dX8_from_14 : decode cX8_from 14 = .ok (.lload_n 2, 1) := by decide +kernel
theorem dX8_from_15 : decode cX8_from 15 = .ok (.aload_n 0, 1) := by decide +kernel
theorem dX8_from_16 : decode cX8_from 16 = .ok (.iload_n 1, 1) := by decide +kernel
theorem dX8_from_17 : decode cX8_from 17 = .ok (.invokevirtual 280, 3) := by decide +kernel
theorem dX8_from_20 : decode cX8_from 20 = .ok (.lneg, 1) := by decide +kernel
theorem dX8_from_21 : decode cX8_from 21 = .ok (.lcmp, 1) := by decide +kernel
theorem dX8_from_22 : decode cX8_from 22 = .ok (.ifCond .ge 12, 3) := by decide +kernel
theorem dX8_from_25 : decode cX8_from 25 = .ok (.aload_n 0, 1) := by decide +kernel
theorem dX8_from_26 : decode cX8_from 26 = .ok (.iload_n 1, 1) := by decide +kernel
theorem dX8_from_27 : decode cX8_from 27 = .ok (.invokevirtual 280, 3) := by decide +kernel
theorem dX8_from_30 : decode cX8_from 30 = .ok (.lneg, 1) := by decide +kernel
theorem dX8_from_31 : decode cX8_from 31 = .ok (.goto 25, 3) := by decide +kernel
theorem dX8_from_34 : decode cX8_from 34 = .ok (.aload_n 0, 1) := by decide +kernel
theorem dX8_from_35 : decode cX8_from 35 = .ok (.iload_n 1, 1) := by decide +kernel
theorem dX8_from_36 : decode cX8_from 36 = .ok (.iconst 0, 1) := by decide +kernel
theorem dX8_from_37 : decode cX8_from 37 = .ok (.invokevirtual 108, 3) := by decide +kernel
theorem dX8_from_40 : decode cX8_from 40 = .ok (.aload_n 0, 1) := by decide +kernel
theorem dX8_from_41 : decode cX8_from 41 = .ok (.iload_n 1, 1) := by decide +kernel
theorem dX8_from_42 : decode cX8_from 42 = .ok (.iconst 1, 1) := by decide +kernel
theorem dX8_from_43 : decode cX8_from 43 = .ok (.invokevirtual 108, 3) := by decide +kernel
theorem dX8_from_46 : decode cX8_from 46 = .ok (.aload_n 0, 1) := by decide +kernel
theorem dX8_from_47 : decode cX8_from 47 = .ok (.iload_n 1, 1) := by decide +kernel
theorem dX8_from_48 : decode cX8_from 48 = .ok (.iconst 2, 1) := by decide +kernel
theorem dX8_from_49 : decode cX8_from 49 = .ok (.invokevirtual 108, 3) := by decide +kernel
theorem dX8_from_52 : decode cX8_from 52 = .ok (.lload_n 2, 1) := by decide +kernel
theorem dX8_from_53 : decode cX8_from 53 = .ok (.invokestatic 90, 3) := by decide +kernel
theorem dX8_from_56 : decode cX8_from 56 = .ok (.lreturn, 1) := by decide +kernel
theorem dX8_next_0 : decode cX8_next 0 = .ok (.iload_n 1, 1) := by decide +kernel
theorem dX8_next_1 : decode cX8_next 1 = .ok (.invokestatic 100, 3) := by decide +kernel
theorem dX8_next_4 : decode cX8_next 4 = .ok (.ifCond .eq 10, 3) := by decide +kernel
theorem dX8_next_7 : decode cX8_next 7 = .ok (.iload_n 2, 1) := by decide +kernel
theorem dX8_next_8 : decode cX8_next 8 = .ok (.invokestatic 283, 3) := by decide +kernel
theorem dX8_next_11 : decode cX8_next 11 = .ok (.ifCond .ne 6, 3) := by decide +kernel
theorem dX8_next_14 : decode cX8_next 14 = .ok (.ldc 104, 2) := by decide +kernel
theorem dX8_next_16 : decode cX8_next 16 = .ok (.ireturn, 1) := by decide +kernel
theorem dX8_next_17 : decode cX8_next 17 = .ok (.aload_n 0, 1) := by decide +kernel
theorem dX8_next_18 : decode cX8_next 18 = .ok (.iload_n 1, 1) := by decide +kernel
theorem dX8_next_19 : decode cX8_next 19 = .ok (.iload_n 3, 1) := by decide +kernel
theorem dX8_next_20 : decode cX8_next 20 = .ok (.ifCond .eq 10, 3) := by decide +kernel
theorem dX8_next_23 : decode cX8_next 23 = .ok (.lconst 1, 1) := by decide +kernel
theorem dX8_next_24 : decode cX8_next 24 = .ok (.iload_n 2, 1) := by decide +kernel
theorem dX8_next_25 : decode cX8_next 25 = .ok (.i2l, 1) := by decide +kernel
theorem dX8_next_26 : decode cX8_next 26 = .ok (.lsub, 1) := by decide +kernel
theorem dX8_next_27 : decode cX8_next 27 = .ok (.goto 7, 3) := by decide +kernel
theorem dX8_next_30 : decode cX8_next 30 = .ok (.lconst 1, 1) := by decide +kernel
theorem dX8_next_31 : decode cX8_next 31 = .ok (.iload_n 2, 1) := by decide +kernel
theorem dX8_next_32 : decode cX8_next 32 = .ok (.i2l, 1) := by decide +kernel
theorem dX8_next_33 : decode cX8_next 33 = .ok (.ladd, 1) := by decide +kernel
theorem dX8_next_34 : decode cX8_next 34 = .ok (.invokevirtual 290, 3) := by decide +kernel
theorem dX8_next_37 : decode cX8_next 37 = .ok (.lstore 4, 2) := by decide +kernel
theorem dX8_next_39 : decode cX8_next 39 = .ok (.lload 4, 2) := by decide +kernel
theorem dX8_next_41 : decode cX8_next 41 = .ok (.ldc2_w 267, 3) := by decide +kernel
theorem dX8_next_44 : decode cX8_next 44 = .ok (.lcmp, 1) := by decide +kernel
theorem dX8_next_45 : decode cX8_next 45 = .ok (.ifCond .ne 8, 3) := by decide +kernel
theorem dX8_next_48 : decode cX8_next 48 = .ok (.ldc 200, 2) := by decide +kernel
theorem dX8_next_50 : decode cX8_next 50 = .ok (.goto 16, 3) := by decide +kernel
theorem dX8_next_53 : decode cX8_next 53 = .ok (.iload_n 3, 1) := by decide +kernel
theorem dX8_next_54 : decode cX8_next 54 = .ok (.ifCond .eq 9, 3) := by decide +kernel
theorem dX8_next_57 : decode cX8_next 57 = .ok (.lload 4, 2) := by decide +kernel
theorem dX8_next_59 : decode cX8_next 59 = .ok (.lneg, 1) := by decide +kernel
theorem dX8_next_60 : decode cX8_next 60 = .ok (.goto 5, 3) := by decide +kernel
theorem dX8_next_63 : decode cX8_next 63 = .ok (.lload 4, 2) := by decide +kernel
theorem dX8_next_65 : decode cX8_next 65 = .ok (.l2i, 1) := by decide +kernel
theorem dX8_next_66 : decode cX8_next 66 = .ok (.ireturn, 1) := by decide +kernel
theorem dX8_upTo_0 : decode cX8_upTo 0 = .ok (.aload_n 0, 1) := by decide +kernel
theorem dX8_upTo_1 : decode cX8_upTo 1 = .ok (.iload_n 1, 1) := by decide +kernel
theorem dX8_upTo_2 : decode cX8_upTo 2 = .ok (.iconst 0, 1) := by decide +kernel
theorem dX8_upTo_3 : decode cX8_upTo 3 = .ok (.invokevirtual 108, 3) := by decide +kernel
theorem dX8_upTo_6 : decode cX8_upTo 6 = .ok (.istore 4, 2) := by decide +kernel
theorem dX8_upTo_8 : decode cX8_upTo 8 = .ok (.aload_n 0, 1) := by decide +kernel
theorem dX8_upTo_9 : decode cX8_upTo 9 = .ok (.iload_n 1, 1) := by decide +kernel
theorem dX8_upTo_10 : decode cX8_upTo 10 = .ok (.iconst 1, 1) := by decide +kernel
theorem dX8_upTo_11 : decode cX8_upTo 11 = .ok (.invokevirtual 108, 3) := by decide +kernel
theorem dX8_upTo_14 : decode cX8_upTo 14 = .ok (.istore 5, 2) := by decide +kernel
theorem dX8_upTo_16 : decode cX8_upTo 16 = .ok (.lload_n 2, 1) := by decide +kernel
theorem dX8_upTo_17 : decode cX8_upTo 17 = .ok (.aload_n 0, 1) := by decide +kernel
theorem dX8_upTo_18 : decode cX8_upTo 18 = .ok (.iload_n 1, 1) := by decide +kernel
theorem dX8_upTo_19 : decode cX8_upTo 19 = .ok (.invokevirtual 280, 3) := by decide +kernel
theorem dX8_upTo_22 : decode cX8_upTo 22 = .ok (.lcmp, 1) := by decide +kernel
theorem dX8_upTo_23 : decode cX8_upTo 23 = .ok (.ifCond .le 11, 3) := by decide +kernel
theorem dX8_upTo_26 : decode cX8_upTo 26 = .ok (.aload_n 0, 1) := by decide +kernel
theorem dX8_upTo_27 : decode cX8_upTo 27 = .ok (.iload_n 1, 1) := by decide +kernel
theorem dX8_upTo_28 : decode cX8_upTo 28 = .ok (.invokevirtual 280, 3) := by decide +kernel
theorem dX8_upTo_31 : decode cX8_upTo 31 = .ok (.goto 4, 3) := by decide +kernel
theorem dX8_upTo_34 : decode cX8_upTo 34 = .ok (.lload_n 2, 1) := by decide +kernel
theorem dX8_upTo_35 : decode cX8_upTo 35 = .ok (.lstore 6, 2) := by decide +kernel
theorem dX8_upTo_37 : decode cX8_upTo 37 = .ok (.iload 4, 2) := by decide +kernel
theorem dX8_upTo_39 : decode cX8_upTo 39 = .ok (.iload 5, 2) := by decide +kernel
theorem dX8_upTo_41 : decode cX8_upTo 41 = .ok (.aload_n 0, 1) := by decide +kernel
theorem dX8_upTo_42 : decode cX8_upTo 42 = .ok (.iload_n 1, 1) := by decide +kernel
theorem dX8_upTo_43 : decode cX8_upTo 43 = .ok (.iconst 2, 1) := by decide +kernel
theorem dX8_upTo_44 : decode cX8_upTo 44 = .ok (.invokevirtual 108, 3) := by decide +kernel
theorem dX8_upTo_47 : decode cX8_upTo 47 = .ok (.lload 6, 2) := by decide +kernel
theorem dX8_upTo_49 : decode cX8_upTo 49 = .ok (.invokestatic 57, 3) := by decide +kernel
theorem dX8_upTo_52 : decode cX8_upTo 52 = .ok (.istore 8, 2) := by decide +kernel
theorem dX8_upTo_54 : decode cX8_upTo 54 = .ok (.lload 6, 2) := by decide +kernel
theorem dX8_upTo_56 : decode cX8_upTo 56 = .ok (.iload 8, 2) := by decide +kernel
theorem dX8_upTo_58 : decode cX8_upTo 58 = .ok (.bipush 10, 2) := by decide +kernel
theorem dX8_upTo_60 : decode cX8_upTo 60 = .ok (.iadd, 1) := by decide +kernel
theorem dX8_upTo_61 : decode cX8_upTo 61 = .ok (.lshr, 1) := by decide +kernel
theorem dX8_upTo_62 : decode cX8_upTo 62 = .ok (.lstore 9, 2) := by decide +kernel
theorem dX8_upTo_64 : decode cX8_upTo 64 = .ok (.iload 8, 2) := by decide +kernel
theorem dX8_upTo_66 : decode cX8_upTo 66 = .ok (.iload 5, 2) := by decide +kernel
theorem dX8_upTo_68 : decode cX8_upTo 68 = .ok (.if_icmp .ne 8, 3) := by decide +kernel
theorem dX8_upTo_71 : decode cX8_upTo 71 = .ok (.lload 9, 2) := by decide +kernel
theorem dX8_upTo_73 : decode cX8_upTo 73 = .ok (.goto 37, 3) := by decide +kernel
theorem dX8_upTo_76 : decode cX8_upTo 76 = .ok (.lconst 1, 1) := by decide +kernel
theorem dX8_upTo_77 : decode cX8_upTo 77 = .ok (.iload 4, 2) := by decide +kernel
theorem dX8_upTo_79 : decode cX8_upTo 79 = .ok (.lshl, 1) := by decide +kernel
theorem dX8_upTo_80 : decode cX8_upTo 80 = .ok (.lconst 1, 1) := by decide +kernel
theorem dX8_upTo_81 : decode cX8_upTo 81 = .ok (.lsub, 1) := by decide +kernel
theorem dX8_upTo_82 : decode cX8_upTo 82 = .ok (.iload 8, 2) := by decide +kernel
theorem dX8_upTo_84 : decode cX8_upTo 84 = .ok (.iload 5, 2) := by decide +kernel
theorem dX8_upTo_86 : decode cX8_upTo 86 = .ok (.isub, 1) := by decide +kernel
theorem dX8_upTo_87 : decode cX8_upTo 87 = .ok (.iconst 1, 1) := by decide +kernel
theorem dX8_upTo_88 : decode cX8_upTo 88 = .ok (.isub, 1) := by decide +kernel
theorem dX8_upTo_89 : decode cX8_upTo 89 = .ok (.i2l, 1) := by decide +kernel
theorem dX8_upTo_90 : decode cX8_upTo 90 = .ok (.lconst 1, 1) := by decide +kernel
theorem dX8_upTo_91 : decode cX8_upTo 91 = .ok (.iload 4, 2) := by decide +kernel
theorem dX8_upTo_93 : decode cX8_upTo 93 = .ok (.iconst 1, 1) := by decide +kernel
theorem dX8_upTo_94 : decode cX8_upTo 94 = .ok (.isub, 1) := by decide +kernel
theorem dX8_upTo_95 : decode cX8_upTo 95 = .ok (.lshl, 1) := by decide +kernel
theorem dX8_upTo_96 : decode cX8_upTo 96 = .ok (.lmul, 1) := by decide +kernel
theorem dX8_upTo_97 : decode cX8_upTo 97 = .ok (.ladd, 1) := by decide +kernel
theorem dX8_upTo_98 : decode cX8_upTo 98 = .ok (.lload 9, 2) := by decide +kernel
theorem dX8_upTo_100 : decode cX8_upTo 100 = .ok (.ladd, 1) := by decide +kernel
theorem dX8_upTo_101 : decode cX8_upTo 101 = .ok (.lconst 1, 1) := by decide +kernel
theorem dX8_upTo_102 : decode cX8_upTo 102 = .ok (.iload 4, 2) := by decide +kernel
theorem dX8_upTo_104 : decode cX8_upTo 104 = .ok (.iconst 1, 1) := by decide +kernel
theorem dX8_upTo_105 : decode cX8_upTo 105 = .ok (.isub, 1) := by decide +kernel
theorem dX8_upTo_106 : decode cX8_upTo 106 = .ok (.lshl, 1) := by decide +kernel
theorem dX8_upTo_107 : decode cX8_upTo 107 = .ok (.lsub, 1) := by decide +kernel
theorem dX8_upTo_108 : decode cX8_upTo 108 = .ok (.lconst 1, 1) := by decide +kernel
theorem dX8_upTo_109 : decode cX8_upTo 109 = .ok (.ladd, 1) := by decide +kernel
theorem dX8_upTo_110 : decode cX8_upTo 110 = .ok (.lreturn, 1) := by decide +kernel
theorem dX8_ranks_0 : decode cX8_ranks 0 = .ok (.aload_n 0, 1) := by decide +kernel
theorem dX8_ranks_1 : decode cX8_ranks 1 = .ok (.iload_n 1, 1) := by decide +kernel
theorem dX8_ranks_2 : decode cX8_ranks 2 = .ok (.aload_n 0, 1) := by decide +kernel
theorem dX8_ranks_3 : decode cX8_ranks 3 = .ok (.iload_n 1, 1) := by decide +kernel
theorem dX8_ranks_4 : decode cX8_ranks 4 = .ok (.invokevirtual 280, 3) := by decide +kernel
theorem dX8_ranks_7 : decode cX8_ranks 7 = .ok (.invokevirtual 294, 3) := by decide +kernel
theorem dX8_ranks_10 : decode cX8_ranks 10 = .ok (.lstore 4, 2) := by decide +kernel
theorem dX8_ranks_12 : decode cX8_ranks 12 = .ok (.lload_n 2, 1) := by decide +kernel
theorem dX8_ranks_13 : decode cX8_ranks 13 = .ok (.lconst 0, 1) := by decide +kernel
theorem dX8_ranks_14 : decode cX8_ranks 14 = .ok (.lcmp, 1) := by decide +kernel
theorem dX8_ranks_15 : decode cX8_ranks 15 = .ok (.ifCond .lt 17, 3) := by decide +kernel
theorem dX8_ranks_18 : decode cX8_ranks 18 = .ok (.lload 4, 2) := by decide +kernel
theorem dX8_ranks_20 : decode cX8_ranks 20 = .ok (.lconst 1, 1) := by decide +kernel
theorem dX8_ranks_21 : decode cX8_ranks 21 = .ok (.ladd, 1) := by decide +kernel
theorem dX8_ranks_22 : decode cX8_ranks 22 = .ok (.aload_n 0, 1) := by decide +kernel
theorem dX8_ranks_23 : decode cX8_ranks 23 = .ok (.iload_n 1, 1) := by decide +kernel
theorem dX8_ranks_24 : decode cX8_ranks 24 = .ok (.lload_n 2, 1) := by decide +kernel
theorem dX8_ranks_25 : decode cX8_ranks 25 = .ok (.invokevirtual 294, 3) := by decide +kernel
theorem dX8_ranks_28 : decode cX8_ranks 28 = .ok (.ladd, 1) := by decide +kernel
theorem dX8_ranks_29 : decode cX8_ranks 29 = .ok (.goto 15, 3) := by decide +kernel
theorem dX8_ranks_32 : decode cX8_ranks 32 = .ok (.lload 4, 2) := by decide +kernel
theorem dX8_ranks_34 : decode cX8_ranks 34 = .ok (.aload_n 0, 1) := by decide +kernel
theorem dX8_ranks_35 : decode cX8_ranks 35 = .ok (.iload_n 1, 1) := by decide +kernel
theorem dX8_ranks_36 : decode cX8_ranks 36 = .ok (.lload_n 2, 1) := by decide +kernel
theorem dX8_ranks_37 : decode cX8_ranks 37 = .ok (.lneg, 1) := by decide +kernel
theorem dX8_ranks_38 : decode cX8_ranks 38 = .ok (.lconst 1, 1) := by decide +kernel
theorem dX8_ranks_39 : decode cX8_ranks 39 = .ok (.lsub, 1) := by decide +kernel
theorem dX8_ranks_40 : decode cX8_ranks 40 = .ok (.invokevirtual 294, 3) := by decide +kernel
theorem dX8_ranks_43 : decode cX8_ranks 43 = .ok (.lsub, 1) := by decide +kernel
theorem dX8_ranks_44 : decode cX8_ranks 44 = .ok (.lreturn, 1) := by decide +kernel
theorem dX8_countValues_0 : decode cX8_countValues 0 = .ok (.iload_n 1, 1) := by decide +kernel
theorem dX8_countValues_1 : decode cX8_countValues 1 = .ok (.invokestatic 100, 3) := by decide +kernel
theorem dX8_countValues_4 : decode cX8_countValues 4 = .ok (.ifCond .eq 17, 3) := by decide +kernel
theorem dX8_countValues_7 : decode cX8_countValues 7 = .ok (.aload_n 0, 1) := by decide +kernel
theorem dX8_countValues_8 : decode cX8_countValues 8 = .ok (.iload_n 1, 1) := by decide +kernel
theorem dX8_countValues_9 : decode cX8_countValues 9 = .ok (.aload_n 0, 1) := by decide +kernel
theorem dX8_countValues_10 : decode cX8_countValues 10 = .ok (.iload_n 1, 1) := by decide +kernel
theorem dX8_countValues_11 : decode cX8_countValues 11 = .ok (.invokevirtual 280, 3) := by decide +kernel
theorem dX8_countValues_14 : decode cX8_countValues 14 = .ok (.invokevirtual 297, 3) := by decide +kernel
theorem dX8_countValues_17 : decode cX8_countValues 17 = .ok (.l2i, 1) := by decide +kernel
theorem dX8_countValues_18 : decode cX8_countValues 18 = .ok (.goto 5, 3) := by decide +kernel
theorem dX8_countValues_21 : decode cX8_countValues 21 = .ok (.ldc 104, 2) := by decide +kernel
theorem dX8_countValues_23 : decode cX8_countValues 23 = .ok (.ireturn, 1) := by decide +kernel
theorem dX8_between_0 : decode cX8_between 0 = .ok (.iload_n 1, 1) := by decide +kernel
theorem dX8_between_1 : decode cX8_between 1 = .ok (.invokestatic 100, 3) := by decide +kernel
theorem dX8_between_4 : decode cX8_between 4 = .ok (.ifCond .eq 20, 3) := by decide +kernel
theorem dX8_between_7 : decode cX8_between 7 = .ok (.iload_n 2, 1) := by decide +kernel
theorem dX8_between_8 : decode cX8_between 8 = .ok (.invokestatic 283, 3) := by decide +kernel
theorem dX8_between_11 : decode cX8_between 11 = .ok (.ifCond .eq 13, 3) := by decide +kernel
theorem dX8_between_14 : decode cX8_between 14 = .ok (.iload_n 3, 1) := by decide +kernel
theorem dX8_between_15 : decode cX8_between 15 = .ok (.iload_n 2, 1) := by decide +kernel
theorem dX8_between_16 : decode cX8_between 16 = .ok (.ldc 120, 2) := by decide +kernel
theorem dX8_between_18 : decode cX8_between 18 = .ok (.invokestatic 53, 3) := by decide +kernel
theorem dX8_between_21 : decode cX8_between 21 = .ok (.ifCond .ne 6, 3) := by decide +kernel
theorem dX8_between_24 : decode cX8_between 24 = .ok (.ldc 104, 2) := by decide +kernel
theorem dX8_between_26 : decode cX8_between 26 = .ok (.ireturn, 1) := by decide +kernel
theorem dX8_between_27 : decode cX8_between 27 = .ok (.aload_n 0, 1) := by decide +kernel
theorem dX8_between_28 : decode cX8_between 28 = .ok (.iload_n 1, 1) := by decide +kernel
theorem dX8_between_29 : decode cX8_between 29 = .ok (.iload_n 3, 1) := by decide +kernel
theorem dX8_between_30 : decode cX8_between 30 = .ok (.i2l, 1) := by decide +kernel
theorem dX8_between_31 : decode cX8_between 31 = .ok (.invokevirtual 297, 3) := by decide +kernel
theorem dX8_between_34 : decode cX8_between 34 = .ok (.aload_n 0, 1) := by decide +kernel
theorem dX8_between_35 : decode cX8_between 35 = .ok (.iload_n 1, 1) := by decide +kernel
theorem dX8_between_36 : decode cX8_between 36 = .ok (.iload_n 2, 1) := by decide +kernel
theorem dX8_between_37 : decode cX8_between 37 = .ok (.i2l, 1) := by decide +kernel
theorem dX8_between_38 : decode cX8_between 38 = .ok (.lconst 1, 1) := by decide +kernel
theorem dX8_between_39 : decode cX8_between 39 = .ok (.lsub, 1) := by decide +kernel
theorem dX8_between_40 : decode cX8_between 40 = .ok (.invokevirtual 297, 3) := by decide +kernel
theorem dX8_between_43 : decode cX8_between 43 = .ok (.lsub, 1) := by decide +kernel
theorem dX8_between_44 : decode cX8_between 44 = .ok (.l2i, 1) := by decide +kernel
theorem dX8_between_45 : decode cX8_between 45 = .ok (.ireturn, 1) := by decide +kernel
theorem dX8_contains_0 : decode cX8_contains 0 = .ok (.iload_n 1, 1) := by decide +kernel
theorem dX8_contains_1 : decode cX8_contains 1 = .ok (.invokestatic 100, 3) := by decide +kernel
theorem dX8_contains_4 : decode cX8_contains 4 = .ok (.ifCond .eq 10, 3) := by decide +kernel
theorem dX8_contains_7 : decode cX8_contains 7 = .ok (.iload_n 2, 1) := by decide +kernel
theorem dX8_contains_8 : decode cX8_contains 8 = .ok (.invokestatic 100, 3) := by decide +kernel
theorem dX8_contains_11 : decode cX8_contains 11 = .ok (.ifCond .ne 6, 3) := by decide +kernel
theorem dX8_contains_14 : decode cX8_contains 14 = .ok (.ldc 104, 2) := by decide +kernel
theorem dX8_contains_16 : decode cX8_contains 16 = .ok (.ireturn, 1) := by decide +kernel
theorem dX8_contains_17 : decode cX8_contains 17 = .ok (.iconst 1, 1) := by decide +kernel
theorem dX8_contains_18 : decode cX8_contains 18 = .ok (.istore_n 3, 1) := by decide +kernel
theorem dX8_contains_19 : decode cX8_contains 19 = .ok (.aload_n 0, 1) := by decide +kernel
theorem dX8_contains_20 : decode cX8_contains 20 = .ok (.iload_n 2, 1) := by decide +kernel
theorem dX8_contains_21 : decode cX8_contains 21 = .ok (.iconst 1, 1) := by decide +kernel
theorem dX8_contains_22 : decode cX8_contains 22 = .ok (.invokevirtual 108, 3) := by decide +kernel
theorem dX8_contains_25 : decode cX8_contains 25 = .ok (.istore 4, 2) := by decide +kernel
theorem dX8_contains_27 : decode cX8_contains 27 = .ok (.iload 4, 2) := by decide +kernel
theorem dX8_contains_29 : decode cX8_contains 29 = .ok (.aload_n 0, 1) := by decide +kernel
theorem dX8_contains_30 : decode cX8_contains 30 = .ok (.iload_n 2, 1) := by decide +kernel
theorem dX8_contains_31 : decode cX8_contains 31 = .ok (.iconst 2, 1) := by decide +kernel
theorem dX8_contains_32 : decode cX8_contains 32 = .ok (.invokevirtual 108, 3) := by decide +kernel
theorem dX8_contains_35 : decode cX8_contains 35 = .ok (.if_icmp .gt 53, 3) := by decide +kernel
theorem dX8_contains_38 : decode cX8_contains 38 = .ok (.lconst 1, 1) := by decide +kernel
theorem dX8_contains_39 : decode cX8_contains 39 = .ok (.lstore 5, 2) := by decide +kernel
theorem dX8_contains_41 : decode cX8_contains 41 = .ok (.lload 5, 2) := by decide +kernel
theorem dX8_contains_43 : decode cX8_contains 43 = .ok (.lconst 1, 1) := by decide +kernel
theorem dX8_contains_44 : decode cX8_contains 44 = .ok (.aload_n 0, 1) := by decide +kernel
theorem dX8_contains_45 : decode cX8_contains 45 = .ok (.iload_n 2, 1) := by decide +kernel
theorem dX8_contains_46 : decode cX8_contains 46 = .ok (.iconst 0, 1) := by decide +kernel
theorem dX8_contains_47 : decode cX8_contains 47 = .ok (.invokevirtual 108, 3) := by decide +kernel
theorem dX8_contains_50 : decode cX8_contains 50 = .ok (.lshl, 1) := by decide +kernel
theorem dX8_contains_51 : decode cX8_contains 51 = .ok (.lcmp, 1) := by decide +kernel
theorem dX8_contains_52 : decode cX8_contains 52 = .ok (.ifCond .ge 30, 3) := by decide +kernel
theorem dX8_contains_55 : decode cX8_contains 55 = .ok (.iload_n 3, 1) := by decide +kernel
theorem dX8_contains_56 : decode cX8_contains 56 = .ok (.ifCond .eq 26, 3) := by decide +kernel
theorem dX8_contains_59 : decode cX8_contains 59 = .ok (.aload_n 0, 1) := by decide +kernel
theorem dX8_contains_60 : decode cX8_contains 60 = .ok (.iload_n 1, 1) := by decide +kernel
theorem dX8_contains_61 : decode cX8_contains 61 = .ok (.lload 5, 2) := by decide +kernel
theorem dX8_contains_63 : decode cX8_contains 63 = .ok (.iload 4, 2) := by decide +kernel
theorem dX8_contains_65 : decode cX8_contains 65 = .ok (.bipush 10, 2) := by decide +kernel
theorem dX8_contains_67 : decode cX8_contains 67 = .ok (.iadd, 1) := by decide +kernel
theorem dX8_contains_68 : decode cX8_contains 68 = .ok (.lshl, 1) := by decide +kernel
theorem dX8_contains_69 : decode cX8_contains 69 = .ok (.invokevirtual 286, 3) := by decide +kernel
theorem dX8_contains_72 : decode cX8_contains 72 = .ok (.istore_n 3, 1) := by decide +kernel
theorem dX8_contains_73 : decode cX8_contains 73 = .ok (.lload 5, 2) := by decide +kernel
theorem dX8_contains_75 : decode cX8_contains 75 = .ok (.lconst 1, 1) := by decide +kernel
theorem dX8_contains_76 : decode cX8_contains 76 = .ok (.ladd, 1) := by decide +kernel
theorem dX8_contains_77 : decode cX8_contains 77 = .ok (.lstore 5, 2) := by decide +kernel
theorem dX8_contains_79 : decode cX8_contains 79 = .ok (.goto (-38), 3) := by decide +kernel
theorem dX8_contains_82 : decode cX8_contains 82 = .ok (.iinc 4 1, 3) := by decide +kernel
theorem dX8_contains_85 : decode cX8_contains 85 = .ok (.goto (-58), 3) := by decide +kernel
theorem dX8_contains_88 : decode cX8_contains 88 = .ok (.iload_n 3, 1) := by decide +kernel
theorem dX8_contains_89 : decode cX8_contains 89 = .ok (.ifCond .eq 7, 3) := by decide +kernel
theorem dX8_contains_92 : decode cX8_contains 92 = .ok (.iconst 1, 1) := by decide +kernel
theorem dX8_contains_93 : decode cX8_contains 93 = .ok (.goto 4, 3) := by decide +kernel
theorem dX8_contains_96 : decode cX8_contains 96 = .ok (.iconst 0, 1) := by decide +kernel
theorem dX8_contains_97 : decode cX8_contains 97 = .ok (.ireturn, 1) := by decide +kernel
theorem dX8_undo_0 : decode cX8_undo 0 = .ok (.aload_n 0, 1) := by decide +kernel
theorem dX8_undo_1 : decode cX8_undo 1 = .ok (.getfield 49, 3) := by decide +kernel
theorem dX8_undo_4 : decode cX8_undo 4 = .ok (.ifCond .ne 6, 3) := by decide +kernel
theorem dX8_undo_7 : decode cX8_undo 7 = .ok (.ldc 186, 2) := by decide +kernel
theorem dX8_undo_9 : decode cX8_undo 9 = .ok (.ireturn, 1) := by decide +kernel
theorem dX8_undo_10 : decode cX8_undo 10 = .ok (.iconst 0, 1) := by decide +kernel
theorem dX8_undo_11 : decode cX8_undo 11 = .ok (.istore_n 1, 1) := by decide +kernel
theorem dX8_undo_12 : decode cX8_undo 12 = .ok (.iload_n 1, 1) := by decide +kernel
theorem dX8_undo_13 : decode cX8_undo 13 = .ok (.sipush 1128, 3) := by decide +kernel
theorem dX8_undo_16 : decode cX8_undo 16 = .ok (.if_icmp .ge 30, 3) := by decide +kernel
theorem dX8_undo_19 : decode cX8_undo 19 = .ok (.aload_n 0, 1) := by decide +kernel
theorem dX8_undo_20 : decode cX8_undo 20 = .ok (.getfield 7, 3) := by decide +kernel
theorem dX8_undo_23 : decode cX8_undo 23 = .ok (.iload_n 1, 1) := by decide +kernel
theorem dX8_undo_24 : decode cX8_undo 24 = .ok (.aload_n 0, 1) := by decide +kernel
theorem dX8_undo_25 : decode cX8_undo 25 = .ok (.getfield 7, 3) := by decide +kernel
theorem dX8_undo_28 : decode cX8_undo 28 = .ok (.sipush 1128, 3) := by decide +kernel
theorem dX8_undo_31 : decode cX8_undo 31 = .ok (.aload_n 0, 1) := by decide +kernel
theorem dX8_undo_32 : decode cX8_undo 32 = .ok (.getfield 49, 3) := by decide +kernel
theorem dX8_undo_35 : decode cX8_undo 35 = .ok (.imul, 1) := by decide +kernel
theorem dX8_undo_36 : decode cX8_undo 36 = .ok (.iload_n 1, 1) := by decide +kernel
theorem dX8_undo_37 : decode cX8_undo 37 = .ok (.iadd, 1) := by decide +kernel
theorem dX8_undo_38 : decode cX8_undo 38 = .ok (.laload, 1) := by decide +kernel
theorem dX8_undo_39 : decode cX8_undo 39 = .ok (.lastore, 1) := by decide +kernel
theorem dX8_undo_40 : decode cX8_undo 40 = .ok (.iinc 1 1, 3) := by decide +kernel
theorem dX8_undo_43 : decode cX8_undo 43 = .ok (.goto (-31), 3) := by decide +kernel
theorem dX8_undo_46 : decode cX8_undo 46 = .ok (.aload_n 0, 1) := by decide +kernel
theorem dX8_undo_47 : decode cX8_undo 47 = .ok (.dup, 1) := by decide +kernel
theorem dX8_undo_48 : decode cX8_undo 48 = .ok (.getfield 49, 3) := by decide +kernel
theorem dX8_undo_51 : decode cX8_undo 51 = .ok (.iconst 1, 1) := by decide +kernel
theorem dX8_undo_52 : decode cX8_undo 52 = .ok (.isub, 1) := by decide +kernel
theorem dX8_undo_53 : decode cX8_undo 53 = .ok (.putfield 49, 3) := by decide +kernel
theorem dX8_undo_56 : decode cX8_undo 56 = .ok (.aload_n 0, 1) := by decide +kernel
theorem dX8_undo_57 : decode cX8_undo 57 = .ok (.getfield 49, 3) := by decide +kernel
theorem dX8_undo_60 : decode cX8_undo 60 = .ok (.ireturn, 1) := by decide +kernel
theorem dX8_told_0 : decode cX8_told 0 = .ok (.iload_n 1, 1) := by decide +kernel
theorem dX8_told_1 : decode cX8_told 1 = .ok (.bipush 6, 2) := by decide +kernel
theorem dX8_told_3 : decode cX8_told 3 = .ok (.bipush 17, 2) := by decide +kernel
theorem dX8_told_5 : decode cX8_told 5 = .ok (.invokestatic 53, 3) := by decide +kernel
theorem dX8_told_8 : decode cX8_told 8 = .ok (.ifCond .eq 20, 3) := by decide +kernel
theorem dX8_told_11 : decode cX8_told 11 = .ok (.aload_n 0, 1) := by decide +kernel
theorem dX8_told_12 : decode cX8_told 12 = .ok (.iload_n 1, 1) := by decide +kernel
theorem dX8_told_13 : decode cX8_told 13 = .ok (.bipush 6, 2) := by decide +kernel
theorem dX8_told_15 : decode cX8_told 15 = .ok (.isub, 1) := by decide +kernel
theorem dX8_told_16 : decode cX8_told 16 = .ok (.iconst 4, 1) := by decide +kernel
theorem dX8_told_17 : decode cX8_told 17 = .ok (.irem, 1) := by decide +kernel
theorem dX8_told_18 : decode cX8_told 18 = .ok (.iload_n 1, 1) := by decide +kernel
theorem dX8_told_19 : decode cX8_told 19 = .ok (.bipush 6, 2) := by decide +kernel
theorem dX8_told_21 : decode cX8_told 21 = .ok (.isub, 1) := by decide +kernel
theorem dX8_told_22 : decode cX8_told 22 = .ok (.iconst 4, 1) := by decide +kernel
theorem dX8_told_23 : decode cX8_told 23 = .ok (.idiv, 1) := by decide +kernel
theorem dX8_told_24 : decode cX8_told 24 = .ok (.invokevirtual 108, 3) := by decide +kernel
theorem dX8_told_27 : decode cX8_told 27 = .ok (.ireturn, 1) := by decide +kernel
theorem dX8_told_28 : decode cX8_told 28 = .ok (.iload_n 1, 1) := by decide +kernel
theorem dX8_told_29 : decode cX8_told 29 = .ok (.tableswitch 85 0 5 #[39, 48, 57, 66, 75, 80], 39) := by decide +kernel
theorem dX8_told_68 : decode cX8_told 68 = .ok (.aload_n 0, 1) := by decide +kernel
theorem dX8_told_69 : decode cX8_told 69 = .ok (.getfield 7, 3) := by decide +kernel
theorem dX8_told_72 : decode cX8_told 72 = .ok (.bipush 28, 2) := by decide +kernel
theorem dX8_told_74 : decode cX8_told 74 = .ok (.laload, 1) := by decide +kernel
theorem dX8_told_75 : decode cX8_told 75 = .ok (.l2i, 1) := by decide +kernel
theorem dX8_told_76 : decode cX8_told 76 = .ok (.ireturn, 1) := by decide +kernel
theorem dX8_told_77 : decode cX8_told 77 = .ok (.aload_n 0, 1) := by decide +kernel
theorem dX8_told_78 : decode cX8_told 78 = .ok (.getfield 7, 3) := by decide +kernel
theorem dX8_told_81 : decode cX8_told 81 = .ok (.bipush 29, 2) := by decide +kernel
theorem dX8_told_83 : decode cX8_told 83 = .ok (.laload, 1) := by decide +kernel
theorem dX8_told_84 : decode cX8_told 84 = .ok (.l2i, 1) := by decide +kernel
theorem dX8_told_85 : decode cX8_told 85 = .ok (.ireturn, 1) := by decide +kernel
theorem dX8_told_86 : decode cX8_told 86 = .ok (.aload_n 0, 1) := by decide +kernel
theorem dX8_told_87 : decode cX8_told 87 = .ok (.getfield 7, 3) := by decide +kernel
theorem dX8_told_90 : decode cX8_told 90 = .ok (.bipush 30, 2) := by decide +kernel
theorem dX8_told_92 : decode cX8_told 92 = .ok (.laload, 1) := by decide +kernel
theorem dX8_told_93 : decode cX8_told 93 = .ok (.l2i, 1) := by decide +kernel
theorem dX8_told_94 : decode cX8_told 94 = .ok (.ireturn, 1) := by decide +kernel
theorem dX8_told_95 : decode cX8_told 95 = .ok (.aload_n 0, 1) := by decide +kernel
theorem dX8_told_96 : decode cX8_told 96 = .ok (.getfield 7, 3) := by decide +kernel
theorem dX8_told_99 : decode cX8_told 99 = .ok (.bipush 31, 2) := by decide +kernel
theorem dX8_told_101 : decode cX8_told 101 = .ok (.laload, 1) := by decide +kernel
theorem dX8_told_102 : decode cX8_told 102 = .ok (.l2i, 1) := by decide +kernel
theorem dX8_told_103 : decode cX8_told 103 = .ok (.ireturn, 1) := by decide +kernel
theorem dX8_told_104 : decode cX8_told 104 = .ok (.aload_n 0, 1) := by decide +kernel
theorem dX8_told_105 : decode cX8_told 105 = .ok (.getfield 49, 3) := by decide +kernel
theorem dX8_told_108 : decode cX8_told 108 = .ok (.ireturn, 1) := by decide +kernel
theorem dX8_told_109 : decode cX8_told 109 = .ok (.aload_n 0, 1) := by decide +kernel
theorem dX8_told_110 : decode cX8_told 110 = .ok (.getfield 193, 3) := by decide +kernel
theorem dX8_told_113 : decode cX8_told 113 = .ok (.ireturn, 1) := by decide +kernel
theorem dX8_told_114 : decode cX8_told 114 = .ok (.ldc 104, 2) := by decide +kernel
theorem dX8_told_116 : decode cX8_told 116 = .ok (.ireturn, 1) := by decide +kernel
theorem dX8_digest_0 : decode cX8_digest 0 = .ok (.ldc2_w 300, 3) := by decide +kernel
theorem dX8_digest_3 : decode cX8_digest 3 = .ok (.lstore_n 1, 1) := by decide +kernel
theorem dX8_digest_4 : decode cX8_digest 4 = .ok (.iconst 0, 1) := by decide +kernel
theorem dX8_digest_5 : decode cX8_digest 5 = .ok (.istore_n 3, 1) := by decide +kernel
theorem dX8_digest_6 : decode cX8_digest 6 = .ok (.iload_n 3, 1) := by decide +kernel
theorem dX8_digest_7 : decode cX8_digest 7 = .ok (.bipush 17, 2) := by decide +kernel
theorem dX8_digest_9 : decode cX8_digest 9 = .ok (.if_icmp .gt 22, 3) := by decide +kernel
theorem dX8_digest_12 : decode cX8_digest 12 = .ok (.ldc2_w 302, 3) := by decide +kernel
theorem dX8_digest_15 : decode cX8_digest 15 = .ok (.lload_n 1, 1) := by decide +kernel
theorem dX8_digest_16 : decode cX8_digest 16 = .ok (.lmul, 1) := by decide +kernel
theorem dX8_digest_17 : decode cX8_digest 17 = .ok (.aload_n 0, 1) := by decide +kernel
theorem dX8_digest_18 : decode cX8_digest 18 = .ok (.iload_n 3, 1) := by decide +kernel
theorem dX8_digest_19 : decode cX8_digest 19 = .ok (.invokevirtual 304, 3) := by decide +kernel
theorem dX8_digest_22 : decode cX8_digest 22 = .ok (.i2l, 1) := by decide +kernel
theorem dX8_digest_23 : decode cX8_digest 23 = .ok (.ladd, 1) := by decide +kernel
theorem dX8_digest_24 : decode cX8_digest 24 = .ok (.lstore_n 1, 1) := by decide +kernel
theorem dX8_digest_25 : decode cX8_digest 25 = .ok (.iinc 3 1, 3) := by decide +kernel
theorem dX8_digest_28 : decode cX8_digest 28 = .ok (.goto (-22), 3) := by decide +kernel
theorem dX8_digest_31 : decode cX8_digest 31 = .ok (.iconst 0, 1) := by decide +kernel
theorem dX8_digest_32 : decode cX8_digest 32 = .ok (.istore_n 3, 1) := by decide +kernel
theorem dX8_digest_33 : decode cX8_digest 33 = .ok (.iload_n 3, 1) := by decide +kernel
theorem dX8_digest_34 : decode cX8_digest 34 = .ok (.bipush 8, 2) := by decide +kernel
theorem dX8_digest_36 : decode cX8_digest 36 = .ok (.if_icmp .ge 38, 3) := by decide +kernel
theorem dX8_digest_39 : decode cX8_digest 39 = .ok (.ldc2_w 302, 3) := by decide +kernel
theorem dX8_digest_42 : decode cX8_digest 42 = .ok (.lload_n 1, 1) := by decide +kernel
theorem dX8_digest_43 : decode cX8_digest 43 = .ok (.lmul, 1) := by decide +kernel
theorem dX8_digest_44 : decode cX8_digest 44 = .ok (.aload_n 0, 1) := by decide +kernel
theorem dX8_digest_45 : decode cX8_digest 45 = .ok (.iload_n 3, 1) := by decide +kernel
theorem dX8_digest_46 : decode cX8_digest 46 = .ok (.invokevirtual 112, 3) := by decide +kernel
theorem dX8_digest_49 : decode cX8_digest 49 = .ok (.i2l, 1) := by decide +kernel
theorem dX8_digest_50 : decode cX8_digest 50 = .ok (.ladd, 1) := by decide +kernel
theorem dX8_digest_51 : decode cX8_digest 51 = .ok (.lstore_n 1, 1) := by decide +kernel
theorem dX8_digest_52 : decode cX8_digest 52 = .ok (.ldc2_w 302, 3) := by decide +kernel
theorem dX8_digest_55 : decode cX8_digest 55 = .ok (.lload_n 1, 1) := by decide +kernel
theorem dX8_digest_56 : decode cX8_digest 56 = .ok (.lmul, 1) := by decide +kernel
theorem dX8_digest_57 : decode cX8_digest 57 = .ok (.aload_n 0, 1) := by decide +kernel
theorem dX8_digest_58 : decode cX8_digest 58 = .ok (.getfield 7, 3) := by decide +kernel
theorem dX8_digest_61 : decode cX8_digest 61 = .ok (.bipush 20, 2) := by decide +kernel
theorem dX8_digest_63 : decode cX8_digest 63 = .ok (.iload_n 3, 1) := by decide +kernel
theorem dX8_digest_64 : decode cX8_digest 64 = .ok (.iadd, 1) := by decide +kernel
theorem dX8_digest_65 : decode cX8_digest 65 = .ok (.laload, 1) := by decide +kernel
theorem dX8_digest_66 : decode cX8_digest 66 = .ok (.ladd, 1) := by decide +kernel
theorem dX8_digest_67 : decode cX8_digest 67 = .ok (.lstore_n 1, 1) := by decide +kernel
theorem dX8_digest_68 : decode cX8_digest 68 = .ok (.iinc 3 1, 3) := by decide +kernel
theorem dX8_digest_71 : decode cX8_digest 71 = .ok (.goto (-38), 3) := by decide +kernel
theorem dX8_digest_74 : decode cX8_digest 74 = .ok (.iconst 0, 1) := by decide +kernel
theorem dX8_digest_75 : decode cX8_digest 75 = .ok (.istore_n 3, 1) := by decide +kernel
theorem dX8_digest_76 : decode cX8_digest 76 = .ok (.iload_n 3, 1) := by decide +kernel
theorem dX8_digest_77 : decode cX8_digest 77 = .ok (.bipush 6, 2) := by decide +kernel
theorem dX8_digest_79 : decode cX8_digest 79 = .ok (.if_icmp .gt 25, 3) := by decide +kernel
theorem dX8_digest_82 : decode cX8_digest 82 = .ok (.ldc2_w 302, 3) := by decide +kernel
theorem dX8_digest_85 : decode cX8_digest 85 = .ok (.lload_n 1, 1) := by decide +kernel
theorem dX8_digest_86 : decode cX8_digest 86 = .ok (.lmul, 1) := by decide +kernel
theorem dX8_digest_87 : decode cX8_digest 87 = .ok (.aload_n 0, 1) := by decide +kernel
theorem dX8_digest_88 : decode cX8_digest 88 = .ok (.getfield 7, 3) := by decide +kernel
theorem dX8_digest_91 : decode cX8_digest 91 = .ok (.bipush 33, 2) := by decide +kernel
theorem dX8_digest_93 : decode cX8_digest 93 = .ok (.iload_n 3, 1) := by decide +kernel
theorem dX8_digest_94 : decode cX8_digest 94 = .ok (.iadd, 1) := by decide +kernel
theorem dX8_digest_95 : decode cX8_digest 95 = .ok (.laload, 1) := by decide +kernel
theorem dX8_digest_96 : decode cX8_digest 96 = .ok (.ladd, 1) := by decide +kernel
theorem dX8_digest_97 : decode cX8_digest 97 = .ok (.lstore_n 1, 1) := by decide +kernel
theorem dX8_digest_98 : decode cX8_digest 98 = .ok (.iinc 3 1, 3) := by decide +kernel
theorem dX8_digest_101 : decode cX8_digest 101 = .ok (.goto (-25), 3) := by decide +kernel
theorem dX8_digest_104 : decode cX8_digest 104 = .ok (.ldc2_w 302, 3) := by decide +kernel
theorem dX8_digest_107 : decode cX8_digest 107 = .ok (.lload_n 1, 1) := by decide +kernel
theorem dX8_digest_108 : decode cX8_digest 108 = .ok (.lmul, 1) := by decide +kernel
theorem dX8_digest_109 : decode cX8_digest 109 = .ok (.aload_n 0, 1) := by decide +kernel
theorem dX8_digest_110 : decode cX8_digest 110 = .ok (.getfield 249, 3) := by decide +kernel
theorem dX8_digest_113 : decode cX8_digest 113 = .ok (.i2l, 1) := by decide +kernel
theorem dX8_digest_114 : decode cX8_digest 114 = .ok (.ladd, 1) := by decide +kernel
theorem dX8_digest_115 : decode cX8_digest 115 = .ok (.lstore_n 1, 1) := by decide +kernel
theorem dX8_digest_116 : decode cX8_digest 116 = .ok (.iconst 0, 1) := by decide +kernel
theorem dX8_digest_117 : decode cX8_digest 117 = .ok (.istore_n 3, 1) := by decide +kernel
theorem dX8_digest_118 : decode cX8_digest 118 = .ok (.iload_n 3, 1) := by decide +kernel
theorem dX8_digest_119 : decode cX8_digest 119 = .ok (.i2l, 1) := by decide +kernel
theorem dX8_digest_120 : decode cX8_digest 120 = .ok (.aload_n 0, 1) := by decide +kernel
theorem dX8_digest_121 : decode cX8_digest 121 = .ok (.getfield 7, 3) := by decide +kernel
theorem dX8_digest_124 : decode cX8_digest 124 = .ok (.bipush 32, 2) := by decide +kernel
theorem dX8_digest_126 : decode cX8_digest 126 = .ok (.laload, 1) := by decide +kernel
theorem dX8_digest_127 : decode cX8_digest 127 = .ok (.lcmp, 1) := by decide +kernel
theorem dX8_digest_128 : decode cX8_digest 128 = .ok (.ifCond .ge 102, 3) := by decide +kernel
theorem dX8_digest_131 : decode cX8_digest 131 = .ok (.ldc2_w 302, 3) := by decide +kernel
theorem dX8_digest_134 : decode cX8_digest 134 = .ok (.lload_n 1, 1) := by decide +kernel
theorem dX8_digest_135 : decode cX8_digest 135 = .ok (.lmul, 1) := by decide +kernel
theorem dX8_digest_136 : decode cX8_digest 136 = .ok (.aload_n 0, 1) := by decide +kernel
theorem dX8_digest_137 : decode cX8_digest 137 = .ok (.iload_n 3, 1) := by decide +kernel
theorem dX8_digest_138 : decode cX8_digest 138 = .ok (.invokevirtual 307, 3) := by decide +kernel
theorem dX8_digest_141 : decode cX8_digest 141 = .ok (.i2l, 1) := by decide +kernel
theorem dX8_digest_142 : decode cX8_digest 142 = .ok (.ladd, 1) := by decide +kernel
theorem dX8_digest_143 : decode cX8_digest 143 = .ok (.lstore_n 1, 1) := by decide +kernel
theorem dX8_digest_144 : decode cX8_digest 144 = .ok (.ldc2_w 302, 3) := by decide +kernel
theorem dX8_digest_147 : decode cX8_digest 147 = .ok (.lload_n 1, 1) := by decide +kernel
theorem dX8_digest_148 : decode cX8_digest 148 = .ok (.lmul, 1) := by decide +kernel
theorem dX8_digest_149 : decode cX8_digest 149 = .ok (.aload_n 0, 1) := by decide +kernel
theorem dX8_digest_150 : decode cX8_digest 150 = .ok (.iload_n 3, 1) := by decide +kernel
theorem dX8_digest_151 : decode cX8_digest 151 = .ok (.invokevirtual 310, 3) := by decide +kernel
theorem dX8_digest_154 : decode cX8_digest 154 = .ok (.i2l, 1) := by decide +kernel
theorem dX8_digest_155 : decode cX8_digest 155 = .ok (.ladd, 1) := by decide +kernel
theorem dX8_digest_156 : decode cX8_digest 156 = .ok (.lstore_n 1, 1) := by decide +kernel
theorem dX8_digest_157 : decode cX8_digest 157 = .ok (.ldc2_w 302, 3) := by decide +kernel
theorem dX8_digest_160 : decode cX8_digest 160 = .ok (.lload_n 1, 1) := by decide +kernel
theorem dX8_digest_161 : decode cX8_digest 161 = .ok (.lmul, 1) := by decide +kernel
theorem dX8_digest_162 : decode cX8_digest 162 = .ok (.aload_n 0, 1) := by decide +kernel
theorem dX8_digest_163 : decode cX8_digest 163 = .ok (.iload_n 3, 1) := by decide +kernel
theorem dX8_digest_164 : decode cX8_digest 164 = .ok (.invokevirtual 313, 3) := by decide +kernel
theorem dX8_digest_167 : decode cX8_digest 167 = .ok (.i2l, 1) := by decide +kernel
theorem dX8_digest_168 : decode cX8_digest 168 = .ok (.ladd, 1) := by decide +kernel
theorem dX8_digest_169 : decode cX8_digest 169 = .ok (.lstore_n 1, 1) := by decide +kernel
theorem dX8_digest_170 : decode cX8_digest 170 = .ok (.ldc2_w 302, 3) := by decide +kernel
theorem dX8_digest_173 : decode cX8_digest 173 = .ok (.lload_n 1, 1) := by decide +kernel
theorem dX8_digest_174 : decode cX8_digest 174 = .ok (.lmul, 1) := by decide +kernel
theorem dX8_digest_175 : decode cX8_digest 175 = .ok (.aload_n 0, 1) := by decide +kernel
theorem dX8_digest_176 : decode cX8_digest 176 = .ok (.iload_n 3, 1) := by decide +kernel
theorem dX8_digest_177 : decode cX8_digest 177 = .ok (.iconst 0, 1) := by decide +kernel
theorem dX8_digest_178 : decode cX8_digest 178 = .ok (.invokevirtual 316, 3) := by decide +kernel
theorem dX8_digest_181 : decode cX8_digest 181 = .ok (.i2l, 1) := by decide +kernel
theorem dX8_digest_182 : decode cX8_digest 182 = .ok (.ladd, 1) := by decide +kernel
theorem dX8_digest_183 : decode cX8_digest 183 = .ok (.lstore_n 1, 1) := by decide +kernel
theorem dX8_digest_184 : decode cX8_digest 184 = .ok (.ldc2_w 302, 3) := by decide +kernel
theorem dX8_digest_187 : decode cX8_digest 187 = .ok (.lload_n 1, 1) := by decide +kernel
theorem dX8_digest_188 : decode cX8_digest 188 = .ok (.lmul, 1) := by decide +kernel
theorem dX8_digest_189 : decode cX8_digest 189 = .ok (.aload_n 0, 1) := by decide +kernel
theorem dX8_digest_190 : decode cX8_digest 190 = .ok (.iload_n 3, 1) := by decide +kernel
theorem dX8_digest_191 : decode cX8_digest 191 = .ok (.iconst 1, 1) := by decide +kernel
theorem dX8_digest_192 : decode cX8_digest 192 = .ok (.invokevirtual 316, 3) := by decide +kernel
theorem dX8_digest_195 : decode cX8_digest 195 = .ok (.i2l, 1) := by decide +kernel
theorem dX8_digest_196 : decode cX8_digest 196 = .ok (.ladd, 1) := by decide +kernel
theorem dX8_digest_197 : decode cX8_digest 197 = .ok (.lstore_n 1, 1) := by decide +kernel
theorem dX8_digest_198 : decode cX8_digest 198 = .ok (.ldc2_w 302, 3) := by decide +kernel
theorem dX8_digest_201 : decode cX8_digest 201 = .ok (.lload_n 1, 1) := by decide +kernel
theorem dX8_digest_202 : decode cX8_digest 202 = .ok (.lmul, 1) := by decide +kernel
theorem dX8_digest_203 : decode cX8_digest 203 = .ok (.aload_n 0, 1) := by decide +kernel
theorem dX8_digest_204 : decode cX8_digest 204 = .ok (.iload_n 3, 1) := by decide +kernel
theorem dX8_digest_205 : decode cX8_digest 205 = .ok (.invokevirtual 320, 3) := by decide +kernel
theorem dX8_digest_208 : decode cX8_digest 208 = .ok (.i2l, 1) := by decide +kernel
theorem dX8_digest_209 : decode cX8_digest 209 = .ok (.ladd, 1) := by decide +kernel
theorem dX8_digest_210 : decode cX8_digest 210 = .ok (.lstore_n 1, 1) := by decide +kernel
theorem dX8_digest_211 : decode cX8_digest 211 = .ok (.ldc2_w 302, 3) := by decide +kernel
theorem dX8_digest_214 : decode cX8_digest 214 = .ok (.lload_n 1, 1) := by decide +kernel
theorem dX8_digest_215 : decode cX8_digest 215 = .ok (.lmul, 1) := by decide +kernel
theorem dX8_digest_216 : decode cX8_digest 216 = .ok (.aload_n 0, 1) := by decide +kernel
theorem dX8_digest_217 : decode cX8_digest 217 = .ok (.iload_n 3, 1) := by decide +kernel
theorem dX8_digest_218 : decode cX8_digest 218 = .ok (.invokevirtual 323, 3) := by decide +kernel
theorem dX8_digest_221 : decode cX8_digest 221 = .ok (.i2l, 1) := by decide +kernel
theorem dX8_digest_222 : decode cX8_digest 222 = .ok (.ladd, 1) := by decide +kernel
theorem dX8_digest_223 : decode cX8_digest 223 = .ok (.lstore_n 1, 1) := by decide +kernel
theorem dX8_digest_224 : decode cX8_digest 224 = .ok (.iinc 3 1, 3) := by decide +kernel
theorem dX8_digest_227 : decode cX8_digest 227 = .ok (.goto (-109), 3) := by decide +kernel
theorem dX8_digest_230 : decode cX8_digest 230 = .ok (.lload_n 1, 1) := by decide +kernel
theorem dX8_digest_231 : decode cX8_digest 231 = .ok (.lreturn, 1) := by decide +kernel
