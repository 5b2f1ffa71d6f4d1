theorem dX0_init_0 : decode cX0_init 0 = .ok (.aload_n 0, 1) := by decide +kernel
theorem dX0_init_1 : decode cX0_init 1 = .ok (.invokespecial 3, 3) := by decide +kernel
theorem dX0_init_4 : decode cX0_init 4 = .ok (.aload_n 0, 1) := by decide +kernel
theorem dX0_init_5 : decode cX0_init 5 = .ok (.iconst 4, 1) := by decide +kernel
theorem dX0_init_6 : decode cX0_init 6 = .ok (.putfield 9, 3) := by decide +kernel
theorem dX0_init_9 : decode cX0_init 9 = .ok (.aload_n 0, 1) := by decide +kernel
theorem dX0_init_10 : decode cX0_init 10 = .ok (.bipush (-4), 2) := by decide +kernel
theorem dX0_init_12 : decode cX0_init 12 = .ok (.putfield 15, 3) := by decide +kernel
theorem dX0_init_15 : decode cX0_init 15 = .ok (.aload_n 0, 1) := by decide +kernel
theorem dX0_init_16 : decode cX0_init 16 = .ok (.iconst 3, 1) := by decide +kernel
theorem dX0_init_17 : decode cX0_init 17 = .ok (.putfield 18, 3) := by decide +kernel
theorem dX0_init_20 : decode cX0_init 20 = .ok (.return_, 1) := by decide +kernel
theorem dX0_isPossible_0 : decode cX0_isPossible 0 = .ok (.iload_n 0, 1) := by decide +kernel
theorem dX0_isPossible_1 : decode cX0_isPossible 1 = .ok (.iconst 1, 1) := by decide +kernel
theorem dX0_isPossible_2 : decode cX0_isPossible 2 = .ok (.if_icmp .lt 41, 3) := by decide +kernel
theorem dX0_isPossible_5 : decode cX0_isPossible 5 = .ok (.iload_n 0, 1) := by decide +kernel
theorem dX0_isPossible_6 : decode cX0_isPossible 6 = .ok (.bipush 10, 2) := by decide +kernel
theorem dX0_isPossible_8 : decode cX0_isPossible 8 = .ok (.if_icmp .gt 35, 3) := by decide +kernel
theorem dX0_isPossible_11 : decode cX0_isPossible 11 = .ok (.iload_n 1, 1) := by decide +kernel
theorem dX0_isPossible_12 : decode cX0_isPossible 12 = .ok (.bipush (-10), 2) := by decide +kernel
theorem dX0_isPossible_14 : decode cX0_isPossible 14 = .ok (.if_icmp .lt 29, 3) := by decide +kernel
theorem dX0_isPossible_17 : decode cX0_isPossible 17 = .ok (.iload_n 1, 1) := by decide +kernel
theorem dX0_isPossible_18 : decode cX0_isPossible 18 = .ok (.ifCond .gt 25, 3) := by decide +kernel
theorem dX0_isPossible_21 : decode cX0_isPossible 21 = .ok (.iload_n 2, 1) := by decide +kernel
theorem dX0_isPossible_22 : decode cX0_isPossible 22 = .ok (.ifCond .lt 21, 3) := by decide +kernel
theorem dX0_isPossible_25 : decode cX0_isPossible 25 = .ok (.iload_n 2, 1) := by decide +kernel
theorem dX0_isPossible_26 : decode cX0_isPossible 26 = .ok (.bipush 9, 2) := by decide +kernel
theorem dX0_isPossible_28 : decode cX0_isPossible 28 = .ok (.if_icmp .gt 15, 3) := by decide +kernel
theorem dX0_isPossible_31 : decode cX0_isPossible 31 = .ok (.iload_n 0, 1) := by decide +kernel
theorem dX0_isPossible_32 : decode cX0_isPossible 32 = .ok (.iload_n 2, 1) := by decide +kernel
theorem dX0_isPossible_33 : decode cX0_isPossible 33 = .ok (.iadd, 1) := by decide +kernel
theorem dX0_isPossible_34 : decode cX0_isPossible 34 = .ok (.bipush 10, 2) := by decide +kernel
theorem dX0_isPossible_36 : decode cX0_isPossible 36 = .ok (.if_icmp .gt 7, 3) := by decide +kernel
theorem dX0_isPossible_39 : decode cX0_isPossible 39 = .ok (.iconst 1, 1) := by decide +kernel
theorem dX0_isPossible_40 : decode cX0_isPossible 40 = .ok (.goto 4, 3) := by decide +kernel
theorem dX0_isPossible_43 : decode cX0_isPossible 43 = .ok (.iconst 0, 1) := by decide +kernel
theorem dX0_isPossible_44 : decode cX0_isPossible 44 = .ok (.ireturn, 1) := by decide +kernel
theorem dX0_define_0 : decode cX0_define 0 = .ok (.aload_n 0, 1) := by decide +kernel
theorem dX0_define_1 : decode cX0_define 1 = .ok (.iload_n 1, 1) := by decide +kernel
theorem dX0_define_2 : decode cX0_define 2 = .ok (.putfield 9, 3) := by decide +kernel
theorem dX0_define_5 : decode cX0_define 5 = .ok (.aload_n 0, 1) := by decide +kernel
theorem dX0_define_6 : decode cX0_define 6 = .ok (.iload_n 2, 1) := by decide +kernel
theorem dX0_define_7 : decode cX0_define 7 = .ok (.putfield 15, 3) := by decide +kernel
theorem dX0_define_10 : decode cX0_define 10 = .ok (.aload_n 0, 1) := by decide +kernel
theorem dX0_define_11 : decode cX0_define 11 = .ok (.iload_n 3, 1) := by decide +kernel
theorem dX0_define_12 : decode cX0_define 12 = .ok (.putfield 18, 3) := by decide +kernel
theorem dX0_define_15 : decode cX0_define 15 = .ok (.return_, 1) := by decide +kernel
theorem dX0_top_0 : decode cX0_top 0 = .ok (.iconst 1, 1) := by decide +kernel
theorem dX0_top_1 : decode cX0_top 1 = .ok (.aload_n 0, 1) := by decide +kernel
theorem dX0_top_2 : decode cX0_top 2 = .ok (.getfield 9, 3) := by decide +kernel
theorem dX0_top_5 : decode cX0_top 5 = .ok (.ishl, 1) := by decide +kernel
theorem dX0_top_6 : decode cX0_top 6 = .ok (.iconst 1, 1) := by decide +kernel
theorem dX0_top_7 : decode cX0_top 7 = .ok (.isub, 1) := by decide +kernel
theorem dX0_top_8 : decode cX0_top 8 = .ok (.aload_n 0, 1) := by decide +kernel
theorem dX0_top_9 : decode cX0_top 9 = .ok (.getfield 18, 3) := by decide +kernel
theorem dX0_top_12 : decode cX0_top 12 = .ok (.bipush 10, 2) := by decide +kernel
theorem dX0_top_14 : decode cX0_top 14 = .ok (.iadd, 1) := by decide +kernel
theorem dX0_top_15 : decode cX0_top 15 = .ok (.ishl, 1) := by decide +kernel
theorem dX0_top_16 : decode cX0_top 16 = .ok (.ireturn, 1) := by decide +kernel
theorem dX0_spacingBits_0 : decode cX0_spacingBits 0 = .ok (.aload_n 0, 1) := by decide +kernel
theorem dX0_spacingBits_1 : decode cX0_spacingBits 1 = .ok (.getfield 18, 3) := by decide +kernel
theorem dX0_spacingBits_4 : decode cX0_spacingBits 4 = .ok (.bipush 10, 2) := by decide +kernel
theorem dX0_spacingBits_6 : decode cX0_spacingBits 6 = .ok (.iadd, 1) := by decide +kernel
theorem dX0_spacingBits_7 : decode cX0_spacingBits 7 = .ok (.istore_n 2, 1) := by decide +kernel
theorem dX0_spacingBits_8 : decode cX0_spacingBits 8 = .ok (.aload_n 0, 1) := by decide +kernel
theorem dX0_spacingBits_9 : decode cX0_spacingBits 9 = .ok (.getfield 15, 3) := by decide +kernel
theorem dX0_spacingBits_12 : decode cX0_spacingBits 12 = .ok (.bipush 10, 2) := by decide +kernel
theorem dX0_spacingBits_14 : decode cX0_spacingBits 14 = .ok (.iadd, 1) := by decide +kernel
theorem dX0_spacingBits_15 : decode cX0_spacingBits 15 = .ok (.istore_n 3, 1) := by decide +kernel
theorem dX0_spacingBits_16 : decode cX0_spacingBits 16 = .ok (.iload_n 3, 1) := by decide +kernel
theorem dX0_spacingBits_17 : decode cX0_spacingBits 17 = .ok (.iload_n 2, 1) := by decide +kernel
theorem dX0_spacingBits_18 : decode cX0_spacingBits 18 = .ok (.if_icmp .ge 21, 3) := by decide +kernel
theorem dX0_spacingBits_21 : decode cX0_spacingBits 21 = .ok (.iload_n 1, 1) := by decide +kernel
theorem dX0_spacingBits_22 : decode cX0_spacingBits 22 = .ok (.iload_n 3, 1) := by decide +kernel
theorem dX0_spacingBits_23 : decode cX0_spacingBits 23 = .ok (.ishr, 1) := by decide +kernel
theorem dX0_spacingBits_24 : decode cX0_spacingBits 24 = .ok (.iconst 1, 1) := by decide +kernel
theorem dX0_spacingBits_25 : decode cX0_spacingBits 25 = .ok (.aload_n 0, 1) := by decide +kernel
theorem dX0_spacingBits_26 : decode cX0_spacingBits 26 = .ok (.getfield 9, 3) := by decide +kernel
theorem dX0_spacingBits_29 : decode cX0_spacingBits 29 = .ok (.ishl, 1) := by decide +kernel
theorem dX0_spacingBits_30 : decode cX0_spacingBits 30 = .ok (.if_icmp .lt 9, 3) := by decide +kernel
theorem dX0_spacingBits_33 : decode cX0_spacingBits 33 = .ok (.iinc 3 1, 3) := by decide +kernel
theorem dX0_spacingBits_36 : decode cX0_spacingBits 36 = .ok (.goto (-20), 3) := by decide +kernel
theorem dX0_spacingBits_39 : decode cX0_spacingBits 39 = .ok (.iload_n 3, 1) := by decide +kernel
theorem dX0_spacingBits_40 : decode cX0_spacingBits 40 = .ok (.ireturn, 1) := by decide +kernel
theorem dX0_atMost_0 : decode cX0_atMost 0 = .ok (.aload_n 0, 1) := by decide +kernel
theorem dX0_atMost_1 : decode cX0_atMost 1 = .ok (.invokevirtual 21, 3) := by decide +kernel
theorem dX0_atMost_4 : decode cX0_atMost 4 = .ok (.istore_n 2, 1) := by decide +kernel
theorem dX0_atMost_5 : decode cX0_atMost 5 = .ok (.iload_n 2, 1) := by decide +kernel
theorem dX0_atMost_6 : decode cX0_atMost 6 = .ok (.ineg, 1) := by decide +kernel
theorem dX0_atMost_7 : decode cX0_atMost 7 = .ok (.iload_n 1, 1) := by decide +kernel
theorem dX0_atMost_8 : decode cX0_atMost 8 = .ok (.iload_n 2, 1) := by decide +kernel
theorem dX0_atMost_9 : decode cX0_atMost 9 = .ok (.invokestatic 25, 3) := by decide +kernel
theorem dX0_atMost_12 : decode cX0_atMost 12 = .ok (.invokestatic 31, 3) := by decide +kernel
theorem dX0_atMost_15 : decode cX0_atMost 15 = .ok (.istore_n 3, 1) := by decide +kernel
theorem dX0_atMost_16 : decode cX0_atMost 16 = .ok (.aload_n 0, 1) := by decide +kernel
theorem dX0_atMost_17 : decode cX0_atMost 17 = .ok (.iload_n 3, 1) := by decide +kernel
theorem dX0_atMost_18 : decode cX0_atMost 18 = .ok (.invokestatic 34, 3) := by decide +kernel
theorem dX0_atMost_21 : decode cX0_atMost 21 = .ok (.invokevirtual 38, 3) := by decide +kernel
theorem dX0_atMost_24 : decode cX0_atMost 24 = .ok (.istore 4, 2) := by decide +kernel
theorem dX0_atMost_26 : decode cX0_atMost 26 = .ok (.iload_n 3, 1) := by decide +kernel
theorem dX0_atMost_27 : decode cX0_atMost 27 = .ok (.iload 4, 2) := by decide +kernel
theorem dX0_atMost_29 : decode cX0_atMost 29 = .ok (.ishr, 1) := by decide +kernel
theorem dX0_atMost_30 : decode cX0_atMost 30 = .ok (.iload 4, 2) := by decide +kernel
theorem dX0_atMost_32 : decode cX0_atMost 32 = .ok (.ishl, 1) := by decide +kernel
theorem dX0_atMost_33 : decode cX0_atMost 33 = .ok (.ireturn, 1) := by decide +kernel
theorem dX0_has_0 : decode cX0_has 0 = .ok (.aload_n 0, 1) := by decide +kernel
theorem dX0_has_1 : decode cX0_has 1 = .ok (.iload_n 1, 1) := by decide +kernel
theorem dX0_has_2 : decode cX0_has 2 = .ok (.invokevirtual 41, 3) := by decide +kernel
theorem dX0_has_5 : decode cX0_has 5 = .ok (.iload_n 1, 1) := by decide +kernel
theorem dX0_has_6 : decode cX0_has 6 = .ok (.if_icmp .ne 7, 3) := by decide +kernel
theorem dX0_has_9 : decode cX0_has 9 = .ok (.iconst 1, 1) := by decide +kernel
theorem dX0_has_10 : decode cX0_has 10 = .ok (.goto 4, 3) := by decide +kernel
theorem dX0_has_13 : decode cX0_has 13 = .ok (.iconst 0, 1) := by decide +kernel
theorem dX0_has_14 : decode cX0_has 14 = .ok (.ireturn, 1) := by decide +kernel
theorem dX0_countPositivesUpTo_0 : decode cX0_countPositivesUpTo 0 = .ok (.iload_n 1, 1) := by decide +kernel
theorem dX0_countPositivesUpTo_1 : decode cX0_countPositivesUpTo 1 = .ok (.aload_n 0, 1) := by decide +kernel
theorem dX0_countPositivesUpTo_2 : decode cX0_countPositivesUpTo 2 = .ok (.invokevirtual 21, 3) := by decide +kernel
theorem dX0_countPositivesUpTo_5 : decode cX0_countPositivesUpTo 5 = .ok (.invokestatic 25, 3) := by decide +kernel
theorem dX0_countPositivesUpTo_8 : decode cX0_countPositivesUpTo 8 = .ok (.istore_n 2, 1) := by decide +kernel
theorem dX0_countPositivesUpTo_9 : decode cX0_countPositivesUpTo 9 = .ok (.aload_n 0, 1) := by decide +kernel
theorem dX0_countPositivesUpTo_10 : decode cX0_countPositivesUpTo 10 = .ok (.iload_n 2, 1) := by decide +kernel
theorem dX0_countPositivesUpTo_11 : decode cX0_countPositivesUpTo 11 = .ok (.invokevirtual 38, 3) := by decide +kernel
theorem dX0_countPositivesUpTo_14 : decode cX0_countPositivesUpTo 14 = .ok (.istore_n 3, 1) := by decide +kernel
theorem dX0_countPositivesUpTo_15 : decode cX0_countPositivesUpTo 15 = .ok (.iload_n 3, 1) := by decide +kernel
theorem dX0_countPositivesUpTo_16 : decode cX0_countPositivesUpTo 16 = .ok (.aload_n 0, 1) := by decide +kernel
theorem dX0_countPositivesUpTo_17 : decode cX0_countPositivesUpTo 17 = .ok (.getfield 15, 3) := by decide +kernel
theorem dX0_countPositivesUpTo_20 : decode cX0_countPositivesUpTo 20 = .ok (.isub, 1) := by decide +kernel
theorem dX0_countPositivesUpTo_21 : decode cX0_countPositivesUpTo 21 = .ok (.bipush 10, 2) := by decide +kernel
theorem dX0_countPositivesUpTo_23 : decode cX0_countPositivesUpTo 23 = .ok (.isub, 1) := by decide +kernel
theorem dX0_countPositivesUpTo_24 : decode cX0_countPositivesUpTo 24 = .ok (.istore 4, 2) := by decide +kernel
theorem dX0_countPositivesUpTo_26 : decode cX0_countPositivesUpTo 26 = .ok (.iload 4, 2) := by decide +kernel
theorem dX0_countPositivesUpTo_28 : decode cX0_countPositivesUpTo 28 = .ok (.aload_n 0, 1) := by decide +kernel
theorem dX0_countPositivesUpTo_29 : decode cX0_countPositivesUpTo 29 = .ok (.getfield 9, 3) := by decide +kernel
theorem dX0_countPositivesUpTo_32 : decode cX0_countPositivesUpTo 32 = .ok (.iconst 1, 1) := by decide +kernel
theorem dX0_countPositivesUpTo_33 : decode cX0_countPositivesUpTo 33 = .ok (.isub, 1) := by decide +kernel
theorem dX0_countPositivesUpTo_34 : decode cX0_countPositivesUpTo 34 = .ok (.ishl, 1) := by decide +kernel
theorem dX0_countPositivesUpTo_35 : decode cX0_countPositivesUpTo 35 = .ok (.iload_n 2, 1) := by decide +kernel
theorem dX0_countPositivesUpTo_36 : decode cX0_countPositivesUpTo 36 = .ok (.iload_n 3, 1) := by decide +kernel
theorem dX0_countPositivesUpTo_37 : decode cX0_countPositivesUpTo 37 = .ok (.ishr, 1) := by decide +kernel
theorem dX0_countPositivesUpTo_38 : decode cX0_countPositivesUpTo 38 = .ok (.iadd, 1) := by decide +kernel
theorem dX0_countPositivesUpTo_39 : decode cX0_countPositivesUpTo 39 = .ok (.ireturn, 1) := by decide +kernel
theorem dX0_countUpTo_0 : decode cX0_countUpTo 0 = .ok (.aload_n 0, 1) := by decide +kernel
theorem dX0_countUpTo_1 : decode cX0_countUpTo 1 = .ok (.aload_n 0, 1) := by decide +kernel
theorem dX0_countUpTo_2 : decode cX0_countUpTo 2 = .ok (.invokevirtual 21, 3) := by decide +kernel
theorem dX0_countUpTo_5 : decode cX0_countUpTo 5 = .ok (.invokevirtual 44, 3) := by decide +kernel
theorem dX0_countUpTo_8 : decode cX0_countUpTo 8 = .ok (.istore_n 2, 1) := by decide +kernel
theorem dX0_countUpTo_9 : decode cX0_countUpTo 9 = .ok (.iload_n 1, 1) := by decide +kernel
theorem dX0_countUpTo_10 : decode cX0_countUpTo 10 = .ok (.ifCond .ge 14, 3) := by decide +kernel
theorem dX0_countUpTo_13 : decode cX0_countUpTo 13 = .ok (.iload_n 2, 1) := by decide +kernel
theorem dX0_countUpTo_14 : decode cX0_countUpTo 14 = .ok (.aload_n 0, 1) := by decide +kernel
theorem dX0_countUpTo_15 : decode cX0_countUpTo 15 = .ok (.iload_n 1, 1) := by decide +kernel
theorem dX0_countUpTo_16 : decode cX0_countUpTo 16 = .ok (.ineg, 1) := by decide +kernel
theorem dX0_countUpTo_17 : decode cX0_countUpTo 17 = .ok (.iconst 1, 1) := by decide +kernel
theorem dX0_countUpTo_18 : decode cX0_countUpTo 18 = .ok (.isub, 1) := by decide +kernel
theorem dX0_countUpTo_19 : decode cX0_countUpTo 19 = .ok (.invokevirtual 44, 3) := by decide +kernel
theorem dX0_countUpTo_22 : decode cX0_countUpTo 22 = .ok (.isub, 1) := by decide +kernel
theorem dX0_countUpTo_23 : decode cX0_countUpTo 23 = .ok (.ireturn, 1) := by decide +kernel
theorem dX0_countUpTo_24 : decode cX0_countUpTo 24 = .ok (.iload_n 2, 1) := by decide +kernel
theorem dX0_countUpTo_25 : decode cX0_countUpTo 25 = .ok (.iconst 1, 1) := by decide +kernel
theorem dX0_countUpTo_26 : decode cX0_countUpTo 26 = .ok (.iadd, 1) := by decide +kernel
theorem dX0_countUpTo_27 : decode cX0_countUpTo 27 = .ok (.aload_n 0, 1) := by decide +kernel
theorem dX0_countUpTo_28 : decode cX0_countUpTo 28 = .ok (.iload_n 1, 1) := by decide +kernel
theorem dX0_countUpTo_29 : decode cX0_countUpTo 29 = .ok (.invokevirtual 44, 3) := by decide +kernel
theorem dX0_countUpTo_32 : decode cX0_countUpTo 32 = .ok (.iadd, 1) := by decide +kernel
theorem dX0_countUpTo_33 : decode cX0_countUpTo 33 = .ok (.ireturn, 1) := by decide +kernel
theorem dX0_covers_0 : decode cX0_covers 0 = .ok (.iconst 1, 1) := by decide +kernel
theorem dX0_covers_1 : decode cX0_covers 1 = .ok (.aload_n 1, 1) := by decide +kernel
theorem dX0_covers_2 : decode cX0_covers 2 = .ok (.getfield 9, 3) := by decide +kernel
theorem dX0_covers_5 : decode cX0_covers 5 = .ok (.ishl, 1) := by decide +kernel
theorem dX0_covers_6 : decode cX0_covers 6 = .ok (.iconst 1, 1) := by decide +kernel
theorem dX0_covers_7 : decode cX0_covers 7 = .ok (.isub, 1) := by decide +kernel
theorem dX0_covers_8 : decode cX0_covers 8 = .ok (.istore_n 2, 1) := by decide +kernel
theorem dX0_covers_9 : decode cX0_covers 9 = .ok (.aload_n 1, 1) := by decide +kernel
theorem dX0_covers_10 : decode cX0_covers 10 = .ok (.getfield 15, 3) := by decide +kernel
theorem dX0_covers_13 : decode cX0_covers 13 = .ok (.istore_n 3, 1) := by decide +kernel
theorem dX0_covers_14 : decode cX0_covers 14 = .ok (.iload_n 3, 1) := by decide +kernel
theorem dX0_covers_15 : decode cX0_covers 15 = .ok (.aload_n 1, 1) := by decide +kernel
theorem dX0_covers_16 : decode cX0_covers 16 = .ok (.getfield 18, 3) := by decide +kernel
theorem dX0_covers_19 : decode cX0_covers 19 = .ok (.if_icmp .gt 24, 3) := by decide +kernel
theorem dX0_covers_22 : decode cX0_covers 22 = .ok (.aload_n 0, 1) := by decide +kernel
theorem dX0_covers_23 : decode cX0_covers 23 = .ok (.iload_n 2, 1) := by decide +kernel
theorem dX0_covers_24 : decode cX0_covers 24 = .ok (.iload_n 3, 1) := by decide +kernel
theorem dX0_covers_25 : decode cX0_covers 25 = .ok (.bipush 10, 2) := by decide +kernel
theorem dX0_covers_27 : decode cX0_covers 27 = .ok (.iadd, 1) := by decide +kernel
theorem dX0_covers_28 : decode cX0_covers 28 = .ok (.ishl, 1) := by decide +kernel
theorem dX0_covers_29 : decode cX0_covers 29 = .ok (.invokevirtual 47, 3) := by decide +kernel
theorem dX0_covers_32 : decode cX0_covers 32 = .ok (.ifCond .ne 5, 3) := by decide +kernel
theorem dX0_covers_35 : decode cX0_covers 35 = .ok (.iconst 0, 1) := by decide +kernel
theorem dX0_covers_36 : decode cX0_covers 36 = .ok (.ireturn, 1) := by decide +kernel
theorem dX0_covers_37 : decode cX0_covers 37 = .ok (.iinc 3 1, 3) := by decide +kernel
theorem dX0_covers_40 : decode cX0_covers 40 = .ok (.goto (-26), 3) := by decide +kernel
theorem dX0_covers_43 : decode cX0_covers 43 = .ok (.iconst 1, 1) := by decide +kernel
theorem dX0_covers_44 : decode cX0_covers 44 = .ok (.ireturn, 1) := by decide +kernel
theorem dX1_init_0 : decode cX1_init 0 = .ok (.aload_n 0, 1) := by decide +kernel
theorem dX1_init_1 : decode cX1_init 1 = .ok (.invokespecial 1, 3) := by decide +kernel
theorem dX1_init_4 : decode cX1_init 4 = .ok (.aload_n 0, 1) := by decide +kernel
theorem dX1_init_5 : decode cX1_init 5 = .ok (.bipush 6, 2) := by decide +kernel
theorem dX1_init_7 : decode cX1_init 7 = .ok (.anewarray 9, 3) := by decide +kernel
theorem dX1_init_10 : decode cX1_init 10 = .ok (.putfield 11, 3) := by decide +kernel
theorem dX1_init_13 : decode cX1_init 13 = .ok (.aload_n 0, 1) := by decide +kernel
theorem dX1_init_14 : decode cX1_init 14 = .ok (.bipush 6, 2) := by decide +kernel
theorem dX1_init_16 : decode cX1_init 16 = .ok (.anewarray 15, 3) := by decide +kernel
theorem dX1_init_19 : decode cX1_init 19 = .ok (.putfield 17, 3) := by decide +kernel
theorem dX1_init_22 : decode cX1_init 22 = .ok (.iconst 0, 1) := by decide +kernel
theorem dX1_init_23 : decode cX1_init 23 = .ok (.istore_n 1, 1) := by decide +kernel
theorem dX1_init_24 : decode cX1_init 24 = .ok (.iload_n 1, 1) := by decide +kernel
theorem dX1_init_25 : decode cX1_init 25 = .ok (.bipush 6, 2) := by decide +kernel
theorem dX1_init_27 : decode cX1_init 27 = .ok (.if_icmp .ge 35, 3) := by decide +kernel
theorem dX1_init_30 : decode cX1_init 30 = .ok (.aload_n 0, 1) := by decide +kernel
theorem dX1_init_31 : decode cX1_init 31 = .ok (.getfield 11, 3) := by decide +kernel
theorem dX1_init_34 : decode cX1_init 34 = .ok (.iload_n 1, 1) := by decide +kernel
theorem dX1_init_35 : decode cX1_init 35 = .ok (.new 9, 3) := by decide +kernel
theorem dX1_init_38 : decode cX1_init 38 = .ok (.dup, 1) := by decide +kernel
theorem dX1_init_39 : decode cX1_init 39 = .ok (.invokespecial 21, 3) := by decide +kernel
theorem dX1_init_42 : decode cX1_init 42 = .ok (.aastore, 1) := by decide +kernel
theorem dX1_init_43 : decode cX1_init 43 = .ok (.aload_n 0, 1) := by decide +kernel
theorem dX1_init_44 : decode cX1_init 44 = .ok (.getfield 17, 3) := by decide +kernel
theorem dX1_init_47 : decode cX1_init 47 = .ok (.iload_n 1, 1) := by decide +kernel
theorem dX1_init_48 : decode cX1_init 48 = .ok (.new 15, 3) := by decide +kernel
theorem dX1_init_51 : decode cX1_init 51 = .ok (.dup, 1) := by decide +kernel
theorem dX1_init_52 : decode cX1_init 52 = .ok (.invokespecial 22, 3) := by decide +kernel
theorem dX1_init_55 : decode cX1_init 55 = .ok (.aastore, 1) := by decide +kernel
theorem dX1_init_56 : decode cX1_init 56 = .ok (.iinc 1 1, 3) := by decide +kernel
theorem dX1_init_59 : decode cX1_init 59 = .ok (.goto (-35), 3) := by decide +kernel
theorem dX1_init_62 : decode cX1_init 62 = .ok (.return_, 1) := by decide +kernel
theorem dX1_keep_0 : decode cX1_keep 0 = .ok (.aload_n 0, 1) := by decide +kernel
theorem dX1_keep_1 : decode cX1_keep 1 = .ok (.getfield 23, 3) := by decide +kernel
theorem dX1_keep_4 : decode cX1_keep 4 = .ok (.aload_n 0, 1) := by decide +kernel
theorem dX1_keep_5 : decode cX1_keep 5 = .ok (.getfield 27, 3) := by decide +kernel
theorem dX1_keep_8 : decode cX1_keep 8 = .ok (.iadd, 1) := by decide +kernel
theorem dX1_keep_9 : decode cX1_keep 9 = .ok (.bipush 6, 2) := by decide +kernel
theorem dX1_keep_11 : decode cX1_keep 11 = .ok (.irem, 1) := by decide +kernel
theorem dX1_keep_12 : decode cX1_keep 12 = .ok (.istore_n 3, 1) := by decide +kernel
theorem dX1_keep_13 : decode cX1_keep 13 = .ok (.aload_n 0, 1) := by decide +kernel
theorem dX1_keep_14 : decode cX1_keep 14 = .ok (.getfield 11, 3) := by decide +kernel
theorem dX1_keep_17 : decode cX1_keep 17 = .ok (.iload_n 3, 1) := by decide +kernel
theorem dX1_keep_18 : decode cX1_keep 18 = .ok (.aaload, 1) := by decide +kernel
theorem dX1_keep_19 : decode cX1_keep 19 = .ok (.aload_n 1, 1) := by decide +kernel
theorem dX1_keep_20 : decode cX1_keep 20 = .ok (.invokevirtual 30, 3) := by decide +kernel
theorem dX1_keep_23 : decode cX1_keep 23 = .ok (.aload_n 0, 1) := by decide +kernel
theorem dX1_keep_24 : decode cX1_keep 24 = .ok (.getfield 17, 3) := by decide +kernel
theorem dX1_keep_27 : decode cX1_keep 27 = .ok (.iload_n 3, 1) := by decide +kernel
theorem dX1_keep_28 : decode cX1_keep 28 = .ok (.aaload, 1) := by decide +kernel
theorem dX1_keep_29 : decode cX1_keep 29 = .ok (.aload_n 2, 1) := by decide +kernel
theorem dX1_keep_30 : decode cX1_keep 30 = .ok (.invokevirtual 34, 3) := by decide +kernel
theorem dX1_keep_33 : decode cX1_keep 33 = .ok (.aload_n 0, 1) := by decide +kernel
theorem dX1_keep_34 : decode cX1_keep 34 = .ok (.getfield 27, 3) := by decide +kernel
theorem dX1_keep_37 : decode cX1_keep 37 = .ok (.bipush 6, 2) := by decide +kernel
theorem dX1_keep_39 : decode cX1_keep 39 = .ok (.if_icmp .ge 16, 3) := by decide +kernel
theorem dX1_keep_42 : decode cX1_keep 42 = .ok (.aload_n 0, 1) := by decide +kernel
theorem dX1_keep_43 : decode cX1_keep 43 = .ok (.dup, 1) := by decide +kernel
theorem dX1_keep_44 : decode cX1_keep 44 = .ok (.getfield 27, 3) := by decide +kernel
theorem dX1_keep_47 : decode cX1_keep 47 = .ok (.iconst 1, 1) := by decide +kernel
theorem dX1_keep_48 : decode cX1_keep 48 = .ok (.iadd, 1) := by decide +kernel
theorem dX1_keep_49 : decode cX1_keep 49 = .ok (.putfield 27, 3) := by decide +kernel
theorem dX1_keep_52 : decode cX1_keep 52 = .ok (.goto 16, 3) := by decide +kernel
theorem dX1_keep_55 : decode cX1_keep 55 = .ok (.aload_n 0, 1) := by decide +kernel
theorem dX1_keep_56 : decode cX1_keep 56 = .ok (.aload_n 0, 1) := by decide +kernel
theorem dX1_keep_57 : decode cX1_keep 57 = .ok (.getfield 23, 3) := by decide +kernel
theorem dX1_keep_60 : decode cX1_keep 60 = .ok (.iconst 1, 1) := by decide +kernel
theorem dX1_keep_61 : decode cX1_keep 61 = .ok (.iadd, 1) := by decide +kernel
theorem dX1_keep_62 : decode cX1_keep 62 = .ok (.bipush 6, 2) := by decide +kernel
theorem dX1_keep_64 : decode cX1_keep 64 = .ok (.irem, 1) := by decide +kernel
theorem dX1_keep_65 : decode cX1_keep 65 = .ok (.putfield 23, 3) := by decide +kernel
theorem dX1_keep_68 : decode cX1_keep 68 = .ok (.return_, 1) := by decide +kernel
theorem dX1_restore_0 : decode cX1_restore 0 = .ok (.aload_n 0, 1) := by decide +kernel
theorem dX1_restore_1 : decode cX1_restore 1 = .ok (.getfield 27, 3) := by decide +kernel
theorem dX1_restore_4 : decode cX1_restore 4 = .ok (.iconst 1, 1) := by decide +kernel
theorem dX1_restore_5 : decode cX1_restore 5 = .ok (.if_icmp .ge 5, 3) := by decide +kernel
theorem dX1_restore_8 : decode cX1_restore 8 = .ok (.iconst 0, 1) := by decide +kernel
theorem dX1_restore_9 : decode cX1_restore 9 = .ok (.ireturn, 1) := by decide +kernel
theorem dX1_restore_10 : decode cX1_restore 10 = .ok (.aload_n 0, 1) := by decide +kernel
theorem dX1_restore_11 : decode cX1_restore 11 = .ok (.dup, 1) := by decide +kernel
theorem dX1_restore_12 : decode cX1_restore 12 = .ok (.getfield 27, 3) := by decide +kernel
theorem dX1_restore_15 : decode cX1_restore 15 = .ok (.iconst 1, 1) := by decide +kernel
theorem dX1_restore_16 : decode cX1_restore 16 = .ok (.isub, 1) := by decide +kernel
theorem dX1_restore_17 : decode cX1_restore 17 = .ok (.putfield 27, 3) := by decide +kernel
theorem dX1_restore_20 : decode cX1_restore 20 = .ok (.aload_n 0, 1) := by decide +kernel
theorem dX1_restore_21 : decode cX1_restore 21 = .ok (.getfield 23, 3) := by decide +kernel
theorem dX1_restore_24 : decode cX1_restore 24 = .ok (.aload_n 0, 1) := by decide +kernel
theorem dX1_restore_25 : decode cX1_restore 25 = .ok (.getfield 27, 3) := by decide +kernel
theorem dX1_restore_28 : decode cX1_restore 28 = .ok (.iadd, 1) := by decide +kernel
theorem dX1_restore_29 : decode cX1_restore 29 = .ok (.bipush 6, 2) := by decide +kernel
theorem dX1_restore_31 : decode cX1_restore 31 = .ok (.irem, 1) := by decide +kernel
theorem dX1_restore_32 : decode cX1_restore 32 = .ok (.istore_n 3, 1) := by decide +kernel
theorem dX1_restore_33 : decode cX1_restore 33 = .ok (.aload_n 1, 1) := by decide +kernel
theorem dX1_restore_34 : decode cX1_restore 34 = .ok (.aload_n 0, 1) := by decide +kernel
theorem dX1_restore_35 : decode cX1_restore 35 = .ok (.getfield 11, 3) := by decide +kernel
theorem dX1_restore_38 : decode cX1_restore 38 = .ok (.iload_n 3, 1) := by decide +kernel
theorem dX1_restore_39 : decode cX1_restore 39 = .ok (.aaload, 1) := by decide +kernel
theorem dX1_restore_40 : decode cX1_restore 40 = .ok (.invokevirtual 30, 3) := by decide +kernel
theorem dX1_restore_43 : decode cX1_restore 43 = .ok (.aload_n 2, 1) := by decide +kernel
theorem dX1_restore_44 : decode cX1_restore 44 = .ok (.aload_n 0, 1) := by decide +kernel
theorem dX1_restore_45 : decode cX1_restore 45 = .ok (.getfield 17, 3) := by decide +kernel
theorem dX1_restore_48 : decode cX1_restore 48 = .ok (.iload_n 3, 1) := by decide +kernel
theorem dX1_restore_49 : decode cX1_restore 49 = .ok (.aaload, 1) := by decide +kernel
theorem dX1_restore_50 : decode cX1_restore 50 = .ok (.invokevirtual 34, 3) := by decide +kernel
theorem dX1_restore_53 : decode cX1_restore 53 = .ok (.iconst 1, 1) := by decide +kernel
theorem dX1_restore_54 : decode cX1_restore 54 = .ok (.ireturn, 1) := by decide +kernel
theorem dX2_init_0 : decode cX2_init 0 = .ok (.aload_n 0, 1) := by decide +kernel
theorem dX2_init_1 : decode cX2_init 1 = .ok (.invokespecial 3, 3) := by decide +kernel
theorem dX2_init_4 : decode cX2_init 4 = .ok (.aload_n 0, 1) := by decide +kernel
theorem dX2_init_5 : decode cX2_init 5 = .ok (.bipush 7, 2) := by decide +kernel
theorem dX2_init_7 : decode cX2_init 7 = .ok (.newarray .long, 2) := by decide +kernel
theorem dX2_init_9 : decode cX2_init 9 = .ok (.putfield 9, 3) := by decide +kernel
theorem dX2_init_12 : decode cX2_init 12 = .ok (.aload_n 0, 1) := by decide +kernel
theorem dX2_init_13 : decode cX2_init 13 = .ok (.bipush 64, 2) := by decide +kernel
theorem dX2_init_15 : decode cX2_init 15 = .ok (.anewarray 15, 3) := by decide +kernel
theorem dX2_init_18 : decode cX2_init 18 = .ok (.putfield 17, 3) := by decide +kernel
theorem dX2_init_21 : decode cX2_init 21 = .ok (.iconst 0, 1) := by decide +kernel
theorem dX2_init_22 : decode cX2_init 22 = .ok (.istore_n 1, 1) := by decide +kernel
theorem dX2_init_23 : decode cX2_init 23 = .ok (.iload_n 1, 1) := by decide +kernel
theorem dX2_init_24 : decode cX2_init 24 = .ok (.bipush 64, 2) := by decide +kernel
theorem dX2_init_26 : decode cX2_init 26 = .ok (.if_icmp .ge 22, 3) := by decide +kernel
theorem dX2_init_29 : decode cX2_init 29 = .ok (.aload_n 0, 1) := by decide +kernel
theorem dX2_init_30 : decode cX2_init 30 = .ok (.getfield 17, 3) := by decide +kernel
theorem dX2_init_33 : decode cX2_init 33 = .ok (.iload_n 1, 1) := by decide +kernel
theorem dX2_init_34 : decode cX2_init 34 = .ok (.new 15, 3) := by decide +kernel
theorem dX2_init_37 : decode cX2_init 37 = .ok (.dup, 1) := by decide +kernel
theorem dX2_init_38 : decode cX2_init 38 = .ok (.invokespecial 21, 3) := by decide +kernel
theorem dX2_init_41 : decode cX2_init 41 = .ok (.aastore, 1) := by decide +kernel
theorem dX2_init_42 : decode cX2_init 42 = .ok (.iinc 1 1, 3) := by decide +kernel
theorem dX2_init_45 : decode cX2_init 45 = .ok (.goto (-22), 3) := by decide +kernel
theorem dX2_init_48 : decode cX2_init 48 = .ok (.return_, 1) := by decide +kernel
theorem dX2_copyFrom_0 : decode cX2_copyFrom 0 = .ok (.iconst 0, 1) := by decide +kernel
theorem dX2_copyFrom_1 : decode cX2_copyFrom 1 = .ok (.istore_n 2, 1) := by decide +kernel
theorem dX2_copyFrom_2 : decode cX2_copyFrom 2 = .ok (.iload_n 2, 1) := by decide +kernel
theorem dX2_copyFrom_3 : decode cX2_copyFrom 3 = .ok (.aload_n 1, 1) := by decide +kernel
theorem dX2_copyFrom_4 : decode cX2_copyFrom 4 = .ok (.getfield 22, 3) := by decide +kernel
theorem dX2_copyFrom_7 : decode cX2_copyFrom 7 = .ok (.if_icmp .ge 23, 3) := by decide +kernel
theorem dX2_copyFrom_10 : decode cX2_copyFrom 10 = .ok (.aload_n 0, 1) := by decide +kernel
theorem dX2_copyFrom_11 : decode cX2_copyFrom 11 = .ok (.getfield 17, 3) := by decide +kernel
theorem dX2_copyFrom_14 : decode cX2_copyFrom 14 = .ok (.iload_n 2, 1) := by decide +kernel
theorem dX2_copyFrom_15 : decode cX2_copyFrom 15 = .ok (.aaload, 1) := by decide +kernel
theorem dX2_copyFrom_16 : decode cX2_copyFrom 16 = .ok (.aload_n 1, 1) := by decide +kernel
theorem dX2_copyFrom_17 : decode cX2_copyFrom 17 = .ok (.iload_n 2, 1) := by decide +kernel
theorem dX2_copyFrom_18 : decode cX2_copyFrom 18 = .ok (.invokevirtual 26, 3) := by decide +kernel
theorem dX2_copyFrom_21 : decode cX2_copyFrom 21 = .ok (.invokevirtual 30, 3) := by decide +kernel
theorem dX2_copyFrom_24 : decode cX2_copyFrom 24 = .ok (.iinc 2 1, 3) := by decide +kernel
theorem dX2_copyFrom_27 : decode cX2_copyFrom 27 = .ok (.goto (-25), 3) := by decide +kernel
theorem dX2_copyFrom_30 : decode cX2_copyFrom 30 = .ok (.aload_n 0, 1) := by decide +kernel
theorem dX2_copyFrom_31 : decode cX2_copyFrom 31 = .ok (.iconst 0, 1) := by decide +kernel
theorem dX2_copyFrom_32 : decode cX2_copyFrom 32 = .ok (.putfield 34, 3) := by decide +kernel
theorem dX2_copyFrom_35 : decode cX2_copyFrom 35 = .ok (.aload_n 0, 1) := by decide +kernel
theorem dX2_copyFrom_36 : decode cX2_copyFrom 36 = .ok (.aload_n 1, 1) := by decide +kernel
theorem dX2_copyFrom_37 : decode cX2_copyFrom 37 = .ok (.getfield 22, 3) := by decide +kernel
theorem dX2_copyFrom_40 : decode cX2_copyFrom 40 = .ok (.putfield 22, 3) := by decide +kernel
theorem dX2_copyFrom_43 : decode cX2_copyFrom 43 = .ok (.aload_n 1, 1) := by decide +kernel
theorem dX2_copyFrom_44 : decode cX2_copyFrom 44 = .ok (.getfield 9, 3) := by decide +kernel
theorem dX2_copyFrom_47 : decode cX2_copyFrom 47 = .ok (.iconst 0, 1) := by decide +kernel
theorem dX2_copyFrom_48 : decode cX2_copyFrom 48 = .ok (.aload_n 0, 1) := by decide +kernel
theorem dX2_copyFrom_49 : decode cX2_copyFrom 49 = .ok (.getfield 9, 3) := by decide +kernel
theorem dX2_copyFrom_52 : decode cX2_copyFrom 52 = .ok (.iconst 0, 1) := by decide +kernel
theorem dX2_copyFrom_53 : decode cX2_copyFrom 53 = .ok (.bipush 7, 2) := by decide +kernel
theorem dX2_copyFrom_55 : decode cX2_copyFrom 55 = .ok (.invokestatic 37, 3) := by decide +kernel
theorem dX2_copyFrom_58 : decode cX2_copyFrom 58 = .ok (.return_, 1) := by decide +kernel
theorem dX2_clearSums_0 : decode cX2_clearSums 0 = .ok (.iconst 0, 1) := by decide +kernel
theorem dX2_clearSums_1 : decode cX2_clearSums 1 = .ok (.istore_n 1, 1) := by decide +kernel
theorem dX2_clearSums_2 : decode cX2_clearSums 2 = .ok (.iload_n 1, 1) := by decide +kernel
theorem dX2_clearSums_3 : decode cX2_clearSums 3 = .ok (.bipush 7, 2) := by decide +kernel
theorem dX2_clearSums_5 : decode cX2_clearSums 5 = .ok (.if_icmp .ge 16, 3) := by decide +kernel
theorem dX2_clearSums_8 : decode cX2_clearSums 8 = .ok (.aload_n 0, 1) := by decide +kernel
theorem dX2_clearSums_9 : decode cX2_clearSums 9 = .ok (.getfield 9, 3) := by decide +kernel
theorem dX2_clearSums_12 : decode cX2_clearSums 12 = .ok (.iload_n 1, 1) := by decide +kernel
theorem dX2_clearSums_13 : decode cX2_clearSums 13 = .ok (.lconst 0, 1) := by decide +kernel
theorem dX2_clearSums_14 : decode cX2_clearSums 14 = .ok (.lastore, 1) := by decide +kernel
theorem dX2_clearSums_15 : decode cX2_clearSums 15 = .ok (.iinc 1 1, 3) := by decide +kernel
theorem dX2_clearSums_18 : decode cX2_clearSums 18 = .ok (.goto (-16), 3) := by decide +kernel
theorem dX2_clearSums_21 : decode cX2_clearSums 21 = .ok (.return_, 1) := by decide +kernel
theorem dX2_has_0 : decode cX2_has 0 = .ok (.iload_n 1, 1) := by decide +kernel
theorem dX2_has_1 : decode cX2_has 1 = .ok (.ifCond .lt 15, 3) := by decide +kernel
theorem dX2_has_4 : decode cX2_has 4 = .ok (.iload_n 1, 1) := by decide +kernel
theorem dX2_has_5 : decode cX2_has 5 = .ok (.aload_n 0, 1) := by decide +kernel
theorem dX2_has_6 : decode cX2_has 6 = .ok (.getfield 22, 3) := by decide +kernel
theorem dX2_has_9 : decode cX2_has 9 = .ok (.if_icmp .ge 7, 3) := by decide +kernel
theorem dX2_has_12 : decode cX2_has 12 = .ok (.iconst 1, 1) := by decide +kernel
theorem dX2_has_13 : decode cX2_has 13 = .ok (.goto 4, 3) := by decide +kernel
theorem dX2_has_16 : decode cX2_has 16 = .ok (.iconst 0, 1) := by decide +kernel
theorem dX2_has_17 : decode cX2_has 17 = .ok (.ireturn, 1) := by decide +kernel
theorem dX2_at_0 : decode cX2_at 0 = .ok (.aload_n 0, 1) := by decide +kernel
theorem dX2_at_1 : decode cX2_at 1 = .ok (.getfield 17, 3) := by decide +kernel
theorem dX2_at_4 : decode cX2_at 4 = .ok (.aload_n 0, 1) := by decide +kernel
theorem dX2_at_5 : decode cX2_at 5 = .ok (.getfield 34, 3) := by decide +kernel
theorem dX2_at_8 : decode cX2_at 8 = .ok (.iload_n 1, 1) := by decide +kernel
theorem dX2_at_9 : decode cX2_at 9 = .ok (.iadd, 1) := by decide +kernel
theorem dX2_at_10 : decode cX2_at 10 = .ok (.bipush 63, 2) := by decide +kernel
theorem dX2_at_12 : decode cX2_at 12 = .ok (.iand, 1) := by decide +kernel
theorem dX2_at_13 : decode cX2_at 13 = .ok (.aaload, 1) := by decide +kernel
theorem dX2_at_14 : decode cX2_at 14 = .ok (.areturn, 1) := by decide +kernel
theorem dX2_enter_0 : decode cX2_enter 0 = .ok (.aload_n 0, 1) := by decide +kernel
theorem dX2_enter_1 : decode cX2_enter 1 = .ok (.aload_n 0, 1) := by decide +kernel
theorem dX2_enter_2 : decode cX2_enter 2 = .ok (.getfield 22, 3) := by decide +kernel
theorem dX2_enter_5 : decode cX2_enter 5 = .ok (.invokevirtual 26, 3) := by decide +kernel
theorem dX2_enter_8 : decode cX2_enter 8 = .ok (.aload_n 1, 1) := by decide +kernel
theorem dX2_enter_9 : decode cX2_enter 9 = .ok (.invokevirtual 30, 3) := by decide +kernel
theorem dX2_enter_12 : decode cX2_enter 12 = .ok (.aload_n 0, 1) := by decide +kernel
theorem dX2_enter_13 : decode cX2_enter 13 = .ok (.getfield 22, 3) := by decide +kernel
theorem dX2_enter_16 : decode cX2_enter 16 = .ok (.bipush 64, 2) := by decide +kernel
theorem dX2_enter_18 : decode cX2_enter 18 = .ok (.if_icmp .ge 16, 3) := by decide +kernel
theorem dX2_enter_21 : decode cX2_enter 21 = .ok (.aload_n 0, 1) := by decide +kernel
theorem dX2_enter_22 : decode cX2_enter 22 = .ok (.dup, 1) := by decide +kernel
theorem dX2_enter_23 : decode cX2_enter 23 = .ok (.getfield 22, 3) := by decide +kernel
theorem dX2_enter_26 : decode cX2_enter 26 = .ok (.iconst 1, 1) := by decide +kernel
theorem dX2_enter_27 : decode cX2_enter 27 = .ok (.iadd, 1) := by decide +kernel
theorem dX2_enter_28 : decode cX2_enter 28 = .ok (.putfield 22, 3) := by decide +kernel
theorem dX2_enter_31 : decode cX2_enter 31 = .ok (.goto 16, 3) := by decide +kernel
theorem dX2_enter_34 : decode cX2_enter 34 = .ok (.aload_n 0, 1) := by decide +kernel
theorem dX2_enter_35 : decode cX2_enter 35 = .ok (.aload_n 0, 1) := by decide +kernel
theorem dX2_enter_36 : decode cX2_enter 36 = .ok (.getfield 34, 3) := by decide +kernel
theorem dX2_enter_39 : decode cX2_enter 39 = .ok (.iconst 1, 1) := by decide +kernel
theorem dX2_enter_40 : decode cX2_enter 40 = .ok (.iadd, 1) := by decide +kernel
theorem dX2_enter_41 : decode cX2_enter 41 = .ok (.bipush 63, 2) := by decide +kernel
theorem dX2_enter_43 : decode cX2_enter 43 = .ok (.iand, 1) := by decide +kernel
theorem dX2_enter_44 : decode cX2_enter 44 = .ok (.putfield 34, 3) := by decide +kernel
theorem dX2_enter_47 : decode cX2_enter 47 = .ok (.aload_n 0, 1) := by decide +kernel
theorem dX2_enter_48 : decode cX2_enter 48 = .ok (.getfield 9, 3) := by decide +kernel
theorem dX2_enter_51 : decode cX2_enter 51 = .ok (.iconst 4, 1) := by decide +kernel
theorem dX2_enter_52 : decode cX2_enter 52 = .ok (.dup2, 1) := by decide +kernel
theorem dX2_enter_53 : decode cX2_enter 53 = .ok (.laload, 1) := by decide +kernel
theorem dX2_enter_54 : decode cX2_enter 54 = .ok (.aload_n 1, 1) := by decide +kernel
theorem dX2_enter_55 : decode cX2_enter 55 = .ok (.getfield 43, 3) := by decide +kernel
theorem dX2_enter_58 : decode cX2_enter 58 = .ok (.iconst 1, 1) := by decide +kernel
theorem dX2_enter_59 : decode cX2_enter 59 = .ok (.iand, 1) := by decide +kernel
theorem dX2_enter_60 : decode cX2_enter 60 = .ok (.ifCond .eq 7, 3) := by decide +kernel
theorem dX2_enter_63 : decode cX2_enter 63 = .ok (.lconst 1, 1) := by decide +kernel
theorem dX2_enter_64 : decode cX2_enter 64 = .ok (.goto 4, 3) := by decide +kernel
theorem dX2_enter_67 : decode cX2_enter 67 = .ok (.lconst 0, 1) := by decide +kernel
theorem dX2_enter_68 : decode cX2_enter 68 = .ok (.ladd, 1) := by decide +kernel
theorem dX2_enter_69 : decode cX2_enter 69 = .ok (.lastore, 1) := by decide +kernel
theorem dX2_enter_70 : decode cX2_enter 70 = .ok (.aload_n 0, 1) := by decide +kernel
theorem dX2_enter_71 : decode cX2_enter 71 = .ok (.getfield 9, 3) := by decide +kernel
theorem dX2_enter_74 : decode cX2_enter 74 = .ok (.iconst 5, 1) := by decide +kernel
theorem dX2_enter_75 : decode cX2_enter 75 = .ok (.dup2, 1) := by decide +kernel
theorem dX2_enter_76 : decode cX2_enter 76 = .ok (.laload, 1) := by decide +kernel
theorem dX2_enter_77 : decode cX2_enter 77 = .ok (.aload_n 1, 1) := by decide +kernel
theorem dX2_enter_78 : decode cX2_enter 78 = .ok (.getfield 43, 3) := by decide +kernel
theorem dX2_enter_81 : decode cX2_enter 81 = .ok (.iconst 2, 1) := by decide +kernel
theorem dX2_enter_82 : decode cX2_enter 82 = .ok (.iand, 1) := by decide +kernel
theorem dX2_enter_83 : decode cX2_enter 83 = .ok (.ifCond .eq 7, 3) := by decide +kernel
theorem dX2_enter_86 : decode cX2_enter 86 = .ok (.lconst 1, 1) := by decide +kernel
theorem dX2_enter_87 : decode cX2_enter 87 = .ok (.goto 4, 3) := by decide +kernel
theorem dX2_enter_90 : decode cX2_enter 90 = .ok (.lconst 0, 1) := by decide +kernel
theorem dX2_enter_91 : decode cX2_enter 91 = .ok (.ladd, 1) := by decide +kernel
theorem dX2_enter_92 : decode cX2_enter 92 = .ok (.lastore, 1) := by decide +kernel
theorem dX2_enter_93 : decode cX2_enter 93 = .ok (.aload_n 1, 1) := by decide +kernel
theorem dX2_enter_94 : decode cX2_enter 94 = .ok (.invokevirtual 46, 3) := by decide +kernel
theorem dX2_enter_97 : decode cX2_enter 97 = .ok (.ifCond .eq 15, 3) := by decide +kernel
theorem dX2_enter_100 : decode cX2_enter 100 = .ok (.aload_n 0, 1) := by decide +kernel
theorem dX2_enter_101 : decode cX2_enter 101 = .ok (.getfield 9, 3) := by decide +kernel
theorem dX2_enter_104 : decode cX2_enter 104 = .ok (.bipush 6, 2) := by decide +kernel
theorem dX2_enter_106 : decode cX2_enter 106 = .ok (.dup2, 1) := by decide +kernel
theorem dX2_enter_107 : decode cX2_enter 107 = .ok (.laload, 1) := by decide +kernel
theorem dX2_enter_108 : decode cX2_enter 108 = .ok (.lconst 1, 1) := by decide +kernel
theorem dX2_enter_109 : decode cX2_enter 109 = .ok (.ladd, 1) := by decide +kernel
theorem dX2_enter_110 : decode cX2_enter 110 = .ok (.lastore, 1) := by decide +kernel
theorem dX2_enter_111 : decode cX2_enter 111 = .ok (.return_, 1) := by decide +kernel
theorem dX2_enter_112 : decode cX2_enter 112 = .ok (.aload_n 0, 1) := by decide +kernel
theorem dX2_enter_113 : decode cX2_enter 113 = .ok (.getfield 9, 3) := by decide +kernel
theorem dX2_enter_116 : decode cX2_enter 116 = .ok (.iconst 0, 1) := by decide +kernel
theorem dX2_enter_117 : decode cX2_enter 117 = .ok (.dup2, 1) := by decide +kernel
theorem dX2_enter_118 : decode cX2_enter 118 = .ok (.laload, 1) := by decide +kernel
theorem dX2_enter_119 : decode cX2_enter 119 = .ok (.lconst 1, 1) := by decide +kernel
theorem dX2_enter_120 : decode cX2_enter 120 = .ok (.ladd, 1) := by decide +kernel
theorem dX2_enter_121 : decode cX2_enter 121 = .ok (.lastore, 1) := by decide +kernel
theorem dX2_enter_122 : decode cX2_enter 122 = .ok (.aload_n 0, 1) := by decide +kernel
theorem dX2_enter_123 : decode cX2_enter 123 = .ok (.getfield 9, 3) := by decide +kernel
theorem dX2_enter_126 : decode cX2_enter 126 = .ok (.iconst 1, 1) := by decide +kernel
theorem dX2_enter_127 : decode cX2_enter 127 = .ok (.dup2, 1) := by decide +kernel
theorem dX2_enter_128 : decode cX2_enter 128 = .ok (.laload, 1) := by decide +kernel
theorem dX2_enter_129 : decode cX2_enter 129 = .ok (.aload_n 1, 1) := by decide +kernel
theorem dX2_enter_130 : decode cX2_enter 130 = .ok (.aload_n 1, 1) := by decide +kernel
theorem dX2_enter_131 : decode cX2_enter 131 = .ok (.getfield 50, 3) := by decide +kernel
theorem dX2_enter_134 : decode cX2_enter 134 = .ok (.i2l, 1) := by decide +kernel
theorem dX2_enter_135 : decode cX2_enter 135 = .ok (.invokevirtual 53, 3) := by decide +kernel
theorem dX2_enter_138 : decode cX2_enter 138 = .ok (.aload_n 1, 1) := by decide +kernel
theorem dX2_enter_139 : decode cX2_enter 139 = .ok (.getfield 57, 3) := by decide +kernel
theorem dX2_enter_142 : decode cX2_enter 142 = .ok (.lsub, 1) := by decide +kernel
theorem dX2_enter_143 : decode cX2_enter 143 = .ok (.ladd, 1) := by decide +kernel
theorem dX2_enter_144 : decode cX2_enter 144 = .ok (.lastore, 1) := by decide +kernel
theorem dX2_enter_145 : decode cX2_enter 145 = .ok (.aload_n 0, 1) := by decide +kernel
theorem dX2_enter_146 : decode cX2_enter 146 = .ok (.getfield 9, 3) := by decide +kernel
theorem dX2_enter_149 : decode cX2_enter 149 = .ok (.iconst 2, 1) := by decide +kernel
theorem dX2_enter_150 : decode cX2_enter 150 = .ok (.dup2, 1) := by decide +kernel
theorem dX2_enter_151 : decode cX2_enter 151 = .ok (.laload, 1) := by decide +kernel
theorem dX2_enter_152 : decode cX2_enter 152 = .ok (.aload_n 1, 1) := by decide +kernel
theorem dX2_enter_153 : decode cX2_enter 153 = .ok (.invokevirtual 61, 3) := by decide +kernel
theorem dX2_enter_156 : decode cX2_enter 156 = .ok (.ladd, 1) := by decide +kernel
theorem dX2_enter_157 : decode cX2_enter 157 = .ok (.lastore, 1) := by decide +kernel
theorem dX2_enter_158 : decode cX2_enter 158 = .ok (.aload_n 0, 1) := by decide +kernel
theorem dX2_enter_159 : decode cX2_enter 159 = .ok (.getfield 9, 3) := by decide +kernel
theorem dX2_enter_162 : decode cX2_enter 162 = .ok (.iconst 3, 1) := by decide +kernel
theorem dX2_enter_163 : decode cX2_enter 163 = .ok (.dup2, 1) := by decide +kernel
theorem dX2_enter_164 : decode cX2_enter 164 = .ok (.laload, 1) := by decide +kernel
theorem dX2_enter_165 : decode cX2_enter 165 = .ok (.aload_n 1, 1) := by decide +kernel
theorem dX2_enter_166 : decode cX2_enter 166 = .ok (.invokevirtual 65, 3) := by decide +kernel
theorem dX2_enter_169 : decode cX2_enter 169 = .ok (.ladd, 1) := by decide +kernel
theorem dX2_enter_170 : decode cX2_enter 170 = .ok (.lastore, 1) := by decide +kernel
theorem dX2_enter_171 : decode cX2_enter 171 = .ok (.return_, 1) := by decide +kernel
theorem dX3_init_0 : decode cX3_init 0 = .ok (.aload_n 0, 1) := by decide +kernel
theorem dX3_init_1 : decode cX3_init 1 = .ok (.invokespecial 3, 3) := by decide +kernel
theorem dX3_init_4 : decode cX3_init 4 = .ok (.aload_n 0, 1) := by decide +kernel
theorem dX3_init_5 : decode cX3_init 5 = .ok (.iconst 1, 1) := by decide +kernel
theorem dX3_init_6 : decode cX3_init 6 = .ok (.putfield 9, 3) := by decide +kernel
theorem dX3_init_9 : decode cX3_init 9 = .ok (.aload_n 0, 1) := by decide +kernel
theorem dX3_init_10 : decode cX3_init 10 = .ok (.lconst 1, 1) := by decide +kernel
theorem dX3_init_11 : decode cX3_init 11 = .ok (.putfield 15, 3) := by decide +kernel
theorem dX3_init_14 : decode cX3_init 14 = .ok (.return_, 1) := by decide +kernel
theorem dX3_codeOf_0 : decode cX3_codeOf 0 = .ok (.iload_n 0, 1) := by decide +kernel
theorem dX3_codeOf_1 : decode cX3_codeOf 1 = .ok (.bipush 9, 2) := by decide +kernel
theorem dX3_codeOf_3 : decode cX3_codeOf 3 = .ok (.ishl, 1) := by decide +kernel
theorem dX3_codeOf_4 : decode cX3_codeOf 4 = .ok (.iload_n 1, 1) := by decide +kernel
theorem dX3_codeOf_5 : decode cX3_codeOf 5 = .ok (.bipush 6, 2) := by decide +kernel
theorem dX3_codeOf_7 : decode cX3_codeOf 7 = .ok (.ishl, 1) := by decide +kernel
theorem dX3_codeOf_8 : decode cX3_codeOf 8 = .ok (.ior, 1) := by decide +kernel
theorem dX3_codeOf_9 : decode cX3_codeOf 9 = .ok (.iload_n 2, 1) := by decide +kernel
theorem dX3_codeOf_10 : decode cX3_codeOf 10 = .ok (.iconst 3, 1) := by decide +kernel
theorem dX3_codeOf_11 : decode cX3_codeOf 11 = .ok (.ishl, 1) := by decide +kernel
theorem dX3_codeOf_12 : decode cX3_codeOf 12 = .ok (.ior, 1) := by decide +kernel
theorem dX3_codeOf_13 : decode cX3_codeOf 13 = .ok (.iload_n 3, 1) := by decide +kernel
theorem dX3_codeOf_14 : decode cX3_codeOf 14 = .ok (.ior, 1) := by decide +kernel
theorem dX3_codeOf_15 : decode cX3_codeOf 15 = .ok (.ireturn, 1) := by decide +kernel
theorem dX3_kindOf_0 : decode cX3_kindOf 0 = .ok (.iload_n 0, 1) := by decide +kernel
theorem dX3_kindOf_1 : decode cX3_kindOf 1 = .ok (.bipush 9, 2) := by decide +kernel
theorem dX3_kindOf_3 : decode cX3_kindOf 3 = .ok (.ishr, 1) := by decide +kernel
theorem dX3_kindOf_4 : decode cX3_kindOf 4 = .ok (.ireturn, 1) := by decide +kernel
theorem dX3_targetOf_0 : decode cX3_targetOf 0 = .ok (.iload_n 0, 1) := by decide +kernel
theorem dX3_targetOf_1 : decode cX3_targetOf 1 = .ok (.bipush 6, 2) := by decide +kernel
theorem dX3_targetOf_3 : decode cX3_targetOf 3 = .ok (.ishr, 1) := by decide +kernel
theorem dX3_targetOf_4 : decode cX3_targetOf 4 = .ok (.bipush 7, 2) := by decide +kernel
theorem dX3_targetOf_6 : decode cX3_targetOf 6 = .ok (.iand, 1) := by decide +kernel
theorem dX3_targetOf_7 : decode cX3_targetOf 7 = .ok (.ireturn, 1) := by decide +kernel
theorem dX3_firstOf_0 : decode cX3_firstOf 0 = .ok (.iload_n 0, 1) := by decide +kernel
theorem dX3_firstOf_1 : decode cX3_firstOf 1 = .ok (.iconst 3, 1) := by decide +kernel
theorem dX3_firstOf_2 : decode cX3_firstOf 2 = .ok (.ishr, 1) := by decide +kernel
theorem dX3_firstOf_3 : decode cX3_firstOf 3 = .ok (.bipush 7, 2) := by decide +kernel
theorem dX3_firstOf_5 : decode cX3_firstOf 5 = .ok (.iand, 1) := by decide +kernel
theorem dX3_firstOf_6 : decode cX3_firstOf 6 = .ok (.ireturn, 1) := by decide +kernel
theorem dX3_secondOf_0 : decode cX3_secondOf 0 = .ok (.iload_n 0, 1) := by decide +kernel
theorem dX3_secondOf_1 : decode cX3_secondOf 1 = .ok (.bipush 7, 2) := by decide +kernel
theorem dX3_secondOf_3 : decode cX3_secondOf 3 = .ok (.iand, 1) := by decide +kernel
theorem dX3_secondOf_4 : decode cX3_secondOf 4 = .ok (.ireturn, 1) := by decide +kernel
theorem dX3_drawFor_0 : decode cX3_drawFor 0 = .ok (.iload_n 1, 1) := by decide +kernel
theorem dX3_drawFor_1 : decode cX3_drawFor 1 = .ok (.iload_n 0, 1) := by decide +kernel
theorem dX3_drawFor_2 : decode cX3_drawFor 2 = .ok (.ldc 19, 2) := by decide +kernel
theorem dX3_drawFor_4 : decode cX3_drawFor 4 = .ok (.imul, 1) := by decide +kernel
theorem dX3_drawFor_5 : decode cX3_drawFor 5 = .ok (.iadd, 1) := by decide +kernel
theorem dX3_drawFor_6 : decode cX3_drawFor 6 = .ok (.istore_n 3, 1) := by decide +kernel
theorem dX3_drawFor_7 : decode cX3_drawFor 7 = .ok (.iload_n 3, 1) := by decide +kernel
theorem dX3_drawFor_8 : decode cX3_drawFor 8 = .ok (.iload_n 3, 1) := by decide +kernel
theorem dX3_drawFor_9 : decode cX3_drawFor 9 = .ok (.bipush 16, 2) := by decide +kernel
theorem dX3_drawFor_11 : decode cX3_drawFor 11 = .ok (.iushr, 1) := by decide +kernel
theorem dX3_drawFor_12 : decode cX3_drawFor 12 = .ok (.ixor, 1) := by decide +kernel
theorem dX3_drawFor_13 : decode cX3_drawFor 13 = .ok (.ldc 20, 2) := by decide +kernel
theorem dX3_drawFor_15 : decode cX3_drawFor 15 = .ok (.imul, 1) := by decide +kernel
theorem dX3_drawFor_16 : decode cX3_drawFor 16 = .ok (.istore_n 3, 1) := by decide +kernel
theorem dX3_drawFor_17 : decode cX3_drawFor 17 = .ok (.iload_n 3, 1) := by decide +kernel
theorem dX3_drawFor_18 : decode cX3_drawFor 18 = .ok (.iload_n 3, 1) := by decide +kernel
theorem dX3_drawFor_19 : decode cX3_drawFor 19 = .ok (.bipush 16, 2) := by decide +kernel
theorem dX3_drawFor_21 : decode cX3_drawFor 21 = .ok (.iushr, 1) := by decide +kernel
theorem dX3_drawFor_22 : decode cX3_drawFor 22 = .ok (.ixor, 1) := by decide +kernel
theorem dX3_drawFor_23 : decode cX3_drawFor 23 = .ok (.ldc 20, 2) := by decide +kernel
theorem dX3_drawFor_25 : decode cX3_drawFor 25 = .ok (.imul, 1) := by decide +kernel
theorem dX3_drawFor_26 : decode cX3_drawFor 26 = .ok (.istore_n 3, 1) := by decide +kernel
theorem dX3_drawFor_27 : decode cX3_drawFor 27 = .ok (.iload_n 3, 1) := by decide +kernel
theorem dX3_drawFor_28 : decode cX3_drawFor 28 = .ok (.iload_n 3, 1) := by decide +kernel
theorem dX3_drawFor_29 : decode cX3_drawFor 29 = .ok (.bipush 16, 2) := by decide +kernel
theorem dX3_drawFor_31 : decode cX3_drawFor 31 = .ok (.iushr, 1) := by decide +kernel
theorem dX3_drawFor_32 : decode cX3_drawFor 32 = .ok (.ixor, 1) := by decide +kernel
theorem dX3_drawFor_33 : decode cX3_drawFor 33 = .ok (.iconst 1, 1) := by decide +kernel
theorem dX3_drawFor_34 : decode cX3_drawFor 34 = .ok (.iload_n 2, 1) := by decide +kernel
theorem dX3_drawFor_35 : decode cX3_drawFor 35 = .ok (.ishl, 1) := by decide +kernel
theorem dX3_drawFor_36 : decode cX3_drawFor 36 = .ok (.iconst 1, 1) := by decide +kernel
theorem dX3_drawFor_37 : decode cX3_drawFor 37 = .ok (.isub, 1) := by decide +kernel
theorem dX3_drawFor_38 : decode cX3_drawFor 38 = .ok (.iand, 1) := by decide +kernel
theorem dX3_drawFor_39 : decode cX3_drawFor 39 = .ok (.ireturn, 1) := by decide +kernel
theorem dX3_copyFrom_0 : decode cX3_copyFrom 0 = .ok (.aload_n 0, 1) := by decide +kernel
theorem dX3_copyFrom_1 : decode cX3_copyFrom 1 = .ok (.aload_n 1, 1) := by decide +kernel
theorem dX3_copyFrom_2 : decode cX3_copyFrom 2 = .ok (.getfield 21, 3) := by decide +kernel
theorem dX3_copyFrom_5 : decode cX3_copyFrom 5 = .ok (.putfield 21, 3) := by decide +kernel
theorem dX3_copyFrom_8 : decode cX3_copyFrom 8 = .ok (.aload_n 0, 1) := by decide +kernel
theorem dX3_copyFrom_9 : decode cX3_copyFrom 9 = .ok (.aload_n 1, 1) := by decide +kernel
theorem dX3_copyFrom_10 : decode cX3_copyFrom 10 = .ok (.getfield 24, 3) := by decide +kernel
theorem dX3_copyFrom_13 : decode cX3_copyFrom 13 = .ok (.putfield 24, 3) := by decide +kernel
theorem dX3_copyFrom_16 : decode cX3_copyFrom 16 = .ok (.aload_n 0, 1) := by decide +kernel
theorem dX3_copyFrom_17 : decode cX3_copyFrom 17 = .ok (.aload_n 1, 1) := by decide +kernel
theorem dX3_copyFrom_18 : decode cX3_copyFrom 18 = .ok (.getfield 27, 3) := by decide +kernel
theorem dX3_copyFrom_21 : decode cX3_copyFrom 21 = .ok (.putfield 27, 3) := by decide +kernel
theorem dX3_copyFrom_24 : decode cX3_copyFrom 24 = .ok (.aload_n 0, 1) := by decide +kernel
theorem dX3_copyFrom_25 : decode cX3_copyFrom 25 = .ok (.aload_n 1, 1) := by decide +kernel
theorem dX3_copyFrom_26 : decode cX3_copyFrom 26 = .ok (.getfield 9, 3) := by decide +kernel
theorem dX3_copyFrom_29 : decode cX3_copyFrom 29 = .ok (.putfield 9, 3) := by decide +kernel
theorem dX3_copyFrom_32 : decode cX3_copyFrom 32 = .ok (.aload_n 0, 1) := by decide +kernel
theorem dX3_copyFrom_33 : decode cX3_copyFrom 33 = .ok (.aload_n 1, 1) := by decide +kernel
theorem dX3_copyFrom_34 : decode cX3_copyFrom 34 = .ok (.getfield 30, 3) := by decide +kernel
theorem dX3_copyFrom_37 : decode cX3_copyFrom 37 = .ok (.putfield 30, 3) := by decide +kernel
theorem dX3_copyFrom_40 : decode cX3_copyFrom 40 = .ok (.aload_n 0, 1) := by decide +kernel
theorem dX3_copyFrom_41 : decode cX3_copyFrom 41 = .ok (.aload_n 1, 1) := by decide +kernel
theorem dX3_copyFrom_42 : decode cX3_copyFrom 42 = .ok (.getfield 33, 3) := by decide +kernel
theorem dX3_copyFrom_45 : decode cX3_copyFrom 45 = .ok (.putfield 33, 3) := by decide +kernel
theorem dX3_copyFrom_48 : decode cX3_copyFrom 48 = .ok (.aload_n 0, 1) := by decide +kernel
theorem dX3_copyFrom_49 : decode cX3_copyFrom 49 = .ok (.aload_n 1, 1) := by decide +kernel
theorem dX3_copyFrom_50 : decode cX3_copyFrom 50 = .ok (.getfield 36, 3) := by decide +kernel
theorem dX3_copyFrom_53 : decode cX3_copyFrom 53 = .ok (.putfield 36, 3) := by decide +kernel
theorem dX3_copyFrom_56 : decode cX3_copyFrom 56 = .ok (.aload_n 0, 1) := by decide +kernel
theorem dX3_copyFrom_57 : decode cX3_copyFrom 57 = .ok (.aload_n 1, 1) := by decide +kernel
theorem dX3_copyFrom_58 : decode cX3_copyFrom 58 = .ok (.getfield 39, 3) := by decide +kernel
theorem dX3_copyFrom_61 : decode cX3_copyFrom 61 = .ok (.putfield 39, 3) := by decide +kernel
theorem dX3_copyFrom_64 : decode cX3_copyFrom 64 = .ok (.aload_n 0, 1) := by decide +kernel
theorem dX3_copyFrom_65 : decode cX3_copyFrom 65 = .ok (.aload_n 1, 1) := by decide +kernel
theorem dX3_copyFrom_66 : decode cX3_copyFrom 66 = .ok (.getfield 42, 3) := by decide +kernel
theorem dX3_copyFrom_69 : decode cX3_copyFrom 69 = .ok (.putfield 42, 3) := by decide +kernel
theorem dX3_copyFrom_72 : decode cX3_copyFrom 72 = .ok (.aload_n 0, 1) := by decide +kernel
theorem dX3_copyFrom_73 : decode cX3_copyFrom 73 = .ok (.aload_n 1, 1) := by decide +kernel
theorem dX3_copyFrom_74 : decode cX3_copyFrom 74 = .ok (.getfield 45, 3) := by decide +kernel
theorem dX3_copyFrom_77 : decode cX3_copyFrom 77 = .ok (.putfield 45, 3) := by decide +kernel
theorem dX3_copyFrom_80 : decode cX3_copyFrom 80 = .ok (.aload_n 0, 1) := by decide +kernel
theorem dX3_copyFrom_81 : decode cX3_copyFrom 81 = .ok (.aload_n 1, 1) := by decide +kernel
theorem dX3_copyFrom_82 : decode cX3_copyFrom 82 = .ok (.getfield 15, 3) := by decide +kernel
theorem dX3_copyFrom_85 : decode cX3_copyFrom 85 = .ok (.putfield 15, 3) := by decide +kernel
theorem dX3_copyFrom_88 : decode cX3_copyFrom 88 = .ok (.return_, 1) := by decide +kernel
theorem dX3_decimalCode_0 : decode cX3_decimalCode 0 = .ok (.sipush 1000, 3) := by decide +kernel
theorem dX3_decimalCode_3 : decode cX3_decimalCode 3 = .ok (.aload_n 0, 1) := by decide +kernel
theorem dX3_decimalCode_4 : decode cX3_decimalCode 4 = .ok (.getfield 24, 3) := by decide +kernel
theorem dX3_decimalCode_7 : decode cX3_decimalCode 7 = .ok (.invokestatic 48, 3) := by decide +kernel
theorem dX3_decimalCode_10 : decode cX3_decimalCode 10 = .ok (.imul, 1) := by decide +kernel
theorem dX3_decimalCode_11 : decode cX3_decimalCode 11 = .ok (.bipush 100, 2) := by decide +kernel
theorem dX3_decimalCode_13 : decode cX3_decimalCode 13 = .ok (.aload_n 0, 1) := by decide +kernel
theorem dX3_decimalCode_14 : decode cX3_decimalCode 14 = .ok (.getfield 24, 3) := by decide +kernel
theorem dX3_decimalCode_17 : decode cX3_decimalCode 17 = .ok (.invokestatic 52, 3) := by decide +kernel
theorem dX3_decimalCode_20 : decode cX3_decimalCode 20 = .ok (.imul, 1) := by decide +kernel
theorem dX3_decimalCode_21 : decode cX3_decimalCode 21 = .ok (.iadd, 1) := by decide +kernel
theorem dX3_decimalCode_22 : decode cX3_decimalCode 22 = .ok (.bipush 10, 2) := by decide +kernel
theorem dX3_decimalCode_24 : decode cX3_decimalCode 24 = .ok (.aload_n 0, 1) := by decide +kernel
theorem dX3_decimalCode_25 : decode cX3_decimalCode 25 = .ok (.getfield 24, 3) := by decide +kernel
theorem dX3_decimalCode_28 : decode cX3_decimalCode 28 = .ok (.invokestatic 55, 3) := by decide +kernel
theorem dX3_decimalCode_31 : decode cX3_decimalCode 31 = .ok (.imul, 1) := by decide +kernel
theorem dX3_decimalCode_32 : decode cX3_decimalCode 32 = .ok (.iadd, 1) := by decide +kernel
theorem dX3_decimalCode_33 : decode cX3_decimalCode 33 = .ok (.aload_n 0, 1) := by decide +kernel
theorem dX3_decimalCode_34 : decode cX3_decimalCode 34 = .ok (.getfield 24, 3) := by decide +kernel
theorem dX3_decimalCode_37 : decode cX3_decimalCode 37 = .ok (.invokestatic 58, 3) := by decide +kernel
theorem dX3_decimalCode_40 : decode cX3_decimalCode 40 = .ok (.iadd, 1) := by decide +kernel
theorem dX3_decimalCode_41 : decode cX3_decimalCode 41 = .ok (.ireturn, 1) := by decide +kernel
theorem dX3_isQuotient_0 : decode cX3_isQuotient 0 = .ok (.aload_n 0, 1) := by decide +kernel
theorem dX3_isQuotient_1 : decode cX3_isQuotient 1 = .ok (.getfield 24, 3) := by decide +kernel
theorem dX3_isQuotient_4 : decode cX3_isQuotient 4 = .ok (.invokestatic 48, 3) := by decide +kernel
theorem dX3_isQuotient_7 : decode cX3_isQuotient 7 = .ok (.iconst 5, 1) := by decide +kernel
theorem dX3_isQuotient_8 : decode cX3_isQuotient 8 = .ok (.if_icmp .ne 7, 3) := by decide +kernel
theorem dX3_isQuotient_11 : decode cX3_isQuotient 11 = .ok (.iconst 1, 1) := by decide +kernel
theorem dX3_isQuotient_12 : decode cX3_isQuotient 12 = .ok (.goto 4, 3) := by decide +kernel
theorem dX3_isQuotient_15 : decode cX3_isQuotient 15 = .ok (.iconst 0, 1) := by decide +kernel
theorem dX3_isQuotient_16 : decode cX3_isQuotient 16 = .ok (.ireturn, 1) := by decide +kernel
theorem dX3_setFraction_0 : decode cX3_setFraction 0 = .ok (.aload_n 0, 1) := by decide +kernel
theorem dX3_setFraction_1 : decode cX3_setFraction 1 = .ok (.lload_n 1, 1) := by decide +kernel
theorem dX3_setFraction_2 : decode cX3_setFraction 2 = .ok (.putfield 45, 3) := by decide +kernel
theorem dX3_setFraction_5 : decode cX3_setFraction 5 = .ok (.aload_n 0, 1) := by decide +kernel
theorem dX3_setFraction_6 : decode cX3_setFraction 6 = .ok (.lload_n 3, 1) := by decide +kernel
theorem dX3_setFraction_7 : decode cX3_setFraction 7 = .ok (.putfield 15, 3) := by decide +kernel
theorem dX3_setFraction_10 : decode cX3_setFraction 10 = .ok (.return_, 1) := by decide +kernel
theorem dX3_denominator_0 : decode cX3_denominator 0 = .ok (.aload_n 0, 1) := by decide +kernel
theorem dX3_denominator_1 : decode cX3_denominator 1 = .ok (.getfield 15, 3) := by decide +kernel
theorem dX3_denominator_4 : decode cX3_denominator 4 = .ok (.bipush 20, 2) := by decide +kernel
theorem dX3_denominator_6 : decode cX3_denominator 6 = .ok (.lshl, 1) := by decide +kernel
theorem dX3_denominator_7 : decode cX3_denominator 7 = .ok (.lreturn, 1) := by decide +kernel
theorem dX3_numeratorOf_0 : decode cX3_numeratorOf 0 = .ok (.lload_n 1, 1) := by decide +kernel
theorem dX3_numeratorOf_1 : decode cX3_numeratorOf 1 = .ok (.aload_n 0, 1) := by decide +kernel
theorem dX3_numeratorOf_2 : decode cX3_numeratorOf 2 = .ok (.getfield 15, 3) := by decide +kernel
theorem dX3_numeratorOf_5 : decode cX3_numeratorOf 5 = .ok (.lmul, 1) := by decide +kernel
theorem dX3_numeratorOf_6 : decode cX3_numeratorOf 6 = .ok (.bipush 10, 2) := by decide +kernel
theorem dX3_numeratorOf_8 : decode cX3_numeratorOf 8 = .ok (.lshl, 1) := by decide +kernel
theorem dX3_numeratorOf_9 : decode cX3_numeratorOf 9 = .ok (.lreturn, 1) := by decide +kernel
theorem dX3_findNeighbors_0 : decode cX3_findNeighbors 0 = .ok (.aload_n 1, 1) := by decide +kernel
theorem dX3_findNeighbors_1 : decode cX3_findNeighbors 1 = .ok (.invokevirtual 61, 3) := by decide +kernel
theorem dX3_findNeighbors_4 : decode cX3_findNeighbors 4 = .ok (.istore_n 2, 1) := by decide +kernel
theorem dX3_findNeighbors_5 : decode cX3_findNeighbors 5 = .ok (.aload_n 0, 1) := by decide +kernel
theorem dX3_findNeighbors_6 : decode cX3_findNeighbors 6 = .ok (.getfield 45, 3) := by decide +kernel
theorem dX3_findNeighbors_9 : decode cX3_findNeighbors 9 = .ok (.aload_n 0, 1) := by decide +kernel
theorem dX3_findNeighbors_10 : decode cX3_findNeighbors 10 = .ok (.iload_n 2, 1) := by decide +kernel
theorem dX3_findNeighbors_11 : decode cX3_findNeighbors 11 = .ok (.i2l, 1) := by decide +kernel
theorem dX3_findNeighbors_12 : decode cX3_findNeighbors 12 = .ok (.invokevirtual 67, 3) := by decide +kernel
theorem dX3_findNeighbors_15 : decode cX3_findNeighbors 15 = .ok (.lcmp, 1) := by decide +kernel
theorem dX3_findNeighbors_16 : decode cX3_findNeighbors 16 = .ok (.ifCond .le 15, 3) := by decide +kernel
theorem dX3_findNeighbors_19 : decode cX3_findNeighbors 19 = .ok (.aload_n 0, 1) := by decide +kernel
theorem dX3_findNeighbors_20 : decode cX3_findNeighbors 20 = .ok (.iload_n 2, 1) := by decide +kernel
theorem dX3_findNeighbors_21 : decode cX3_findNeighbors 21 = .ok (.putfield 33, 3) := by decide +kernel
theorem dX3_findNeighbors_24 : decode cX3_findNeighbors 24 = .ok (.aload_n 0, 1) := by decide +kernel
theorem dX3_findNeighbors_25 : decode cX3_findNeighbors 25 = .ok (.iload_n 2, 1) := by decide +kernel
theorem dX3_findNeighbors_26 : decode cX3_findNeighbors 26 = .ok (.putfield 36, 3) := by decide +kernel
theorem dX3_findNeighbors_29 : decode cX3_findNeighbors 29 = .ok (.iconst 1, 1) := by decide +kernel
theorem dX3_findNeighbors_30 : decode cX3_findNeighbors 30 = .ok (.ireturn, 1) := by decide +kernel
theorem dX3_findNeighbors_31 : decode cX3_findNeighbors 31 = .ok (.aload_n 0, 1) := by decide +kernel
theorem dX3_findNeighbors_32 : decode cX3_findNeighbors 32 = .ok (.getfield 45, 3) := by decide +kernel
theorem dX3_findNeighbors_35 : decode cX3_findNeighbors 35 = .ok (.aload_n 0, 1) := by decide +kernel
theorem dX3_findNeighbors_36 : decode cX3_findNeighbors 36 = .ok (.iload_n 2, 1) := by decide +kernel
theorem dX3_findNeighbors_37 : decode cX3_findNeighbors 37 = .ok (.ineg, 1) := by decide +kernel
theorem dX3_findNeighbors_38 : decode cX3_findNeighbors 38 = .ok (.i2l, 1) := by decide +kernel
theorem dX3_findNeighbors_39 : decode cX3_findNeighbors 39 = .ok (.invokevirtual 67, 3) := by decide +kernel
theorem dX3_findNeighbors_42 : decode cX3_findNeighbors 42 = .ok (.lcmp, 1) := by decide +kernel
theorem dX3_findNeighbors_43 : decode cX3_findNeighbors 43 = .ok (.ifCond .ge 17, 3) := by decide +kernel
theorem dX3_findNeighbors_46 : decode cX3_findNeighbors 46 = .ok (.aload_n 0, 1) := by decide +kernel
theorem dX3_findNeighbors_47 : decode cX3_findNeighbors 47 = .ok (.iload_n 2, 1) := by decide +kernel
theorem dX3_findNeighbors_48 : decode cX3_findNeighbors 48 = .ok (.ineg, 1) := by decide +kernel
theorem dX3_findNeighbors_49 : decode cX3_findNeighbors 49 = .ok (.putfield 33, 3) := by decide +kernel
theorem dX3_findNeighbors_52 : decode cX3_findNeighbors 52 = .ok (.aload_n 0, 1) := by decide +kernel
theorem dX3_findNeighbors_53 : decode cX3_findNeighbors 53 = .ok (.iload_n 2, 1) := by decide +kernel
theorem dX3_findNeighbors_54 : decode cX3_findNeighbors 54 = .ok (.ineg, 1) := by decide +kernel
theorem dX3_findNeighbors_55 : decode cX3_findNeighbors 55 = .ok (.putfield 36, 3) := by decide +kernel
theorem dX3_findNeighbors_58 : decode cX3_findNeighbors 58 = .ok (.iconst 1, 1) := by decide +kernel
theorem dX3_findNeighbors_59 : decode cX3_findNeighbors 59 = .ok (.ireturn, 1) := by decide +kernel
theorem dX3_findNeighbors_60 : decode cX3_findNeighbors 60 = .ok (.aload_n 0, 1) := by decide +kernel
theorem dX3_findNeighbors_61 : decode cX3_findNeighbors 61 = .ok (.lconst 1, 1) := by decide +kernel
theorem dX3_findNeighbors_62 : decode cX3_findNeighbors 62 = .ok (.invokevirtual 67, 3) := by decide +kernel
theorem dX3_findNeighbors_65 : decode cX3_findNeighbors 65 = .ok (.lstore_n 3, 1) := by decide +kernel
theorem dX3_findNeighbors_66 : decode cX3_findNeighbors 66 = .ok (.lload_n 3, 1) := by decide +kernel
theorem dX3_findNeighbors_67 : decode cX3_findNeighbors 67 = .ok (.lconst 1, 1) := by decide +kernel
theorem dX3_findNeighbors_68 : decode cX3_findNeighbors 68 = .ok (.lcmp, 1) := by decide +kernel
theorem dX3_findNeighbors_69 : decode cX3_findNeighbors 69 = .ok (.ifCond .ge 5, 3) := by decide +kernel
theorem dX3_findNeighbors_72 : decode cX3_findNeighbors 72 = .ok (.iconst 0, 1) := by decide +kernel
theorem dX3_findNeighbors_73 : decode cX3_findNeighbors 73 = .ok (.ireturn, 1) := by decide +kernel
theorem dX3_findNeighbors_74 : decode cX3_findNeighbors 74 = .ok (.aload_n 0, 1) := by decide +kernel
theorem dX3_findNeighbors_75 : decode cX3_findNeighbors 75 = .ok (.aload_n 1, 1) := by decide +kernel
theorem dX3_findNeighbors_76 : decode cX3_findNeighbors 76 = .ok (.aload_n 0, 1) := by decide +kernel
theorem dX3_findNeighbors_77 : decode cX3_findNeighbors 77 = .ok (.getfield 45, 3) := by decide +kernel
theorem dX3_findNeighbors_80 : decode cX3_findNeighbors 80 = .ok (.lload_n 3, 1) := by decide +kernel
theorem dX3_findNeighbors_81 : decode cX3_findNeighbors 81 = .ok (.invokestatic 71, 3) := by decide +kernel
theorem dX3_findNeighbors_84 : decode cX3_findNeighbors 84 = .ok (.l2i, 1) := by decide +kernel
theorem dX3_findNeighbors_85 : decode cX3_findNeighbors 85 = .ok (.invokevirtual 77, 3) := by decide +kernel
theorem dX3_findNeighbors_88 : decode cX3_findNeighbors 88 = .ok (.putfield 33, 3) := by decide +kernel
theorem dX3_findNeighbors_91 : decode cX3_findNeighbors 91 = .ok (.aload_n 0, 1) := by decide +kernel
theorem dX3_findNeighbors_92 : decode cX3_findNeighbors 92 = .ok (.aload_n 1, 1) := by decide +kernel
theorem dX3_findNeighbors_93 : decode cX3_findNeighbors 93 = .ok (.aload_n 0, 1) := by decide +kernel
theorem dX3_findNeighbors_94 : decode cX3_findNeighbors 94 = .ok (.getfield 45, 3) := by decide +kernel
theorem dX3_findNeighbors_97 : decode cX3_findNeighbors 97 = .ok (.lneg, 1) := by decide +kernel
theorem dX3_findNeighbors_98 : decode cX3_findNeighbors 98 = .ok (.lload_n 3, 1) := by decide +kernel
theorem dX3_findNeighbors_99 : decode cX3_findNeighbors 99 = .ok (.invokestatic 71, 3) := by decide +kernel
theorem dX3_findNeighbors_102 : decode cX3_findNeighbors 102 = .ok (.l2i, 1) := by decide +kernel
theorem dX3_findNeighbors_103 : decode cX3_findNeighbors 103 = .ok (.invokevirtual 77, 3) := by decide +kernel
theorem dX3_findNeighbors_106 : decode cX3_findNeighbors 106 = .ok (.ineg, 1) := by decide +kernel
theorem dX3_findNeighbors_107 : decode cX3_findNeighbors 107 = .ok (.putfield 36, 3) := by decide +kernel
theorem dX3_findNeighbors_110 : decode cX3_findNeighbors 110 = .ok (.iconst 0, 1) := by decide +kernel
theorem dX3_findNeighbors_111 : decode cX3_findNeighbors 111 = .ok (.ireturn, 1) := by decide +kernel
theorem dX3_rounded_0 : decode cX3_rounded 0 = .ok (.aload_n 0, 1) := by decide +kernel
theorem dX3_rounded_1 : decode cX3_rounded 1 = .ok (.getfield 33, 3) := by decide +kernel
theorem dX3_rounded_4 : decode cX3_rounded 4 = .ok (.aload_n 0, 1) := by decide +kernel
theorem dX3_rounded_5 : decode cX3_rounded 5 = .ok (.getfield 36, 3) := by decide +kernel
theorem dX3_rounded_8 : decode cX3_rounded 8 = .ok (.if_icmp .eq 19, 3) := by decide +kernel
theorem dX3_rounded_11 : decode cX3_rounded 11 = .ok (.aload_n 0, 1) := by decide +kernel
theorem dX3_rounded_12 : decode cX3_rounded 12 = .ok (.iload_n 1, 1) := by decide +kernel
theorem dX3_rounded_13 : decode cX3_rounded 13 = .ok (.iload_n 2, 1) := by decide +kernel
theorem dX3_rounded_14 : decode cX3_rounded 14 = .ok (.invokevirtual 80, 3) := by decide +kernel
theorem dX3_rounded_17 : decode cX3_rounded 17 = .ok (.ifCond .eq 10, 3) := by decide +kernel
theorem dX3_rounded_20 : decode cX3_rounded 20 = .ok (.aload_n 0, 1) := by decide +kernel
theorem dX3_rounded_21 : decode cX3_rounded 21 = .ok (.getfield 36, 3) := by decide +kernel
theorem dX3_rounded_24 : decode cX3_rounded 24 = .ok (.goto 7, 3) := by decide +kernel
theorem dX3_rounded_27 : decode cX3_rounded 27 = .ok (.aload_n 0, 1) := by decide +kernel
theorem dX3_rounded_28 : decode cX3_rounded 28 = .ok (.getfield 33, 3) := by decide +kernel
theorem dX3_rounded_31 : decode cX3_rounded 31 = .ok (.ireturn, 1) := by decide +kernel
theorem dX3_goesUp_0 : decode cX3_goesUp 0 = .ok (.aload_n 0, 1) := by decide +kernel
theorem dX3_goesUp_1 : decode cX3_goesUp 1 = .ok (.aload_n 0, 1) := by decide +kernel
theorem dX3_goesUp_2 : decode cX3_goesUp 2 = .ok (.getfield 36, 3) := by decide +kernel
theorem dX3_goesUp_5 : decode cX3_goesUp 5 = .ok (.aload_n 0, 1) := by decide +kernel
theorem dX3_goesUp_6 : decode cX3_goesUp 6 = .ok (.getfield 33, 3) := by decide +kernel
theorem dX3_goesUp_9 : decode cX3_goesUp 9 = .ok (.isub, 1) := by decide +kernel
theorem dX3_goesUp_10 : decode cX3_goesUp 10 = .ok (.i2l, 1) := by decide +kernel
theorem dX3_goesUp_11 : decode cX3_goesUp 11 = .ok (.invokevirtual 67, 3) := by decide +kernel
theorem dX3_goesUp_14 : decode cX3_goesUp 14 = .ok (.lstore_n 3, 1) := by decide +kernel
theorem dX3_goesUp_15 : decode cX3_goesUp 15 = .ok (.aload_n 0, 1) := by decide +kernel
theorem dX3_goesUp_16 : decode cX3_goesUp 16 = .ok (.getfield 45, 3) := by decide +kernel
theorem dX3_goesUp_19 : decode cX3_goesUp 19 = .ok (.aload_n 0, 1) := by decide +kernel
theorem dX3_goesUp_20 : decode cX3_goesUp 20 = .ok (.aload_n 0, 1) := by decide +kernel
theorem dX3_goesUp_21 : decode cX3_goesUp 21 = .ok (.getfield 33, 3) := by decide +kernel
theorem dX3_goesUp_24 : decode cX3_goesUp 24 = .ok (.i2l, 1) := by decide +kernel
theorem dX3_goesUp_25 : decode cX3_goesUp 25 = .ok (.invokevirtual 67, 3) := by decide +kernel
theorem dX3_goesUp_28 : decode cX3_goesUp 28 = .ok (.lsub, 1) := by decide +kernel
theorem dX3_goesUp_29 : decode cX3_goesUp 29 = .ok (.lstore 5, 2) := by decide +kernel
theorem dX3_goesUp_31 : decode cX3_goesUp 31 = .ok (.aload_n 0, 1) := by decide +kernel
theorem dX3_goesUp_32 : decode cX3_goesUp 32 = .ok (.getfield 36, 3) := by decide +kernel
theorem dX3_goesUp_35 : decode cX3_goesUp 35 = .ok (.ifCond .gt 7, 3) := by decide +kernel
theorem dX3_goesUp_38 : decode cX3_goesUp 38 = .ok (.iconst 1, 1) := by decide +kernel
theorem dX3_goesUp_39 : decode cX3_goesUp 39 = .ok (.goto 4, 3) := by decide +kernel
theorem dX3_goesUp_42 : decode cX3_goesUp 42 = .ok (.iconst 0, 1) := by decide +kernel
theorem dX3_goesUp_43 : decode cX3_goesUp 43 = .ok (.istore 7, 2) := by decide +kernel
theorem dX3_goesUp_45 : decode cX3_goesUp 45 = .ok (.iload_n 1, 1) := by decide +kernel
theorem dX3_goesUp_46 : decode cX3_goesUp 46 = .ok (.tableswitch 70 0 3 #[30, 32, 34, 37], 30) := by decide +kernel
theorem dX3_goesUp_76 : decode cX3_goesUp 76 = .ok (.iconst 0, 1) := by decide +kernel
theorem dX3_goesUp_77 : decode cX3_goesUp 77 = .ok (.ireturn, 1) := by decide +kernel
theorem dX3_goesUp_78 : decode cX3_goesUp 78 = .ok (.iconst 1, 1) := by decide +kernel
theorem dX3_goesUp_79 : decode cX3_goesUp 79 = .ok (.ireturn, 1) := by decide +kernel
theorem dX3_goesUp_80 : decode cX3_goesUp 80 = .ok (.iload 7, 2) := by decide +kernel
theorem dX3_goesUp_82 : decode cX3_goesUp 82 = .ok (.ireturn, 1) := by decide +kernel
theorem dX3_goesUp_83 : decode cX3_goesUp 83 = .ok (.ldc2_w 84, 3) := by decide +kernel
theorem dX3_goesUp_86 : decode cX3_goesUp 86 = .ok (.lload 5, 2) := by decide +kernel
theorem dX3_goesUp_88 : decode cX3_goesUp 88 = .ok (.lmul, 1) := by decide +kernel
theorem dX3_goesUp_89 : decode cX3_goesUp 89 = .ok (.lload_n 3, 1) := by decide +kernel
theorem dX3_goesUp_90 : decode cX3_goesUp 90 = .ok (.lcmp, 1) := by decide +kernel
theorem dX3_goesUp_91 : decode cX3_goesUp 91 = .ok (.ifCond .gt 19, 3) := by decide +kernel
theorem dX3_goesUp_94 : decode cX3_goesUp 94 = .ok (.ldc2_w 84, 3) := by decide +kernel
theorem dX3_goesUp_97 : decode cX3_goesUp 97 = .ok (.lload 5, 2) := by decide +kernel
theorem dX3_goesUp_99 : decode cX3_goesUp 99 = .ok (.lmul, 1) := by decide +kernel
theorem dX3_goesUp_100 : decode cX3_goesUp 100 = .ok (.lload_n 3, 1) := by decide +kernel
theorem dX3_goesUp_101 : decode cX3_goesUp 101 = .ok (.lcmp, 1) := by decide +kernel
theorem dX3_goesUp_102 : decode cX3_goesUp 102 = .ok (.ifCond .ne 12, 3) := by decide +kernel
theorem dX3_goesUp_105 : decode cX3_goesUp 105 = .ok (.iload 7, 2) := by decide +kernel
theorem dX3_goesUp_107 : decode cX3_goesUp 107 = .ok (.ifCond .eq 7, 3) := by decide +kernel
theorem dX3_goesUp_110 : decode cX3_goesUp 110 = .ok (.iconst 1, 1) := by decide +kernel
theorem dX3_goesUp_111 : decode cX3_goesUp 111 = .ok (.goto 4, 3) := by decide +kernel
theorem dX3_goesUp_114 : decode cX3_goesUp 114 = .ok (.iconst 0, 1) := by decide +kernel
theorem dX3_goesUp_115 : decode cX3_goesUp 115 = .ok (.ireturn, 1) := by decide +kernel
theorem dX3_goesUp_116 : decode cX3_goesUp 116 = .ok (.iload_n 2, 1) := by decide +kernel
theorem dX3_goesUp_117 : decode cX3_goesUp 117 = .ok (.i2l, 1) := by decide +kernel
theorem dX3_goesUp_118 : decode cX3_goesUp 118 = .ok (.lload_n 3, 1) := by decide +kernel
theorem dX3_goesUp_119 : decode cX3_goesUp 119 = .ok (.lmul, 1) := by decide +kernel
theorem dX3_goesUp_120 : decode cX3_goesUp 120 = .ok (.lload 5, 2) := by decide +kernel
theorem dX3_goesUp_122 : decode cX3_goesUp 122 = .ok (.aload_n 0, 1) := by decide +kernel
theorem dX3_goesUp_123 : decode cX3_goesUp 123 = .ok (.getfield 9, 3) := by decide +kernel
theorem dX3_goesUp_126 : decode cX3_goesUp 126 = .ok (.lshl, 1) := by decide +kernel
theorem dX3_goesUp_127 : decode cX3_goesUp 127 = .ok (.lcmp, 1) := by decide +kernel
theorem dX3_goesUp_128 : decode cX3_goesUp 128 = .ok (.ifCond .ge 7, 3) := by decide +kernel
theorem dX3_goesUp_131 : decode cX3_goesUp 131 = .ok (.iconst 1, 1) := by decide +kernel
theorem dX3_goesUp_132 : decode cX3_goesUp 132 = .ok (.goto 4, 3) := by decide +kernel
theorem dX3_goesUp_135 : decode cX3_goesUp 135 = .ok (.iconst 0, 1) := by decide +kernel
theorem dX3_goesUp_136 : decode cX3_goesUp 136 = .ok (.ireturn, 1) := by decide +kernel
theorem dX3_dependsOnDraw_0 : decode cX3_dependsOnDraw 0 = .ok (.aload_n 0, 1) := by decide +kernel
theorem dX3_dependsOnDraw_1 : decode cX3_dependsOnDraw 1 = .ok (.getfield 27, 3) := by decide +kernel
theorem dX3_dependsOnDraw_4 : decode cX3_dependsOnDraw 4 = .ok (.iconst 4, 1) := by decide +kernel
theorem dX3_dependsOnDraw_5 : decode cX3_dependsOnDraw 5 = .ok (.if_icmp .ne 18, 3) := by decide +kernel
theorem dX3_dependsOnDraw_8 : decode cX3_dependsOnDraw 8 = .ok (.aload_n 0, 1) := by decide +kernel
theorem dX3_dependsOnDraw_9 : decode cX3_dependsOnDraw 9 = .ok (.getfield 33, 3) := by decide +kernel
theorem dX3_dependsOnDraw_12 : decode cX3_dependsOnDraw 12 = .ok (.aload_n 0, 1) := by decide +kernel
theorem dX3_dependsOnDraw_13 : decode cX3_dependsOnDraw 13 = .ok (.getfield 36, 3) := by decide +kernel
theorem dX3_dependsOnDraw_16 : decode cX3_dependsOnDraw 16 = .ok (.if_icmp .eq 7, 3) := by decide +kernel
theorem dX3_dependsOnDraw_19 : decode cX3_dependsOnDraw 19 = .ok (.iconst 1, 1) := by decide +kernel
theorem dX3_dependsOnDraw_20 : decode cX3_dependsOnDraw 20 = .ok (.goto 4, 3) := by decide +kernel
theorem dX3_dependsOnDraw_23 : decode cX3_dependsOnDraw 23 = .ok (.iconst 0, 1) := by decide +kernel
theorem dX3_dependsOnDraw_24 : decode cX3_dependsOnDraw 24 = .ok (.ireturn, 1) := by decide +kernel
theorem dX3_drawsUp_0 : decode cX3_drawsUp 0 = .ok (.aload_n 0, 1) := by decide +kernel
theorem dX3_drawsUp_1 : decode cX3_drawsUp 1 = .ok (.getfield 15, 3) := by decide +kernel
theorem dX3_drawsUp_4 : decode cX3_drawsUp 4 = .ok (.bipush 10, 2) := by decide +kernel
theorem dX3_drawsUp_6 : decode cX3_drawsUp 6 = .ok (.lshl, 1) := by decide +kernel
theorem dX3_drawsUp_7 : decode cX3_drawsUp 7 = .ok (.lstore_n 1, 1) := by decide +kernel
theorem dX3_drawsUp_8 : decode cX3_drawsUp 8 = .ok (.aload_n 0, 1) := by decide +kernel
theorem dX3_drawsUp_9 : decode cX3_drawsUp 9 = .ok (.getfield 36, 3) := by decide +kernel
theorem dX3_drawsUp_12 : decode cX3_drawsUp 12 = .ok (.aload_n 0, 1) := by decide +kernel
theorem dX3_drawsUp_13 : decode cX3_drawsUp 13 = .ok (.getfield 33, 3) := by decide +kernel
theorem dX3_drawsUp_16 : decode cX3_drawsUp 16 = .ok (.isub, 1) := by decide +kernel
theorem dX3_drawsUp_17 : decode cX3_drawsUp 17 = .ok (.i2l, 1) := by decide +kernel
theorem dX3_drawsUp_18 : decode cX3_drawsUp 18 = .ok (.lload_n 1, 1) := by decide +kernel
theorem dX3_drawsUp_19 : decode cX3_drawsUp 19 = .ok (.lmul, 1) := by decide +kernel
theorem dX3_drawsUp_20 : decode cX3_drawsUp 20 = .ok (.lstore_n 3, 1) := by decide +kernel
theorem dX3_drawsUp_21 : decode cX3_drawsUp 21 = .ok (.aload_n 0, 1) := by decide +kernel
theorem dX3_drawsUp_22 : decode cX3_drawsUp 22 = .ok (.getfield 45, 3) := by decide +kernel
theorem dX3_drawsUp_25 : decode cX3_drawsUp 25 = .ok (.aload_n 0, 1) := by decide +kernel
theorem dX3_drawsUp_26 : decode cX3_drawsUp 26 = .ok (.getfield 33, 3) := by decide +kernel
theorem dX3_drawsUp_29 : decode cX3_drawsUp 29 = .ok (.i2l, 1) := by decide +kernel
theorem dX3_drawsUp_30 : decode cX3_drawsUp 30 = .ok (.lload_n 1, 1) := by decide +kernel
theorem dX3_drawsUp_31 : decode cX3_drawsUp 31 = .ok (.lmul, 1) := by decide +kernel
theorem dX3_drawsUp_32 : decode cX3_drawsUp 32 = .ok (.lsub, 1) := by decide +kernel
theorem dX3_drawsUp_33 : decode cX3_drawsUp 33 = .ok (.lstore 5, 2) := by decide +kernel
theorem dX3_drawsUp_35 : decode cX3_drawsUp 35 = .ok (.lload_n 3, 1) := by decide +kernel
theorem dX3_drawsUp_36 : decode cX3_drawsUp 36 = .ok (.lconst 1, 1) := by decide +kernel
theorem dX3_drawsUp_37 : decode cX3_drawsUp 37 = .ok (.lcmp, 1) := by decide +kernel
theorem dX3_drawsUp_38 : decode cX3_drawsUp 38 = .ok (.ifCond .ge 7, 3) := by decide +kernel
theorem dX3_drawsUp_41 : decode cX3_drawsUp 41 = .ok (.lconst 0, 1) := by decide +kernel
theorem dX3_drawsUp_42 : decode cX3_drawsUp 42 = .ok (.goto 18, 3) := by decide +kernel
theorem dX3_drawsUp_45 : decode cX3_drawsUp 45 = .ok (.lload 5, 2) := by decide +kernel
theorem dX3_drawsUp_47 : decode cX3_drawsUp 47 = .ok (.aload_n 0, 1) := by decide +kernel
theorem dX3_drawsUp_48 : decode cX3_drawsUp 48 = .ok (.getfield 9, 3) := by decide +kernel
theorem dX3_drawsUp_51 : decode cX3_drawsUp 51 = .ok (.lshl, 1) := by decide +kernel
theorem dX3_drawsUp_52 : decode cX3_drawsUp 52 = .ok (.lload_n 3, 1) := by decide +kernel
theorem dX3_drawsUp_53 : decode cX3_drawsUp 53 = .ok (.ladd, 1) := by decide +kernel
theorem dX3_drawsUp_54 : decode cX3_drawsUp 54 = .ok (.lconst 1, 1) := by decide +kernel
theorem dX3_drawsUp_55 : decode cX3_drawsUp 55 = .ok (.lsub, 1) := by decide +kernel
theorem dX3_drawsUp_56 : decode cX3_drawsUp 56 = .ok (.lload_n 3, 1) := by decide +kernel
theorem dX3_drawsUp_57 : decode cX3_drawsUp 57 = .ok (.invokestatic 71, 3) := by decide +kernel
theorem dX3_drawsUp_60 : decode cX3_drawsUp 60 = .ok (.lreturn, 1) := by decide +kernel
theorem dX3_average_0 : decode cX3_average 0 = .ok (.aload_n 0, 1) := by decide +kernel
theorem dX3_average_1 : decode cX3_average 1 = .ok (.invokevirtual 86, 3) := by decide +kernel
theorem dX3_average_4 : decode cX3_average 4 = .ok (.ifCond .ne 12, 3) := by decide +kernel
theorem dX3_average_7 : decode cX3_average 7 = .ok (.aload_n 0, 1) := by decide +kernel
theorem dX3_average_8 : decode cX3_average 8 = .ok (.getfield 39, 3) := by decide +kernel
theorem dX3_average_11 : decode cX3_average 11 = .ok (.i2l, 1) := by decide +kernel
theorem dX3_average_12 : decode cX3_average 12 = .ok (.bipush 8, 2) := by decide +kernel
theorem dX3_average_14 : decode cX3_average 14 = .ok (.lshl, 1) := by decide +kernel
theorem dX3_average_15 : decode cX3_average 15 = .ok (.lreturn, 1) := by decide +kernel
theorem dX3_average_16 : decode cX3_average 16 = .ok (.aload_n 0, 1) := by decide +kernel
theorem dX3_average_17 : decode cX3_average 17 = .ok (.getfield 33, 3) := by decide +kernel
theorem dX3_average_20 : decode cX3_average 20 = .ok (.i2l, 1) := by decide +kernel
theorem dX3_average_21 : decode cX3_average 21 = .ok (.aload_n 0, 1) := by decide +kernel
theorem dX3_average_22 : decode cX3_average 22 = .ok (.getfield 9, 3) := by decide +kernel
theorem dX3_average_25 : decode cX3_average 25 = .ok (.lshl, 1) := by decide +kernel
theorem dX3_average_26 : decode cX3_average 26 = .ok (.aload_n 0, 1) := by decide +kernel
theorem dX3_average_27 : decode cX3_average 27 = .ok (.invokevirtual 90, 3) := by decide +kernel
theorem dX3_average_30 : decode cX3_average 30 = .ok (.aload_n 0, 1) := by decide +kernel
theorem dX3_average_31 : decode cX3_average 31 = .ok (.getfield 36, 3) := by decide +kernel
theorem dX3_average_34 : decode cX3_average 34 = .ok (.aload_n 0, 1) := by decide +kernel
theorem dX3_average_35 : decode cX3_average 35 = .ok (.getfield 33, 3) := by decide +kernel
theorem dX3_average_38 : decode cX3_average 38 = .ok (.isub, 1) := by decide +kernel
theorem dX3_average_39 : decode cX3_average 39 = .ok (.i2l, 1) := by decide +kernel
theorem dX3_average_40 : decode cX3_average 40 = .ok (.lmul, 1) := by decide +kernel
theorem dX3_average_41 : decode cX3_average 41 = .ok (.ladd, 1) := by decide +kernel
theorem dX3_average_42 : decode cX3_average 42 = .ok (.lstore_n 1, 1) := by decide +kernel
theorem dX3_average_43 : decode cX3_average 43 = .ok (.lload_n 1, 1) := by decide +kernel
theorem dX3_average_44 : decode cX3_average 44 = .ok (.bipush 8, 2) := by decide +kernel
theorem dX3_average_46 : decode cX3_average 46 = .ok (.aload_n 0, 1) := by decide +kernel
theorem dX3_average_47 : decode cX3_average 47 = .ok (.getfield 9, 3) := by decide +kernel
theorem dX3_average_50 : decode cX3_average 50 = .ok (.isub, 1) := by decide +kernel
theorem dX3_average_51 : decode cX3_average 51 = .ok (.lshl, 1) := by decide +kernel
theorem dX3_average_52 : decode cX3_average 52 = .ok (.lreturn, 1) := by decide +kernel
theorem dX3_offset_0 : decode cX3_offset 0 = .ok (.aload_n 0, 1) := by decide +kernel
theorem dX3_offset_1 : decode cX3_offset 1 = .ok (.invokevirtual 94, 3) := by decide +kernel
theorem dX3_offset_4 : decode cX3_offset 4 = .ok (.iconst 2, 1) := by decide +kernel
theorem dX3_offset_5 : decode cX3_offset 5 = .ok (.lshl, 1) := by decide +kernel
theorem dX3_offset_6 : decode cX3_offset 6 = .ok (.aload_n 0, 1) := by decide +kernel
theorem dX3_offset_7 : decode cX3_offset 7 = .ok (.getfield 15, 3) := by decide +kernel
theorem dX3_offset_10 : decode cX3_offset 10 = .ok (.lmul, 1) := by decide +kernel
theorem dX3_offset_11 : decode cX3_offset 11 = .ok (.aload_n 0, 1) := by decide +kernel
theorem dX3_offset_12 : decode cX3_offset 12 = .ok (.getfield 45, 3) := by decide +kernel
theorem dX3_offset_15 : decode cX3_offset 15 = .ok (.lsub, 1) := by decide +kernel
theorem dX3_offset_16 : decode cX3_offset 16 = .ok (.lreturn, 1) := by decide +kernel
theorem dX3_scatter_0 : decode cX3_scatter 0 = .ok (.aload_n 0, 1) := by decide +kernel
theorem dX3_scatter_1 : decode cX3_scatter 1 = .ok (.invokevirtual 86, 3) := by decide +kernel
theorem dX3_scatter_4 : decode cX3_scatter 4 = .ok (.ifCond .ne 5, 3) := by decide +kernel
theorem dX3_scatter_7 : decode cX3_scatter 7 = .ok (.lconst 0, 1) := by decide +kernel
theorem dX3_scatter_8 : decode cX3_scatter 8 = .ok (.lreturn, 1) := by decide +kernel
theorem dX3_scatter_9 : decode cX3_scatter 9 = .ok (.aload_n 0, 1) := by decide +kernel
theorem dX3_scatter_10 : decode cX3_scatter 10 = .ok (.invokevirtual 90, 3) := by decide +kernel
theorem dX3_scatter_13 : decode cX3_scatter 13 = .ok (.lstore_n 1, 1) := by decide +kernel
theorem dX3_scatter_14 : decode cX3_scatter 14 = .ok (.lconst 1, 1) := by decide +kernel
theorem dX3_scatter_15 : decode cX3_scatter 15 = .ok (.aload_n 0, 1) := by decide +kernel
theorem dX3_scatter_16 : decode cX3_scatter 16 = .ok (.getfield 9, 3) := by decide +kernel
theorem dX3_scatter_19 : decode cX3_scatter 19 = .ok (.lshl, 1) := by decide +kernel
theorem dX3_scatter_20 : decode cX3_scatter 20 = .ok (.lload_n 1, 1) := by decide +kernel
theorem dX3_scatter_21 : decode cX3_scatter 21 = .ok (.lsub, 1) := by decide +kernel
theorem dX3_scatter_22 : decode cX3_scatter 22 = .ok (.lstore_n 3, 1) := by decide +kernel
theorem dX3_scatter_23 : decode cX3_scatter 23 = .ok (.aload_n 0, 1) := by decide +kernel
theorem dX3_scatter_24 : decode cX3_scatter 24 = .ok (.getfield 36, 3) := by decide +kernel
theorem dX3_scatter_27 : decode cX3_scatter 27 = .ok (.aload_n 0, 1) := by decide +kernel
theorem dX3_scatter_28 : decode cX3_scatter 28 = .ok (.getfield 33, 3) := by decide +kernel
theorem dX3_scatter_31 : decode cX3_scatter 31 = .ok (.isub, 1) := by decide +kernel
theorem dX3_scatter_32 : decode cX3_scatter 32 = .ok (.i2l, 1) := by decide +kernel
theorem dX3_scatter_33 : decode cX3_scatter 33 = .ok (.lstore 5, 2) := by decide +kernel
theorem dX3_scatter_35 : decode cX3_scatter 35 = .ok (.lload_n 1, 1) := by decide +kernel
theorem dX3_scatter_36 : decode cX3_scatter 36 = .ok (.lload_n 3, 1) := by decide +kernel
theorem dX3_scatter_37 : decode cX3_scatter 37 = .ok (.lmul, 1) := by decide +kernel
theorem dX3_scatter_38 : decode cX3_scatter 38 = .ok (.lload 5, 2) := by decide +kernel
theorem dX3_scatter_40 : decode cX3_scatter 40 = .ok (.lmul, 1) := by decide +kernel
theorem dX3_scatter_41 : decode cX3_scatter 41 = .ok (.lload 5, 2) := by decide +kernel
theorem dX3_scatter_43 : decode cX3_scatter 43 = .ok (.lmul, 1) := by decide +kernel
theorem dX3_scatter_44 : decode cX3_scatter 44 = .ok (.iconst 2, 1) := by decide +kernel
theorem dX3_scatter_45 : decode cX3_scatter 45 = .ok (.bipush 8, 2) := by decide +kernel
theorem dX3_scatter_47 : decode cX3_scatter 47 = .ok (.aload_n 0, 1) := by decide +kernel
theorem dX3_scatter_48 : decode cX3_scatter 48 = .ok (.getfield 9, 3) := by decide +kernel
theorem dX3_scatter_51 : decode cX3_scatter 51 = .ok (.isub, 1) := by decide +kernel
theorem dX3_scatter_52 : decode cX3_scatter 52 = .ok (.imul, 1) := by decide +kernel
theorem dX3_scatter_53 : decode cX3_scatter 53 = .ok (.lshl, 1) := by decide +kernel
theorem dX3_scatter_54 : decode cX3_scatter 54 = .ok (.lreturn, 1) := by decide +kernel
theorem dX3_addedTo_0 : decode cX3_addedTo 0 = .ok (.ldc2_w 97, 3) := by decide +kernel
theorem dX3_addedTo_3 : decode cX3_addedTo 3 = .ok (.lload_n 1, 1) := by decide +kernel
theorem dX3_addedTo_4 : decode cX3_addedTo 4 = .ok (.lmul, 1) := by decide +kernel
theorem dX3_addedTo_5 : decode cX3_addedTo 5 = .ok (.aload_n 0, 1) := by decide +kernel
theorem dX3_addedTo_6 : decode cX3_addedTo 6 = .ok (.getfield 21, 3) := by decide +kernel
theorem dX3_addedTo_9 : decode cX3_addedTo 9 = .ok (.i2l, 1) := by decide +kernel
theorem dX3_addedTo_10 : decode cX3_addedTo 10 = .ok (.ladd, 1) := by decide +kernel
theorem dX3_addedTo_11 : decode cX3_addedTo 11 = .ok (.lstore_n 3, 1) := by decide +kernel
theorem dX3_addedTo_12 : decode cX3_addedTo 12 = .ok (.ldc2_w 97, 3) := by decide +kernel
theorem dX3_addedTo_15 : decode cX3_addedTo 15 = .ok (.lload_n 3, 1) := by decide +kernel
theorem dX3_addedTo_16 : decode cX3_addedTo 16 = .ok (.lmul, 1) := by decide +kernel
theorem dX3_addedTo_17 : decode cX3_addedTo 17 = .ok (.aload_n 0, 1) := by decide +kernel
theorem dX3_addedTo_18 : decode cX3_addedTo 18 = .ok (.invokevirtual 99, 3) := by decide +kernel
theorem dX3_addedTo_21 : decode cX3_addedTo 21 = .ok (.i2l, 1) := by decide +kernel
theorem dX3_addedTo_22 : decode cX3_addedTo 22 = .ok (.ladd, 1) := by decide +kernel
theorem dX3_addedTo_23 : decode cX3_addedTo 23 = .ok (.lstore_n 3, 1) := by decide +kernel
theorem dX3_addedTo_24 : decode cX3_addedTo 24 = .ok (.ldc2_w 97, 3) := by decide +kernel
theorem dX3_addedTo_27 : decode cX3_addedTo 27 = .ok (.lload_n 3, 1) := by decide +kernel
theorem dX3_addedTo_28 : decode cX3_addedTo 28 = .ok (.lmul, 1) := by decide +kernel
theorem dX3_addedTo_29 : decode cX3_addedTo 29 = .ok (.aload_n 0, 1) := by decide +kernel
theorem dX3_addedTo_30 : decode cX3_addedTo 30 = .ok (.getfield 39, 3) := by decide +kernel
theorem dX3_addedTo_33 : decode cX3_addedTo 33 = .ok (.i2l, 1) := by decide +kernel
theorem dX3_addedTo_34 : decode cX3_addedTo 34 = .ok (.ladd, 1) := by decide +kernel
theorem dX3_addedTo_35 : decode cX3_addedTo 35 = .ok (.lstore_n 3, 1) := by decide +kernel
theorem dX3_addedTo_36 : decode cX3_addedTo 36 = .ok (.ldc2_w 97, 3) := by decide +kernel
theorem dX3_addedTo_39 : decode cX3_addedTo 39 = .ok (.lload_n 3, 1) := by decide +kernel
theorem dX3_addedTo_40 : decode cX3_addedTo 40 = .ok (.lmul, 1) := by decide +kernel
theorem dX3_addedTo_41 : decode cX3_addedTo 41 = .ok (.aload_n 0, 1) := by decide +kernel
theorem dX3_addedTo_42 : decode cX3_addedTo 42 = .ok (.getfield 33, 3) := by decide +kernel
theorem dX3_addedTo_45 : decode cX3_addedTo 45 = .ok (.i2l, 1) := by decide +kernel
theorem dX3_addedTo_46 : decode cX3_addedTo 46 = .ok (.ladd, 1) := by decide +kernel
theorem dX3_addedTo_47 : decode cX3_addedTo 47 = .ok (.lstore_n 3, 1) := by decide +kernel
theorem dX3_addedTo_48 : decode cX3_addedTo 48 = .ok (.ldc2_w 97, 3) := by decide +kernel
theorem dX3_addedTo_51 : decode cX3_addedTo 51 = .ok (.lload_n 3, 1) := by decide +kernel
theorem dX3_addedTo_52 : decode cX3_addedTo 52 = .ok (.lmul, 1) := by decide +kernel
theorem dX3_addedTo_53 : decode cX3_addedTo 53 = .ok (.aload_n 0, 1) := by decide +kernel
theorem dX3_addedTo_54 : decode cX3_addedTo 54 = .ok (.getfield 36, 3) := by decide +kernel
theorem dX3_addedTo_57 : decode cX3_addedTo 57 = .ok (.i2l, 1) := by decide +kernel
theorem dX3_addedTo_58 : decode cX3_addedTo 58 = .ok (.ladd, 1) := by decide +kernel
theorem dX3_addedTo_59 : decode cX3_addedTo 59 = .ok (.lstore_n 3, 1) := by decide +kernel
theorem dX3_addedTo_60 : decode cX3_addedTo 60 = .ok (.ldc2_w 97, 3) := by decide +kernel
theorem dX3_addedTo_63 : decode cX3_addedTo 63 = .ok (.lload_n 3, 1) := by decide +kernel
theorem dX3_addedTo_64 : decode cX3_addedTo 64 = .ok (.lmul, 1) := by decide +kernel
theorem dX3_addedTo_65 : decode cX3_addedTo 65 = .ok (.aload_n 0, 1) := by decide +kernel
theorem dX3_addedTo_66 : decode cX3_addedTo 66 = .ok (.getfield 30, 3) := by decide +kernel
theorem dX3_addedTo_69 : decode cX3_addedTo 69 = .ok (.i2l, 1) := by decide +kernel
theorem dX3_addedTo_70 : decode cX3_addedTo 70 = .ok (.ladd, 1) := by decide +kernel
theorem dX3_addedTo_71 : decode cX3_addedTo 71 = .ok (.lstore_n 3, 1) := by decide +kernel
theorem dX3_addedTo_72 : decode cX3_addedTo 72 = .ok (.ldc2_w 97, 3) := by decide +kernel
theorem dX3_addedTo_75 : decode cX3_addedTo 75 = .ok (.lload_n 3, 1) := by decide +kernel
theorem dX3_addedTo_76 : decode cX3_addedTo 76 = .ok (.lmul, 1) := by decide +kernel
theorem dX3_addedTo_77 : decode cX3_addedTo 77 = .ok (.aload_n 0, 1) := by decide +kernel
theorem dX3_addedTo_78 : decode cX3_addedTo 78 = .ok (.getfield 42, 3) := by decide +kernel
theorem dX3_addedTo_81 : decode cX3_addedTo 81 = .ok (.i2l, 1) := by decide +kernel
theorem dX3_addedTo_82 : decode cX3_addedTo 82 = .ok (.ladd, 1) := by decide +kernel
theorem dX3_addedTo_83 : decode cX3_addedTo 83 = .ok (.lreturn, 1) := by decide +kernel
theorem dJ9_floorDiv_f86c9_0 : decode cJ9_floorDiv_f86c9 0 = .ok (.lload_n 0, 1) := by decide +kernel
theorem dJ9_floorDiv_f86c9_1 : decode cJ9_floorDiv_f86c9 1 = .ok (.lload_n 2, 1) := by decide +kernel
theorem dJ9_floorDiv_f86c9_2 : decode cJ9_floorDiv_f86c9 2 = .ok (.ldiv, 1) := by decide +kernel
theorem dJ9_floorDiv_f86c9_3 : decode cJ9_floorDiv_f86c9 3 = .ok (.lstore 4, 2) := by decide +kernel
theorem dJ9_floorDiv_f86c9_5 : decode cJ9_floorDiv_f86c9 5 = .ok (.lload_n 0, 1) := by decide +kernel
theorem dJ9_floorDiv_f86c9_6 : decode cJ9_floorDiv_f86c9 6 = .ok (.lload_n 2, 1) := by decide +kernel
theorem dJ9_floorDiv_f86c9_7 : decode cJ9_floorDiv_f86c9 7 = .ok (.lxor, 1) := by decide +kernel
theorem dJ9_floorDiv_f86c9_8 : decode cJ9_floorDiv_f86c9 8 = .ok (.lconst 0, 1) := by decide +kernel
theorem dJ9_floorDiv_f86c9_9 : decode cJ9_floorDiv_f86c9 9 = .ok (.lcmp, 1) := by decide +kernel
theorem dJ9_floorDiv_f86c9_10 : decode cJ9_floorDiv_f86c9 10 = .ok (.ifCond .ge 17, 3) := by decide +kernel
theorem dJ9_floorDiv_f86c9_13 : decode cJ9_floorDiv_f86c9 13 = .ok (.lload 4, 2) := by decide +kernel
theorem dJ9_floorDiv_f86c9_15 : decode cJ9_floorDiv_f86c9 15 = .ok (.lload_n 2, 1) := by decide +kernel
theorem dJ9_floorDiv_f86c9_16 : decode cJ9_floorDiv_f86c9 16 = .ok (.lmul, 1) := by decide +kernel
theorem dJ9_floorDiv_f86c9_17 : decode cJ9_floorDiv_f86c9 17 = .ok (.lload_n 0, 1) := by decide +kernel
theorem dJ9_floorDiv_f86c9_18 : decode cJ9_floorDiv_f86c9 18 = .ok (.lcmp, 1) := by decide +kernel
theorem dJ9_floorDiv_f86c9_19 : decode cJ9_floorDiv_f86c9 19 = .ok (.ifCond .eq 8, 3) := by decide +kernel
theorem dJ9_floorDiv_f86c9_22 : decode cJ9_floorDiv_f86c9 22 = .ok (.lload 4, 2) := by decide +kernel
theorem dJ9_floorDiv_f86c9_24 : decode cJ9_floorDiv_f86c9 24 = .ok (.lconst 1, 1) := by decide +kernel
theorem dJ9_floorDiv_f86c9_25 : decode cJ9_floorDiv_f86c9 25 = .ok (.lsub, 1) := by decide +kernel
theorem dJ9_floorDiv_f86c9_26 : decode cJ9_floorDiv_f86c9 26 = .ok (.lreturn, 1) := by decide +kernel
theorem dJ9_floorDiv_f86c9_27 : decode cJ9_floorDiv_f86c9 27 = .ok (.lload 4, 2) := by decide +kernel
theorem dJ9_floorDiv_f86c9_29 : decode cJ9_floorDiv_f86c9 29 = .ok (.lreturn, 1) := by decide +kernel
theorem dJ9_abs_0f7a4_0 : decode cJ9_abs_0f7a4 0 = .ok (.iload_n 0, 1) := by decide +kernel
theorem dJ9_abs_0f7a4_1 : decode cJ9_abs_0f7a4 1 = .ok (.ifCond .ge 8, 3) := by decide +kernel
theorem dJ9_abs_0f7a4_4 : decode cJ9_abs_0f7a4 4 = .ok (.iload_n 0, 1) := by decide +kernel
theorem dJ9_abs_0f7a4_5 : decode cJ9_abs_0f7a4 5 = .ok (.ineg, 1) := by decide +kernel
theorem dJ9_abs_0f7a4_6 : decode cJ9_abs_0f7a4 6 = .ok (.goto 4, 3) := by decide +kernel
theorem dJ9_abs_0f7a4_9 : decode cJ9_abs_0f7a4 9 = .ok (.iload_n 0, 1) := by decide +kernel
theorem dJ9_abs_0f7a4_10 : decode cJ9_abs_0f7a4 10 = .ok (.ireturn, 1) := by decide +kernel
theorem dJ9_abs_067f4_0 : decode cJ9_abs_067f4 0 = .ok (.lload_n 0, 1) := by decide +kernel
theorem dJ9_abs_067f4_1 : decode cJ9_abs_067f4 1 = .ok (.lconst 0, 1) := by decide +kernel
theorem dJ9_abs_067f4_2 : decode cJ9_abs_067f4 2 = .ok (.lcmp, 1) := by decide +kernel
theorem dJ9_abs_067f4_3 : decode cJ9_abs_067f4 3 = .ok (.ifCond .ge 8, 3) := by decide +kernel
theorem dJ9_abs_067f4_6 : decode cJ9_abs_067f4 6 = .ok (.lload_n 0, 1) := by decide +kernel
theorem dJ9_abs_067f4_7 : decode cJ9_abs_067f4 7 = .ok (.lneg, 1) := by decide +kernel
theorem dJ9_abs_067f4_8 : decode cJ9_abs_067f4 8 = .ok (.goto 4, 3) := by decide +kernel
theorem dJ9_abs_067f4_11 : decode cJ9_abs_067f4 11 = .ok (.lload_n 0, 1) := by decide +kernel
theorem dJ9_abs_067f4_12 : decode cJ9_abs_067f4 12 = .ok (.lreturn, 1) := by decide +kernel
theorem dJ9_max_7cf53_0 : decode cJ9_max_7cf53 0 = .ok (.iload_n 0, 1) := by decide +kernel
theorem dJ9_max_7cf53_1 : decode cJ9_max_7cf53 1 = .ok (.iload_n 1, 1) := by decide +kernel
theorem dJ9_max_7cf53_2 : decode cJ9_max_7cf53 2 = .ok (.if_icmp .lt 7, 3) := by decide +kernel
theorem dJ9_max_7cf53_5 : decode cJ9_max_7cf53 5 = .ok (.iload_n 0, 1) := by decide +kernel
theorem dJ9_max_7cf53_6 : decode cJ9_max_7cf53 6 = .ok (.goto 4, 3) := by decide +kernel
theorem dJ9_max_7cf53_9 : decode cJ9_max_7cf53 9 = .ok (.iload_n 1, 1) := by decide +kernel
theorem dJ9_max_7cf53_10 : decode cJ9_max_7cf53 10 = .ok (.ireturn, 1) := by decide +kernel
theorem dJ9_min_7cf53_0 : decode cJ9_min_7cf53 0 = .ok (.iload_n 0, 1) := by decide +kernel
theorem dJ9_min_7cf53_1 : decode cJ9_min_7cf53 1 = .ok (.iload_n 1, 1) := by decide +kernel
theorem dJ9_min_7cf53_2 : decode cJ9_min_7cf53 2 = .ok (.if_icmp .gt 7, 3) := by decide +kernel
theorem dJ9_min_7cf53_5 : decode cJ9_min_7cf53 5 = .ok (.iload_n 0, 1) := by decide +kernel
theorem dJ9_min_7cf53_6 : decode cJ9_min_7cf53 6 = .ok (.goto 4, 3) := by decide +kernel
theorem dJ9_min_7cf53_9 : decode cJ9_min_7cf53 9 = .ok (.iload_n 1, 1) := by decide +kernel
theorem dJ9_min_7cf53_10 : decode cJ9_min_7cf53 10 = .ok (.ireturn, 1) := by decide +kernel
