theorem dX7_init_0 : decode cX7_init 0 = .ok (.aload_n 0, 1) := by decide +kernel
theorem dX7_init_1 : decode cX7_init 1 = .ok (.invokespecial 1, 3) := by decide +kernel
theorem dX7_init_4 : decode cX7_init 4 = .ok (.aload_n 0, 1) := by decide +kernel
theorem dX7_init_5 : decode cX7_init 5 = .ok (.new 7, 3) := by decide +kernel
theorem dX7_init_8 : decode cX7_init 8 = .ok (.dup, 1) := by decide +kernel
theorem dX7_init_9 : decode cX7_init 9 = .ok (.invokespecial 9, 3) := by decide +kernel
theorem dX7_init_12 : decode cX7_init 12 = .ok (.putfield 10, 3) := by decide +kernel
theorem dX7_init_15 : decode cX7_init 15 = .ok (.aload_n 0, 1) := by decide +kernel
theorem dX7_init_16 : decode cX7_init 16 = .ok (.new 16, 3) := by decide +kernel
theorem dX7_init_19 : decode cX7_init 19 = .ok (.dup, 1) := by decide +kernel
theorem dX7_init_20 : decode cX7_init 20 = .ok (.invokespecial 18, 3) := by decide +kernel
theorem dX7_init_23 : decode cX7_init 23 = .ok (.putfield 19, 3) := by decide +kernel
theorem dX7_init_26 : decode cX7_init 26 = .ok (.aload_n 0, 1) := by decide +kernel
theorem dX7_init_27 : decode cX7_init 27 = .ok (.new 23, 3) := by decide +kernel
theorem dX7_init_30 : decode cX7_init 30 = .ok (.dup, 1) := by decide +kernel
theorem dX7_init_31 : decode cX7_init 31 = .ok (.invokespecial 25, 3) := by decide +kernel
theorem dX7_init_34 : decode cX7_init 34 = .ok (.putfield 26, 3) := by decide +kernel
theorem dX7_init_37 : decode cX7_init 37 = .ok (.aload_n 0, 1) := by decide +kernel
theorem dX7_init_38 : decode cX7_init 38 = .ok (.new 30, 3) := by decide +kernel
theorem dX7_init_41 : decode cX7_init 41 = .ok (.dup, 1) := by decide +kernel
theorem dX7_init_42 : decode cX7_init 42 = .ok (.invokespecial 32, 3) := by decide +kernel
theorem dX7_init_45 : decode cX7_init 45 = .ok (.putfield 33, 3) := by decide +kernel
theorem dX7_init_48 : decode cX7_init 48 = .ok (.aload_n 0, 1) := by decide +kernel
theorem dX7_init_49 : decode cX7_init 49 = .ok (.new 37, 3) := by decide +kernel
theorem dX7_init_52 : decode cX7_init 52 = .ok (.dup, 1) := by decide +kernel
theorem dX7_init_53 : decode cX7_init 53 = .ok (.invokespecial 39, 3) := by decide +kernel
theorem dX7_init_56 : decode cX7_init 56 = .ok (.putfield 40, 3) := by decide +kernel
theorem dX7_init_59 : decode cX7_init 59 = .ok (.aload_n 0, 1) := by decide +kernel
theorem dX7_init_60 : decode cX7_init 60 = .ok (.new 7, 3) := by decide +kernel
theorem dX7_init_63 : decode cX7_init 63 = .ok (.dup, 1) := by decide +kernel
theorem dX7_init_64 : decode cX7_init 64 = .ok (.invokespecial 9, 3) := by decide +kernel
theorem dX7_init_67 : decode cX7_init 67 = .ok (.putfield 44, 3) := by decide +kernel
theorem dX7_init_70 : decode cX7_init 70 = .ok (.aload_n 0, 1) := by decide +kernel
theorem dX7_init_71 : decode cX7_init 71 = .ok (.new 47, 3) := by decide +kernel
theorem dX7_init_74 : decode cX7_init 74 = .ok (.dup, 1) := by decide +kernel
theorem dX7_init_75 : decode cX7_init 75 = .ok (.invokespecial 49, 3) := by decide +kernel
theorem dX7_init_78 : decode cX7_init 78 = .ok (.putfield 50, 3) := by decide +kernel
theorem dX7_init_81 : decode cX7_init 81 = .ok (.aload_n 0, 1) := by decide +kernel
theorem dX7_init_82 : decode cX7_init 82 = .ok (.iconst 0, 1) := by decide +kernel
theorem dX7_init_83 : decode cX7_init 83 = .ok (.putfield 54, 3) := by decide +kernel
theorem dX7_init_86 : decode cX7_init 86 = .ok (.return_, 1) := by decide +kernel
theorem dX7_setFormat_0 : decode cX7_setFormat 0 = .ok (.iload_n 1, 1) := by decide +kernel
theorem dX7_setFormat_1 : decode cX7_setFormat 1 = .ok (.invokestatic 58, 3) := by decide +kernel
theorem dX7_setFormat_4 : decode cX7_setFormat 4 = .ok (.ifCond .eq 13, 3) := by decide +kernel
theorem dX7_setFormat_7 : decode cX7_setFormat 7 = .ok (.iload_n 2, 1) := by decide +kernel
theorem dX7_setFormat_8 : decode cX7_setFormat 8 = .ok (.iload_n 3, 1) := by decide +kernel
theorem dX7_setFormat_9 : decode cX7_setFormat 9 = .ok (.iload 4, 2) := by decide +kernel
theorem dX7_setFormat_11 : decode cX7_setFormat 11 = .ok (.invokestatic 62, 3) := by decide +kernel
theorem dX7_setFormat_14 : decode cX7_setFormat 14 = .ok (.ifCond .ne 6, 3) := by decide +kernel
theorem dX7_setFormat_17 : decode cX7_setFormat 17 = .ok (.ldc 68, 2) := by decide +kernel
theorem dX7_setFormat_19 : decode cX7_setFormat 19 = .ok (.ireturn, 1) := by decide +kernel
theorem dX7_setFormat_20 : decode cX7_setFormat 20 = .ok (.aload_n 0, 1) := by decide +kernel
theorem dX7_setFormat_21 : decode cX7_setFormat 21 = .ok (.invokevirtual 69, 3) := by decide +kernel
theorem dX7_setFormat_24 : decode cX7_setFormat 24 = .ok (.aload_n 0, 1) := by decide +kernel
theorem dX7_setFormat_25 : decode cX7_setFormat 25 = .ok (.getfield 10, 3) := by decide +kernel
theorem dX7_setFormat_28 : decode cX7_setFormat 28 = .ok (.getfield 72, 3) := by decide +kernel
theorem dX7_setFormat_31 : decode cX7_setFormat 31 = .ok (.iload_n 1, 1) := by decide +kernel
theorem dX7_setFormat_32 : decode cX7_setFormat 32 = .ok (.aaload, 1) := by decide +kernel
theorem dX7_setFormat_33 : decode cX7_setFormat 33 = .ok (.getfield 76, 3) := by decide +kernel
theorem dX7_setFormat_36 : decode cX7_setFormat 36 = .ok (.istore 5, 2) := by decide +kernel
theorem dX7_setFormat_38 : decode cX7_setFormat 38 = .ok (.aload_n 0, 1) := by decide +kernel
theorem dX7_setFormat_39 : decode cX7_setFormat 39 = .ok (.getfield 10, 3) := by decide +kernel
theorem dX7_setFormat_42 : decode cX7_setFormat 42 = .ok (.getfield 72, 3) := by decide +kernel
theorem dX7_setFormat_45 : decode cX7_setFormat 45 = .ok (.iload_n 1, 1) := by decide +kernel
theorem dX7_setFormat_46 : decode cX7_setFormat 46 = .ok (.aaload, 1) := by decide +kernel
theorem dX7_setFormat_47 : decode cX7_setFormat 47 = .ok (.iload_n 2, 1) := by decide +kernel
theorem dX7_setFormat_48 : decode cX7_setFormat 48 = .ok (.iload_n 3, 1) := by decide +kernel
theorem dX7_setFormat_49 : decode cX7_setFormat 49 = .ok (.iload 4, 2) := by decide +kernel
theorem dX7_setFormat_51 : decode cX7_setFormat 51 = .ok (.invokevirtual 79, 3) := by decide +kernel
theorem dX7_setFormat_54 : decode cX7_setFormat 54 = .ok (.aload_n 0, 1) := by decide +kernel
theorem dX7_setFormat_55 : decode cX7_setFormat 55 = .ok (.getfield 10, 3) := by decide +kernel
theorem dX7_setFormat_58 : decode cX7_setFormat 58 = .ok (.iload_n 1, 1) := by decide +kernel
theorem dX7_setFormat_59 : decode cX7_setFormat 59 = .ok (.invokevirtual 83, 3) := by decide +kernel
theorem dX7_setFormat_62 : decode cX7_setFormat 62 = .ok (.iload 5, 2) := by decide +kernel
theorem dX7_setFormat_64 : decode cX7_setFormat 64 = .ok (.ireturn, 1) := by decide +kernel
theorem dX7_setRegister_0 : decode cX7_setRegister 0 = .ok (.iload_n 1, 1) := by decide +kernel
theorem dX7_setRegister_1 : decode cX7_setRegister 1 = .ok (.invokestatic 87, 3) := by decide +kernel
theorem dX7_setRegister_4 : decode cX7_setRegister 4 = .ok (.ifCond .eq 10, 3) := by decide +kernel
theorem dX7_setRegister_7 : decode cX7_setRegister 7 = .ok (.iload_n 2, 1) := by decide +kernel
theorem dX7_setRegister_8 : decode cX7_setRegister 8 = .ok (.invokestatic 58, 3) := by decide +kernel
theorem dX7_setRegister_11 : decode cX7_setRegister 11 = .ok (.ifCond .ne 6, 3) := by decide +kernel
theorem dX7_setRegister_14 : decode cX7_setRegister 14 = .ok (.ldc 68, 2) := by decide +kernel
theorem dX7_setRegister_16 : decode cX7_setRegister 16 = .ok (.ireturn, 1) := by decide +kernel
theorem dX7_setRegister_17 : decode cX7_setRegister 17 = .ok (.aload_n 0, 1) := by decide +kernel
theorem dX7_setRegister_18 : decode cX7_setRegister 18 = .ok (.invokevirtual 69, 3) := by decide +kernel
theorem dX7_setRegister_21 : decode cX7_setRegister 21 = .ok (.aload_n 0, 1) := by decide +kernel
theorem dX7_setRegister_22 : decode cX7_setRegister 22 = .ok (.getfield 10, 3) := by decide +kernel
theorem dX7_setRegister_25 : decode cX7_setRegister 25 = .ok (.getfield 90, 3) := by decide +kernel
theorem dX7_setRegister_28 : decode cX7_setRegister 28 = .ok (.iload_n 1, 1) := by decide +kernel
theorem dX7_setRegister_29 : decode cX7_setRegister 29 = .ok (.iaload, 1) := by decide +kernel
theorem dX7_setRegister_30 : decode cX7_setRegister 30 = .ok (.istore_n 3, 1) := by decide +kernel
theorem dX7_setRegister_31 : decode cX7_setRegister 31 = .ok (.aload_n 0, 1) := by decide +kernel
theorem dX7_setRegister_32 : decode cX7_setRegister 32 = .ok (.getfield 10, 3) := by decide +kernel
theorem dX7_setRegister_35 : decode cX7_setRegister 35 = .ok (.getfield 90, 3) := by decide +kernel
theorem dX7_setRegister_38 : decode cX7_setRegister 38 = .ok (.iload_n 1, 1) := by decide +kernel
theorem dX7_setRegister_39 : decode cX7_setRegister 39 = .ok (.iload_n 2, 1) := by decide +kernel
theorem dX7_setRegister_40 : decode cX7_setRegister 40 = .ok (.iastore, 1) := by decide +kernel
theorem dX7_setRegister_41 : decode cX7_setRegister 41 = .ok (.aload_n 0, 1) := by decide +kernel
theorem dX7_setRegister_42 : decode cX7_setRegister 42 = .ok (.getfield 10, 3) := by decide +kernel
theorem dX7_setRegister_45 : decode cX7_setRegister 45 = .ok (.getfield 94, 3) := by decide +kernel
theorem dX7_setRegister_48 : decode cX7_setRegister 48 = .ok (.iload_n 1, 1) := by decide +kernel
theorem dX7_setRegister_49 : decode cX7_setRegister 49 = .ok (.iconst 0, 1) := by decide +kernel
theorem dX7_setRegister_50 : decode cX7_setRegister 50 = .ok (.iastore, 1) := by decide +kernel
theorem dX7_setRegister_51 : decode cX7_setRegister 51 = .ok (.iload_n 3, 1) := by decide +kernel
theorem dX7_setRegister_52 : decode cX7_setRegister 52 = .ok (.ireturn, 1) := by decide +kernel
theorem dX7_setValue_0 : decode cX7_setValue 0 = .ok (.iload_n 1, 1) := by decide +kernel
theorem dX7_setValue_1 : decode cX7_setValue 1 = .ok (.invokestatic 87, 3) := by decide +kernel
theorem dX7_setValue_4 : decode cX7_setValue 4 = .ok (.ifCond .eq 10, 3) := by decide +kernel
theorem dX7_setValue_7 : decode cX7_setValue 7 = .ok (.iload_n 2, 1) := by decide +kernel
theorem dX7_setValue_8 : decode cX7_setValue 8 = .ok (.invokestatic 97, 3) := by decide +kernel
theorem dX7_setValue_11 : decode cX7_setValue 11 = .ok (.ifCond .ne 6, 3) := by decide +kernel
theorem dX7_setValue_14 : decode cX7_setValue 14 = .ok (.ldc 68, 2) := by decide +kernel
theorem dX7_setValue_16 : decode cX7_setValue 16 = .ok (.ireturn, 1) := by decide +kernel
theorem dX7_setValue_17 : decode cX7_setValue 17 = .ok (.aload_n 0, 1) := by decide +kernel
theorem dX7_setValue_18 : decode cX7_setValue 18 = .ok (.invokevirtual 69, 3) := by decide +kernel
theorem dX7_setValue_21 : decode cX7_setValue 21 = .ok (.aload_n 0, 1) := by decide +kernel
theorem dX7_setValue_22 : decode cX7_setValue 22 = .ok (.getfield 50, 3) := by decide +kernel
theorem dX7_setValue_25 : decode cX7_setValue 25 = .ok (.iload_n 2, 1) := by decide +kernel
theorem dX7_setValue_26 : decode cX7_setValue 26 = .ok (.i2l, 1) := by decide +kernel
theorem dX7_setValue_27 : decode cX7_setValue 27 = .ok (.bipush 10, 2) := by decide +kernel
theorem dX7_setValue_29 : decode cX7_setValue 29 = .ok (.lshl, 1) := by decide +kernel
theorem dX7_setValue_30 : decode cX7_setValue 30 = .ok (.lconst 1, 1) := by decide +kernel
theorem dX7_setValue_31 : decode cX7_setValue 31 = .ok (.invokevirtual 100, 3) := by decide +kernel
theorem dX7_setValue_34 : decode cX7_setValue 34 = .ok (.aload_n 0, 1) := by decide +kernel
theorem dX7_setValue_35 : decode cX7_setValue 35 = .ok (.getfield 50, 3) := by decide +kernel
theorem dX7_setValue_38 : decode cX7_setValue 38 = .ok (.aload_n 0, 1) := by decide +kernel
theorem dX7_setValue_39 : decode cX7_setValue 39 = .ok (.getfield 10, 3) := by decide +kernel
theorem dX7_setValue_42 : decode cX7_setValue 42 = .ok (.iload_n 1, 1) := by decide +kernel
theorem dX7_setValue_43 : decode cX7_setValue 43 = .ok (.invokevirtual 104, 3) := by decide +kernel
theorem dX7_setValue_46 : decode cX7_setValue 46 = .ok (.invokevirtual 108, 3) := by decide +kernel
theorem dX7_setValue_49 : decode cX7_setValue 49 = .ok (.pop, 1) := by decide +kernel
theorem dX7_setValue_50 : decode cX7_setValue 50 = .ok (.aload_n 0, 1) := by decide +kernel
theorem dX7_setValue_51 : decode cX7_setValue 51 = .ok (.getfield 10, 3) := by decide +kernel
theorem dX7_setValue_54 : decode cX7_setValue 54 = .ok (.getfield 94, 3) := by decide +kernel
theorem dX7_setValue_57 : decode cX7_setValue 57 = .ok (.iload_n 1, 1) := by decide +kernel
theorem dX7_setValue_58 : decode cX7_setValue 58 = .ok (.aload_n 0, 1) := by decide +kernel
theorem dX7_setValue_59 : decode cX7_setValue 59 = .ok (.getfield 50, 3) := by decide +kernel
theorem dX7_setValue_62 : decode cX7_setValue 62 = .ok (.iconst 3, 1) := by decide +kernel
theorem dX7_setValue_63 : decode cX7_setValue 63 = .ok (.iconst 0, 1) := by decide +kernel
theorem dX7_setValue_64 : decode cX7_setValue 64 = .ok (.invokevirtual 112, 3) := by decide +kernel
theorem dX7_setValue_67 : decode cX7_setValue 67 = .ok (.iastore, 1) := by decide +kernel
theorem dX7_setValue_68 : decode cX7_setValue 68 = .ok (.aload_n 0, 1) := by decide +kernel
theorem dX7_setValue_69 : decode cX7_setValue 69 = .ok (.getfield 10, 3) := by decide +kernel
theorem dX7_setValue_72 : decode cX7_setValue 72 = .ok (.getfield 94, 3) := by decide +kernel
theorem dX7_setValue_75 : decode cX7_setValue 75 = .ok (.iload_n 1, 1) := by decide +kernel
theorem dX7_setValue_76 : decode cX7_setValue 76 = .ok (.iaload, 1) := by decide +kernel
theorem dX7_setValue_77 : decode cX7_setValue 77 = .ok (.ireturn, 1) := by decide +kernel
theorem dX7_setMode_0 : decode cX7_setMode 0 = .ok (.iload_n 1, 1) := by decide +kernel
theorem dX7_setMode_1 : decode cX7_setMode 1 = .ok (.invokestatic 116, 3) := by decide +kernel
theorem dX7_setMode_4 : decode cX7_setMode 4 = .ok (.ifCond .ne 6, 3) := by decide +kernel
theorem dX7_setMode_7 : decode cX7_setMode 7 = .ok (.ldc 68, 2) := by decide +kernel
theorem dX7_setMode_9 : decode cX7_setMode 9 = .ok (.ireturn, 1) := by decide +kernel
theorem dX7_setMode_10 : decode cX7_setMode 10 = .ok (.aload_n 0, 1) := by decide +kernel
theorem dX7_setMode_11 : decode cX7_setMode 11 = .ok (.invokevirtual 69, 3) := by decide +kernel
theorem dX7_setMode_14 : decode cX7_setMode 14 = .ok (.aload_n 0, 1) := by decide +kernel
theorem dX7_setMode_15 : decode cX7_setMode 15 = .ok (.getfield 10, 3) := by decide +kernel
theorem dX7_setMode_18 : decode cX7_setMode 18 = .ok (.getfield 119, 3) := by decide +kernel
theorem dX7_setMode_21 : decode cX7_setMode 21 = .ok (.istore_n 2, 1) := by decide +kernel
theorem dX7_setMode_22 : decode cX7_setMode 22 = .ok (.aload_n 0, 1) := by decide +kernel
theorem dX7_setMode_23 : decode cX7_setMode 23 = .ok (.getfield 10, 3) := by decide +kernel
theorem dX7_setMode_26 : decode cX7_setMode 26 = .ok (.iload_n 1, 1) := by decide +kernel
theorem dX7_setMode_27 : decode cX7_setMode 27 = .ok (.putfield 119, 3) := by decide +kernel
theorem dX7_setMode_30 : decode cX7_setMode 30 = .ok (.iload_n 2, 1) := by decide +kernel
theorem dX7_setMode_31 : decode cX7_setMode 31 = .ok (.ireturn, 1) := by decide +kernel
theorem dX7_setBits_0 : decode cX7_setBits 0 = .ok (.iload_n 1, 1) := by decide +kernel
theorem dX7_setBits_1 : decode cX7_setBits 1 = .ok (.iconst 1, 1) := by decide +kernel
theorem dX7_setBits_2 : decode cX7_setBits 2 = .ok (.if_icmp .lt 9, 3) := by decide +kernel
theorem dX7_setBits_5 : decode cX7_setBits 5 = .ok (.iload_n 1, 1) := by decide +kernel
theorem dX7_setBits_6 : decode cX7_setBits 6 = .ok (.bipush 8, 2) := by decide +kernel
theorem dX7_setBits_8 : decode cX7_setBits 8 = .ok (.if_icmp .le 6, 3) := by decide +kernel
theorem dX7_setBits_11 : decode cX7_setBits 11 = .ok (.ldc 68, 2) := by decide +kernel
theorem dX7_setBits_13 : decode cX7_setBits 13 = .ok (.ireturn, 1) := by decide +kernel
theorem dX7_setBits_14 : decode cX7_setBits 14 = .ok (.aload_n 0, 1) := by decide +kernel
theorem dX7_setBits_15 : decode cX7_setBits 15 = .ok (.invokevirtual 69, 3) := by decide +kernel
theorem dX7_setBits_18 : decode cX7_setBits 18 = .ok (.aload_n 0, 1) := by decide +kernel
theorem dX7_setBits_19 : decode cX7_setBits 19 = .ok (.getfield 10, 3) := by decide +kernel
theorem dX7_setBits_22 : decode cX7_setBits 22 = .ok (.getfield 122, 3) := by decide +kernel
theorem dX7_setBits_25 : decode cX7_setBits 25 = .ok (.istore_n 2, 1) := by decide +kernel
theorem dX7_setBits_26 : decode cX7_setBits 26 = .ok (.aload_n 0, 1) := by decide +kernel
theorem dX7_setBits_27 : decode cX7_setBits 27 = .ok (.getfield 10, 3) := by decide +kernel
theorem dX7_setBits_30 : decode cX7_setBits 30 = .ok (.iload_n 1, 1) := by decide +kernel
theorem dX7_setBits_31 : decode cX7_setBits 31 = .ok (.putfield 122, 3) := by decide +kernel
theorem dX7_setBits_34 : decode cX7_setBits 34 = .ok (.iload_n 2, 1) := by decide +kernel
theorem dX7_setBits_35 : decode cX7_setBits 35 = .ok (.ireturn, 1) := by decide +kernel
theorem dX7_setSeed_0 : decode cX7_setSeed 0 = .ok (.aload_n 0, 1) := by decide +kernel
theorem dX7_setSeed_1 : decode cX7_setSeed 1 = .ok (.invokevirtual 69, 3) := by decide +kernel
theorem dX7_setSeed_4 : decode cX7_setSeed 4 = .ok (.aload_n 0, 1) := by decide +kernel
theorem dX7_setSeed_5 : decode cX7_setSeed 5 = .ok (.getfield 10, 3) := by decide +kernel
theorem dX7_setSeed_8 : decode cX7_setSeed 8 = .ok (.getfield 125, 3) := by decide +kernel
theorem dX7_setSeed_11 : decode cX7_setSeed 11 = .ok (.istore_n 2, 1) := by decide +kernel
theorem dX7_setSeed_12 : decode cX7_setSeed 12 = .ok (.aload_n 0, 1) := by decide +kernel
theorem dX7_setSeed_13 : decode cX7_setSeed 13 = .ok (.getfield 10, 3) := by decide +kernel
theorem dX7_setSeed_16 : decode cX7_setSeed 16 = .ok (.iload_n 1, 1) := by decide +kernel
theorem dX7_setSeed_17 : decode cX7_setSeed 17 = .ok (.putfield 125, 3) := by decide +kernel
theorem dX7_setSeed_20 : decode cX7_setSeed 20 = .ok (.iload_n 2, 1) := by decide +kernel
theorem dX7_setSeed_21 : decode cX7_setSeed 21 = .ok (.ireturn, 1) := by decide +kernel
theorem dX7_value_0 : decode cX7_value 0 = .ok (.iload_n 1, 1) := by decide +kernel
theorem dX7_value_1 : decode cX7_value 1 = .ok (.invokestatic 87, 3) := by decide +kernel
theorem dX7_value_4 : decode cX7_value 4 = .ok (.ifCond .eq 15, 3) := by decide +kernel
theorem dX7_value_7 : decode cX7_value 7 = .ok (.aload_n 0, 1) := by decide +kernel
theorem dX7_value_8 : decode cX7_value 8 = .ok (.getfield 10, 3) := by decide +kernel
theorem dX7_value_11 : decode cX7_value 11 = .ok (.getfield 94, 3) := by decide +kernel
theorem dX7_value_14 : decode cX7_value 14 = .ok (.iload_n 1, 1) := by decide +kernel
theorem dX7_value_15 : decode cX7_value 15 = .ok (.iaload, 1) := by decide +kernel
theorem dX7_value_16 : decode cX7_value 16 = .ok (.goto 5, 3) := by decide +kernel
theorem dX7_value_19 : decode cX7_value 19 = .ok (.ldc 68, 2) := by decide +kernel
theorem dX7_value_21 : decode cX7_value 21 = .ok (.ireturn, 1) := by decide +kernel
theorem dX7_formatOf_0 : decode cX7_formatOf 0 = .ok (.iload_n 1, 1) := by decide +kernel
theorem dX7_formatOf_1 : decode cX7_formatOf 1 = .ok (.invokestatic 87, 3) := by decide +kernel
theorem dX7_formatOf_4 : decode cX7_formatOf 4 = .ok (.ifCond .eq 15, 3) := by decide +kernel
theorem dX7_formatOf_7 : decode cX7_formatOf 7 = .ok (.aload_n 0, 1) := by decide +kernel
theorem dX7_formatOf_8 : decode cX7_formatOf 8 = .ok (.getfield 10, 3) := by decide +kernel
theorem dX7_formatOf_11 : decode cX7_formatOf 11 = .ok (.getfield 90, 3) := by decide +kernel
theorem dX7_formatOf_14 : decode cX7_formatOf 14 = .ok (.iload_n 1, 1) := by decide +kernel
theorem dX7_formatOf_15 : decode cX7_formatOf 15 = .ok (.iaload, 1) := by decide +kernel
theorem dX7_formatOf_16 : decode cX7_formatOf 16 = .ok (.goto 5, 3) := by decide +kernel
theorem dX7_formatOf_19 : decode cX7_formatOf 19 = .ok (.ldc 68, 2) := by decide +kernel
theorem dX7_formatOf_21 : decode cX7_formatOf 21 = .ok (.ireturn, 1) := by decide +kernel
theorem dX7_operate_0 : decode cX7_operate 0 = .ok (.iload_n 1, 1) := by decide +kernel
theorem dX7_operate_1 : decode cX7_operate 1 = .ok (.ifCond .lt 31, 3) := by decide +kernel
theorem dX7_operate_4 : decode cX7_operate 4 = .ok (.iload_n 1, 1) := by decide +kernel
theorem dX7_operate_5 : decode cX7_operate 5 = .ok (.bipush 6, 2) := by decide +kernel
theorem dX7_operate_7 : decode cX7_operate 7 = .ok (.if_icmp .ge 25, 3) := by decide +kernel
theorem dX7_operate_10 : decode cX7_operate 10 = .ok (.iload_n 2, 1) := by decide +kernel
theorem dX7_operate_11 : decode cX7_operate 11 = .ok (.invokestatic 87, 3) := by decide +kernel
theorem dX7_operate_14 : decode cX7_operate 14 = .ok (.ifCond .eq 18, 3) := by decide +kernel
theorem dX7_operate_17 : decode cX7_operate 17 = .ok (.iload_n 3, 1) := by decide +kernel
theorem dX7_operate_18 : decode cX7_operate 18 = .ok (.invokestatic 87, 3) := by decide +kernel
theorem dX7_operate_21 : decode cX7_operate 21 = .ok (.ifCond .eq 11, 3) := by decide +kernel
theorem dX7_operate_24 : decode cX7_operate 24 = .ok (.iload 4, 2) := by decide +kernel
theorem dX7_operate_26 : decode cX7_operate 26 = .ok (.invokestatic 87, 3) := by decide +kernel
theorem dX7_operate_29 : decode cX7_operate 29 = .ok (.ifCond .ne 6, 3) := by decide +kernel
theorem dX7_operate_32 : decode cX7_operate 32 = .ok (.ldc 68, 2) := by decide +kernel
theorem dX7_operate_34 : decode cX7_operate 34 = .ok (.ireturn, 1) := by decide +kernel
theorem dX7_operate_35 : decode cX7_operate 35 = .ok (.iload_n 1, 1) := by decide +kernel
theorem dX7_operate_36 : decode cX7_operate 36 = .ok (.iload_n 2, 1) := by decide +kernel
theorem dX7_operate_37 : decode cX7_operate 37 = .ok (.iload_n 3, 1) := by decide +kernel
theorem dX7_operate_38 : decode cX7_operate 38 = .ok (.iload 4, 2) := by decide +kernel
theorem dX7_operate_40 : decode cX7_operate 40 = .ok (.invokestatic 128, 3) := by decide +kernel
theorem dX7_operate_43 : decode cX7_operate 43 = .ok (.istore 5, 2) := by decide +kernel
theorem dX7_operate_45 : decode cX7_operate 45 = .ok (.aload_n 0, 1) := by decide +kernel
theorem dX7_operate_46 : decode cX7_operate 46 = .ok (.getfield 10, 3) := by decide +kernel
theorem dX7_operate_49 : decode cX7_operate 49 = .ok (.iload 5, 2) := by decide +kernel
theorem dX7_operate_51 : decode cX7_operate 51 = .ok (.invokevirtual 132, 3) := by decide +kernel
theorem dX7_operate_54 : decode cX7_operate 54 = .ok (.ifCond .ne 6, 3) := by decide +kernel
theorem dX7_operate_57 : decode cX7_operate 57 = .ok (.ldc 135, 2) := by decide +kernel
theorem dX7_operate_59 : decode cX7_operate 59 = .ok (.ireturn, 1) := by decide +kernel
theorem dX7_operate_60 : decode cX7_operate 60 = .ok (.aload_n 0, 1) := by decide +kernel
theorem dX7_operate_61 : decode cX7_operate 61 = .ok (.invokevirtual 69, 3) := by decide +kernel
theorem dX7_operate_64 : decode cX7_operate 64 = .ok (.aload_n 0, 1) := by decide +kernel
theorem dX7_operate_65 : decode cX7_operate 65 = .ok (.getfield 10, 3) := by decide +kernel
theorem dX7_operate_68 : decode cX7_operate 68 = .ok (.iload 5, 2) := by decide +kernel
theorem dX7_operate_70 : decode cX7_operate 70 = .ok (.aload_n 0, 1) := by decide +kernel
theorem dX7_operate_71 : decode cX7_operate 71 = .ok (.getfield 50, 3) := by decide +kernel
theorem dX7_operate_74 : decode cX7_operate 74 = .ok (.invokevirtual 136, 3) := by decide +kernel
theorem dX7_operate_77 : decode cX7_operate 77 = .ok (.aload_n 0, 1) := by decide +kernel
theorem dX7_operate_78 : decode cX7_operate 78 = .ok (.getfield 19, 3) := by decide +kernel
theorem dX7_operate_81 : decode cX7_operate 81 = .ok (.aload_n 0, 1) := by decide +kernel
theorem dX7_operate_82 : decode cX7_operate 82 = .ok (.getfield 50, 3) := by decide +kernel
theorem dX7_operate_85 : decode cX7_operate 85 = .ok (.invokevirtual 140, 3) := by decide +kernel
theorem dX7_operate_88 : decode cX7_operate 88 = .ok (.aload_n 0, 1) := by decide +kernel
theorem dX7_operate_89 : decode cX7_operate 89 = .ok (.getfield 50, 3) := by decide +kernel
theorem dX7_operate_92 : decode cX7_operate 92 = .ok (.getfield 144, 3) := by decide +kernel
theorem dX7_operate_95 : decode cX7_operate 95 = .ok (.ireturn, 1) := by decide +kernel
theorem dX7_type_0 : decode cX7_type 0 = .ok (.iload_n 1, 1) := by decide +kernel
theorem dX7_type_1 : decode cX7_type 1 = .ok (.ifCond .lt 9, 3) := by decide +kernel
theorem dX7_type_4 : decode cX7_type 4 = .ok (.iload_n 1, 1) := by decide +kernel
theorem dX7_type_5 : decode cX7_type 5 = .ok (.bipush 127, 2) := by decide +kernel
theorem dX7_type_7 : decode cX7_type 7 = .ok (.if_icmp .le 6, 3) := by decide +kernel
theorem dX7_type_10 : decode cX7_type 10 = .ok (.ldc 68, 2) := by decide +kernel
theorem dX7_type_12 : decode cX7_type 12 = .ok (.ireturn, 1) := by decide +kernel
theorem dX7_type_13 : decode cX7_type 13 = .ok (.aload_n 0, 1) := by decide +kernel
theorem dX7_type_14 : decode cX7_type 14 = .ok (.getfield 33, 3) := by decide +kernel
theorem dX7_type_17 : decode cX7_type 17 = .ok (.iload_n 1, 1) := by decide +kernel
theorem dX7_type_18 : decode cX7_type 18 = .ok (.invokevirtual 147, 3) := by decide +kernel
theorem dX7_type_21 : decode cX7_type 21 = .ok (.ifCond .eq 13, 3) := by decide +kernel
theorem dX7_type_24 : decode cX7_type 24 = .ok (.aload_n 0, 1) := by decide +kernel
theorem dX7_type_25 : decode cX7_type 25 = .ok (.getfield 33, 3) := by decide +kernel
theorem dX7_type_28 : decode cX7_type 28 = .ok (.getfield 150, 3) := by decide +kernel
theorem dX7_type_31 : decode cX7_type 31 = .ok (.goto 5, 3) := by decide +kernel
theorem dX7_type_34 : decode cX7_type 34 = .ok (.ldc 153, 2) := by decide +kernel
theorem dX7_type_36 : decode cX7_type 36 = .ok (.ireturn, 1) := by decide +kernel
theorem dX7_clear_0 : decode cX7_clear 0 = .ok (.aload_n 0, 1) := by decide +kernel
theorem dX7_clear_1 : decode cX7_clear 1 = .ok (.getfield 33, 3) := by decide +kernel
theorem dX7_clear_4 : decode cX7_clear 4 = .ok (.getfield 150, 3) := by decide +kernel
theorem dX7_clear_7 : decode cX7_clear 7 = .ok (.istore_n 1, 1) := by decide +kernel
theorem dX7_clear_8 : decode cX7_clear 8 = .ok (.aload_n 0, 1) := by decide +kernel
theorem dX7_clear_9 : decode cX7_clear 9 = .ok (.getfield 33, 3) := by decide +kernel
theorem dX7_clear_12 : decode cX7_clear 12 = .ok (.iconst 0, 1) := by decide +kernel
theorem dX7_clear_13 : decode cX7_clear 13 = .ok (.putfield 150, 3) := by decide +kernel
theorem dX7_clear_16 : decode cX7_clear 16 = .ok (.iload_n 1, 1) := by decide +kernel
theorem dX7_clear_17 : decode cX7_clear 17 = .ok (.ireturn, 1) := by decide +kernel
theorem dX7_fault_0 : decode cX7_fault 0 = .ok (.aload_n 0, 1) := by decide +kernel
theorem dX7_fault_1 : decode cX7_fault 1 = .ok (.getfield 33, 3) := by decide +kernel
theorem dX7_fault_4 : decode cX7_fault 4 = .ok (.invokevirtual 154, 3) := by decide +kernel
theorem dX7_fault_7 : decode cX7_fault 7 = .ok (.ireturn, 1) := by decide +kernel
theorem dX7_run_0 : decode cX7_run 0 = .ok (.aload_n 0, 1) := by decide +kernel
theorem dX7_run_1 : decode cX7_run 1 = .ok (.getfield 33, 3) := by decide +kernel
theorem dX7_run_4 : decode cX7_run 4 = .ok (.invokevirtual 154, 3) := by decide +kernel
theorem dX7_run_7 : decode cX7_run 7 = .ok (.ldc 158, 2) := by decide +kernel
theorem dX7_run_9 : decode cX7_run 9 = .ok (.if_icmp .eq 6, 3) := by decide +kernel
theorem dX7_run_12 : decode cX7_run 12 = .ok (.ldc 135, 2) := by decide +kernel
theorem dX7_run_14 : decode cX7_run 14 = .ok (.ireturn, 1) := by decide +kernel
theorem dX7_run_15 : decode cX7_run 15 = .ok (.aload_n 0, 1) := by decide +kernel
theorem dX7_run_16 : decode cX7_run 16 = .ok (.invokevirtual 69, 3) := by decide +kernel
theorem dX7_run_19 : decode cX7_run 19 = .ok (.aload_n 0, 1) := by decide +kernel
theorem dX7_run_20 : decode cX7_run 20 = .ok (.getfield 40, 3) := by decide +kernel
theorem dX7_run_23 : decode cX7_run 23 = .ok (.aload_n 0, 1) := by decide +kernel
theorem dX7_run_24 : decode cX7_run 24 = .ok (.getfield 33, 3) := by decide +kernel
theorem dX7_run_27 : decode cX7_run 27 = .ok (.aload_n 0, 1) := by decide +kernel
theorem dX7_run_28 : decode cX7_run 28 = .ok (.getfield 10, 3) := by decide +kernel
theorem dX7_run_31 : decode cX7_run 31 = .ok (.aload_n 0, 1) := by decide +kernel
theorem dX7_run_32 : decode cX7_run 32 = .ok (.getfield 50, 3) := by decide +kernel
theorem dX7_run_35 : decode cX7_run 35 = .ok (.aload_n 0, 1) := by decide +kernel
theorem dX7_run_36 : decode cX7_run 36 = .ok (.getfield 19, 3) := by decide +kernel
theorem dX7_run_39 : decode cX7_run 39 = .ok (.invokevirtual 159, 3) := by decide +kernel
theorem dX7_run_42 : decode cX7_run 42 = .ok (.aload_n 0, 1) := by decide +kernel
theorem dX7_run_43 : decode cX7_run 43 = .ok (.aload_n 0, 1) := by decide +kernel
theorem dX7_run_44 : decode cX7_run 44 = .ok (.getfield 40, 3) := by decide +kernel
theorem dX7_run_47 : decode cX7_run 47 = .ok (.getfield 162, 3) := by decide +kernel
theorem dX7_run_50 : decode cX7_run 50 = .ok (.putfield 54, 3) := by decide +kernel
theorem dX7_run_53 : decode cX7_run 53 = .ok (.aload_n 0, 1) := by decide +kernel
theorem dX7_run_54 : decode cX7_run 54 = .ok (.getfield 40, 3) := by decide +kernel
theorem dX7_run_57 : decode cX7_run 57 = .ok (.getfield 165, 3) := by decide +kernel
theorem dX7_run_60 : decode cX7_run 60 = .ok (.ireturn, 1) := by decide +kernel
theorem dX7_stopped_0 : decode cX7_stopped 0 = .ok (.aload_n 0, 1) := by decide +kernel
theorem dX7_stopped_1 : decode cX7_stopped 1 = .ok (.getfield 54, 3) := by decide +kernel
theorem dX7_stopped_4 : decode cX7_stopped 4 = .ok (.ireturn, 1) := by decide +kernel
theorem dX7_ifRun_0 : decode cX7_ifRun 0 = .ok (.iload_n 1, 1) := by decide +kernel
theorem dX7_ifRun_1 : decode cX7_ifRun 1 = .ok (.invokestatic 87, 3) := by decide +kernel
theorem dX7_ifRun_4 : decode cX7_ifRun 4 = .ok (.ifCond .eq 10, 3) := by decide +kernel
theorem dX7_ifRun_7 : decode cX7_ifRun 7 = .ok (.iload_n 2, 1) := by decide +kernel
theorem dX7_ifRun_8 : decode cX7_ifRun 8 = .ok (.invokestatic 116, 3) := by decide +kernel
theorem dX7_ifRun_11 : decode cX7_ifRun 11 = .ok (.ifCond .ne 6, 3) := by decide +kernel
theorem dX7_ifRun_14 : decode cX7_ifRun 14 = .ok (.ldc 68, 2) := by decide +kernel
theorem dX7_ifRun_16 : decode cX7_ifRun 16 = .ok (.ireturn, 1) := by decide +kernel
theorem dX7_ifRun_17 : decode cX7_ifRun 17 = .ok (.aload_n 0, 1) := by decide +kernel
theorem dX7_ifRun_18 : decode cX7_ifRun 18 = .ok (.getfield 33, 3) := by decide +kernel
theorem dX7_ifRun_21 : decode cX7_ifRun 21 = .ok (.invokevirtual 154, 3) := by decide +kernel
theorem dX7_ifRun_24 : decode cX7_ifRun 24 = .ok (.ldc 158, 2) := by decide +kernel
theorem dX7_ifRun_26 : decode cX7_ifRun 26 = .ok (.if_icmp .ne 13, 3) := by decide +kernel
theorem dX7_ifRun_29 : decode cX7_ifRun 29 = .ok (.aload_n 0, 1) := by decide +kernel
theorem dX7_ifRun_30 : decode cX7_ifRun 30 = .ok (.iload_n 1, 1) := by decide +kernel
theorem dX7_ifRun_31 : decode cX7_ifRun 31 = .ok (.iload_n 2, 1) := by decide +kernel
theorem dX7_ifRun_32 : decode cX7_ifRun 32 = .ok (.iload_n 3, 1) := by decide +kernel
theorem dX7_ifRun_33 : decode cX7_ifRun 33 = .ok (.invokevirtual 168, 3) := by decide +kernel
theorem dX7_ifRun_36 : decode cX7_ifRun 36 = .ok (.goto 5, 3) := by decide +kernel
theorem dX7_ifRun_39 : decode cX7_ifRun 39 = .ok (.ldc 135, 2) := by decide +kernel
theorem dX7_ifRun_41 : decode cX7_ifRun 41 = .ok (.ireturn, 1) := by decide +kernel
theorem dX7_ensembleSum_0 : decode cX7_ensembleSum 0 = .ok (.iload_n 1, 1) := by decide +kernel
theorem dX7_ensembleSum_1 : decode cX7_ensembleSum 1 = .ok (.invokestatic 87, 3) := by decide +kernel
theorem dX7_ensembleSum_4 : decode cX7_ensembleSum 4 = .ok (.ifCond .eq 10, 3) := by decide +kernel
theorem dX7_ensembleSum_7 : decode cX7_ensembleSum 7 = .ok (.iload_n 3, 1) := by decide +kernel
theorem dX7_ensembleSum_8 : decode cX7_ensembleSum 8 = .ok (.invokestatic 172, 3) := by decide +kernel
theorem dX7_ensembleSum_11 : decode cX7_ensembleSum 11 = .ok (.ifCond .ne 6, 3) := by decide +kernel
theorem dX7_ensembleSum_14 : decode cX7_ensembleSum 14 = .ok (.ldc 68, 2) := by decide +kernel
theorem dX7_ensembleSum_16 : decode cX7_ensembleSum 16 = .ok (.ireturn, 1) := by decide +kernel
theorem dX7_ensembleSum_17 : decode cX7_ensembleSum 17 = .ok (.aload_n 0, 1) := by decide +kernel
theorem dX7_ensembleSum_18 : decode cX7_ensembleSum 18 = .ok (.getfield 33, 3) := by decide +kernel
theorem dX7_ensembleSum_21 : decode cX7_ensembleSum 21 = .ok (.invokevirtual 154, 3) := by decide +kernel
theorem dX7_ensembleSum_24 : decode cX7_ensembleSum 24 = .ok (.ldc 158, 2) := by decide +kernel
theorem dX7_ensembleSum_26 : decode cX7_ensembleSum 26 = .ok (.if_icmp .eq 6, 3) := by decide +kernel
theorem dX7_ensembleSum_29 : decode cX7_ensembleSum 29 = .ok (.ldc 135, 2) := by decide +kernel
theorem dX7_ensembleSum_31 : decode cX7_ensembleSum 31 = .ok (.ireturn, 1) := by decide +kernel
theorem dX7_ensembleSum_32 : decode cX7_ensembleSum 32 = .ok (.iconst 0, 1) := by decide +kernel
theorem dX7_ensembleSum_33 : decode cX7_ensembleSum 33 = .ok (.istore 4, 2) := by decide +kernel
theorem dX7_ensembleSum_35 : decode cX7_ensembleSum 35 = .ok (.iconst 0, 1) := by decide +kernel
theorem dX7_ensembleSum_36 : decode cX7_ensembleSum 36 = .ok (.istore 5, 2) := by decide +kernel
theorem dX7_ensembleSum_38 : decode cX7_ensembleSum 38 = .ok (.iload 5, 2) := by decide +kernel
theorem dX7_ensembleSum_40 : decode cX7_ensembleSum 40 = .ok (.iload_n 3, 1) := by decide +kernel
theorem dX7_ensembleSum_41 : decode cX7_ensembleSum 41 = .ok (.if_icmp .ge 24, 3) := by decide +kernel
theorem dX7_ensembleSum_44 : decode cX7_ensembleSum 44 = .ok (.iload 4, 2) := by decide +kernel
theorem dX7_ensembleSum_46 : decode cX7_ensembleSum 46 = .ok (.aload_n 0, 1) := by decide +kernel
theorem dX7_ensembleSum_47 : decode cX7_ensembleSum 47 = .ok (.iload_n 1, 1) := by decide +kernel
theorem dX7_ensembleSum_48 : decode cX7_ensembleSum 48 = .ok (.iconst 4, 1) := by decide +kernel
theorem dX7_ensembleSum_49 : decode cX7_ensembleSum 49 = .ok (.iload_n 2, 1) := by decide +kernel
theorem dX7_ensembleSum_50 : decode cX7_ensembleSum 50 = .ok (.iload 5, 2) := by decide +kernel
theorem dX7_ensembleSum_52 : decode cX7_ensembleSum 52 = .ok (.iadd, 1) := by decide +kernel
theorem dX7_ensembleSum_53 : decode cX7_ensembleSum 53 = .ok (.invokevirtual 168, 3) := by decide +kernel
theorem dX7_ensembleSum_56 : decode cX7_ensembleSum 56 = .ok (.iadd, 1) := by decide +kernel
theorem dX7_ensembleSum_57 : decode cX7_ensembleSum 57 = .ok (.istore 4, 2) := by decide +kernel
theorem dX7_ensembleSum_59 : decode cX7_ensembleSum 59 = .ok (.iinc 5 1, 3) := by decide +kernel
theorem dX7_ensembleSum_62 : decode cX7_ensembleSum 62 = .ok (.goto (-24), 3) := by decide +kernel
theorem dX7_ensembleSum_65 : decode cX7_ensembleSum 65 = .ok (.iload 4, 2) := by decide +kernel
theorem dX7_ensembleSum_67 : decode cX7_ensembleSum 67 = .ok (.ireturn, 1) := by decide +kernel
theorem dX7_ensembleSpread_0 : decode cX7_ensembleSpread 0 = .ok (.iload_n 1, 1) := by decide +kernel
theorem dX7_ensembleSpread_1 : decode cX7_ensembleSpread 1 = .ok (.invokestatic 87, 3) := by decide +kernel
theorem dX7_ensembleSpread_4 : decode cX7_ensembleSpread 4 = .ok (.ifCond .eq 10, 3) := by decide +kernel
theorem dX7_ensembleSpread_7 : decode cX7_ensembleSpread 7 = .ok (.iload_n 3, 1) := by decide +kernel
theorem dX7_ensembleSpread_8 : decode cX7_ensembleSpread 8 = .ok (.invokestatic 172, 3) := by decide +kernel
theorem dX7_ensembleSpread_11 : decode cX7_ensembleSpread 11 = .ok (.ifCond .ne 6, 3) := by decide +kernel
theorem dX7_ensembleSpread_14 : decode cX7_ensembleSpread 14 = .ok (.ldc 68, 2) := by decide +kernel
theorem dX7_ensembleSpread_16 : decode cX7_ensembleSpread 16 = .ok (.ireturn, 1) := by decide +kernel
theorem dX7_ensembleSpread_17 : decode cX7_ensembleSpread 17 = .ok (.aload_n 0, 1) := by decide +kernel
theorem dX7_ensembleSpread_18 : decode cX7_ensembleSpread 18 = .ok (.getfield 33, 3) := by decide +kernel
theorem dX7_ensembleSpread_21 : decode cX7_ensembleSpread 21 = .ok (.invokevirtual 154, 3) := by decide +kernel
theorem dX7_ensembleSpread_24 : decode cX7_ensembleSpread 24 = .ok (.ldc 158, 2) := by decide +kernel
theorem dX7_ensembleSpread_26 : decode cX7_ensembleSpread 26 = .ok (.if_icmp .eq 6, 3) := by decide +kernel
theorem dX7_ensembleSpread_29 : decode cX7_ensembleSpread 29 = .ok (.ldc 135, 2) := by decide +kernel
theorem dX7_ensembleSpread_31 : decode cX7_ensembleSpread 31 = .ok (.ireturn, 1) := by decide +kernel
theorem dX7_ensembleSpread_32 : decode cX7_ensembleSpread 32 = .ok (.ldc 175, 2) := by decide +kernel
theorem dX7_ensembleSpread_34 : decode cX7_ensembleSpread 34 = .ok (.istore 4, 2) := by decide +kernel
theorem dX7_ensembleSpread_36 : decode cX7_ensembleSpread 36 = .ok (.ldc 176, 2) := by decide +kernel
theorem dX7_ensembleSpread_38 : decode cX7_ensembleSpread 38 = .ok (.istore 5, 2) := by decide +kernel
theorem dX7_ensembleSpread_40 : decode cX7_ensembleSpread 40 = .ok (.iconst 0, 1) := by decide +kernel
theorem dX7_ensembleSpread_41 : decode cX7_ensembleSpread 41 = .ok (.istore 6, 2) := by decide +kernel
theorem dX7_ensembleSpread_43 : decode cX7_ensembleSpread 43 = .ok (.iload 6, 2) := by decide +kernel
theorem dX7_ensembleSpread_45 : decode cX7_ensembleSpread 45 = .ok (.iload_n 3, 1) := by decide +kernel
theorem dX7_ensembleSpread_46 : decode cX7_ensembleSpread 46 = .ok (.if_icmp .ge 39, 3) := by decide +kernel
theorem dX7_ensembleSpread_49 : decode cX7_ensembleSpread 49 = .ok (.aload_n 0, 1) := by decide +kernel
theorem dX7_ensembleSpread_50 : decode cX7_ensembleSpread 50 = .ok (.iload_n 1, 1) := by decide +kernel
theorem dX7_ensembleSpread_51 : decode cX7_ensembleSpread 51 = .ok (.iconst 4, 1) := by decide +kernel
theorem dX7_ensembleSpread_52 : decode cX7_ensembleSpread 52 = .ok (.iload_n 2, 1) := by decide +kernel
theorem dX7_ensembleSpread_53 : decode cX7_ensembleSpread 53 = .ok (.iload 6, 2) := by decide +kernel
theorem dX7_ensembleSpread_55 : decode cX7_ensembleSpread 55 = .ok (.iadd, 1) := by decide +kernel
theorem dX7_ensembleSpread_56 : decode cX7_ensembleSpread 56 = .ok (.invokevirtual 168, 3) := by decide +kernel
theorem dX7_ensembleSpread_59 : decode cX7_ensembleSpread 59 = .ok (.istore 7, 2) := by decide +kernel
theorem dX7_ensembleSpread_61 : decode cX7_ensembleSpread 61 = .ok (.iload 4, 2) := by decide +kernel
theorem dX7_ensembleSpread_63 : decode cX7_ensembleSpread 63 = .ok (.iload 7, 2) := by decide +kernel
theorem dX7_ensembleSpread_65 : decode cX7_ensembleSpread 65 = .ok (.invokestatic 177, 3) := by decide +kernel
theorem dX7_ensembleSpread_68 : decode cX7_ensembleSpread 68 = .ok (.istore 4, 2) := by decide +kernel
theorem dX7_ensembleSpread_70 : decode cX7_ensembleSpread 70 = .ok (.iload 5, 2) := by decide +kernel
theorem dX7_ensembleSpread_72 : decode cX7_ensembleSpread 72 = .ok (.iload 7, 2) := by decide +kernel
theorem dX7_ensembleSpread_74 : decode cX7_ensembleSpread 74 = .ok (.invokestatic 182, 3) := by decide +kernel
theorem dX7_ensembleSpread_77 : decode cX7_ensembleSpread 77 = .ok (.istore 5, 2) := by decide +kernel
theorem dX7_ensembleSpread_79 : decode cX7_ensembleSpread 79 = .ok (.iinc 6 1, 3) := by decide +kernel
theorem dX7_ensembleSpread_82 : decode cX7_ensembleSpread 82 = .ok (.goto (-39), 3) := by decide +kernel
theorem dX7_ensembleSpread_85 : decode cX7_ensembleSpread 85 = .ok (.iload 5, 2) := by decide +kernel
theorem dX7_ensembleSpread_87 : decode cX7_ensembleSpread 87 = .ok (.iload 4, 2) := by decide +kernel
theorem dX7_ensembleSpread_89 : decode cX7_ensembleSpread 89 = .ok (.isub, 1) := by decide +kernel
theorem dX7_ensembleSpread_90 : decode cX7_ensembleSpread 90 = .ok (.ireturn, 1) := by decide +kernel
theorem dX7_records_0 : decode cX7_records 0 = .ok (.aload_n 0, 1) := by decide +kernel
theorem dX7_records_1 : decode cX7_records 1 = .ok (.getfield 19, 3) := by decide +kernel
theorem dX7_records_4 : decode cX7_records 4 = .ok (.getfield 185, 3) := by decide +kernel
theorem dX7_records_7 : decode cX7_records 7 = .ok (.ireturn, 1) := by decide +kernel
theorem dX7_numberOf_0 : decode cX7_numberOf 0 = .ok (.aload_n 0, 1) := by decide +kernel
theorem dX7_numberOf_1 : decode cX7_numberOf 1 = .ok (.getfield 19, 3) := by decide +kernel
theorem dX7_numberOf_4 : decode cX7_numberOf 4 = .ok (.iload_n 1, 1) := by decide +kernel
theorem dX7_numberOf_5 : decode cX7_numberOf 5 = .ok (.invokevirtual 188, 3) := by decide +kernel
theorem dX7_numberOf_8 : decode cX7_numberOf 8 = .ok (.ifCond .eq 17, 3) := by decide +kernel
theorem dX7_numberOf_11 : decode cX7_numberOf 11 = .ok (.aload_n 0, 1) := by decide +kernel
theorem dX7_numberOf_12 : decode cX7_numberOf 12 = .ok (.getfield 19, 3) := by decide +kernel
theorem dX7_numberOf_15 : decode cX7_numberOf 15 = .ok (.iload_n 1, 1) := by decide +kernel
theorem dX7_numberOf_16 : decode cX7_numberOf 16 = .ok (.invokevirtual 191, 3) := by decide +kernel
theorem dX7_numberOf_19 : decode cX7_numberOf 19 = .ok (.getfield 195, 3) := by decide +kernel
theorem dX7_numberOf_22 : decode cX7_numberOf 22 = .ok (.goto 5, 3) := by decide +kernel
theorem dX7_numberOf_25 : decode cX7_numberOf 25 = .ok (.ldc 68, 2) := by decide +kernel
theorem dX7_numberOf_27 : decode cX7_numberOf 27 = .ok (.ireturn, 1) := by decide +kernel
theorem dX7_operation_0 : decode cX7_operation 0 = .ok (.aload_n 0, 1) := by decide +kernel
theorem dX7_operation_1 : decode cX7_operation 1 = .ok (.getfield 19, 3) := by decide +kernel
theorem dX7_operation_4 : decode cX7_operation 4 = .ok (.iload_n 1, 1) := by decide +kernel
theorem dX7_operation_5 : decode cX7_operation 5 = .ok (.invokevirtual 188, 3) := by decide +kernel
theorem dX7_operation_8 : decode cX7_operation 8 = .ok (.ifCond .eq 17, 3) := by decide +kernel
theorem dX7_operation_11 : decode cX7_operation 11 = .ok (.aload_n 0, 1) := by decide +kernel
theorem dX7_operation_12 : decode cX7_operation 12 = .ok (.getfield 19, 3) := by decide +kernel
theorem dX7_operation_15 : decode cX7_operation 15 = .ok (.iload_n 1, 1) := by decide +kernel
theorem dX7_operation_16 : decode cX7_operation 16 = .ok (.invokevirtual 191, 3) := by decide +kernel
theorem dX7_operation_19 : decode cX7_operation 19 = .ok (.invokevirtual 198, 3) := by decide +kernel
theorem dX7_operation_22 : decode cX7_operation 22 = .ok (.goto 5, 3) := by decide +kernel
theorem dX7_operation_25 : decode cX7_operation 25 = .ok (.ldc 68, 2) := by decide +kernel
theorem dX7_operation_27 : decode cX7_operation 27 = .ok (.ireturn, 1) := by decide +kernel
theorem dX7_result_0 : decode cX7_result 0 = .ok (.aload_n 0, 1) := by decide +kernel
theorem dX7_result_1 : decode cX7_result 1 = .ok (.getfield 19, 3) := by decide +kernel
theorem dX7_result_4 : decode cX7_result 4 = .ok (.iload_n 1, 1) := by decide +kernel
theorem dX7_result_5 : decode cX7_result 5 = .ok (.invokevirtual 188, 3) := by decide +kernel
theorem dX7_result_8 : decode cX7_result 8 = .ok (.ifCond .eq 17, 3) := by decide +kernel
theorem dX7_result_11 : decode cX7_result 11 = .ok (.aload_n 0, 1) := by decide +kernel
theorem dX7_result_12 : decode cX7_result 12 = .ok (.getfield 19, 3) := by decide +kernel
theorem dX7_result_15 : decode cX7_result 15 = .ok (.iload_n 1, 1) := by decide +kernel
theorem dX7_result_16 : decode cX7_result 16 = .ok (.invokevirtual 191, 3) := by decide +kernel
theorem dX7_result_19 : decode cX7_result 19 = .ok (.getfield 144, 3) := by decide +kernel
theorem dX7_result_22 : decode cX7_result 22 = .ok (.goto 5, 3) := by decide +kernel
theorem dX7_result_25 : decode cX7_result 25 = .ok (.ldc 68, 2) := by decide +kernel
theorem dX7_result_27 : decode cX7_result 27 = .ok (.ireturn, 1) := by decide +kernel
theorem dX7_neighbor_0 : decode cX7_neighbor 0 = .ok (.aload_n 0, 1) := by decide +kernel
theorem dX7_neighbor_1 : decode cX7_neighbor 1 = .ok (.getfield 19, 3) := by decide +kernel
theorem dX7_neighbor_4 : decode cX7_neighbor 4 = .ok (.iload_n 1, 1) := by decide +kernel
theorem dX7_neighbor_5 : decode cX7_neighbor 5 = .ok (.invokevirtual 188, 3) := by decide +kernel
theorem dX7_neighbor_8 : decode cX7_neighbor 8 = .ok (.ifCond .ne 6, 3) := by decide +kernel
theorem dX7_neighbor_11 : decode cX7_neighbor 11 = .ok (.ldc 68, 2) := by decide +kernel
theorem dX7_neighbor_13 : decode cX7_neighbor 13 = .ok (.ireturn, 1) := by decide +kernel
theorem dX7_neighbor_14 : decode cX7_neighbor 14 = .ok (.iload_n 2, 1) := by decide +kernel
theorem dX7_neighbor_15 : decode cX7_neighbor 15 = .ok (.ifCond .eq 17, 3) := by decide +kernel
theorem dX7_neighbor_18 : decode cX7_neighbor 18 = .ok (.aload_n 0, 1) := by decide +kernel
theorem dX7_neighbor_19 : decode cX7_neighbor 19 = .ok (.getfield 19, 3) := by decide +kernel
theorem dX7_neighbor_22 : decode cX7_neighbor 22 = .ok (.iload_n 1, 1) := by decide +kernel
theorem dX7_neighbor_23 : decode cX7_neighbor 23 = .ok (.invokevirtual 191, 3) := by decide +kernel
theorem dX7_neighbor_26 : decode cX7_neighbor 26 = .ok (.getfield 201, 3) := by decide +kernel
theorem dX7_neighbor_29 : decode cX7_neighbor 29 = .ok (.goto 14, 3) := by decide +kernel
theorem dX7_neighbor_32 : decode cX7_neighbor 32 = .ok (.aload_n 0, 1) := by decide +kernel
theorem dX7_neighbor_33 : decode cX7_neighbor 33 = .ok (.getfield 19, 3) := by decide +kernel
theorem dX7_neighbor_36 : decode cX7_neighbor 36 = .ok (.iload_n 1, 1) := by decide +kernel
theorem dX7_neighbor_37 : decode cX7_neighbor 37 = .ok (.invokevirtual 191, 3) := by decide +kernel
theorem dX7_neighbor_40 : decode cX7_neighbor 40 = .ok (.getfield 204, 3) := by decide +kernel
theorem dX7_neighbor_43 : decode cX7_neighbor 43 = .ok (.ireturn, 1) := by decide +kernel
theorem dX7_drawOf_0 : decode cX7_drawOf 0 = .ok (.aload_n 0, 1) := by decide +kernel
theorem dX7_drawOf_1 : decode cX7_drawOf 1 = .ok (.getfield 19, 3) := by decide +kernel
theorem dX7_drawOf_4 : decode cX7_drawOf 4 = .ok (.iload_n 1, 1) := by decide +kernel
theorem dX7_drawOf_5 : decode cX7_drawOf 5 = .ok (.invokevirtual 188, 3) := by decide +kernel
theorem dX7_drawOf_8 : decode cX7_drawOf 8 = .ok (.ifCond .eq 17, 3) := by decide +kernel
theorem dX7_drawOf_11 : decode cX7_drawOf 11 = .ok (.aload_n 0, 1) := by decide +kernel
theorem dX7_drawOf_12 : decode cX7_drawOf 12 = .ok (.getfield 19, 3) := by decide +kernel
theorem dX7_drawOf_15 : decode cX7_drawOf 15 = .ok (.iload_n 1, 1) := by decide +kernel
theorem dX7_drawOf_16 : decode cX7_drawOf 16 = .ok (.invokevirtual 191, 3) := by decide +kernel
theorem dX7_drawOf_19 : decode cX7_drawOf 19 = .ok (.getfield 207, 3) := by decide +kernel
theorem dX7_drawOf_22 : decode cX7_drawOf 22 = .ok (.goto 5, 3) := by decide +kernel
theorem dX7_drawOf_25 : decode cX7_drawOf 25 = .ok (.ldc 68, 2) := by decide +kernel
theorem dX7_drawOf_27 : decode cX7_drawOf 27 = .ok (.ireturn, 1) := by decide +kernel
theorem dX7_flags_0 : decode cX7_flags 0 = .ok (.aload_n 0, 1) := by decide +kernel
theorem dX7_flags_1 : decode cX7_flags 1 = .ok (.getfield 19, 3) := by decide +kernel
theorem dX7_flags_4 : decode cX7_flags 4 = .ok (.iload_n 1, 1) := by decide +kernel
theorem dX7_flags_5 : decode cX7_flags 5 = .ok (.invokevirtual 188, 3) := by decide +kernel
theorem dX7_flags_8 : decode cX7_flags 8 = .ok (.ifCond .eq 17, 3) := by decide +kernel
theorem dX7_flags_11 : decode cX7_flags 11 = .ok (.aload_n 0, 1) := by decide +kernel
theorem dX7_flags_12 : decode cX7_flags 12 = .ok (.getfield 19, 3) := by decide +kernel
theorem dX7_flags_15 : decode cX7_flags 15 = .ok (.iload_n 1, 1) := by decide +kernel
theorem dX7_flags_16 : decode cX7_flags 16 = .ok (.invokevirtual 191, 3) := by decide +kernel
theorem dX7_flags_19 : decode cX7_flags 19 = .ok (.getfield 210, 3) := by decide +kernel
theorem dX7_flags_22 : decode cX7_flags 22 = .ok (.goto 5, 3) := by decide +kernel
theorem dX7_flags_25 : decode cX7_flags 25 = .ok (.ldc 68, 2) := by decide +kernel
theorem dX7_flags_27 : decode cX7_flags 27 = .ok (.ireturn, 1) := by decide +kernel
theorem dX7_exactNumerator_0 : decode cX7_exactNumerator 0 = .ok (.aload_n 0, 1) := by decide +kernel
theorem dX7_exactNumerator_1 : decode cX7_exactNumerator 1 = .ok (.getfield 19, 3) := by decide +kernel
theorem dX7_exactNumerator_4 : decode cX7_exactNumerator 4 = .ok (.iload_n 1, 1) := by decide +kernel
theorem dX7_exactNumerator_5 : decode cX7_exactNumerator 5 = .ok (.invokevirtual 188, 3) := by decide +kernel
theorem dX7_exactNumerator_8 : decode cX7_exactNumerator 8 = .ok (.ifCond .ne 7, 3) := by decide +kernel
theorem dX7_exactNumerator_11 : decode cX7_exactNumerator 11 = .ok (.ldc2_w 213, 3) := by decide +kernel
theorem dX7_exactNumerator_14 : decode cX7_exactNumerator 14 = .ok (.lreturn, 1) := by decide +kernel
theorem dX7_exactNumerator_15 : decode cX7_exactNumerator 15 = .ok (.aload_n 0, 1) := by decide +kernel
theorem dX7_exactNumerator_16 : decode cX7_exactNumerator 16 = .ok (.getfield 19, 3) := by decide +kernel
theorem dX7_exactNumerator_19 : decode cX7_exactNumerator 19 = .ok (.iload_n 1, 1) := by decide +kernel
theorem dX7_exactNumerator_20 : decode cX7_exactNumerator 20 = .ok (.invokevirtual 191, 3) := by decide +kernel
theorem dX7_exactNumerator_23 : decode cX7_exactNumerator 23 = .ok (.astore_n 2, 1) := by decide +kernel
theorem dX7_exactNumerator_24 : decode cX7_exactNumerator 24 = .ok (.aload_n 2, 1) := by decide +kernel
theorem dX7_exactNumerator_25 : decode cX7_exactNumerator 25 = .ok (.getfield 215, 3) := by decide +kernel
theorem dX7_exactNumerator_28 : decode cX7_exactNumerator 28 = .ok (.aload_n 2, 1) := by decide +kernel
theorem dX7_exactNumerator_29 : decode cX7_exactNumerator 29 = .ok (.invokevirtual 219, 3) := by decide +kernel
theorem dX7_exactNumerator_32 : decode cX7_exactNumerator 32 = .ok (.invokestatic 223, 3) := by decide +kernel
theorem dX7_exactNumerator_35 : decode cX7_exactNumerator 35 = .ok (.lreturn, 1) := by decide +kernel
theorem dX7_exactDenominator_0 : decode cX7_exactDenominator 0 = .ok (.aload_n 0, 1) := by decide +kernel
theorem dX7_exactDenominator_1 : decode cX7_exactDenominator 1 = .ok (.getfield 19, 3) := by decide +kernel
theorem dX7_exactDenominator_4 : decode cX7_exactDenominator 4 = .ok (.iload_n 1, 1) := by decide +kernel
theorem dX7_exactDenominator_5 : decode cX7_exactDenominator 5 = .ok (.invokevirtual 188, 3) := by decide +kernel
theorem dX7_exactDenominator_8 : decode cX7_exactDenominator 8 = .ok (.ifCond .ne 7, 3) := by decide +kernel
theorem dX7_exactDenominator_11 : decode cX7_exactDenominator 11 = .ok (.ldc2_w 213, 3) := by decide +kernel
theorem dX7_exactDenominator_14 : decode cX7_exactDenominator 14 = .ok (.lreturn, 1) := by decide +kernel
theorem dX7_exactDenominator_15 : decode cX7_exactDenominator 15 = .ok (.aload_n 0, 1) := by decide +kernel
theorem dX7_exactDenominator_16 : decode cX7_exactDenominator 16 = .ok (.getfield 19, 3) := by decide +kernel
theorem dX7_exactDenominator_19 : decode cX7_exactDenominator 19 = .ok (.iload_n 1, 1) := by decide +kernel
theorem dX7_exactDenominator_20 : decode cX7_exactDenominator 20 = .ok (.invokevirtual 191, 3) := by decide +kernel
theorem dX7_exactDenominator_23 : decode cX7_exactDenominator 23 = .ok (.astore_n 2, 1) := by decide +kernel
theorem dX7_exactDenominator_24 : decode cX7_exactDenominator 24 = .ok (.aload_n 2, 1) := by decide +kernel
theorem dX7_exactDenominator_25 : decode cX7_exactDenominator 25 = .ok (.getfield 215, 3) := by decide +kernel
theorem dX7_exactDenominator_28 : decode cX7_exactDenominator 28 = .ok (.aload_n 2, 1) := by decide +kernel
theorem dX7_exactDenominator_29 : decode cX7_exactDenominator 29 = .ok (.invokevirtual 219, 3) := by decide +kernel
theorem dX7_exactDenominator_32 : decode cX7_exactDenominator 32 = .ok (.invokestatic 227, 3) := by decide +kernel
theorem dX7_exactDenominator_35 : decode cX7_exactDenominator 35 = .ok (.lreturn, 1) := by decide +kernel
theorem dX7_replay_0 : decode cX7_replay 0 = .ok (.aload_n 0, 1) := by decide +kernel
theorem dX7_replay_1 : decode cX7_replay 1 = .ok (.getfield 19, 3) := by decide +kernel
theorem dX7_replay_4 : decode cX7_replay 4 = .ok (.iload_n 1, 1) := by decide +kernel
theorem dX7_replay_5 : decode cX7_replay 5 = .ok (.invokevirtual 188, 3) := by decide +kernel
theorem dX7_replay_8 : decode cX7_replay 8 = .ok (.ifCond .eq 10, 3) := by decide +kernel
theorem dX7_replay_11 : decode cX7_replay 11 = .ok (.iload_n 2, 1) := by decide +kernel
theorem dX7_replay_12 : decode cX7_replay 12 = .ok (.invokestatic 116, 3) := by decide +kernel
theorem dX7_replay_15 : decode cX7_replay 15 = .ok (.ifCond .ne 6, 3) := by decide +kernel
theorem dX7_replay_18 : decode cX7_replay 18 = .ok (.ldc 68, 2) := by decide +kernel
theorem dX7_replay_20 : decode cX7_replay 20 = .ok (.ireturn, 1) := by decide +kernel
theorem dX7_replay_21 : decode cX7_replay 21 = .ok (.aload_n 0, 1) := by decide +kernel
theorem dX7_replay_22 : decode cX7_replay 22 = .ok (.getfield 19, 3) := by decide +kernel
theorem dX7_replay_25 : decode cX7_replay 25 = .ok (.iload_n 1, 1) := by decide +kernel
theorem dX7_replay_26 : decode cX7_replay 26 = .ok (.invokevirtual 191, 3) := by decide +kernel
theorem dX7_replay_29 : decode cX7_replay 29 = .ok (.astore 4, 2) := by decide +kernel
theorem dX7_replay_31 : decode cX7_replay 31 = .ok (.aload 4, 2) := by decide +kernel
theorem dX7_replay_33 : decode cX7_replay 33 = .ok (.iload_n 2, 1) := by decide +kernel
theorem dX7_replay_34 : decode cX7_replay 34 = .ok (.aload 4, 2) := by decide +kernel
theorem dX7_replay_36 : decode cX7_replay 36 = .ok (.getfield 195, 3) := by decide +kernel
theorem dX7_replay_39 : decode cX7_replay 39 = .ok (.iload_n 3, 1) := by decide +kernel
theorem dX7_replay_40 : decode cX7_replay 40 = .ok (.aload 4, 2) := by decide +kernel
theorem dX7_replay_42 : decode cX7_replay 42 = .ok (.getfield 230, 3) := by decide +kernel
theorem dX7_replay_45 : decode cX7_replay 45 = .ok (.invokestatic 231, 3) := by decide +kernel
theorem dX7_replay_48 : decode cX7_replay 48 = .ok (.invokevirtual 112, 3) := by decide +kernel
theorem dX7_replay_51 : decode cX7_replay 51 = .ok (.ireturn, 1) := by decide +kernel
theorem dX7_mean_0 : decode cX7_mean 0 = .ok (.aload_n 0, 1) := by decide +kernel
theorem dX7_mean_1 : decode cX7_mean 1 = .ok (.getfield 19, 3) := by decide +kernel
theorem dX7_mean_4 : decode cX7_mean 4 = .ok (.iload_n 1, 1) := by decide +kernel
theorem dX7_mean_5 : decode cX7_mean 5 = .ok (.invokevirtual 188, 3) := by decide +kernel
theorem dX7_mean_8 : decode cX7_mean 8 = .ok (.ifCond .eq 17, 3) := by decide +kernel
theorem dX7_mean_11 : decode cX7_mean 11 = .ok (.aload_n 0, 1) := by decide +kernel
theorem dX7_mean_12 : decode cX7_mean 12 = .ok (.getfield 19, 3) := by decide +kernel
theorem dX7_mean_15 : decode cX7_mean 15 = .ok (.iload_n 1, 1) := by decide +kernel
theorem dX7_mean_16 : decode cX7_mean 16 = .ok (.invokevirtual 191, 3) := by decide +kernel
theorem dX7_mean_19 : decode cX7_mean 19 = .ok (.invokevirtual 234, 3) := by decide +kernel
theorem dX7_mean_22 : decode cX7_mean 22 = .ok (.goto 6, 3) := by decide +kernel
theorem dX7_mean_25 : decode cX7_mean 25 = .ok (.ldc2_w 213, 3) := by decide +kernel
theorem dX7_mean_28 : decode cX7_mean 28 = .ok (.lreturn, 1) := by decide +kernel
theorem dX7_biasNumerator_0 : decode cX7_biasNumerator 0 = .ok (.aload_n 0, 1) := by decide +kernel
theorem dX7_biasNumerator_1 : decode cX7_biasNumerator 1 = .ok (.getfield 19, 3) := by decide +kernel
theorem dX7_biasNumerator_4 : decode cX7_biasNumerator 4 = .ok (.iload_n 1, 1) := by decide +kernel
theorem dX7_biasNumerator_5 : decode cX7_biasNumerator 5 = .ok (.invokevirtual 188, 3) := by decide +kernel
theorem dX7_biasNumerator_8 : decode cX7_biasNumerator 8 = .ok (.ifCond .ne 7, 3) := by decide +kernel
theorem dX7_biasNumerator_11 : decode cX7_biasNumerator 11 = .ok (.ldc2_w 213, 3) := by decide +kernel
theorem dX7_biasNumerator_14 : decode cX7_biasNumerator 14 = .ok (.lreturn, 1) := by decide +kernel
theorem dX7_biasNumerator_15 : decode cX7_biasNumerator 15 = .ok (.aload_n 0, 1) := by decide +kernel
theorem dX7_biasNumerator_16 : decode cX7_biasNumerator 16 = .ok (.getfield 19, 3) := by decide +kernel
theorem dX7_biasNumerator_19 : decode cX7_biasNumerator 19 = .ok (.iload_n 1, 1) := by decide +kernel
theorem dX7_biasNumerator_20 : decode cX7_biasNumerator 20 = .ok (.invokevirtual 191, 3) := by decide +kernel
theorem dX7_biasNumerator_23 : decode cX7_biasNumerator 23 = .ok (.astore_n 2, 1) := by decide +kernel
theorem dX7_biasNumerator_24 : decode cX7_biasNumerator 24 = .ok (.aload_n 2, 1) := by decide +kernel
theorem dX7_biasNumerator_25 : decode cX7_biasNumerator 25 = .ok (.invokevirtual 237, 3) := by decide +kernel
theorem dX7_biasNumerator_28 : decode cX7_biasNumerator 28 = .ok (.aload_n 2, 1) := by decide +kernel
theorem dX7_biasNumerator_29 : decode cX7_biasNumerator 29 = .ok (.invokevirtual 219, 3) := by decide +kernel
theorem dX7_biasNumerator_32 : decode cX7_biasNumerator 32 = .ok (.invokestatic 223, 3) := by decide +kernel
theorem dX7_biasNumerator_35 : decode cX7_biasNumerator 35 = .ok (.lreturn, 1) := by decide +kernel
theorem dX7_biasDenominator_0 : decode cX7_biasDenominator 0 = .ok (.aload_n 0, 1) := by decide +kernel
theorem dX7_biasDenominator_1 : decode cX7_biasDenominator 1 = .ok (.getfield 19, 3) := by decide +kernel
theorem dX7_biasDenominator_4 : decode cX7_biasDenominator 4 = .ok (.iload_n 1, 1) := by decide +kernel
theorem dX7_biasDenominator_5 : decode cX7_biasDenominator 5 = .ok (.invokevirtual 188, 3) := by decide +kernel
theorem dX7_biasDenominator_8 : decode cX7_biasDenominator 8 = .ok (.ifCond .ne 7, 3) := by decide +kernel
theorem dX7_biasDenominator_11 : decode cX7_biasDenominator 11 = .ok (.ldc2_w 213, 3) := by decide +kernel
theorem dX7_biasDenominator_14 : decode cX7_biasDenominator 14 = .ok (.lreturn, 1) := by decide +kernel
theorem dX7_biasDenominator_15 : decode cX7_biasDenominator 15 = .ok (.aload_n 0, 1) := by decide +kernel
theorem dX7_biasDenominator_16 : decode cX7_biasDenominator 16 = .ok (.getfield 19, 3) := by decide +kernel
theorem dX7_biasDenominator_19 : decode cX7_biasDenominator 19 = .ok (.iload_n 1, 1) := by decide +kernel
theorem dX7_biasDenominator_20 : decode cX7_biasDenominator 20 = .ok (.invokevirtual 191, 3) := by decide +kernel
theorem dX7_biasDenominator_23 : decode cX7_biasDenominator 23 = .ok (.astore_n 2, 1) := by decide +kernel
theorem dX7_biasDenominator_24 : decode cX7_biasDenominator 24 = .ok (.aload_n 2, 1) := by decide +kernel
theorem dX7_biasDenominator_25 : decode cX7_biasDenominator 25 = .ok (.invokevirtual 237, 3) := by decide +kernel
theorem dX7_biasDenominator_28 : decode cX7_biasDenominator 28 = .ok (.aload_n 2, 1) := by decide +kernel
theorem dX7_biasDenominator_29 : decode cX7_biasDenominator 29 = .ok (.invokevirtual 219, 3) := by decide +kernel
theorem dX7_biasDenominator_32 : decode cX7_biasDenominator 32 = .ok (.invokestatic 227, 3) := by decide +kernel
theorem dX7_biasDenominator_35 : decode cX7_biasDenominator 35 = .ok (.lreturn, 1) := by decide +kernel
theorem dX7_variance_0 : decode cX7_variance 0 = .ok (.aload_n 0, 1) := by decide +kernel
theorem dX7_variance_1 : decode cX7_variance 1 = .ok (.getfield 19, 3) := by decide +kernel
theorem dX7_variance_4 : decode cX7_variance 4 = .ok (.iload_n 1, 1) := by decide +kernel
theorem dX7_variance_5 : decode cX7_variance 5 = .ok (.invokevirtual 188, 3) := by decide +kernel
theorem dX7_variance_8 : decode cX7_variance 8 = .ok (.ifCond .eq 17, 3) := by decide +kernel
theorem dX7_variance_11 : decode cX7_variance 11 = .ok (.aload_n 0, 1) := by decide +kernel
theorem dX7_variance_12 : decode cX7_variance 12 = .ok (.getfield 19, 3) := by decide +kernel
theorem dX7_variance_15 : decode cX7_variance 15 = .ok (.iload_n 1, 1) := by decide +kernel
theorem dX7_variance_16 : decode cX7_variance 16 = .ok (.invokevirtual 191, 3) := by decide +kernel
theorem dX7_variance_19 : decode cX7_variance 19 = .ok (.invokevirtual 240, 3) := by decide +kernel
theorem dX7_variance_22 : decode cX7_variance 22 = .ok (.goto 6, 3) := by decide +kernel
theorem dX7_variance_25 : decode cX7_variance 25 = .ok (.ldc2_w 213, 3) := by decide +kernel
theorem dX7_variance_28 : decode cX7_variance 28 = .ok (.lreturn, 1) := by decide +kernel
theorem dX7_account_0 : decode cX7_account 0 = .ok (.iload_n 1, 1) := by decide +kernel
theorem dX7_account_1 : decode cX7_account 1 = .ok (.ifCond .lt 9, 3) := by decide +kernel
theorem dX7_account_4 : decode cX7_account 4 = .ok (.iload_n 1, 1) := by decide +kernel
theorem dX7_account_5 : decode cX7_account 5 = .ok (.bipush 7, 2) := by decide +kernel
theorem dX7_account_7 : decode cX7_account 7 = .ok (.if_icmp .lt 9, 3) := by decide +kernel
theorem dX7_account_10 : decode cX7_account 10 = .ok (.ldc2_w 213, 3) := by decide +kernel
theorem dX7_account_13 : decode cX7_account 13 = .ok (.goto 12, 3) := by decide +kernel
theorem dX7_account_16 : decode cX7_account 16 = .ok (.aload_n 0, 1) := by decide +kernel
theorem dX7_account_17 : decode cX7_account 17 = .ok (.getfield 19, 3) := by decide +kernel
theorem dX7_account_20 : decode cX7_account 20 = .ok (.getfield 243, 3) := by decide +kernel
theorem dX7_account_23 : decode cX7_account 23 = .ok (.iload_n 1, 1) := by decide +kernel
theorem dX7_account_24 : decode cX7_account 24 = .ok (.laload, 1) := by decide +kernel
theorem dX7_account_25 : decode cX7_account 25 = .ok (.lreturn, 1) := by decide +kernel
theorem dX7_clearAccount_0 : decode cX7_clearAccount 0 = .ok (.aload_n 0, 1) := by decide +kernel
theorem dX7_clearAccount_1 : decode cX7_clearAccount 1 = .ok (.invokevirtual 69, 3) := by decide +kernel
theorem dX7_clearAccount_4 : decode cX7_clearAccount 4 = .ok (.aload_n 0, 1) := by decide +kernel
theorem dX7_clearAccount_5 : decode cX7_clearAccount 5 = .ok (.getfield 19, 3) := by decide +kernel
theorem dX7_clearAccount_8 : decode cX7_clearAccount 8 = .ok (.getfield 243, 3) := by decide +kernel
theorem dX7_clearAccount_11 : decode cX7_clearAccount 11 = .ok (.iconst 0, 1) := by decide +kernel
theorem dX7_clearAccount_12 : decode cX7_clearAccount 12 = .ok (.laload, 1) := by decide +kernel
theorem dX7_clearAccount_13 : decode cX7_clearAccount 13 = .ok (.ldc2_w 249, 3) := by decide +kernel
theorem dX7_clearAccount_16 : decode cX7_clearAccount 16 = .ok (.land, 1) := by decide +kernel
theorem dX7_clearAccount_17 : decode cX7_clearAccount 17 = .ok (.l2i, 1) := by decide +kernel
theorem dX7_clearAccount_18 : decode cX7_clearAccount 18 = .ok (.istore_n 1, 1) := by decide +kernel
theorem dX7_clearAccount_19 : decode cX7_clearAccount 19 = .ok (.aload_n 0, 1) := by decide +kernel
theorem dX7_clearAccount_20 : decode cX7_clearAccount 20 = .ok (.getfield 19, 3) := by decide +kernel
theorem dX7_clearAccount_23 : decode cX7_clearAccount 23 = .ok (.invokevirtual 251, 3) := by decide +kernel
theorem dX7_clearAccount_26 : decode cX7_clearAccount 26 = .ok (.iload_n 1, 1) := by decide +kernel
theorem dX7_clearAccount_27 : decode cX7_clearAccount 27 = .ok (.ireturn, 1) := by decide +kernel
theorem dX7_isValue_0 : decode cX7_isValue 0 = .ok (.iload_n 1, 1) := by decide +kernel
theorem dX7_isValue_1 : decode cX7_isValue 1 = .ok (.invokestatic 58, 3) := by decide +kernel
theorem dX7_isValue_4 : decode cX7_isValue 4 = .ok (.ifCond .eq 10, 3) := by decide +kernel
theorem dX7_isValue_7 : decode cX7_isValue 7 = .ok (.iload_n 2, 1) := by decide +kernel
theorem dX7_isValue_8 : decode cX7_isValue 8 = .ok (.invokestatic 97, 3) := by decide +kernel
theorem dX7_isValue_11 : decode cX7_isValue 11 = .ok (.ifCond .ne 6, 3) := by decide +kernel
theorem dX7_isValue_14 : decode cX7_isValue 14 = .ok (.ldc 68, 2) := by decide +kernel
theorem dX7_isValue_16 : decode cX7_isValue 16 = .ok (.ireturn, 1) := by decide +kernel
theorem dX7_isValue_17 : decode cX7_isValue 17 = .ok (.aload_n 0, 1) := by decide +kernel
theorem dX7_isValue_18 : decode cX7_isValue 18 = .ok (.getfield 10, 3) := by decide +kernel
theorem dX7_isValue_21 : decode cX7_isValue 21 = .ok (.getfield 72, 3) := by decide +kernel
theorem dX7_isValue_24 : decode cX7_isValue 24 = .ok (.iload_n 1, 1) := by decide +kernel
theorem dX7_isValue_25 : decode cX7_isValue 25 = .ok (.aaload, 1) := by decide +kernel
theorem dX7_isValue_26 : decode cX7_isValue 26 = .ok (.iload_n 2, 1) := by decide +kernel
theorem dX7_isValue_27 : decode cX7_isValue 27 = .ok (.invokevirtual 254, 3) := by decide +kernel
theorem dX7_isValue_30 : decode cX7_isValue 30 = .ok (.ifCond .eq 7, 3) := by decide +kernel
theorem dX7_isValue_33 : decode cX7_isValue 33 = .ok (.iconst 1, 1) := by decide +kernel
theorem dX7_isValue_34 : decode cX7_isValue 34 = .ok (.goto 4, 3) := by decide +kernel
theorem dX7_isValue_37 : decode cX7_isValue 37 = .ok (.iconst 0, 1) := by decide +kernel
theorem dX7_isValue_38 : decode cX7_isValue 38 = .ok (.ireturn, 1) := by decide +kernel
theorem dX7_next_0 : decode cX7_next 0 = .ok (.iload_n 1, 1) := by decide +kernel
theorem dX7_next_1 : decode cX7_next 1 = .ok (.invokestatic 58, 3) := by decide +kernel
theorem dX7_next_4 : decode cX7_next 4 = .ok (.ifCond .eq 10, 3) := by decide +kernel
theorem dX7_next_7 : decode cX7_next 7 = .ok (.iload_n 2, 1) := by decide +kernel
theorem dX7_next_8 : decode cX7_next 8 = .ok (.invokestatic 97, 3) := by decide +kernel
theorem dX7_next_11 : decode cX7_next 11 = .ok (.ifCond .ne 6, 3) := by decide +kernel
theorem dX7_next_14 : decode cX7_next 14 = .ok (.ldc 68, 2) := by decide +kernel
theorem dX7_next_16 : decode cX7_next 16 = .ok (.ireturn, 1) := by decide +kernel
theorem dX7_next_17 : decode cX7_next 17 = .ok (.aload_n 0, 1) := by decide +kernel
theorem dX7_next_18 : decode cX7_next 18 = .ok (.getfield 10, 3) := by decide +kernel
theorem dX7_next_21 : decode cX7_next 21 = .ok (.getfield 72, 3) := by decide +kernel
theorem dX7_next_24 : decode cX7_next 24 = .ok (.iload_n 1, 1) := by decide +kernel
theorem dX7_next_25 : decode cX7_next 25 = .ok (.aaload, 1) := by decide +kernel
theorem dX7_next_26 : decode cX7_next 26 = .ok (.astore 4, 2) := by decide +kernel
theorem dX7_next_28 : decode cX7_next 28 = .ok (.iload_n 3, 1) := by decide +kernel
theorem dX7_next_29 : decode cX7_next 29 = .ok (.ifCond .eq 7, 3) := by decide +kernel
theorem dX7_next_32 : decode cX7_next 32 = .ok (.iload_n 2, 1) := by decide +kernel
theorem dX7_next_33 : decode cX7_next 33 = .ok (.goto 5, 3) := by decide +kernel
theorem dX7_next_36 : decode cX7_next 36 = .ok (.iload_n 2, 1) := by decide +kernel
theorem dX7_next_37 : decode cX7_next 37 = .ok (.ineg, 1) := by decide +kernel
theorem dX7_next_38 : decode cX7_next 38 = .ok (.istore 5, 2) := by decide +kernel
theorem dX7_next_40 : decode cX7_next 40 = .ok (.iload 5, 2) := by decide +kernel
theorem dX7_next_42 : decode cX7_next 42 = .ok (.aload 4, 2) := by decide +kernel
theorem dX7_next_44 : decode cX7_next 44 = .ok (.invokevirtual 255, 3) := by decide +kernel
theorem dX7_next_47 : decode cX7_next 47 = .ok (.ineg, 1) := by decide +kernel
theorem dX7_next_48 : decode cX7_next 48 = .ok (.if_icmp .gt 6, 3) := by decide +kernel
theorem dX7_next_51 : decode cX7_next 51 = .ok (.ldc 158, 2) := by decide +kernel
theorem dX7_next_53 : decode cX7_next 53 = .ok (.ireturn, 1) := by decide +kernel
theorem dX7_next_54 : decode cX7_next 54 = .ok (.aload 4, 2) := by decide +kernel
theorem dX7_next_56 : decode cX7_next 56 = .ok (.iload 5, 2) := by decide +kernel
theorem dX7_next_58 : decode cX7_next 58 = .ok (.iconst 1, 1) := by decide +kernel
theorem dX7_next_59 : decode cX7_next 59 = .ok (.isub, 1) := by decide +kernel
theorem dX7_next_60 : decode cX7_next 60 = .ok (.invokevirtual 258, 3) := by decide +kernel
theorem dX7_next_63 : decode cX7_next 63 = .ok (.istore 6, 2) := by decide +kernel
theorem dX7_next_65 : decode cX7_next 65 = .ok (.iload_n 3, 1) := by decide +kernel
theorem dX7_next_66 : decode cX7_next 66 = .ok (.ifCond .eq 8, 3) := by decide +kernel
theorem dX7_next_69 : decode cX7_next 69 = .ok (.iload 6, 2) := by decide +kernel
theorem dX7_next_71 : decode cX7_next 71 = .ok (.goto 6, 3) := by decide +kernel
theorem dX7_next_74 : decode cX7_next 74 = .ok (.iload 6, 2) := by decide +kernel
theorem dX7_next_76 : decode cX7_next 76 = .ok (.ineg, 1) := by decide +kernel
theorem dX7_next_77 : decode cX7_next 77 = .ok (.ireturn, 1) := by decide +kernel
theorem dX7_countValues_0 : decode cX7_countValues 0 = .ok (.iload_n 1, 1) := by decide +kernel
theorem dX7_countValues_1 : decode cX7_countValues 1 = .ok (.invokestatic 58, 3) := by decide +kernel
theorem dX7_countValues_4 : decode cX7_countValues 4 = .ok (.ifCond .eq 20, 3) := by decide +kernel
theorem dX7_countValues_7 : decode cX7_countValues 7 = .ok (.aload_n 0, 1) := by decide +kernel
theorem dX7_countValues_8 : decode cX7_countValues 8 = .ok (.getfield 10, 3) := by decide +kernel
theorem dX7_countValues_11 : decode cX7_countValues 11 = .ok (.getfield 72, 3) := by decide +kernel
theorem dX7_countValues_14 : decode cX7_countValues 14 = .ok (.iload_n 1, 1) := by decide +kernel
theorem dX7_countValues_15 : decode cX7_countValues 15 = .ok (.aaload, 1) := by decide +kernel
theorem dX7_countValues_16 : decode cX7_countValues 16 = .ok (.ldc 175, 2) := by decide +kernel
theorem dX7_countValues_18 : decode cX7_countValues 18 = .ok (.invokevirtual 262, 3) := by decide +kernel
theorem dX7_countValues_21 : decode cX7_countValues 21 = .ok (.goto 5, 3) := by decide +kernel
theorem dX7_countValues_24 : decode cX7_countValues 24 = .ok (.ldc 68, 2) := by decide +kernel
theorem dX7_countValues_26 : decode cX7_countValues 26 = .ok (.ireturn, 1) := by decide +kernel
theorem dX7_between_0 : decode cX7_between 0 = .ok (.iload_n 1, 1) := by decide +kernel
theorem dX7_between_1 : decode cX7_between 1 = .ok (.invokestatic 58, 3) := by decide +kernel
theorem dX7_between_4 : decode cX7_between 4 = .ok (.ifCond .eq 22, 3) := by decide +kernel
theorem dX7_between_7 : decode cX7_between 7 = .ok (.iload_n 2, 1) := by decide +kernel
theorem dX7_between_8 : decode cX7_between 8 = .ok (.invokestatic 97, 3) := by decide +kernel
theorem dX7_between_11 : decode cX7_between 11 = .ok (.ifCond .eq 15, 3) := by decide +kernel
theorem dX7_between_14 : decode cX7_between 14 = .ok (.iload_n 3, 1) := by decide +kernel
theorem dX7_between_15 : decode cX7_between 15 = .ok (.invokestatic 97, 3) := by decide +kernel
theorem dX7_between_18 : decode cX7_between 18 = .ok (.ifCond .eq 8, 3) := by decide +kernel
theorem dX7_between_21 : decode cX7_between 21 = .ok (.iload_n 3, 1) := by decide +kernel
theorem dX7_between_22 : decode cX7_between 22 = .ok (.iload_n 2, 1) := by decide +kernel
theorem dX7_between_23 : decode cX7_between 23 = .ok (.if_icmp .ge 6, 3) := by decide +kernel
theorem dX7_between_26 : decode cX7_between 26 = .ok (.ldc 68, 2) := by decide +kernel
theorem dX7_between_28 : decode cX7_between 28 = .ok (.ireturn, 1) := by decide +kernel
theorem dX7_between_29 : decode cX7_between 29 = .ok (.aload_n 0, 1) := by decide +kernel
theorem dX7_between_30 : decode cX7_between 30 = .ok (.getfield 10, 3) := by decide +kernel
theorem dX7_between_33 : decode cX7_between 33 = .ok (.getfield 72, 3) := by decide +kernel
theorem dX7_between_36 : decode cX7_between 36 = .ok (.iload_n 1, 1) := by decide +kernel
theorem dX7_between_37 : decode cX7_between 37 = .ok (.aaload, 1) := by decide +kernel
theorem dX7_between_38 : decode cX7_between 38 = .ok (.astore 4, 2) := by decide +kernel
theorem dX7_between_40 : decode cX7_between 40 = .ok (.aload 4, 2) := by decide +kernel
theorem dX7_between_42 : decode cX7_between 42 = .ok (.iload_n 3, 1) := by decide +kernel
theorem dX7_between_43 : decode cX7_between 43 = .ok (.invokevirtual 262, 3) := by decide +kernel
theorem dX7_between_46 : decode cX7_between 46 = .ok (.aload 4, 2) := by decide +kernel
theorem dX7_between_48 : decode cX7_between 48 = .ok (.iload_n 2, 1) := by decide +kernel
theorem dX7_between_49 : decode cX7_between 49 = .ok (.iconst 1, 1) := by decide +kernel
theorem dX7_between_50 : decode cX7_between 50 = .ok (.isub, 1) := by decide +kernel
theorem dX7_between_51 : decode cX7_between 51 = .ok (.invokevirtual 262, 3) := by decide +kernel
theorem dX7_between_54 : decode cX7_between 54 = .ok (.isub, 1) := by decide +kernel
theorem dX7_between_55 : decode cX7_between 55 = .ok (.ireturn, 1) := by decide +kernel
theorem dX7_contains_0 : decode cX7_contains 0 = .ok (.iload_n 1, 1) := by decide +kernel
theorem dX7_contains_1 : decode cX7_contains 1 = .ok (.invokestatic 58, 3) := by decide +kernel
theorem dX7_contains_4 : decode cX7_contains 4 = .ok (.ifCond .eq 10, 3) := by decide +kernel
theorem dX7_contains_7 : decode cX7_contains 7 = .ok (.iload_n 2, 1) := by decide +kernel
theorem dX7_contains_8 : decode cX7_contains 8 = .ok (.invokestatic 58, 3) := by decide +kernel
theorem dX7_contains_11 : decode cX7_contains 11 = .ok (.ifCond .ne 6, 3) := by decide +kernel
theorem dX7_contains_14 : decode cX7_contains 14 = .ok (.ldc 68, 2) := by decide +kernel
theorem dX7_contains_16 : decode cX7_contains 16 = .ok (.ireturn, 1) := by decide +kernel
theorem dX7_contains_17 : decode cX7_contains 17 = .ok (.aload_n 0, 1) := by decide +kernel
theorem dX7_contains_18 : decode cX7_contains 18 = .ok (.getfield 10, 3) := by decide +kernel
theorem dX7_contains_21 : decode cX7_contains 21 = .ok (.getfield 72, 3) := by decide +kernel
theorem dX7_contains_24 : decode cX7_contains 24 = .ok (.iload_n 1, 1) := by decide +kernel
theorem dX7_contains_25 : decode cX7_contains 25 = .ok (.aaload, 1) := by decide +kernel
theorem dX7_contains_26 : decode cX7_contains 26 = .ok (.aload_n 0, 1) := by decide +kernel
theorem dX7_contains_27 : decode cX7_contains 27 = .ok (.getfield 10, 3) := by decide +kernel
theorem dX7_contains_30 : decode cX7_contains 30 = .ok (.getfield 72, 3) := by decide +kernel
theorem dX7_contains_33 : decode cX7_contains 33 = .ok (.iload_n 2, 1) := by decide +kernel
theorem dX7_contains_34 : decode cX7_contains 34 = .ok (.aaload, 1) := by decide +kernel
theorem dX7_contains_35 : decode cX7_contains 35 = .ok (.invokevirtual 265, 3) := by decide +kernel
theorem dX7_contains_38 : decode cX7_contains 38 = .ok (.ifCond .eq 7, 3) := by decide +kernel
theorem dX7_contains_41 : decode cX7_contains 41 = .ok (.iconst 1, 1) := by decide +kernel
theorem dX7_contains_42 : decode cX7_contains 42 = .ok (.goto 4, 3) := by decide +kernel
theorem dX7_contains_45 : decode cX7_contains 45 = .ok (.iconst 0, 1) := by decide +kernel
theorem dX7_contains_46 : decode cX7_contains 46 = .ok (.ireturn, 1) := by decide +kernel
theorem dX7_undo_0 : decode cX7_undo 0 = .ok (.aload_n 0, 1) := by decide +kernel
theorem dX7_undo_1 : decode cX7_undo 1 = .ok (.getfield 26, 3) := by decide +kernel
theorem dX7_undo_4 : decode cX7_undo 4 = .ok (.aload_n 0, 1) := by decide +kernel
theorem dX7_undo_5 : decode cX7_undo 5 = .ok (.getfield 10, 3) := by decide +kernel
theorem dX7_undo_8 : decode cX7_undo 8 = .ok (.aload_n 0, 1) := by decide +kernel
theorem dX7_undo_9 : decode cX7_undo 9 = .ok (.getfield 19, 3) := by decide +kernel
theorem dX7_undo_12 : decode cX7_undo 12 = .ok (.invokevirtual 268, 3) := by decide +kernel
theorem dX7_undo_15 : decode cX7_undo 15 = .ok (.ifCond .eq 13, 3) := by decide +kernel
theorem dX7_undo_18 : decode cX7_undo 18 = .ok (.aload_n 0, 1) := by decide +kernel
theorem dX7_undo_19 : decode cX7_undo 19 = .ok (.getfield 26, 3) := by decide +kernel
theorem dX7_undo_22 : decode cX7_undo 22 = .ok (.getfield 272, 3) := by decide +kernel
theorem dX7_undo_25 : decode cX7_undo 25 = .ok (.goto 5, 3) := by decide +kernel
theorem dX7_undo_28 : decode cX7_undo 28 = .ok (.ldc 135, 2) := by decide +kernel
theorem dX7_undo_30 : decode cX7_undo 30 = .ok (.ireturn, 1) := by decide +kernel
theorem dX7_told_0 : decode cX7_told 0 = .ok (.iload_n 1, 1) := by decide +kernel
theorem dX7_told_1 : decode cX7_told 1 = .ok (.ifCond .lt 9, 3) := by decide +kernel
theorem dX7_told_4 : decode cX7_told 4 = .ok (.iload_n 1, 1) := by decide +kernel
theorem dX7_told_5 : decode cX7_told 5 = .ok (.bipush 18, 2) := by decide +kernel
theorem dX7_told_7 : decode cX7_told 7 = .ok (.if_icmp .lt 6, 3) := by decide +kernel
theorem dX7_told_10 : decode cX7_told 10 = .ok (.ldc 68, 2) := by decide +kernel
theorem dX7_told_12 : decode cX7_told 12 = .ok (.ireturn, 1) := by decide +kernel
theorem dX7_told_13 : decode cX7_told 13 = .ok (.iload_n 1, 1) := by decide +kernel
theorem dX7_told_14 : decode cX7_told 14 = .ok (.tableswitch 86 0 5 #[38, 46, 54, 62, 70, 78], 38) := by decide +kernel
theorem dX7_told_52 : decode cX7_told 52 = .ok (.aload_n 0, 1) := by decide +kernel
theorem dX7_told_53 : decode cX7_told 53 = .ok (.getfield 10, 3) := by decide +kernel
theorem dX7_told_56 : decode cX7_told 56 = .ok (.getfield 119, 3) := by decide +kernel
theorem dX7_told_59 : decode cX7_told 59 = .ok (.ireturn, 1) := by decide +kernel
theorem dX7_told_60 : decode cX7_told 60 = .ok (.aload_n 0, 1) := by decide +kernel
theorem dX7_told_61 : decode cX7_told 61 = .ok (.getfield 10, 3) := by decide +kernel
theorem dX7_told_64 : decode cX7_told 64 = .ok (.getfield 122, 3) := by decide +kernel
theorem dX7_told_67 : decode cX7_told 67 = .ok (.ireturn, 1) := by decide +kernel
theorem dX7_told_68 : decode cX7_told 68 = .ok (.aload_n 0, 1) := by decide +kernel
theorem dX7_told_69 : decode cX7_told 69 = .ok (.getfield 10, 3) := by decide +kernel
theorem dX7_told_72 : decode cX7_told 72 = .ok (.getfield 125, 3) := by decide +kernel
theorem dX7_told_75 : decode cX7_told 75 = .ok (.ireturn, 1) := by decide +kernel
theorem dX7_told_76 : decode cX7_told 76 = .ok (.aload_n 0, 1) := by decide +kernel
theorem dX7_told_77 : decode cX7_told 77 = .ok (.getfield 10, 3) := by decide +kernel
theorem dX7_told_80 : decode cX7_told 80 = .ok (.getfield 273, 3) := by decide +kernel
theorem dX7_told_83 : decode cX7_told 83 = .ok (.ireturn, 1) := by decide +kernel
theorem dX7_told_84 : decode cX7_told 84 = .ok (.aload_n 0, 1) := by decide +kernel
theorem dX7_told_85 : decode cX7_told 85 = .ok (.getfield 26, 3) := by decide +kernel
theorem dX7_told_88 : decode cX7_told 88 = .ok (.getfield 272, 3) := by decide +kernel
theorem dX7_told_91 : decode cX7_told 91 = .ok (.ireturn, 1) := by decide +kernel
theorem dX7_told_92 : decode cX7_told 92 = .ok (.aload_n 0, 1) := by decide +kernel
theorem dX7_told_93 : decode cX7_told 93 = .ok (.getfield 33, 3) := by decide +kernel
theorem dX7_told_96 : decode cX7_told 96 = .ok (.getfield 150, 3) := by decide +kernel
theorem dX7_told_99 : decode cX7_told 99 = .ok (.ireturn, 1) := by decide +kernel
theorem dX7_told_100 : decode cX7_told 100 = .ok (.aload_n 0, 1) := by decide +kernel
theorem dX7_told_101 : decode cX7_told 101 = .ok (.iload_n 1, 1) := by decide +kernel
theorem dX7_told_102 : decode cX7_told 102 = .ok (.bipush 6, 2) := by decide +kernel
theorem dX7_told_104 : decode cX7_told 104 = .ok (.isub, 1) := by decide +kernel
theorem dX7_told_105 : decode cX7_told 105 = .ok (.invokevirtual 276, 3) := by decide +kernel
theorem dX7_told_108 : decode cX7_told 108 = .ok (.ireturn, 1) := by decide +kernel
theorem dX7_digest_0 : decode cX7_digest 0 = .ok (.ldc2_w 279, 3) := by decide +kernel
theorem dX7_digest_3 : decode cX7_digest 3 = .ok (.lstore_n 1, 1) := by decide +kernel
theorem dX7_digest_4 : decode cX7_digest 4 = .ok (.iconst 0, 1) := by decide +kernel
theorem dX7_digest_5 : decode cX7_digest 5 = .ok (.istore_n 3, 1) := by decide +kernel
theorem dX7_digest_6 : decode cX7_digest 6 = .ok (.iload_n 3, 1) := by decide +kernel
theorem dX7_digest_7 : decode cX7_digest 7 = .ok (.bipush 18, 2) := by decide +kernel
theorem dX7_digest_9 : decode cX7_digest 9 = .ok (.if_icmp .ge 22, 3) := by decide +kernel
theorem dX7_digest_12 : decode cX7_digest 12 = .ok (.ldc2_w 281, 3) := by decide +kernel
theorem dX7_digest_15 : decode cX7_digest 15 = .ok (.lload_n 1, 1) := by decide +kernel
theorem dX7_digest_16 : decode cX7_digest 16 = .ok (.lmul, 1) := by decide +kernel
theorem dX7_digest_17 : decode cX7_digest 17 = .ok (.aload_n 0, 1) := by decide +kernel
theorem dX7_digest_18 : decode cX7_digest 18 = .ok (.iload_n 3, 1) := by decide +kernel
theorem dX7_digest_19 : decode cX7_digest 19 = .ok (.invokevirtual 283, 3) := by decide +kernel
theorem dX7_digest_22 : decode cX7_digest 22 = .ok (.i2l, 1) := by decide +kernel
theorem dX7_digest_23 : decode cX7_digest 23 = .ok (.ladd, 1) := by decide +kernel
theorem dX7_digest_24 : decode cX7_digest 24 = .ok (.lstore_n 1, 1) := by decide +kernel
theorem dX7_digest_25 : decode cX7_digest 25 = .ok (.iinc 3 1, 3) := by decide +kernel
theorem dX7_digest_28 : decode cX7_digest 28 = .ok (.goto (-22), 3) := by decide +kernel
theorem dX7_digest_31 : decode cX7_digest 31 = .ok (.iconst 0, 1) := by decide +kernel
theorem dX7_digest_32 : decode cX7_digest 32 = .ok (.istore_n 3, 1) := by decide +kernel
theorem dX7_digest_33 : decode cX7_digest 33 = .ok (.iload_n 3, 1) := by decide +kernel
theorem dX7_digest_34 : decode cX7_digest 34 = .ok (.bipush 8, 2) := by decide +kernel
theorem dX7_digest_36 : decode cX7_digest 36 = .ok (.if_icmp .ge 35, 3) := by decide +kernel
theorem dX7_digest_39 : decode cX7_digest 39 = .ok (.ldc2_w 281, 3) := by decide +kernel
theorem dX7_digest_42 : decode cX7_digest 42 = .ok (.lload_n 1, 1) := by decide +kernel
theorem dX7_digest_43 : decode cX7_digest 43 = .ok (.lmul, 1) := by decide +kernel
theorem dX7_digest_44 : decode cX7_digest 44 = .ok (.aload_n 0, 1) := by decide +kernel
theorem dX7_digest_45 : decode cX7_digest 45 = .ok (.iload_n 3, 1) := by decide +kernel
theorem dX7_digest_46 : decode cX7_digest 46 = .ok (.invokevirtual 286, 3) := by decide +kernel
theorem dX7_digest_49 : decode cX7_digest 49 = .ok (.i2l, 1) := by decide +kernel
theorem dX7_digest_50 : decode cX7_digest 50 = .ok (.ladd, 1) := by decide +kernel
theorem dX7_digest_51 : decode cX7_digest 51 = .ok (.lstore_n 1, 1) := by decide +kernel
theorem dX7_digest_52 : decode cX7_digest 52 = .ok (.ldc2_w 281, 3) := by decide +kernel
theorem dX7_digest_55 : decode cX7_digest 55 = .ok (.lload_n 1, 1) := by decide +kernel
theorem dX7_digest_56 : decode cX7_digest 56 = .ok (.lmul, 1) := by decide +kernel
theorem dX7_digest_57 : decode cX7_digest 57 = .ok (.aload_n 0, 1) := by decide +kernel
theorem dX7_digest_58 : decode cX7_digest 58 = .ok (.iload_n 3, 1) := by decide +kernel
theorem dX7_digest_59 : decode cX7_digest 59 = .ok (.invokevirtual 289, 3) := by decide +kernel
theorem dX7_digest_62 : decode cX7_digest 62 = .ok (.i2l, 1) := by decide +kernel
theorem dX7_digest_63 : decode cX7_digest 63 = .ok (.ladd, 1) := by decide +kernel
theorem dX7_digest_64 : decode cX7_digest 64 = .ok (.lstore_n 1, 1) := by decide +kernel
theorem dX7_digest_65 : decode cX7_digest 65 = .ok (.iinc 3 1, 3) := by decide +kernel
theorem dX7_digest_68 : decode cX7_digest 68 = .ok (.goto (-35), 3) := by decide +kernel
theorem dX7_digest_71 : decode cX7_digest 71 = .ok (.iconst 0, 1) := by decide +kernel
theorem dX7_digest_72 : decode cX7_digest 72 = .ok (.istore_n 3, 1) := by decide +kernel
theorem dX7_digest_73 : decode cX7_digest 73 = .ok (.iload_n 3, 1) := by decide +kernel
theorem dX7_digest_74 : decode cX7_digest 74 = .ok (.bipush 7, 2) := by decide +kernel
theorem dX7_digest_76 : decode cX7_digest 76 = .ok (.if_icmp .ge 21, 3) := by decide +kernel
theorem dX7_digest_79 : decode cX7_digest 79 = .ok (.ldc2_w 281, 3) := by decide +kernel
theorem dX7_digest_82 : decode cX7_digest 82 = .ok (.lload_n 1, 1) := by decide +kernel
theorem dX7_digest_83 : decode cX7_digest 83 = .ok (.lmul, 1) := by decide +kernel
theorem dX7_digest_84 : decode cX7_digest 84 = .ok (.aload_n 0, 1) := by decide +kernel
theorem dX7_digest_85 : decode cX7_digest 85 = .ok (.iload_n 3, 1) := by decide +kernel
theorem dX7_digest_86 : decode cX7_digest 86 = .ok (.invokevirtual 292, 3) := by decide +kernel
theorem dX7_digest_89 : decode cX7_digest 89 = .ok (.ladd, 1) := by decide +kernel
theorem dX7_digest_90 : decode cX7_digest 90 = .ok (.lstore_n 1, 1) := by decide +kernel
theorem dX7_digest_91 : decode cX7_digest 91 = .ok (.iinc 3 1, 3) := by decide +kernel
theorem dX7_digest_94 : decode cX7_digest 94 = .ok (.goto (-21), 3) := by decide +kernel
theorem dX7_digest_97 : decode cX7_digest 97 = .ok (.ldc2_w 281, 3) := by decide +kernel
theorem dX7_digest_100 : decode cX7_digest 100 = .ok (.lload_n 1, 1) := by decide +kernel
theorem dX7_digest_101 : decode cX7_digest 101 = .ok (.lmul, 1) := by decide +kernel
theorem dX7_digest_102 : decode cX7_digest 102 = .ok (.aload_n 0, 1) := by decide +kernel
theorem dX7_digest_103 : decode cX7_digest 103 = .ok (.invokevirtual 296, 3) := by decide +kernel
theorem dX7_digest_106 : decode cX7_digest 106 = .ok (.i2l, 1) := by decide +kernel
theorem dX7_digest_107 : decode cX7_digest 107 = .ok (.ladd, 1) := by decide +kernel
theorem dX7_digest_108 : decode cX7_digest 108 = .ok (.lstore_n 1, 1) := by decide +kernel
theorem dX7_digest_109 : decode cX7_digest 109 = .ok (.iconst 0, 1) := by decide +kernel
theorem dX7_digest_110 : decode cX7_digest 110 = .ok (.istore_n 3, 1) := by decide +kernel
theorem dX7_digest_111 : decode cX7_digest 111 = .ok (.iload_n 3, 1) := by decide +kernel
theorem dX7_digest_112 : decode cX7_digest 112 = .ok (.aload_n 0, 1) := by decide +kernel
theorem dX7_digest_113 : decode cX7_digest 113 = .ok (.getfield 19, 3) := by decide +kernel
theorem dX7_digest_116 : decode cX7_digest 116 = .ok (.getfield 185, 3) := by decide +kernel
theorem dX7_digest_119 : decode cX7_digest 119 = .ok (.if_icmp .ge 22, 3) := by decide +kernel
theorem dX7_digest_122 : decode cX7_digest 122 = .ok (.aload_n 0, 1) := by decide +kernel
theorem dX7_digest_123 : decode cX7_digest 123 = .ok (.getfield 19, 3) := by decide +kernel
theorem dX7_digest_126 : decode cX7_digest 126 = .ok (.iload_n 3, 1) := by decide +kernel
theorem dX7_digest_127 : decode cX7_digest 127 = .ok (.invokevirtual 191, 3) := by decide +kernel
theorem dX7_digest_130 : decode cX7_digest 130 = .ok (.lload_n 1, 1) := by decide +kernel
theorem dX7_digest_131 : decode cX7_digest 131 = .ok (.invokevirtual 299, 3) := by decide +kernel
theorem dX7_digest_134 : decode cX7_digest 134 = .ok (.lstore_n 1, 1) := by decide +kernel
theorem dX7_digest_135 : decode cX7_digest 135 = .ok (.iinc 3 1, 3) := by decide +kernel
theorem dX7_digest_138 : decode cX7_digest 138 = .ok (.goto (-27), 3) := by decide +kernel
theorem dX7_digest_141 : decode cX7_digest 141 = .ok (.lload_n 1, 1) := by decide +kernel
theorem dX7_digest_142 : decode cX7_digest 142 = .ok (.lreturn, 1) := by decide +kernel
theorem dX7_isFormat_0 : decode cX7_isFormat 0 = .ok (.iload_n 0, 1) := by decide +kernel
theorem dX7_isFormat_1 : decode cX7_isFormat 1 = .ok (.ifCond .lt 12, 3) := by decide +kernel
theorem dX7_isFormat_4 : decode cX7_isFormat 4 = .ok (.iload_n 0, 1) := by decide +kernel
theorem dX7_isFormat_5 : decode cX7_isFormat 5 = .ok (.iconst 4, 1) := by decide +kernel
theorem dX7_isFormat_6 : decode cX7_isFormat 6 = .ok (.if_icmp .ge 7, 3) := by decide +kernel
theorem dX7_isFormat_9 : decode cX7_isFormat 9 = .ok (.iconst 1, 1) := by decide +kernel
theorem dX7_isFormat_10 : decode cX7_isFormat 10 = .ok (.goto 4, 3) := by decide +kernel
theorem dX7_isFormat_13 : decode cX7_isFormat 13 = .ok (.iconst 0, 1) := by decide +kernel
theorem dX7_isFormat_14 : decode cX7_isFormat 14 = .ok (.ireturn, 1) := by decide +kernel
theorem dX7_isRegister_0 : decode cX7_isRegister 0 = .ok (.iload_n 0, 1) := by decide +kernel
theorem dX7_isRegister_1 : decode cX7_isRegister 1 = .ok (.ifCond .lt 13, 3) := by decide +kernel
theorem dX7_isRegister_4 : decode cX7_isRegister 4 = .ok (.iload_n 0, 1) := by decide +kernel
theorem dX7_isRegister_5 : decode cX7_isRegister 5 = .ok (.bipush 8, 2) := by decide +kernel
theorem dX7_isRegister_7 : decode cX7_isRegister 7 = .ok (.if_icmp .ge 7, 3) := by decide +kernel
theorem dX7_isRegister_10 : decode cX7_isRegister 10 = .ok (.iconst 1, 1) := by decide +kernel
theorem dX7_isRegister_11 : decode cX7_isRegister 11 = .ok (.goto 4, 3) := by decide +kernel
theorem dX7_isRegister_14 : decode cX7_isRegister 14 = .ok (.iconst 0, 1) := by decide +kernel
theorem dX7_isRegister_15 : decode cX7_isRegister 15 = .ok (.ireturn, 1) := by decide +kernel
theorem dX7_isMode_0 : decode cX7_isMode 0 = .ok (.iload_n 0, 1) := by decide +kernel
theorem dX7_isMode_1 : decode cX7_isMode 1 = .ok (.ifCond .lt 12, 3) := by decide +kernel
theorem dX7_isMode_4 : decode cX7_isMode 4 = .ok (.iload_n 0, 1) := by decide +kernel
theorem dX7_isMode_5 : decode cX7_isMode 5 = .ok (.iconst 5, 1) := by decide +kernel
theorem dX7_isMode_6 : decode cX7_isMode 6 = .ok (.if_icmp .ge 7, 3) := by decide +kernel
theorem dX7_isMode_9 : decode cX7_isMode 9 = .ok (.iconst 1, 1) := by decide +kernel
theorem dX7_isMode_10 : decode cX7_isMode 10 = .ok (.goto 4, 3) := by decide +kernel
theorem dX7_isMode_13 : decode cX7_isMode 13 = .ok (.iconst 0, 1) := by decide +kernel
theorem dX7_isMode_14 : decode cX7_isMode 14 = .ok (.ireturn, 1) := by decide +kernel
theorem dX7_isEnsemble_0 : decode cX7_isEnsemble 0 = .ok (.iload_n 0, 1) := by decide +kernel
theorem dX7_isEnsemble_1 : decode cX7_isEnsemble 1 = .ok (.iconst 1, 1) := by decide +kernel
theorem dX7_isEnsemble_2 : decode cX7_isEnsemble 2 = .ok (.if_icmp .lt 13, 3) := by decide +kernel
theorem dX7_isEnsemble_5 : decode cX7_isEnsemble 5 = .ok (.iload_n 0, 1) := by decide +kernel
theorem dX7_isEnsemble_6 : decode cX7_isEnsemble 6 = .ok (.bipush 8, 2) := by decide +kernel
theorem dX7_isEnsemble_8 : decode cX7_isEnsemble 8 = .ok (.if_icmp .gt 7, 3) := by decide +kernel
theorem dX7_isEnsemble_11 : decode cX7_isEnsemble 11 = .ok (.iconst 1, 1) := by decide +kernel
theorem dX7_isEnsemble_12 : decode cX7_isEnsemble 12 = .ok (.goto 4, 3) := by decide +kernel
theorem dX7_isEnsemble_15 : decode cX7_isEnsemble 15 = .ok (.iconst 0, 1) := by decide +kernel
theorem dX7_isEnsemble_16 : decode cX7_isEnsemble 16 = .ok (.ireturn, 1) := by decide +kernel
theorem dX7_isInRange_0 : decode cX7_isInRange 0 = .ok (.iload_n 0, 1) := by decide +kernel
theorem dX7_isInRange_1 : decode cX7_isInRange 1 = .ok (.ldc 176, 2) := by decide +kernel
theorem dX7_isInRange_3 : decode cX7_isInRange 3 = .ok (.if_icmp .lt 13, 3) := by decide +kernel
theorem dX7_isInRange_6 : decode cX7_isInRange 6 = .ok (.iload_n 0, 1) := by decide +kernel
theorem dX7_isInRange_7 : decode cX7_isInRange 7 = .ok (.ldc 175, 2) := by decide +kernel
theorem dX7_isInRange_9 : decode cX7_isInRange 9 = .ok (.if_icmp .gt 7, 3) := by decide +kernel
theorem dX7_isInRange_12 : decode cX7_isInRange 12 = .ok (.iconst 1, 1) := by decide +kernel
theorem dX7_isInRange_13 : decode cX7_isInRange 13 = .ok (.goto 4, 3) := by decide +kernel
theorem dX7_isInRange_16 : decode cX7_isInRange 16 = .ok (.iconst 0, 1) := by decide +kernel
theorem dX7_isInRange_17 : decode cX7_isInRange 17 = .ok (.ireturn, 1) := by decide +kernel
theorem dX7_remember_0 : decode cX7_remember 0 = .ok (.aload_n 0, 1) := by decide +kernel
theorem dX7_remember_1 : decode cX7_remember 1 = .ok (.getfield 26, 3) := by decide +kernel
theorem dX7_remember_4 : decode cX7_remember 4 = .ok (.aload_n 0, 1) := by decide +kernel
theorem dX7_remember_5 : decode cX7_remember 5 = .ok (.getfield 10, 3) := by decide +kernel
theorem dX7_remember_8 : decode cX7_remember 8 = .ok (.aload_n 0, 1) := by decide +kernel
theorem dX7_remember_9 : decode cX7_remember 9 = .ok (.getfield 19, 3) := by decide +kernel
theorem dX7_remember_12 : decode cX7_remember 12 = .ok (.invokevirtual 303, 3) := by decide +kernel
theorem dX7_remember_15 : decode cX7_remember 15 = .ok (.return_, 1) := by decide +kernel
theorem dX7_valueAfterTrial_0 : decode cX7_valueAfterTrial 0 = .ok (.aload_n 0, 1) := by decide +kernel
theorem dX7_valueAfterTrial_1 : decode cX7_valueAfterTrial 1 = .ok (.getfield 44, 3) := by decide +kernel
theorem dX7_valueAfterTrial_4 : decode cX7_valueAfterTrial 4 = .ok (.aload_n 0, 1) := by decide +kernel
theorem dX7_valueAfterTrial_5 : decode cX7_valueAfterTrial 5 = .ok (.getfield 10, 3) := by decide +kernel
theorem dX7_valueAfterTrial_8 : decode cX7_valueAfterTrial 8 = .ok (.invokevirtual 307, 3) := by decide +kernel
theorem dX7_valueAfterTrial_11 : decode cX7_valueAfterTrial 11 = .ok (.aload_n 0, 1) := by decide +kernel
theorem dX7_valueAfterTrial_12 : decode cX7_valueAfterTrial 12 = .ok (.getfield 44, 3) := by decide +kernel
theorem dX7_valueAfterTrial_15 : decode cX7_valueAfterTrial 15 = .ok (.iload_n 2, 1) := by decide +kernel
theorem dX7_valueAfterTrial_16 : decode cX7_valueAfterTrial 16 = .ok (.putfield 119, 3) := by decide +kernel
theorem dX7_valueAfterTrial_19 : decode cX7_valueAfterTrial 19 = .ok (.aload_n 0, 1) := by decide +kernel
theorem dX7_valueAfterTrial_20 : decode cX7_valueAfterTrial 20 = .ok (.getfield 44, 3) := by decide +kernel
theorem dX7_valueAfterTrial_23 : decode cX7_valueAfterTrial 23 = .ok (.iload_n 3, 1) := by decide +kernel
theorem dX7_valueAfterTrial_24 : decode cX7_valueAfterTrial 24 = .ok (.putfield 125, 3) := by decide +kernel
theorem dX7_valueAfterTrial_27 : decode cX7_valueAfterTrial 27 = .ok (.aload_n 0, 1) := by decide +kernel
theorem dX7_valueAfterTrial_28 : decode cX7_valueAfterTrial 28 = .ok (.getfield 40, 3) := by decide +kernel
theorem dX7_valueAfterTrial_31 : decode cX7_valueAfterTrial 31 = .ok (.aload_n 0, 1) := by decide +kernel
theorem dX7_valueAfterTrial_32 : decode cX7_valueAfterTrial 32 = .ok (.getfield 33, 3) := by decide +kernel
theorem dX7_valueAfterTrial_35 : decode cX7_valueAfterTrial 35 = .ok (.aload_n 0, 1) := by decide +kernel
theorem dX7_valueAfterTrial_36 : decode cX7_valueAfterTrial 36 = .ok (.getfield 44, 3) := by decide +kernel
theorem dX7_valueAfterTrial_39 : decode cX7_valueAfterTrial 39 = .ok (.aload_n 0, 1) := by decide +kernel
theorem dX7_valueAfterTrial_40 : decode cX7_valueAfterTrial 40 = .ok (.getfield 50, 3) := by decide +kernel
theorem dX7_valueAfterTrial_43 : decode cX7_valueAfterTrial 43 = .ok (.aconst_null, 1) := by decide +kernel
theorem dX7_valueAfterTrial_44 : decode cX7_valueAfterTrial 44 = .ok (.invokevirtual 159, 3) := by decide +kernel
theorem dX7_valueAfterTrial_47 : decode cX7_valueAfterTrial 47 = .ok (.aload_n 0, 1) := by decide +kernel
theorem dX7_valueAfterTrial_48 : decode cX7_valueAfterTrial 48 = .ok (.getfield 44, 3) := by decide +kernel
theorem dX7_valueAfterTrial_51 : decode cX7_valueAfterTrial 51 = .ok (.getfield 94, 3) := by decide +kernel
theorem dX7_valueAfterTrial_54 : decode cX7_valueAfterTrial 54 = .ok (.iload_n 1, 1) := by decide +kernel
theorem dX7_valueAfterTrial_55 : decode cX7_valueAfterTrial 55 = .ok (.iaload, 1) := by decide +kernel
theorem dX7_valueAfterTrial_56 : decode cX7_valueAfterTrial 56 = .ok (.ireturn, 1) := by decide +kernel
theorem dX7_toldOfFormats_0 : decode cX7_toldOfFormats 0 = .ok (.aload_n 0, 1) := by decide +kernel
theorem dX7_toldOfFormats_1 : decode cX7_toldOfFormats 1 = .ok (.getfield 10, 3) := by decide +kernel
theorem dX7_toldOfFormats_4 : decode cX7_toldOfFormats 4 = .ok (.getfield 72, 3) := by decide +kernel
theorem dX7_toldOfFormats_7 : decode cX7_toldOfFormats 7 = .ok (.iload_n 1, 1) := by decide +kernel
theorem dX7_toldOfFormats_8 : decode cX7_toldOfFormats 8 = .ok (.iconst 3, 1) := by decide +kernel
theorem dX7_toldOfFormats_9 : decode cX7_toldOfFormats 9 = .ok (.iand, 1) := by decide +kernel
theorem dX7_toldOfFormats_10 : decode cX7_toldOfFormats 10 = .ok (.aaload, 1) := by decide +kernel
theorem dX7_toldOfFormats_11 : decode cX7_toldOfFormats 11 = .ok (.astore_n 2, 1) := by decide +kernel
theorem dX7_toldOfFormats_12 : decode cX7_toldOfFormats 12 = .ok (.iload_n 1, 1) := by decide +kernel
theorem dX7_toldOfFormats_13 : decode cX7_toldOfFormats 13 = .ok (.iconst 4, 1) := by decide +kernel
theorem dX7_toldOfFormats_14 : decode cX7_toldOfFormats 14 = .ok (.if_icmp .ge 8, 3) := by decide +kernel
theorem dX7_toldOfFormats_17 : decode cX7_toldOfFormats 17 = .ok (.aload_n 2, 1) := by decide +kernel
theorem dX7_toldOfFormats_18 : decode cX7_toldOfFormats 18 = .ok (.getfield 76, 3) := by decide +kernel
theorem dX7_toldOfFormats_21 : decode cX7_toldOfFormats 21 = .ok (.ireturn, 1) := by decide +kernel
theorem dX7_toldOfFormats_22 : decode cX7_toldOfFormats 22 = .ok (.iload_n 1, 1) := by decide +kernel
theorem dX7_toldOfFormats_23 : decode cX7_toldOfFormats 23 = .ok (.bipush 8, 2) := by decide +kernel
theorem dX7_toldOfFormats_25 : decode cX7_toldOfFormats 25 = .ok (.if_icmp .ge 10, 3) := by decide +kernel
theorem dX7_toldOfFormats_28 : decode cX7_toldOfFormats 28 = .ok (.aload_n 2, 1) := by decide +kernel
theorem dX7_toldOfFormats_29 : decode cX7_toldOfFormats 29 = .ok (.getfield 311, 3) := by decide +kernel
theorem dX7_toldOfFormats_32 : decode cX7_toldOfFormats 32 = .ok (.goto 7, 3) := by decide +kernel
theorem dX7_toldOfFormats_35 : decode cX7_toldOfFormats 35 = .ok (.aload_n 2, 1) := by decide +kernel
theorem dX7_toldOfFormats_36 : decode cX7_toldOfFormats 36 = .ok (.getfield 314, 3) := by decide +kernel
theorem dX7_toldOfFormats_39 : decode cX7_toldOfFormats 39 = .ok (.ireturn, 1) := by decide +kernel
theorem dX7_lowestNumerator_0 : decode cX7_lowestNumerator 0 = .ok (.lload_n 0, 1) := by decide +kernel
theorem dX7_lowestNumerator_1 : decode cX7_lowestNumerator 1 = .ok (.lload_n 2, 1) := by decide +kernel
theorem dX7_lowestNumerator_2 : decode cX7_lowestNumerator 2 = .ok (.invokestatic 317, 3) := by decide +kernel
theorem dX7_lowestNumerator_5 : decode cX7_lowestNumerator 5 = .ok (.lstore 4, 2) := by decide +kernel
theorem dX7_lowestNumerator_7 : decode cX7_lowestNumerator 7 = .ok (.lload 4, 2) := by decide +kernel
theorem dX7_lowestNumerator_9 : decode cX7_lowestNumerator 9 = .ok (.lconst 1, 1) := by decide +kernel
theorem dX7_lowestNumerator_10 : decode cX7_lowestNumerator 10 = .ok (.lcmp, 1) := by decide +kernel
theorem dX7_lowestNumerator_11 : decode cX7_lowestNumerator 11 = .ok (.ifCond .le 10, 3) := by decide +kernel
theorem dX7_lowestNumerator_14 : decode cX7_lowestNumerator 14 = .ok (.lload_n 0, 1) := by decide +kernel
theorem dX7_lowestNumerator_15 : decode cX7_lowestNumerator 15 = .ok (.lload 4, 2) := by decide +kernel
theorem dX7_lowestNumerator_17 : decode cX7_lowestNumerator 17 = .ok (.ldiv, 1) := by decide +kernel
theorem dX7_lowestNumerator_18 : decode cX7_lowestNumerator 18 = .ok (.goto 4, 3) := by decide +kernel
theorem dX7_lowestNumerator_21 : decode cX7_lowestNumerator 21 = .ok (.lload_n 0, 1) := by decide +kernel
theorem dX7_lowestNumerator_22 : decode cX7_lowestNumerator 22 = .ok (.lreturn, 1) := by decide +kernel
theorem dX7_lowestDenominator_0 : decode cX7_lowestDenominator 0 = .ok (.lload_n 0, 1) := by decide +kernel
theorem dX7_lowestDenominator_1 : decode cX7_lowestDenominator 1 = .ok (.lload_n 2, 1) := by decide +kernel
theorem dX7_lowestDenominator_2 : decode cX7_lowestDenominator 2 = .ok (.invokestatic 317, 3) := by decide +kernel
theorem dX7_lowestDenominator_5 : decode cX7_lowestDenominator 5 = .ok (.lstore 4, 2) := by decide +kernel
theorem dX7_lowestDenominator_7 : decode cX7_lowestDenominator 7 = .ok (.lload 4, 2) := by decide +kernel
theorem dX7_lowestDenominator_9 : decode cX7_lowestDenominator 9 = .ok (.lconst 1, 1) := by decide +kernel
theorem dX7_lowestDenominator_10 : decode cX7_lowestDenominator 10 = .ok (.lcmp, 1) := by decide +kernel
theorem dX7_lowestDenominator_11 : decode cX7_lowestDenominator 11 = .ok (.ifCond .le 10, 3) := by decide +kernel
theorem dX7_lowestDenominator_14 : decode cX7_lowestDenominator 14 = .ok (.lload_n 2, 1) := by decide +kernel
theorem dX7_lowestDenominator_15 : decode cX7_lowestDenominator 15 = .ok (.lload 4, 2) := by decide +kernel
theorem dX7_lowestDenominator_17 : decode cX7_lowestDenominator 17 = .ok (.ldiv, 1) := by decide +kernel
theorem dX7_lowestDenominator_18 : decode cX7_lowestDenominator 18 = .ok (.goto 4, 3) := by decide +kernel
theorem dX7_lowestDenominator_21 : decode cX7_lowestDenominator 21 = .ok (.lload_n 2, 1) := by decide +kernel
theorem dX7_lowestDenominator_22 : decode cX7_lowestDenominator 22 = .ok (.lreturn, 1) := by decide +kernel
theorem dX7_commonDivisor_0 : decode cX7_commonDivisor 0 = .ok (.lload_n 0, 1) := by decide +kernel
theorem dX7_commonDivisor_1 : decode cX7_commonDivisor 1 = .ok (.invokestatic 320, 3) := by decide +kernel
theorem dX7_commonDivisor_4 : decode cX7_commonDivisor 4 = .ok (.lstore 4, 2) := by decide +kernel
theorem dX7_commonDivisor_6 : decode cX7_commonDivisor 6 = .ok (.lload_n 2, 1) := by decide +kernel
theorem dX7_commonDivisor_7 : decode cX7_commonDivisor 7 = .ok (.lstore 6, 2) := by decide +kernel
theorem dX7_commonDivisor_9 : decode cX7_commonDivisor 9 = .ok (.iconst 0, 1) := by decide +kernel
theorem dX7_commonDivisor_10 : decode cX7_commonDivisor 10 = .ok (.istore 8, 2) := by decide +kernel
theorem dX7_commonDivisor_12 : decode cX7_commonDivisor 12 = .ok (.iload 8, 2) := by decide +kernel
theorem dX7_commonDivisor_14 : decode cX7_commonDivisor 14 = .ok (.bipush 100, 2) := by decide +kernel
theorem dX7_commonDivisor_16 : decode cX7_commonDivisor 16 = .ok (.if_icmp .ge 31, 3) := by decide +kernel
theorem dX7_commonDivisor_19 : decode cX7_commonDivisor 19 = .ok (.lload 6, 2) := by decide +kernel
theorem dX7_commonDivisor_21 : decode cX7_commonDivisor 21 = .ok (.lconst 0, 1) := by decide +kernel
theorem dX7_commonDivisor_22 : decode cX7_commonDivisor 22 = .ok (.lcmp, 1) := by decide +kernel
theorem dX7_commonDivisor_23 : decode cX7_commonDivisor 23 = .ok (.ifCond .le 24, 3) := by decide +kernel
theorem dX7_commonDivisor_26 : decode cX7_commonDivisor 26 = .ok (.lload 4, 2) := by decide +kernel
theorem dX7_commonDivisor_28 : decode cX7_commonDivisor 28 = .ok (.lload 6, 2) := by decide +kernel
theorem dX7_commonDivisor_30 : decode cX7_commonDivisor 30 = .ok (.lrem, 1) := by decide +kernel
theorem dX7_commonDivisor_31 : decode cX7_commonDivisor 31 = .ok (.lstore 9, 2) := by decide +kernel
theorem dX7_commonDivisor_33 : decode cX7_commonDivisor 33 = .ok (.lload 6, 2) := by decide +kernel
theorem dX7_commonDivisor_35 : decode cX7_commonDivisor 35 = .ok (.lstore 4, 2) := by decide +kernel
theorem dX7_commonDivisor_37 : decode cX7_commonDivisor 37 = .ok (.lload 9, 2) := by decide +kernel
theorem dX7_commonDivisor_39 : decode cX7_commonDivisor 39 = .ok (.lstore 6, 2) := by decide +kernel
theorem dX7_commonDivisor_41 : decode cX7_commonDivisor 41 = .ok (.iinc 8 1, 3) := by decide +kernel
theorem dX7_commonDivisor_44 : decode cX7_commonDivisor 44 = .ok (.goto (-32), 3) := by decide +kernel
theorem dX7_commonDivisor_47 : decode cX7_commonDivisor 47 = .ok (.lload 4, 2) := by decide +kernel
theorem dX7_commonDivisor_49 : decode cX7_commonDivisor 49 = .ok (.lreturn, 1) := by decide +kernel
