theorem dX5_isSafeBehindMove_51 : decode cX5_isSafeBehindMove 51 = .ok (.iload_n 2, 1) := by decide +kernel
theorem dX5_isSafeBehindMove_52 : decode cX5_isSafeBehindMove 52 = .ok (.iconst 0, 1) := by decide +kernel
theorem dX5_isSafeBehindMove_53 : decode cX5_isSafeBehindMove 53 = .ok (.aload_n 0, 1) := by decide +kernel
theorem dX5_isSafeBehindMove_54 : decode cX5_isSafeBehindMove 54 = .ok (.getfield 25, 3) := by decide +kernel
theorem dX5_isSafeBehindMove_57 : decode cX5_isSafeBehindMove 57 = .ok (.iload_n 2, 1) := by decide +kernel
theorem dX5_isSafeBehindMove_58 : decode cX5_isSafeBehindMove 58 = .ok (.iaload, 1) := by decide +kernel
theorem dX5_isSafeBehindMove_59 : decode cX5_isSafeBehindMove 59 = .ok (.invokevirtual 107, 3) := by decide +kernel
theorem dX5_isSafeBehindMove_62 : decode cX5_isSafeBehindMove 62 = .ok (.aload_n 0, 1) := by decide +kernel
theorem dX5_isSafeBehindMove_63 : decode cX5_isSafeBehindMove 63 = .ok (.iload_n 1, 1) := by decide +kernel
theorem dX5_isSafeBehindMove_64 : decode cX5_isSafeBehindMove 64 = .ok (.iload 4, 2) := by decide +kernel
theorem dX5_isSafeBehindMove_66 : decode cX5_isSafeBehindMove 66 = .ok (.aload_n 0, 1) := by decide +kernel
theorem dX5_isSafeBehindMove_67 : decode cX5_isSafeBehindMove 67 = .ok (.getfield 25, 3) := by decide +kernel
theorem dX5_isSafeBehindMove_70 : decode cX5_isSafeBehindMove 70 = .ok (.iload_n 1, 1) := by decide +kernel
theorem dX5_isSafeBehindMove_71 : decode cX5_isSafeBehindMove 71 = .ok (.iaload, 1) := by decide +kernel
theorem dX5_isSafeBehindMove_72 : decode cX5_isSafeBehindMove 72 = .ok (.invokevirtual 107, 3) := by decide +kernel
theorem dX5_isSafeBehindMove_75 : decode cX5_isSafeBehindMove 75 = .ok (.aload_n 0, 1) := by decide +kernel
theorem dX5_isSafeBehindMove_76 : decode cX5_isSafeBehindMove 76 = .ok (.getfield 37, 3) := by decide +kernel
theorem dX5_isSafeBehindMove_79 : decode cX5_isSafeBehindMove 79 = .ok (.getfield 111, 3) := by decide +kernel
theorem dX5_isSafeBehindMove_82 : decode cX5_isSafeBehindMove 82 = .ok (.aload_n 0, 1) := by decide +kernel
theorem dX5_isSafeBehindMove_83 : decode cX5_isSafeBehindMove 83 = .ok (.getfield 18, 3) := by decide +kernel
theorem dX5_isSafeBehindMove_86 : decode cX5_isSafeBehindMove 86 = .ok (.iconst 0, 1) := by decide +kernel
theorem dX5_isSafeBehindMove_87 : decode cX5_isSafeBehindMove 87 = .ok (.iaload, 1) := by decide +kernel
theorem dX5_isSafeBehindMove_88 : decode cX5_isSafeBehindMove 88 = .ok (.if_icmp .lt 7, 3) := by decide +kernel
theorem dX5_isSafeBehindMove_91 : decode cX5_isSafeBehindMove 91 = .ok (.iconst 1, 1) := by decide +kernel
theorem dX5_isSafeBehindMove_92 : decode cX5_isSafeBehindMove 92 = .ok (.goto 4, 3) := by decide +kernel
theorem dX5_isSafeBehindMove_95 : decode cX5_isSafeBehindMove 95 = .ok (.iconst 0, 1) := by decide +kernel
theorem dX5_isSafeBehindMove_96 : decode cX5_isSafeBehindMove 96 = .ok (.ireturn, 1) := by decide +kernel
theorem dX5_minutesOf_0 : decode cX5_minutesOf 0 = .ok (.aload_n 0, 1) := by decide +kernel
theorem dX5_minutesOf_1 : decode cX5_minutesOf 1 = .ok (.getfield 18, 3) := by decide +kernel
theorem dX5_minutesOf_4 : decode cX5_minutesOf 4 = .ok (.iconst 2, 1) := by decide +kernel
theorem dX5_minutesOf_5 : decode cX5_minutesOf 5 = .ok (.iaload, 1) := by decide +kernel
theorem dX5_minutesOf_6 : decode cX5_minutesOf 6 = .ok (.iload_n 3, 1) := by decide +kernel
theorem dX5_minutesOf_7 : decode cX5_minutesOf 7 = .ok (.iadd, 1) := by decide +kernel
theorem dX5_minutesOf_8 : decode cX5_minutesOf 8 = .ok (.iconst 2, 1) := by decide +kernel
theorem dX5_minutesOf_9 : decode cX5_minutesOf 9 = .ok (.iload_n 1, 1) := by decide +kernel
theorem dX5_minutesOf_10 : decode cX5_minutesOf 10 = .ok (.iload_n 2, 1) := by decide +kernel
theorem dX5_minutesOf_11 : decode cX5_minutesOf 11 = .ok (.isub, 1) := by decide +kernel
theorem dX5_minutesOf_12 : decode cX5_minutesOf 12 = .ok (.invokestatic 131, 3) := by decide +kernel
theorem dX5_minutesOf_15 : decode cX5_minutesOf 15 = .ok (.imul, 1) := by decide +kernel
theorem dX5_minutesOf_16 : decode cX5_minutesOf 16 = .ok (.iadd, 1) := by decide +kernel
theorem dX5_minutesOf_17 : decode cX5_minutesOf 17 = .ok (.istore 4, 2) := by decide +kernel
theorem dX5_minutesOf_19 : decode cX5_minutesOf 19 = .ok (.aload_n 0, 1) := by decide +kernel
theorem dX5_minutesOf_20 : decode cX5_minutesOf 20 = .ok (.getfield 25, 3) := by decide +kernel
theorem dX5_minutesOf_23 : decode cX5_minutesOf 23 = .ok (.iload_n 1, 1) := by decide +kernel
theorem dX5_minutesOf_24 : decode cX5_minutesOf 24 = .ok (.iaload, 1) := by decide +kernel
theorem dX5_minutesOf_25 : decode cX5_minutesOf 25 = .ok (.iload_n 3, 1) := by decide +kernel
theorem dX5_minutesOf_26 : decode cX5_minutesOf 26 = .ok (.isub, 1) := by decide +kernel
theorem dX5_minutesOf_27 : decode cX5_minutesOf 27 = .ok (.istore 5, 2) := by decide +kernel
theorem dX5_minutesOf_29 : decode cX5_minutesOf 29 = .ok (.iload 5, 2) := by decide +kernel
theorem dX5_minutesOf_31 : decode cX5_minutesOf 31 = .ok (.aload_n 0, 1) := by decide +kernel
theorem dX5_minutesOf_32 : decode cX5_minutesOf 32 = .ok (.getfield 25, 3) := by decide +kernel
theorem dX5_minutesOf_35 : decode cX5_minutesOf 35 = .ok (.iload_n 1, 1) := by decide +kernel
theorem dX5_minutesOf_36 : decode cX5_minutesOf 36 = .ok (.iaload, 1) := by decide +kernel
theorem dX5_minutesOf_37 : decode cX5_minutesOf 37 = .ok (.if_icmp .ge 28, 3) := by decide +kernel
theorem dX5_minutesOf_40 : decode cX5_minutesOf 40 = .ok (.aload_n 0, 1) := by decide +kernel
theorem dX5_minutesOf_41 : decode cX5_minutesOf 41 = .ok (.iload_n 1, 1) := by decide +kernel
theorem dX5_minutesOf_42 : decode cX5_minutesOf 42 = .ok (.iload 5, 2) := by decide +kernel
theorem dX5_minutesOf_44 : decode cX5_minutesOf 44 = .ok (.invokevirtual 78, 3) := by decide +kernel
theorem dX5_minutesOf_47 : decode cX5_minutesOf 47 = .ok (.invokestatic 97, 3) := by decide +kernel
theorem dX5_minutesOf_50 : decode cX5_minutesOf 50 = .ok (.iconst 2, 1) := by decide +kernel
theorem dX5_minutesOf_51 : decode cX5_minutesOf 51 = .ok (.if_icmp .ne 8, 3) := by decide +kernel
theorem dX5_minutesOf_54 : decode cX5_minutesOf 54 = .ok (.iload 4, 2) := by decide +kernel
theorem dX5_minutesOf_56 : decode cX5_minutesOf 56 = .ok (.iconst 5, 1) := by decide +kernel
theorem dX5_minutesOf_57 : decode cX5_minutesOf 57 = .ok (.iadd, 1) := by decide +kernel
theorem dX5_minutesOf_58 : decode cX5_minutesOf 58 = .ok (.ireturn, 1) := by decide +kernel
theorem dX5_minutesOf_59 : decode cX5_minutesOf 59 = .ok (.iinc 5 1, 3) := by decide +kernel
theorem dX5_minutesOf_62 : decode cX5_minutesOf 62 = .ok (.goto (-33), 3) := by decide +kernel
theorem dX5_minutesOf_65 : decode cX5_minutesOf 65 = .ok (.iload 4, 2) := by decide +kernel
theorem dX5_minutesOf_67 : decode cX5_minutesOf 67 = .ok (.ireturn, 1) := by decide +kernel
theorem dX5_drive_0 : decode cX5_drive 0 = .ok (.aload_n 0, 1) := by decide +kernel
theorem dX5_drive_1 : decode cX5_drive 1 = .ok (.iload_n 1, 1) := by decide +kernel
theorem dX5_drive_2 : decode cX5_drive 2 = .ok (.iload_n 2, 1) := by decide +kernel
theorem dX5_drive_3 : decode cX5_drive 3 = .ok (.iload_n 3, 1) := by decide +kernel
theorem dX5_drive_4 : decode cX5_drive 4 = .ok (.invokevirtual 128, 3) := by decide +kernel
theorem dX5_drive_7 : decode cX5_drive 7 = .ok (.istore 4, 2) := by decide +kernel
theorem dX5_drive_9 : decode cX5_drive 9 = .ok (.aload_n 0, 1) := by decide +kernel
theorem dX5_drive_10 : decode cX5_drive 10 = .ok (.iload_n 1, 1) := by decide +kernel
theorem dX5_drive_11 : decode cX5_drive 11 = .ok (.iload_n 2, 1) := by decide +kernel
theorem dX5_drive_12 : decode cX5_drive 12 = .ok (.iload_n 3, 1) := by decide +kernel
theorem dX5_drive_13 : decode cX5_drive 13 = .ok (.invokevirtual 136, 3) := by decide +kernel
theorem dX5_drive_16 : decode cX5_drive 16 = .ok (.aload_n 0, 1) := by decide +kernel
theorem dX5_drive_17 : decode cX5_drive 17 = .ok (.getfield 28, 3) := by decide +kernel
theorem dX5_drive_20 : decode cX5_drive 20 = .ok (.iload_n 1, 1) := by decide +kernel
theorem dX5_drive_21 : decode cX5_drive 21 = .ok (.iconst (-1), 1) := by decide +kernel
theorem dX5_drive_22 : decode cX5_drive 22 = .ok (.iastore, 1) := by decide +kernel
theorem dX5_drive_23 : decode cX5_drive 23 = .ok (.aload_n 0, 1) := by decide +kernel
theorem dX5_drive_24 : decode cX5_drive 24 = .ok (.getfield 28, 3) := by decide +kernel
theorem dX5_drive_27 : decode cX5_drive 27 = .ok (.iload_n 2, 1) := by decide +kernel
theorem dX5_drive_28 : decode cX5_drive 28 = .ok (.iconst (-1), 1) := by decide +kernel
theorem dX5_drive_29 : decode cX5_drive 29 = .ok (.iastore, 1) := by decide +kernel
theorem dX5_drive_30 : decode cX5_drive 30 = .ok (.aload_n 0, 1) := by decide +kernel
theorem dX5_drive_31 : decode cX5_drive 31 = .ok (.dup, 1) := by decide +kernel
theorem dX5_drive_32 : decode cX5_drive 32 = .ok (.getfield 41, 3) := by decide +kernel
theorem dX5_drive_35 : decode cX5_drive 35 = .ok (.iload 4, 2) := by decide +kernel
theorem dX5_drive_37 : decode cX5_drive 37 = .ok (.iadd, 1) := by decide +kernel
theorem dX5_drive_38 : decode cX5_drive 38 = .ok (.putfield 41, 3) := by decide +kernel
theorem dX5_drive_41 : decode cX5_drive 41 = .ok (.aload_n 0, 1) := by decide +kernel
theorem dX5_drive_42 : decode cX5_drive 42 = .ok (.dup, 1) := by decide +kernel
theorem dX5_drive_43 : decode cX5_drive 43 = .ok (.getfield 44, 3) := by decide +kernel
theorem dX5_drive_46 : decode cX5_drive 46 = .ok (.iconst 1, 1) := by decide +kernel
theorem dX5_drive_47 : decode cX5_drive 47 = .ok (.iadd, 1) := by decide +kernel
theorem dX5_drive_48 : decode cX5_drive 48 = .ok (.putfield 44, 3) := by decide +kernel
theorem dX5_drive_51 : decode cX5_drive 51 = .ok (.aload_n 0, 1) := by decide +kernel
theorem dX5_drive_52 : decode cX5_drive 52 = .ok (.dup, 1) := by decide +kernel
theorem dX5_drive_53 : decode cX5_drive 53 = .ok (.getfield 47, 3) := by decide +kernel
theorem dX5_drive_56 : decode cX5_drive 56 = .ok (.iload 4, 2) := by decide +kernel
theorem dX5_drive_58 : decode cX5_drive 58 = .ok (.iadd, 1) := by decide +kernel
theorem dX5_drive_59 : decode cX5_drive 59 = .ok (.putfield 47, 3) := by decide +kernel
theorem dX5_drive_62 : decode cX5_drive 62 = .ok (.iload 4, 2) := by decide +kernel
theorem dX5_drive_64 : decode cX5_drive 64 = .ok (.ireturn, 1) := by decide +kernel
theorem dX5_shift_0 : decode cX5_shift 0 = .ok (.iload_n 1, 1) := by decide +kernel
theorem dX5_shift_1 : decode cX5_shift 1 = .ok (.bipush 8, 2) := by decide +kernel
theorem dX5_shift_3 : decode cX5_shift 3 = .ok (.imul, 1) := by decide +kernel
theorem dX5_shift_4 : decode cX5_shift 4 = .ok (.aload_n 0, 1) := by decide +kernel
theorem dX5_shift_5 : decode cX5_shift 5 = .ok (.getfield 25, 3) := by decide +kernel
theorem dX5_shift_8 : decode cX5_shift 8 = .ok (.iload_n 1, 1) := by decide +kernel
theorem dX5_shift_9 : decode cX5_shift 9 = .ok (.iaload, 1) := by decide +kernel
theorem dX5_shift_10 : decode cX5_shift 10 = .ok (.iadd, 1) := by decide +kernel
theorem dX5_shift_11 : decode cX5_shift 11 = .ok (.iload_n 3, 1) := by decide +kernel
theorem dX5_shift_12 : decode cX5_shift 12 = .ok (.isub, 1) := by decide +kernel
theorem dX5_shift_13 : decode cX5_shift 13 = .ok (.istore 4, 2) := by decide +kernel
theorem dX5_shift_15 : decode cX5_shift 15 = .ok (.aload_n 0, 1) := by decide +kernel
theorem dX5_shift_16 : decode cX5_shift 16 = .ok (.getfield 31, 3) := by decide +kernel
theorem dX5_shift_19 : decode cX5_shift 19 = .ok (.iload 4, 2) := by decide +kernel
theorem dX5_shift_21 : decode cX5_shift 21 = .ok (.aload_n 0, 1) := by decide +kernel
theorem dX5_shift_22 : decode cX5_shift 22 = .ok (.getfield 31, 3) := by decide +kernel
theorem dX5_shift_25 : decode cX5_shift 25 = .ok (.iload_n 2, 1) := by decide +kernel
theorem dX5_shift_26 : decode cX5_shift 26 = .ok (.bipush 8, 2) := by decide +kernel
theorem dX5_shift_28 : decode cX5_shift 28 = .ok (.imul, 1) := by decide +kernel
theorem dX5_shift_29 : decode cX5_shift 29 = .ok (.aload_n 0, 1) := by decide +kernel
theorem dX5_shift_30 : decode cX5_shift 30 = .ok (.getfield 25, 3) := by decide +kernel
theorem dX5_shift_33 : decode cX5_shift 33 = .ok (.iload_n 2, 1) := by decide +kernel
theorem dX5_shift_34 : decode cX5_shift 34 = .ok (.iaload, 1) := by decide +kernel
theorem dX5_shift_35 : decode cX5_shift 35 = .ok (.iadd, 1) := by decide +kernel
theorem dX5_shift_36 : decode cX5_shift 36 = .ok (.iload_n 3, 1) := by decide +kernel
theorem dX5_shift_37 : decode cX5_shift 37 = .ok (.invokestatic 62, 3) := by decide +kernel
theorem dX5_shift_40 : decode cX5_shift 40 = .ok (.aload_n 0, 1) := by decide +kernel
theorem dX5_shift_41 : decode cX5_shift 41 = .ok (.getfield 25, 3) := by decide +kernel
theorem dX5_shift_44 : decode cX5_shift 44 = .ok (.iload_n 1, 1) := by decide +kernel
theorem dX5_shift_45 : decode cX5_shift 45 = .ok (.dup2, 1) := by decide +kernel
theorem dX5_shift_46 : decode cX5_shift 46 = .ok (.iaload, 1) := by decide +kernel
theorem dX5_shift_47 : decode cX5_shift 47 = .ok (.iload_n 3, 1) := by decide +kernel
theorem dX5_shift_48 : decode cX5_shift 48 = .ok (.isub, 1) := by decide +kernel
theorem dX5_shift_49 : decode cX5_shift 49 = .ok (.iastore, 1) := by decide +kernel
theorem dX5_shift_50 : decode cX5_shift 50 = .ok (.aload_n 0, 1) := by decide +kernel
theorem dX5_shift_51 : decode cX5_shift 51 = .ok (.getfield 25, 3) := by decide +kernel
theorem dX5_shift_54 : decode cX5_shift 54 = .ok (.iload_n 2, 1) := by decide +kernel
theorem dX5_shift_55 : decode cX5_shift 55 = .ok (.dup2, 1) := by decide +kernel
theorem dX5_shift_56 : decode cX5_shift 56 = .ok (.iaload, 1) := by decide +kernel
theorem dX5_shift_57 : decode cX5_shift 57 = .ok (.iload_n 3, 1) := by decide +kernel
theorem dX5_shift_58 : decode cX5_shift 58 = .ok (.iadd, 1) := by decide +kernel
theorem dX5_shift_59 : decode cX5_shift 59 = .ok (.iastore, 1) := by decide +kernel
theorem dX5_shift_60 : decode cX5_shift 60 = .ok (.return_, 1) := by decide +kernel
theorem dX5_testBrakes_0 : decode cX5_testBrakes 0 = .ok (.aload_n 0, 1) := by decide +kernel
theorem dX5_testBrakes_1 : decode cX5_testBrakes 1 = .ok (.getfield 18, 3) := by decide +kernel
theorem dX5_testBrakes_4 : decode cX5_testBrakes 4 = .ok (.iconst 3, 1) := by decide +kernel
theorem dX5_testBrakes_5 : decode cX5_testBrakes 5 = .ok (.iaload, 1) := by decide +kernel
theorem dX5_testBrakes_6 : decode cX5_testBrakes 6 = .ok (.iconst 2, 1) := by decide +kernel
theorem dX5_testBrakes_7 : decode cX5_testBrakes 7 = .ok (.aload_n 0, 1) := by decide +kernel
theorem dX5_testBrakes_8 : decode cX5_testBrakes 8 = .ok (.getfield 25, 3) := by decide +kernel
theorem dX5_testBrakes_11 : decode cX5_testBrakes 11 = .ok (.iload_n 1, 1) := by decide +kernel
theorem dX5_testBrakes_12 : decode cX5_testBrakes 12 = .ok (.iaload, 1) := by decide +kernel
theorem dX5_testBrakes_13 : decode cX5_testBrakes 13 = .ok (.imul, 1) := by decide +kernel
theorem dX5_testBrakes_14 : decode cX5_testBrakes 14 = .ok (.iadd, 1) := by decide +kernel
theorem dX5_testBrakes_15 : decode cX5_testBrakes 15 = .ok (.istore_n 2, 1) := by decide +kernel
theorem dX5_testBrakes_16 : decode cX5_testBrakes 16 = .ok (.aload_n 0, 1) := by decide +kernel
theorem dX5_testBrakes_17 : decode cX5_testBrakes 17 = .ok (.dup, 1) := by decide +kernel
theorem dX5_testBrakes_18 : decode cX5_testBrakes 18 = .ok (.getfield 41, 3) := by decide +kernel
theorem dX5_testBrakes_21 : decode cX5_testBrakes 21 = .ok (.iload_n 2, 1) := by decide +kernel
theorem dX5_testBrakes_22 : decode cX5_testBrakes 22 = .ok (.iadd, 1) := by decide +kernel
theorem dX5_testBrakes_23 : decode cX5_testBrakes 23 = .ok (.putfield 41, 3) := by decide +kernel
theorem dX5_testBrakes_26 : decode cX5_testBrakes 26 = .ok (.aload_n 0, 1) := by decide +kernel
theorem dX5_testBrakes_27 : decode cX5_testBrakes 27 = .ok (.getfield 28, 3) := by decide +kernel
theorem dX5_testBrakes_30 : decode cX5_testBrakes 30 = .ok (.iload_n 1, 1) := by decide +kernel
theorem dX5_testBrakes_31 : decode cX5_testBrakes 31 = .ok (.aload_n 0, 1) := by decide +kernel
theorem dX5_testBrakes_32 : decode cX5_testBrakes 32 = .ok (.getfield 41, 3) := by decide +kernel
theorem dX5_testBrakes_35 : decode cX5_testBrakes 35 = .ok (.iastore, 1) := by decide +kernel
theorem dX5_testBrakes_36 : decode cX5_testBrakes 36 = .ok (.iload_n 2, 1) := by decide +kernel
theorem dX5_testBrakes_37 : decode cX5_testBrakes 37 = .ok (.ireturn, 1) := by decide +kernel
theorem dX5_testHoldsFor_0 : decode cX5_testHoldsFor 0 = .ok (.aload_n 0, 1) := by decide +kernel
theorem dX5_testHoldsFor_1 : decode cX5_testHoldsFor 1 = .ok (.getfield 28, 3) := by decide +kernel
theorem dX5_testHoldsFor_4 : decode cX5_testHoldsFor 4 = .ok (.iload_n 1, 1) := by decide +kernel
theorem dX5_testHoldsFor_5 : decode cX5_testHoldsFor 5 = .ok (.iaload, 1) := by decide +kernel
theorem dX5_testHoldsFor_6 : decode cX5_testHoldsFor 6 = .ok (.iconst (-1), 1) := by decide +kernel
theorem dX5_testHoldsFor_7 : decode cX5_testHoldsFor 7 = .ok (.if_icmp .ne 5, 3) := by decide +kernel
theorem dX5_testHoldsFor_10 : decode cX5_testHoldsFor 10 = .ok (.iconst 0, 1) := by decide +kernel
theorem dX5_testHoldsFor_11 : decode cX5_testHoldsFor 11 = .ok (.ireturn, 1) := by decide +kernel
theorem dX5_testHoldsFor_12 : decode cX5_testHoldsFor 12 = .ok (.iconst 0, 1) := by decide +kernel
theorem dX5_testHoldsFor_13 : decode cX5_testHoldsFor 13 = .ok (.aload_n 0, 1) := by decide +kernel
theorem dX5_testHoldsFor_14 : decode cX5_testHoldsFor 14 = .ok (.getfield 18, 3) := by decide +kernel
theorem dX5_testHoldsFor_17 : decode cX5_testHoldsFor 17 = .ok (.iconst 1, 1) := by decide +kernel
theorem dX5_testHoldsFor_18 : decode cX5_testHoldsFor 18 = .ok (.iaload, 1) := by decide +kernel
theorem dX5_testHoldsFor_19 : decode cX5_testHoldsFor 19 = .ok (.aload_n 0, 1) := by decide +kernel
theorem dX5_testHoldsFor_20 : decode cX5_testHoldsFor 20 = .ok (.getfield 41, 3) := by decide +kernel
theorem dX5_testHoldsFor_23 : decode cX5_testHoldsFor 23 = .ok (.aload_n 0, 1) := by decide +kernel
theorem dX5_testHoldsFor_24 : decode cX5_testHoldsFor 24 = .ok (.getfield 28, 3) := by decide +kernel
theorem dX5_testHoldsFor_27 : decode cX5_testHoldsFor 27 = .ok (.iload_n 1, 1) := by decide +kernel
theorem dX5_testHoldsFor_28 : decode cX5_testHoldsFor 28 = .ok (.iaload, 1) := by decide +kernel
theorem dX5_testHoldsFor_29 : decode cX5_testHoldsFor 29 = .ok (.isub, 1) := by decide +kernel
theorem dX5_testHoldsFor_30 : decode cX5_testHoldsFor 30 = .ok (.isub, 1) := by decide +kernel
theorem dX5_testHoldsFor_31 : decode cX5_testHoldsFor 31 = .ok (.invokestatic 139, 3) := by decide +kernel
theorem dX5_testHoldsFor_34 : decode cX5_testHoldsFor 34 = .ok (.ireturn, 1) := by decide +kernel
theorem dX5_isForFirst_0 : decode cX5_isForFirst 0 = .ok (.aload_n 0, 1) := by decide +kernel
theorem dX5_isForFirst_1 : decode cX5_isForFirst 1 = .ok (.iload_n 1, 1) := by decide +kernel
theorem dX5_isForFirst_2 : decode cX5_isForFirst 2 = .ok (.iload_n 2, 1) := by decide +kernel
theorem dX5_isForFirst_3 : decode cX5_isForFirst 3 = .ok (.invokevirtual 78, 3) := by decide +kernel
theorem dX5_isForFirst_6 : decode cX5_isForFirst 6 = .ok (.invokestatic 94, 3) := by decide +kernel
theorem dX5_isForFirst_9 : decode cX5_isForFirst 9 = .ok (.aload_n 0, 1) := by decide +kernel
theorem dX5_isForFirst_10 : decode cX5_isForFirst 10 = .ok (.getfield 22, 3) := by decide +kernel
theorem dX5_isForFirst_13 : decode cX5_isForFirst 13 = .ok (.iconst 0, 1) := by decide +kernel
theorem dX5_isForFirst_14 : decode cX5_isForFirst 14 = .ok (.iaload, 1) := by decide +kernel
theorem dX5_isForFirst_15 : decode cX5_isForFirst 15 = .ok (.if_icmp .ne 7, 3) := by decide +kernel
theorem dX5_isForFirst_18 : decode cX5_isForFirst 18 = .ok (.iconst 1, 1) := by decide +kernel
theorem dX5_isForFirst_19 : decode cX5_isForFirst 19 = .ok (.goto 4, 3) := by decide +kernel
theorem dX5_isForFirst_22 : decode cX5_isForFirst 22 = .ok (.iconst 0, 1) := by decide +kernel
theorem dX5_isForFirst_23 : decode cX5_isForFirst 23 = .ok (.ireturn, 1) := by decide +kernel
theorem dX5_forFirstOn_0 : decode cX5_forFirstOn 0 = .ok (.iconst 0, 1) := by decide +kernel
theorem dX5_forFirstOn_1 : decode cX5_forFirstOn 1 = .ok (.istore_n 2, 1) := by decide +kernel
theorem dX5_forFirstOn_2 : decode cX5_forFirstOn 2 = .ok (.iconst 0, 1) := by decide +kernel
theorem dX5_forFirstOn_3 : decode cX5_forFirstOn 3 = .ok (.istore_n 3, 1) := by decide +kernel
theorem dX5_forFirstOn_4 : decode cX5_forFirstOn 4 = .ok (.iload_n 3, 1) := by decide +kernel
theorem dX5_forFirstOn_5 : decode cX5_forFirstOn 5 = .ok (.aload_n 0, 1) := by decide +kernel
theorem dX5_forFirstOn_6 : decode cX5_forFirstOn 6 = .ok (.getfield 25, 3) := by decide +kernel
theorem dX5_forFirstOn_9 : decode cX5_forFirstOn 9 = .ok (.iload_n 1, 1) := by decide +kernel
theorem dX5_forFirstOn_10 : decode cX5_forFirstOn 10 = .ok (.iaload, 1) := by decide +kernel
theorem dX5_forFirstOn_11 : decode cX5_forFirstOn 11 = .ok (.if_icmp .ge 21, 3) := by decide +kernel
theorem dX5_forFirstOn_14 : decode cX5_forFirstOn 14 = .ok (.aload_n 0, 1) := by decide +kernel
theorem dX5_forFirstOn_15 : decode cX5_forFirstOn 15 = .ok (.iload_n 1, 1) := by decide +kernel
theorem dX5_forFirstOn_16 : decode cX5_forFirstOn 16 = .ok (.iload_n 3, 1) := by decide +kernel
theorem dX5_forFirstOn_17 : decode cX5_forFirstOn 17 = .ok (.invokevirtual 142, 3) := by decide +kernel
theorem dX5_forFirstOn_20 : decode cX5_forFirstOn 20 = .ok (.ifCond .eq 6, 3) := by decide +kernel
theorem dX5_forFirstOn_23 : decode cX5_forFirstOn 23 = .ok (.iinc 2 1, 3) := by decide +kernel
theorem dX5_forFirstOn_26 : decode cX5_forFirstOn 26 = .ok (.iinc 3 1, 3) := by decide +kernel
theorem dX5_forFirstOn_29 : decode cX5_forFirstOn 29 = .ok (.goto (-25), 3) := by decide +kernel
theorem dX5_forFirstOn_32 : decode cX5_forFirstOn 32 = .ok (.iload_n 2, 1) := by decide +kernel
theorem dX5_forFirstOn_33 : decode cX5_forFirstOn 33 = .ok (.ireturn, 1) := by decide +kernel
theorem dX5_forFirstInYard_0 : decode cX5_forFirstInYard 0 = .ok (.iconst 0, 1) := by decide +kernel
theorem dX5_forFirstInYard_1 : decode cX5_forFirstInYard 1 = .ok (.istore_n 1, 1) := by decide +kernel
theorem dX5_forFirstInYard_2 : decode cX5_forFirstInYard 2 = .ok (.iconst 0, 1) := by decide +kernel
theorem dX5_forFirstInYard_3 : decode cX5_forFirstInYard 3 = .ok (.istore_n 2, 1) := by decide +kernel
theorem dX5_forFirstInYard_4 : decode cX5_forFirstInYard 4 = .ok (.iload_n 2, 1) := by decide +kernel
theorem dX5_forFirstInYard_5 : decode cX5_forFirstInYard 5 = .ok (.aload_n 0, 1) := by decide +kernel
theorem dX5_forFirstInYard_6 : decode cX5_forFirstInYard 6 = .ok (.getfield 9, 3) := by decide +kernel
theorem dX5_forFirstInYard_9 : decode cX5_forFirstInYard 9 = .ok (.if_icmp .ge 17, 3) := by decide +kernel
theorem dX5_forFirstInYard_12 : decode cX5_forFirstInYard 12 = .ok (.iload_n 1, 1) := by decide +kernel
theorem dX5_forFirstInYard_13 : decode cX5_forFirstInYard 13 = .ok (.aload_n 0, 1) := by decide +kernel
theorem dX5_forFirstInYard_14 : decode cX5_forFirstInYard 14 = .ok (.iload_n 2, 1) := by decide +kernel
theorem dX5_forFirstInYard_15 : decode cX5_forFirstInYard 15 = .ok (.invokevirtual 146, 3) := by decide +kernel
theorem dX5_forFirstInYard_18 : decode cX5_forFirstInYard 18 = .ok (.iadd, 1) := by decide +kernel
theorem dX5_forFirstInYard_19 : decode cX5_forFirstInYard 19 = .ok (.istore_n 1, 1) := by decide +kernel
theorem dX5_forFirstInYard_20 : decode cX5_forFirstInYard 20 = .ok (.iinc 2 1, 3) := by decide +kernel
theorem dX5_forFirstInYard_23 : decode cX5_forFirstInYard 23 = .ok (.goto (-19), 3) := by decide +kernel
theorem dX5_forFirstInYard_26 : decode cX5_forFirstInYard 26 = .ok (.iload_n 1, 1) := by decide +kernel
theorem dX5_forFirstInYard_27 : decode cX5_forFirstInYard 27 = .ok (.ireturn, 1) := by decide +kernel
theorem dX5_refusal_0 : decode cX5_refusal 0 = .ok (.aload_n 0, 1) := by decide +kernel
theorem dX5_refusal_1 : decode cX5_refusal 1 = .ok (.getfield 59, 3) := by decide +kernel
theorem dX5_refusal_4 : decode cX5_refusal 4 = .ok (.ifCond .ne 5, 3) := by decide +kernel
theorem dX5_refusal_7 : decode cX5_refusal 7 = .ok (.iconst 1, 1) := by decide +kernel
theorem dX5_refusal_8 : decode cX5_refusal 8 = .ok (.ireturn, 1) := by decide +kernel
theorem dX5_refusal_9 : decode cX5_refusal 9 = .ok (.aload_n 0, 1) := by decide +kernel
theorem dX5_refusal_10 : decode cX5_refusal 10 = .ok (.getfield 25, 3) := by decide +kernel
theorem dX5_refusal_13 : decode cX5_refusal 13 = .ok (.iload_n 1, 1) := by decide +kernel
theorem dX5_refusal_14 : decode cX5_refusal 14 = .ok (.iaload, 1) := by decide +kernel
theorem dX5_refusal_15 : decode cX5_refusal 15 = .ok (.ifCond .ne 5, 3) := by decide +kernel
theorem dX5_refusal_18 : decode cX5_refusal 18 = .ok (.iconst 2, 1) := by decide +kernel
theorem dX5_refusal_19 : decode cX5_refusal 19 = .ok (.ireturn, 1) := by decide +kernel
theorem dX5_refusal_20 : decode cX5_refusal 20 = .ok (.aload_n 0, 1) := by decide +kernel
theorem dX5_refusal_21 : decode cX5_refusal 21 = .ok (.iload_n 1, 1) := by decide +kernel
theorem dX5_refusal_22 : decode cX5_refusal 22 = .ok (.invokevirtual 146, 3) := by decide +kernel
theorem dX5_refusal_25 : decode cX5_refusal 25 = .ok (.aload_n 0, 1) := by decide +kernel
theorem dX5_refusal_26 : decode cX5_refusal 26 = .ok (.getfield 25, 3) := by decide +kernel
theorem dX5_refusal_29 : decode cX5_refusal 29 = .ok (.iload_n 1, 1) := by decide +kernel
theorem dX5_refusal_30 : decode cX5_refusal 30 = .ok (.iaload, 1) := by decide +kernel
theorem dX5_refusal_31 : decode cX5_refusal 31 = .ok (.if_icmp .ge 5, 3) := by decide +kernel
theorem dX5_refusal_34 : decode cX5_refusal 34 = .ok (.iconst 3, 1) := by decide +kernel
theorem dX5_refusal_35 : decode cX5_refusal 35 = .ok (.ireturn, 1) := by decide +kernel
theorem dX5_refusal_36 : decode cX5_refusal 36 = .ok (.aload_n 0, 1) := by decide +kernel
theorem dX5_refusal_37 : decode cX5_refusal 37 = .ok (.invokevirtual 149, 3) := by decide +kernel
theorem dX5_refusal_40 : decode cX5_refusal 40 = .ok (.aload_n 0, 1) := by decide +kernel
theorem dX5_refusal_41 : decode cX5_refusal 41 = .ok (.getfield 25, 3) := by decide +kernel
theorem dX5_refusal_44 : decode cX5_refusal 44 = .ok (.iload_n 1, 1) := by decide +kernel
theorem dX5_refusal_45 : decode cX5_refusal 45 = .ok (.iaload, 1) := by decide +kernel
theorem dX5_refusal_46 : decode cX5_refusal 46 = .ok (.if_icmp .le 5, 3) := by decide +kernel
theorem dX5_refusal_49 : decode cX5_refusal 49 = .ok (.iconst 4, 1) := by decide +kernel
theorem dX5_refusal_50 : decode cX5_refusal 50 = .ok (.ireturn, 1) := by decide +kernel
theorem dX5_refusal_51 : decode cX5_refusal 51 = .ok (.aload_n 0, 1) := by decide +kernel
theorem dX5_refusal_52 : decode cX5_refusal 52 = .ok (.iload_n 1, 1) := by decide +kernel
theorem dX5_refusal_53 : decode cX5_refusal 53 = .ok (.invokevirtual 118, 3) := by decide +kernel
theorem dX5_refusal_56 : decode cX5_refusal 56 = .ok (.ifCond .ne 5, 3) := by decide +kernel
theorem dX5_refusal_59 : decode cX5_refusal 59 = .ok (.iconst 5, 1) := by decide +kernel
theorem dX5_refusal_60 : decode cX5_refusal 60 = .ok (.ireturn, 1) := by decide +kernel
theorem dX5_refusal_61 : decode cX5_refusal 61 = .ok (.aload_n 0, 1) := by decide +kernel
theorem dX5_refusal_62 : decode cX5_refusal 62 = .ok (.iload_n 1, 1) := by decide +kernel
theorem dX5_refusal_63 : decode cX5_refusal 63 = .ok (.invokevirtual 153, 3) := by decide +kernel
theorem dX5_refusal_66 : decode cX5_refusal 66 = .ok (.ifCond .ne 8, 3) := by decide +kernel
theorem dX5_refusal_69 : decode cX5_refusal 69 = .ok (.bipush 6, 2) := by decide +kernel
theorem dX5_refusal_71 : decode cX5_refusal 71 = .ok (.goto 4, 3) := by decide +kernel
theorem dX5_refusal_74 : decode cX5_refusal 74 = .ok (.iconst 0, 1) := by decide +kernel
theorem dX5_refusal_75 : decode cX5_refusal 75 = .ok (.ireturn, 1) := by decide +kernel
theorem dX5_sendOff_0 : decode cX5_sendOff 0 = .ok (.aload_n 0, 1) := by decide +kernel
theorem dX5_sendOff_1 : decode cX5_sendOff 1 = .ok (.getfield 25, 3) := by decide +kernel
theorem dX5_sendOff_4 : decode cX5_sendOff 4 = .ok (.iload_n 1, 1) := by decide +kernel
theorem dX5_sendOff_5 : decode cX5_sendOff 5 = .ok (.iaload, 1) := by decide +kernel
theorem dX5_sendOff_6 : decode cX5_sendOff 6 = .ok (.istore_n 2, 1) := by decide +kernel
theorem dX5_sendOff_7 : decode cX5_sendOff 7 = .ok (.aload_n 0, 1) := by decide +kernel
theorem dX5_sendOff_8 : decode cX5_sendOff 8 = .ok (.getfield 25, 3) := by decide +kernel
theorem dX5_sendOff_11 : decode cX5_sendOff 11 = .ok (.iload_n 1, 1) := by decide +kernel
theorem dX5_sendOff_12 : decode cX5_sendOff 12 = .ok (.iconst 0, 1) := by decide +kernel
theorem dX5_sendOff_13 : decode cX5_sendOff 13 = .ok (.iastore, 1) := by decide +kernel
theorem dX5_sendOff_14 : decode cX5_sendOff 14 = .ok (.aload_n 0, 1) := by decide +kernel
theorem dX5_sendOff_15 : decode cX5_sendOff 15 = .ok (.getfield 28, 3) := by decide +kernel
theorem dX5_sendOff_18 : decode cX5_sendOff 18 = .ok (.iload_n 1, 1) := by decide +kernel
theorem dX5_sendOff_19 : decode cX5_sendOff 19 = .ok (.iconst (-1), 1) := by decide +kernel
theorem dX5_sendOff_20 : decode cX5_sendOff 20 = .ok (.iastore, 1) := by decide +kernel
theorem dX5_sendOff_21 : decode cX5_sendOff 21 = .ok (.aload_n 0, 1) := by decide +kernel
theorem dX5_sendOff_22 : decode cX5_sendOff 22 = .ok (.dup, 1) := by decide +kernel
theorem dX5_sendOff_23 : decode cX5_sendOff 23 = .ok (.getfield 50, 3) := by decide +kernel
theorem dX5_sendOff_26 : decode cX5_sendOff 26 = .ok (.iconst 1, 1) := by decide +kernel
theorem dX5_sendOff_27 : decode cX5_sendOff 27 = .ok (.iadd, 1) := by decide +kernel
theorem dX5_sendOff_28 : decode cX5_sendOff 28 = .ok (.putfield 50, 3) := by decide +kernel
theorem dX5_sendOff_31 : decode cX5_sendOff 31 = .ok (.aload_n 0, 1) := by decide +kernel
theorem dX5_sendOff_32 : decode cX5_sendOff 32 = .ok (.dup, 1) := by decide +kernel
theorem dX5_sendOff_33 : decode cX5_sendOff 33 = .ok (.getfield 53, 3) := by decide +kernel
theorem dX5_sendOff_36 : decode cX5_sendOff 36 = .ok (.iload_n 2, 1) := by decide +kernel
theorem dX5_sendOff_37 : decode cX5_sendOff 37 = .ok (.iadd, 1) := by decide +kernel
theorem dX5_sendOff_38 : decode cX5_sendOff 38 = .ok (.putfield 53, 3) := by decide +kernel
theorem dX5_sendOff_41 : decode cX5_sendOff 41 = .ok (.aload_n 0, 1) := by decide +kernel
theorem dX5_sendOff_42 : decode cX5_sendOff 42 = .ok (.dup, 1) := by decide +kernel
theorem dX5_sendOff_43 : decode cX5_sendOff 43 = .ok (.getfield 59, 3) := by decide +kernel
theorem dX5_sendOff_46 : decode cX5_sendOff 46 = .ok (.iconst 1, 1) := by decide +kernel
theorem dX5_sendOff_47 : decode cX5_sendOff 47 = .ok (.isub, 1) := by decide +kernel
theorem dX5_sendOff_48 : decode cX5_sendOff 48 = .ok (.putfield 59, 3) := by decide +kernel
theorem dX5_sendOff_51 : decode cX5_sendOff 51 = .ok (.aload_n 0, 1) := by decide +kernel
theorem dX5_sendOff_52 : decode cX5_sendOff 52 = .ok (.getfield 22, 3) := by decide +kernel
theorem dX5_sendOff_55 : decode cX5_sendOff 55 = .ok (.iconst 1, 1) := by decide +kernel
theorem dX5_sendOff_56 : decode cX5_sendOff 56 = .ok (.aload_n 0, 1) := by decide +kernel
theorem dX5_sendOff_57 : decode cX5_sendOff 57 = .ok (.getfield 22, 3) := by decide +kernel
theorem dX5_sendOff_60 : decode cX5_sendOff 60 = .ok (.iconst 0, 1) := by decide +kernel
theorem dX5_sendOff_61 : decode cX5_sendOff 61 = .ok (.aload_n 0, 1) := by decide +kernel
theorem dX5_sendOff_62 : decode cX5_sendOff 62 = .ok (.getfield 59, 3) := by decide +kernel
theorem dX5_sendOff_65 : decode cX5_sendOff 65 = .ok (.invokestatic 62, 3) := by decide +kernel
theorem dX5_sendOff_68 : decode cX5_sendOff 68 = .ok (.iload_n 2, 1) := by decide +kernel
theorem dX5_sendOff_69 : decode cX5_sendOff 69 = .ok (.ireturn, 1) := by decide +kernel
theorem dX5_madeUpTrack_0 : decode cX5_madeUpTrack 0 = .ok (.aload_n 0, 1) := by decide +kernel
theorem dX5_madeUpTrack_1 : decode cX5_madeUpTrack 1 = .ok (.getfield 59, 3) := by decide +kernel
theorem dX5_madeUpTrack_4 : decode cX5_madeUpTrack 4 = .ok (.ifCond .ne 6, 3) := by decide +kernel
theorem dX5_madeUpTrack_7 : decode cX5_madeUpTrack 7 = .ok (.bipush (-9), 2) := by decide +kernel
theorem dX5_madeUpTrack_9 : decode cX5_madeUpTrack 9 = .ok (.ireturn, 1) := by decide +kernel
theorem dX5_madeUpTrack_10 : decode cX5_madeUpTrack 10 = .ok (.iconst 0, 1) := by decide +kernel
theorem dX5_madeUpTrack_11 : decode cX5_madeUpTrack 11 = .ok (.istore_n 1, 1) := by decide +kernel
theorem dX5_madeUpTrack_12 : decode cX5_madeUpTrack 12 = .ok (.iload_n 1, 1) := by decide +kernel
theorem dX5_madeUpTrack_13 : decode cX5_madeUpTrack 13 = .ok (.aload_n 0, 1) := by decide +kernel
theorem dX5_madeUpTrack_14 : decode cX5_madeUpTrack 14 = .ok (.getfield 9, 3) := by decide +kernel
theorem dX5_madeUpTrack_17 : decode cX5_madeUpTrack 17 = .ok (.if_icmp .ge 52, 3) := by decide +kernel
theorem dX5_madeUpTrack_20 : decode cX5_madeUpTrack 20 = .ok (.aload_n 0, 1) := by decide +kernel
theorem dX5_madeUpTrack_21 : decode cX5_madeUpTrack 21 = .ok (.getfield 25, 3) := by decide +kernel
theorem dX5_madeUpTrack_24 : decode cX5_madeUpTrack 24 = .ok (.iload_n 1, 1) := by decide +kernel
theorem dX5_madeUpTrack_25 : decode cX5_madeUpTrack 25 = .ok (.iaload, 1) := by decide +kernel
theorem dX5_madeUpTrack_26 : decode cX5_madeUpTrack 26 = .ok (.ifCond .le 37, 3) := by decide +kernel
theorem dX5_madeUpTrack_29 : decode cX5_madeUpTrack 29 = .ok (.aload_n 0, 1) := by decide +kernel
theorem dX5_madeUpTrack_30 : decode cX5_madeUpTrack 30 = .ok (.iload_n 1, 1) := by decide +kernel
theorem dX5_madeUpTrack_31 : decode cX5_madeUpTrack 31 = .ok (.invokevirtual 146, 3) := by decide +kernel
theorem dX5_madeUpTrack_34 : decode cX5_madeUpTrack 34 = .ok (.aload_n 0, 1) := by decide +kernel
theorem dX5_madeUpTrack_35 : decode cX5_madeUpTrack 35 = .ok (.getfield 25, 3) := by decide +kernel
theorem dX5_madeUpTrack_38 : decode cX5_madeUpTrack 38 = .ok (.iload_n 1, 1) := by decide +kernel
theorem dX5_madeUpTrack_39 : decode cX5_madeUpTrack 39 = .ok (.iaload, 1) := by decide +kernel
theorem dX5_madeUpTrack_40 : decode cX5_madeUpTrack 40 = .ok (.if_icmp .ne 23, 3) := by decide +kernel
theorem dX5_madeUpTrack_43 : decode cX5_madeUpTrack 43 = .ok (.aload_n 0, 1) := by decide +kernel
theorem dX5_madeUpTrack_44 : decode cX5_madeUpTrack 44 = .ok (.invokevirtual 149, 3) := by decide +kernel
theorem dX5_madeUpTrack_47 : decode cX5_madeUpTrack 47 = .ok (.aload_n 0, 1) := by decide +kernel
theorem dX5_madeUpTrack_48 : decode cX5_madeUpTrack 48 = .ok (.getfield 25, 3) := by decide +kernel
theorem dX5_madeUpTrack_51 : decode cX5_madeUpTrack 51 = .ok (.iload_n 1, 1) := by decide +kernel
theorem dX5_madeUpTrack_52 : decode cX5_madeUpTrack 52 = .ok (.iaload, 1) := by decide +kernel
theorem dX5_madeUpTrack_53 : decode cX5_madeUpTrack 53 = .ok (.if_icmp .ne 7, 3) := by decide +kernel
theorem dX5_madeUpTrack_56 : decode cX5_madeUpTrack 56 = .ok (.iload_n 1, 1) := by decide +kernel
theorem dX5_madeUpTrack_57 : decode cX5_madeUpTrack 57 = .ok (.goto 5, 3) := by decide +kernel
theorem dX5_madeUpTrack_60 : decode cX5_madeUpTrack 60 = .ok (.bipush (-9), 2) := by decide +kernel
theorem dX5_madeUpTrack_62 : decode cX5_madeUpTrack 62 = .ok (.ireturn, 1) := by decide +kernel
theorem dX5_madeUpTrack_63 : decode cX5_madeUpTrack 63 = .ok (.iinc 1 1, 3) := by decide +kernel
theorem dX5_madeUpTrack_66 : decode cX5_madeUpTrack 66 = .ok (.goto (-54), 3) := by decide +kernel
theorem dX5_madeUpTrack_69 : decode cX5_madeUpTrack 69 = .ok (.bipush (-9), 2) := by decide +kernel
theorem dX5_madeUpTrack_71 : decode cX5_madeUpTrack 71 = .ok (.ireturn, 1) := by decide +kernel
theorem dX6_init_0 : decode cX6_init 0 = .ok (.aload_n 0, 1) := by decide +kernel
theorem dX6_init_1 : decode cX6_init 1 = .ok (.invokespecial 1, 3) := by decide +kernel
theorem dX6_init_4 : decode cX6_init 4 = .ok (.aload_n 0, 1) := by decide +kernel
theorem dX6_init_5 : decode cX6_init 5 = .ok (.new 7, 3) := by decide +kernel
theorem dX6_init_8 : decode cX6_init 8 = .ok (.dup, 1) := by decide +kernel
theorem dX6_init_9 : decode cX6_init 9 = .ok (.invokespecial 9, 3) := by decide +kernel
theorem dX6_init_12 : decode cX6_init 12 = .ok (.putfield 10, 3) := by decide +kernel
theorem dX6_init_15 : decode cX6_init 15 = .ok (.aload_n 0, 1) := by decide +kernel
theorem dX6_init_16 : decode cX6_init 16 = .ok (.new 16, 3) := by decide +kernel
theorem dX6_init_19 : decode cX6_init 19 = .ok (.dup, 1) := by decide +kernel
theorem dX6_init_20 : decode cX6_init 20 = .ok (.invokespecial 18, 3) := by decide +kernel
theorem dX6_init_23 : decode cX6_init 23 = .ok (.putfield 19, 3) := by decide +kernel
theorem dX6_init_26 : decode cX6_init 26 = .ok (.aload_n 0, 1) := by decide +kernel
theorem dX6_init_27 : decode cX6_init 27 = .ok (.iconst 2, 1) := by decide +kernel
theorem dX6_init_28 : decode cX6_init 28 = .ok (.anewarray 7, 3) := by decide +kernel
theorem dX6_init_31 : decode cX6_init 31 = .ok (.putfield 23, 3) := by decide +kernel
theorem dX6_init_34 : decode cX6_init 34 = .ok (.aload_n 0, 1) := by decide +kernel
theorem dX6_init_35 : decode cX6_init 35 = .ok (.new 27, 3) := by decide +kernel
theorem dX6_init_38 : decode cX6_init 38 = .ok (.dup, 1) := by decide +kernel
theorem dX6_init_39 : decode cX6_init 39 = .ok (.invokespecial 29, 3) := by decide +kernel
theorem dX6_init_42 : decode cX6_init 42 = .ok (.putfield 30, 3) := by decide +kernel
theorem dX6_init_45 : decode cX6_init 45 = .ok (.aload_n 0, 1) := by decide +kernel
theorem dX6_init_46 : decode cX6_init 46 = .ok (.new 34, 3) := by decide +kernel
theorem dX6_init_49 : decode cX6_init 49 = .ok (.dup, 1) := by decide +kernel
theorem dX6_init_50 : decode cX6_init 50 = .ok (.invokespecial 36, 3) := by decide +kernel
theorem dX6_init_53 : decode cX6_init 53 = .ok (.putfield 37, 3) := by decide +kernel
theorem dX6_init_56 : decode cX6_init 56 = .ok (.aload_n 0, 1) := by decide +kernel
theorem dX6_init_57 : decode cX6_init 57 = .ok (.bipush (-9), 2) := by decide +kernel
theorem dX6_init_59 : decode cX6_init 59 = .ok (.putfield 41, 3) := by decide +kernel
theorem dX6_init_62 : decode cX6_init 62 = .ok (.return_, 1) := by decide +kernel
theorem dX6_begin_0 : decode cX6_begin 0 = .ok (.iload_n 1, 1) := by decide +kernel
theorem dX6_begin_1 : decode cX6_begin 1 = .ok (.iconst 2, 1) := by decide +kernel
theorem dX6_begin_2 : decode cX6_begin 2 = .ok (.iconst 4, 1) := by decide +kernel
theorem dX6_begin_3 : decode cX6_begin 3 = .ok (.invokestatic 45, 3) := by decide +kernel
theorem dX6_begin_6 : decode cX6_begin 6 = .ok (.ifCond .eq 13, 3) := by decide +kernel
theorem dX6_begin_9 : decode cX6_begin 9 = .ok (.iload_n 2, 1) := by decide +kernel
theorem dX6_begin_10 : decode cX6_begin 10 = .ok (.iconst 1, 1) := by decide +kernel
theorem dX6_begin_11 : decode cX6_begin 11 = .ok (.bipush 8, 2) := by decide +kernel
theorem dX6_begin_13 : decode cX6_begin 13 = .ok (.invokestatic 45, 3) := by decide +kernel
theorem dX6_begin_16 : decode cX6_begin 16 = .ok (.ifCond .ne 5, 3) := by decide +kernel
theorem dX6_begin_19 : decode cX6_begin 19 = .ok (.iconst (-1), 1) := by decide +kernel
theorem dX6_begin_20 : decode cX6_begin 20 = .ok (.ireturn, 1) := by decide +kernel
theorem dX6_begin_21 : decode cX6_begin 21 = .ok (.aload_n 0, 1) := by decide +kernel
theorem dX6_begin_22 : decode cX6_begin 22 = .ok (.getfield 10, 3) := by decide +kernel
theorem dX6_begin_25 : decode cX6_begin 25 = .ok (.invokevirtual 49, 3) := by decide +kernel
theorem dX6_begin_28 : decode cX6_begin 28 = .ok (.istore_n 3, 1) := by decide +kernel
theorem dX6_begin_29 : decode cX6_begin 29 = .ok (.aload_n 0, 1) := by decide +kernel
theorem dX6_begin_30 : decode cX6_begin 30 = .ok (.getfield 19, 3) := by decide +kernel
theorem dX6_begin_33 : decode cX6_begin 33 = .ok (.aload_n 0, 1) := by decide +kernel
theorem dX6_begin_34 : decode cX6_begin 34 = .ok (.getfield 10, 3) := by decide +kernel
theorem dX6_begin_37 : decode cX6_begin 37 = .ok (.invokevirtual 53, 3) := by decide +kernel
theorem dX6_begin_40 : decode cX6_begin 40 = .ok (.aload_n 0, 1) := by decide +kernel
theorem dX6_begin_41 : decode cX6_begin 41 = .ok (.getfield 10, 3) := by decide +kernel
theorem dX6_begin_44 : decode cX6_begin 44 = .ok (.iload_n 1, 1) := by decide +kernel
theorem dX6_begin_45 : decode cX6_begin 45 = .ok (.iload_n 2, 1) := by decide +kernel
theorem dX6_begin_46 : decode cX6_begin 46 = .ok (.invokevirtual 57, 3) := by decide +kernel
theorem dX6_begin_49 : decode cX6_begin 49 = .ok (.iload_n 3, 1) := by decide +kernel
theorem dX6_begin_50 : decode cX6_begin 50 = .ok (.ireturn, 1) := by decide +kernel
theorem dX6_set_0 : decode cX6_set 0 = .ok (.iload_n 1, 1) := by decide +kernel
theorem dX6_set_1 : decode cX6_set 1 = .ok (.invokestatic 61, 3) := by decide +kernel
theorem dX6_set_4 : decode cX6_set 4 = .ok (.ifCond .eq 18, 3) := by decide +kernel
theorem dX6_set_7 : decode cX6_set 7 = .ok (.iload_n 2, 1) := by decide +kernel
theorem dX6_set_8 : decode cX6_set 8 = .ok (.iload_n 1, 1) := by decide +kernel
theorem dX6_set_9 : decode cX6_set 9 = .ok (.invokestatic 65, 3) := by decide +kernel
theorem dX6_set_12 : decode cX6_set 12 = .ok (.iload_n 1, 1) := by decide +kernel
theorem dX6_set_13 : decode cX6_set 13 = .ok (.invokestatic 69, 3) := by decide +kernel
theorem dX6_set_16 : decode cX6_set 16 = .ok (.invokestatic 45, 3) := by decide +kernel
theorem dX6_set_19 : decode cX6_set 19 = .ok (.ifCond .ne 5, 3) := by decide +kernel
theorem dX6_set_22 : decode cX6_set 22 = .ok (.iconst (-1), 1) := by decide +kernel
theorem dX6_set_23 : decode cX6_set 23 = .ok (.ireturn, 1) := by decide +kernel
theorem dX6_set_24 : decode cX6_set 24 = .ok (.aload_n 0, 1) := by decide +kernel
theorem dX6_set_25 : decode cX6_set 25 = .ok (.getfield 10, 3) := by decide +kernel
theorem dX6_set_28 : decode cX6_set 28 = .ok (.getfield 72, 3) := by decide +kernel
theorem dX6_set_31 : decode cX6_set 31 = .ok (.iload_n 1, 1) := by decide +kernel
theorem dX6_set_32 : decode cX6_set 32 = .ok (.iaload, 1) := by decide +kernel
theorem dX6_set_33 : decode cX6_set 33 = .ok (.istore_n 3, 1) := by decide +kernel
theorem dX6_set_34 : decode cX6_set 34 = .ok (.aload_n 0, 1) := by decide +kernel
theorem dX6_set_35 : decode cX6_set 35 = .ok (.getfield 19, 3) := by decide +kernel
theorem dX6_set_38 : decode cX6_set 38 = .ok (.aload_n 0, 1) := by decide +kernel
theorem dX6_set_39 : decode cX6_set 39 = .ok (.getfield 10, 3) := by decide +kernel
theorem dX6_set_42 : decode cX6_set 42 = .ok (.invokevirtual 53, 3) := by decide +kernel
theorem dX6_set_45 : decode cX6_set 45 = .ok (.aload_n 0, 1) := by decide +kernel
theorem dX6_set_46 : decode cX6_set 46 = .ok (.getfield 10, 3) := by decide +kernel
theorem dX6_set_49 : decode cX6_set 49 = .ok (.getfield 72, 3) := by decide +kernel
theorem dX6_set_52 : decode cX6_set 52 = .ok (.iload_n 1, 1) := by decide +kernel
theorem dX6_set_53 : decode cX6_set 53 = .ok (.iload_n 2, 1) := by decide +kernel
theorem dX6_set_54 : decode cX6_set 54 = .ok (.iastore, 1) := by decide +kernel
theorem dX6_set_55 : decode cX6_set 55 = .ok (.iload_n 3, 1) := by decide +kernel
theorem dX6_set_56 : decode cX6_set 56 = .ok (.ireturn, 1) := by decide +kernel
theorem dX6_arrive_0 : decode cX6_arrive 0 = .ok (.aload_n 0, 1) := by decide +kernel
theorem dX6_arrive_1 : decode cX6_arrive 1 = .ok (.getfield 10, 3) := by decide +kernel
theorem dX6_arrive_4 : decode cX6_arrive 4 = .ok (.iload_n 1, 1) := by decide +kernel
theorem dX6_arrive_5 : decode cX6_arrive 5 = .ok (.invokevirtual 76, 3) := by decide +kernel
theorem dX6_arrive_8 : decode cX6_arrive 8 = .ok (.ifCond .ne 5, 3) := by decide +kernel
theorem dX6_arrive_11 : decode cX6_arrive 11 = .ok (.iconst (-1), 1) := by decide +kernel
theorem dX6_arrive_12 : decode cX6_arrive 12 = .ok (.ireturn, 1) := by decide +kernel
theorem dX6_arrive_13 : decode cX6_arrive 13 = .ok (.aload_n 0, 1) := by decide +kernel
theorem dX6_arrive_14 : decode cX6_arrive 14 = .ok (.getfield 30, 3) := by decide +kernel
theorem dX6_arrive_17 : decode cX6_arrive 17 = .ok (.invokevirtual 79, 3) := by decide +kernel
theorem dX6_arrive_20 : decode cX6_arrive 20 = .ok (.ifCond .eq 18, 3) := by decide +kernel
theorem dX6_arrive_23 : decode cX6_arrive 23 = .ok (.aload_n 0, 1) := by decide +kernel
theorem dX6_arrive_24 : decode cX6_arrive 24 = .ok (.getfield 10, 3) := by decide +kernel
theorem dX6_arrive_27 : decode cX6_arrive 27 = .ok (.iload_n 1, 1) := by decide +kernel
theorem dX6_arrive_28 : decode cX6_arrive 28 = .ok (.aload_n 0, 1) := by decide +kernel
theorem dX6_arrive_29 : decode cX6_arrive 29 = .ok (.getfield 30, 3) := by decide +kernel
theorem dX6_arrive_32 : decode cX6_arrive 32 = .ok (.invokevirtual 83, 3) := by decide +kernel
theorem dX6_arrive_35 : decode cX6_arrive 35 = .ok (.ifCond .ne 6, 3) := by decide +kernel
theorem dX6_arrive_38 : decode cX6_arrive 38 = .ok (.bipush (-2), 2) := by decide +kernel
theorem dX6_arrive_40 : decode cX6_arrive 40 = .ok (.ireturn, 1) := by decide +kernel
theorem dX6_arrive_41 : decode cX6_arrive 41 = .ok (.aload_n 0, 1) := by decide +kernel
theorem dX6_arrive_42 : decode cX6_arrive 42 = .ok (.getfield 10, 3) := by decide +kernel
theorem dX6_arrive_45 : decode cX6_arrive 45 = .ok (.getfield 87, 3) := by decide +kernel
theorem dX6_arrive_48 : decode cX6_arrive 48 = .ok (.iload_n 1, 1) := by decide +kernel
theorem dX6_arrive_49 : decode cX6_arrive 49 = .ok (.iaload, 1) := by decide +kernel
theorem dX6_arrive_50 : decode cX6_arrive 50 = .ok (.aload_n 0, 1) := by decide +kernel
theorem dX6_arrive_51 : decode cX6_arrive 51 = .ok (.getfield 30, 3) := by decide +kernel
theorem dX6_arrive_54 : decode cX6_arrive 54 = .ok (.getfield 90, 3) := by decide +kernel
theorem dX6_arrive_57 : decode cX6_arrive 57 = .ok (.iadd, 1) := by decide +kernel
theorem dX6_arrive_58 : decode cX6_arrive 58 = .ok (.aload_n 0, 1) := by decide +kernel
theorem dX6_arrive_59 : decode cX6_arrive 59 = .ok (.getfield 10, 3) := by decide +kernel
theorem dX6_arrive_62 : decode cX6_arrive 62 = .ok (.getfield 93, 3) := by decide +kernel
theorem dX6_arrive_65 : decode cX6_arrive 65 = .ok (.if_icmp .le 6, 3) := by decide +kernel
theorem dX6_arrive_68 : decode cX6_arrive 68 = .ok (.bipush (-3), 2) := by decide +kernel
theorem dX6_arrive_70 : decode cX6_arrive 70 = .ok (.ireturn, 1) := by decide +kernel
theorem dX6_arrive_71 : decode cX6_arrive 71 = .ok (.aload_n 0, 1) := by decide +kernel
theorem dX6_arrive_72 : decode cX6_arrive 72 = .ok (.getfield 19, 3) := by decide +kernel
theorem dX6_arrive_75 : decode cX6_arrive 75 = .ok (.aload_n 0, 1) := by decide +kernel
theorem dX6_arrive_76 : decode cX6_arrive 76 = .ok (.getfield 10, 3) := by decide +kernel
theorem dX6_arrive_79 : decode cX6_arrive 79 = .ok (.invokevirtual 53, 3) := by decide +kernel
theorem dX6_arrive_82 : decode cX6_arrive 82 = .ok (.aload_n 0, 1) := by decide +kernel
theorem dX6_arrive_83 : decode cX6_arrive 83 = .ok (.getfield 10, 3) := by decide +kernel
theorem dX6_arrive_86 : decode cX6_arrive 86 = .ok (.iload_n 1, 1) := by decide +kernel
theorem dX6_arrive_87 : decode cX6_arrive 87 = .ok (.aload_n 0, 1) := by decide +kernel
theorem dX6_arrive_88 : decode cX6_arrive 88 = .ok (.getfield 30, 3) := by decide +kernel
theorem dX6_arrive_91 : decode cX6_arrive 91 = .ok (.invokevirtual 96, 3) := by decide +kernel
theorem dX6_arrive_94 : decode cX6_arrive 94 = .ok (.aload_n 0, 1) := by decide +kernel
theorem dX6_arrive_95 : decode cX6_arrive 95 = .ok (.getfield 10, 3) := by decide +kernel
theorem dX6_arrive_98 : decode cX6_arrive 98 = .ok (.getfield 87, 3) := by decide +kernel
theorem dX6_arrive_101 : decode cX6_arrive 101 = .ok (.iload_n 1, 1) := by decide +kernel
theorem dX6_arrive_102 : decode cX6_arrive 102 = .ok (.iaload, 1) := by decide +kernel
theorem dX6_arrive_103 : decode cX6_arrive 103 = .ok (.ireturn, 1) := by decide +kernel
theorem dX6_list_0 : decode cX6_list 0 = .ok (.aload_n 0, 1) := by decide +kernel
theorem dX6_list_1 : decode cX6_list 1 = .ok (.getfield 30, 3) := by decide +kernel
theorem dX6_list_4 : decode cX6_list 4 = .ok (.invokevirtual 100, 3) := by decide +kernel
theorem dX6_list_7 : decode cX6_list 7 = .ok (.ifCond .ne 6, 3) := by decide +kernel
theorem dX6_list_10 : decode cX6_list 10 = .ok (.bipush (-2), 2) := by decide +kernel
theorem dX6_list_12 : decode cX6_list 12 = .ok (.ireturn, 1) := by decide +kernel
theorem dX6_list_13 : decode cX6_list 13 = .ok (.aload_n 0, 1) := by decide +kernel
theorem dX6_list_14 : decode cX6_list 14 = .ok (.getfield 19, 3) := by decide +kernel
theorem dX6_list_17 : decode cX6_list 17 = .ok (.aload_n 0, 1) := by decide +kernel
theorem dX6_list_18 : decode cX6_list 18 = .ok (.getfield 10, 3) := by decide +kernel
theorem dX6_list_21 : decode cX6_list 21 = .ok (.invokevirtual 53, 3) := by decide +kernel
theorem dX6_list_24 : decode cX6_list 24 = .ok (.aload_n 0, 1) := by decide +kernel
theorem dX6_list_25 : decode cX6_list 25 = .ok (.getfield 10, 3) := by decide +kernel
theorem dX6_list_28 : decode cX6_list 28 = .ok (.aload_n 0, 1) := by decide +kernel
theorem dX6_list_29 : decode cX6_list 29 = .ok (.getfield 30, 3) := by decide +kernel
theorem dX6_list_32 : decode cX6_list 32 = .ok (.invokevirtual 103, 3) := by decide +kernel
theorem dX6_list_35 : decode cX6_list 35 = .ok (.aload_n 0, 1) := by decide +kernel
theorem dX6_list_36 : decode cX6_list 36 = .ok (.getfield 10, 3) := by decide +kernel
theorem dX6_list_39 : decode cX6_list 39 = .ok (.getfield 107, 3) := by decide +kernel
theorem dX6_list_42 : decode cX6_list 42 = .ok (.ireturn, 1) := by decide +kernel
theorem dX6_move_0 : decode cX6_move 0 = .ok (.aload_n 0, 1) := by decide +kernel
theorem dX6_move_1 : decode cX6_move 1 = .ok (.getfield 10, 3) := by decide +kernel
theorem dX6_move_4 : decode cX6_move 4 = .ok (.iload_n 1, 1) := by decide +kernel
theorem dX6_move_5 : decode cX6_move 5 = .ok (.iload_n 2, 1) := by decide +kernel
theorem dX6_move_6 : decode cX6_move 6 = .ok (.iload_n 3, 1) := by decide +kernel
theorem dX6_move_7 : decode cX6_move 7 = .ok (.invokevirtual 110, 3) := by decide +kernel
theorem dX6_move_10 : decode cX6_move 10 = .ok (.istore 4, 2) := by decide +kernel
theorem dX6_move_12 : decode cX6_move 12 = .ok (.iload 4, 2) := by decide +kernel
theorem dX6_move_14 : decode cX6_move 14 = .ok (.ifCond .ge 6, 3) := by decide +kernel
theorem dX6_move_17 : decode cX6_move 17 = .ok (.iload 4, 2) := by decide +kernel
theorem dX6_move_19 : decode cX6_move 19 = .ok (.ireturn, 1) := by decide +kernel
theorem dX6_move_20 : decode cX6_move 20 = .ok (.aload_n 0, 1) := by decide +kernel
theorem dX6_move_21 : decode cX6_move 21 = .ok (.getfield 19, 3) := by decide +kernel
theorem dX6_move_24 : decode cX6_move 24 = .ok (.aload_n 0, 1) := by decide +kernel
theorem dX6_move_25 : decode cX6_move 25 = .ok (.getfield 10, 3) := by decide +kernel
theorem dX6_move_28 : decode cX6_move 28 = .ok (.invokevirtual 53, 3) := by decide +kernel
theorem dX6_move_31 : decode cX6_move 31 = .ok (.aload_n 0, 1) := by decide +kernel
theorem dX6_move_32 : decode cX6_move 32 = .ok (.getfield 10, 3) := by decide +kernel
theorem dX6_move_35 : decode cX6_move 35 = .ok (.iload_n 1, 1) := by decide +kernel
theorem dX6_move_36 : decode cX6_move 36 = .ok (.iload_n 2, 1) := by decide +kernel
theorem dX6_move_37 : decode cX6_move 37 = .ok (.iload_n 3, 1) := by decide +kernel
theorem dX6_move_38 : decode cX6_move 38 = .ok (.invokevirtual 114, 3) := by decide +kernel
theorem dX6_move_41 : decode cX6_move 41 = .ok (.ireturn, 1) := by decide +kernel
theorem dX6_test_0 : decode cX6_test 0 = .ok (.aload_n 0, 1) := by decide +kernel
theorem dX6_test_1 : decode cX6_test 1 = .ok (.getfield 10, 3) := by decide +kernel
theorem dX6_test_4 : decode cX6_test 4 = .ok (.iload_n 1, 1) := by decide +kernel
theorem dX6_test_5 : decode cX6_test 5 = .ok (.invokevirtual 76, 3) := by decide +kernel
theorem dX6_test_8 : decode cX6_test 8 = .ok (.ifCond .ne 5, 3) := by decide +kernel
theorem dX6_test_11 : decode cX6_test 11 = .ok (.iconst (-1), 1) := by decide +kernel
theorem dX6_test_12 : decode cX6_test 12 = .ok (.ireturn, 1) := by decide +kernel
theorem dX6_test_13 : decode cX6_test 13 = .ok (.aload_n 0, 1) := by decide +kernel
theorem dX6_test_14 : decode cX6_test 14 = .ok (.getfield 10, 3) := by decide +kernel
theorem dX6_test_17 : decode cX6_test 17 = .ok (.getfield 87, 3) := by decide +kernel
theorem dX6_test_20 : decode cX6_test 20 = .ok (.iload_n 1, 1) := by decide +kernel
theorem dX6_test_21 : decode cX6_test 21 = .ok (.iaload, 1) := by decide +kernel
theorem dX6_test_22 : decode cX6_test 22 = .ok (.ifCond .ne 6, 3) := by decide +kernel
theorem dX6_test_25 : decode cX6_test 25 = .ok (.bipush (-2), 2) := by decide +kernel
theorem dX6_test_27 : decode cX6_test 27 = .ok (.ireturn, 1) := by decide +kernel
theorem dX6_test_28 : decode cX6_test 28 = .ok (.aload_n 0, 1) := by decide +kernel
theorem dX6_test_29 : decode cX6_test 29 = .ok (.getfield 19, 3) := by decide +kernel
theorem dX6_test_32 : decode cX6_test 32 = .ok (.aload_n 0, 1) := by decide +kernel
theorem dX6_test_33 : decode cX6_test 33 = .ok (.getfield 10, 3) := by decide +kernel
theorem dX6_test_36 : decode cX6_test 36 = .ok (.invokevirtual 53, 3) := by decide +kernel
theorem dX6_test_39 : decode cX6_test 39 = .ok (.aload_n 0, 1) := by decide +kernel
theorem dX6_test_40 : decode cX6_test 40 = .ok (.getfield 10, 3) := by decide +kernel
theorem dX6_test_43 : decode cX6_test 43 = .ok (.iload_n 1, 1) := by decide +kernel
theorem dX6_test_44 : decode cX6_test 44 = .ok (.invokevirtual 117, 3) := by decide +kernel
theorem dX6_test_47 : decode cX6_test 47 = .ok (.ireturn, 1) := by decide +kernel
theorem dX6_pause_0 : decode cX6_pause 0 = .ok (.iload_n 1, 1) := by decide +kernel
theorem dX6_pause_1 : decode cX6_pause 1 = .ok (.iconst 1, 1) := by decide +kernel
theorem dX6_pause_2 : decode cX6_pause 2 = .ok (.sipush 1000, 3) := by decide +kernel
theorem dX6_pause_5 : decode cX6_pause 5 = .ok (.invokestatic 45, 3) := by decide +kernel
theorem dX6_pause_8 : decode cX6_pause 8 = .ok (.ifCond .ne 5, 3) := by decide +kernel
theorem dX6_pause_11 : decode cX6_pause 11 = .ok (.iconst (-1), 1) := by decide +kernel
theorem dX6_pause_12 : decode cX6_pause 12 = .ok (.ireturn, 1) := by decide +kernel
theorem dX6_pause_13 : decode cX6_pause 13 = .ok (.aload_n 0, 1) := by decide +kernel
theorem dX6_pause_14 : decode cX6_pause 14 = .ok (.getfield 19, 3) := by decide +kernel
theorem dX6_pause_17 : decode cX6_pause 17 = .ok (.aload_n 0, 1) := by decide +kernel
theorem dX6_pause_18 : decode cX6_pause 18 = .ok (.getfield 10, 3) := by decide +kernel
theorem dX6_pause_21 : decode cX6_pause 21 = .ok (.invokevirtual 53, 3) := by decide +kernel
theorem dX6_pause_24 : decode cX6_pause 24 = .ok (.aload_n 0, 1) := by decide +kernel
theorem dX6_pause_25 : decode cX6_pause 25 = .ok (.getfield 10, 3) := by decide +kernel
theorem dX6_pause_28 : decode cX6_pause 28 = .ok (.dup, 1) := by decide +kernel
theorem dX6_pause_29 : decode cX6_pause 29 = .ok (.getfield 120, 3) := by decide +kernel
theorem dX6_pause_32 : decode cX6_pause 32 = .ok (.iload_n 1, 1) := by decide +kernel
theorem dX6_pause_33 : decode cX6_pause 33 = .ok (.iadd, 1) := by decide +kernel
theorem dX6_pause_34 : decode cX6_pause 34 = .ok (.putfield 120, 3) := by decide +kernel
theorem dX6_pause_37 : decode cX6_pause 37 = .ok (.aload_n 0, 1) := by decide +kernel
theorem dX6_pause_38 : decode cX6_pause 38 = .ok (.getfield 10, 3) := by decide +kernel
theorem dX6_pause_41 : decode cX6_pause 41 = .ok (.getfield 120, 3) := by decide +kernel
theorem dX6_pause_44 : decode cX6_pause 44 = .ok (.ireturn, 1) := by decide +kernel
theorem dX6_depart_0 : decode cX6_depart 0 = .ok (.aload_n 0, 1) := by decide +kernel
theorem dX6_depart_1 : decode cX6_depart 1 = .ok (.getfield 10, 3) := by decide +kernel
theorem dX6_depart_4 : decode cX6_depart 4 = .ok (.iload_n 1, 1) := by decide +kernel
theorem dX6_depart_5 : decode cX6_depart 5 = .ok (.invokevirtual 76, 3) := by decide +kernel
theorem dX6_depart_8 : decode cX6_depart 8 = .ok (.ifCond .ne 5, 3) := by decide +kernel
theorem dX6_depart_11 : decode cX6_depart 11 = .ok (.iconst (-1), 1) := by decide +kernel
theorem dX6_depart_12 : decode cX6_depart 12 = .ok (.ireturn, 1) := by decide +kernel
theorem dX6_depart_13 : decode cX6_depart 13 = .ok (.aload_n 0, 1) := by decide +kernel
theorem dX6_depart_14 : decode cX6_depart 14 = .ok (.getfield 10, 3) := by decide +kernel
theorem dX6_depart_17 : decode cX6_depart 17 = .ok (.iload_n 1, 1) := by decide +kernel
theorem dX6_depart_18 : decode cX6_depart 18 = .ok (.invokevirtual 123, 3) := by decide +kernel
theorem dX6_depart_21 : decode cX6_depart 21 = .ok (.istore_n 2, 1) := by decide +kernel
theorem dX6_depart_22 : decode cX6_depart 22 = .ok (.iload_n 2, 1) := by decide +kernel
theorem dX6_depart_23 : decode cX6_depart 23 = .ok (.ifCond .eq 11, 3) := by decide +kernel
theorem dX6_depart_26 : decode cX6_depart 26 = .ok (.aload_n 0, 1) := by decide +kernel
theorem dX6_depart_27 : decode cX6_depart 27 = .ok (.iload_n 2, 1) := by decide +kernel
theorem dX6_depart_28 : decode cX6_depart 28 = .ok (.putfield 41, 3) := by decide +kernel
theorem dX6_depart_31 : decode cX6_depart 31 = .ok (.bipush (-2), 2) := by decide +kernel
theorem dX6_depart_33 : decode cX6_depart 33 = .ok (.ireturn, 1) := by decide +kernel
theorem dX6_depart_34 : decode cX6_depart 34 = .ok (.aload_n 0, 1) := by decide +kernel
theorem dX6_depart_35 : decode cX6_depart 35 = .ok (.getfield 19, 3) := by decide +kernel
theorem dX6_depart_38 : decode cX6_depart 38 = .ok (.aload_n 0, 1) := by decide +kernel
theorem dX6_depart_39 : decode cX6_depart 39 = .ok (.getfield 10, 3) := by decide +kernel
theorem dX6_depart_42 : decode cX6_depart 42 = .ok (.invokevirtual 53, 3) := by decide +kernel
theorem dX6_depart_45 : decode cX6_depart 45 = .ok (.aload_n 0, 1) := by decide +kernel
theorem dX6_depart_46 : decode cX6_depart 46 = .ok (.getfield 10, 3) := by decide +kernel
theorem dX6_depart_49 : decode cX6_depart 49 = .ok (.iload_n 1, 1) := by decide +kernel
theorem dX6_depart_50 : decode cX6_depart 50 = .ok (.invokevirtual 126, 3) := by decide +kernel
theorem dX6_depart_53 : decode cX6_depart 53 = .ok (.ireturn, 1) := by decide +kernel
theorem dX6_makeUp_0 : decode cX6_makeUp 0 = .ok (.iload_n 1, 1) := by decide +kernel
theorem dX6_makeUp_1 : decode cX6_makeUp 1 = .ok (.iconst 0, 1) := by decide +kernel
theorem dX6_makeUp_2 : decode cX6_makeUp 2 = .ok (.iconst 3, 1) := by decide +kernel
theorem dX6_makeUp_3 : decode cX6_makeUp 3 = .ok (.invokestatic 45, 3) := by decide +kernel
theorem dX6_makeUp_6 : decode cX6_makeUp 6 = .ok (.ifCond .ne 5, 3) := by decide +kernel
theorem dX6_makeUp_9 : decode cX6_makeUp 9 = .ok (.iconst (-1), 1) := by decide +kernel
theorem dX6_makeUp_10 : decode cX6_makeUp 10 = .ok (.ireturn, 1) := by decide +kernel
theorem dX6_makeUp_11 : decode cX6_makeUp 11 = .ok (.aload_n 0, 1) := by decide +kernel
theorem dX6_makeUp_12 : decode cX6_makeUp 12 = .ok (.getfield 37, 3) := by decide +kernel
theorem dX6_makeUp_15 : decode cX6_makeUp 15 = .ok (.aload_n 0, 1) := by decide +kernel
theorem dX6_makeUp_16 : decode cX6_makeUp 16 = .ok (.getfield 10, 3) := by decide +kernel
theorem dX6_makeUp_19 : decode cX6_makeUp 19 = .ok (.iload_n 1, 1) := by decide +kernel
theorem dX6_makeUp_20 : decode cX6_makeUp 20 = .ok (.invokevirtual 129, 3) := by decide +kernel
theorem dX6_makeUp_23 : decode cX6_makeUp 23 = .ok (.ifCond .ne 6, 3) := by decide +kernel
theorem dX6_makeUp_26 : decode cX6_makeUp 26 = .ok (.bipush (-2), 2) := by decide +kernel
theorem dX6_makeUp_28 : decode cX6_makeUp 28 = .ok (.ireturn, 1) := by decide +kernel
theorem dX6_makeUp_29 : decode cX6_makeUp 29 = .ok (.aload_n 0, 1) := by decide +kernel
theorem dX6_makeUp_30 : decode cX6_makeUp 30 = .ok (.getfield 19, 3) := by decide +kernel
theorem dX6_makeUp_33 : decode cX6_makeUp 33 = .ok (.aload_n 0, 1) := by decide +kernel
theorem dX6_makeUp_34 : decode cX6_makeUp 34 = .ok (.getfield 10, 3) := by decide +kernel
theorem dX6_makeUp_37 : decode cX6_makeUp 37 = .ok (.invokevirtual 53, 3) := by decide +kernel
theorem dX6_makeUp_40 : decode cX6_makeUp 40 = .ok (.aload_n 0, 1) := by decide +kernel
theorem dX6_makeUp_41 : decode cX6_makeUp 41 = .ok (.getfield 37, 3) := by decide +kernel
theorem dX6_makeUp_44 : decode cX6_makeUp 44 = .ok (.getfield 133, 3) := by decide +kernel
theorem dX6_makeUp_47 : decode cX6_makeUp 47 = .ok (.astore_n 2, 1) := by decide +kernel
theorem dX6_makeUp_48 : decode cX6_makeUp 48 = .ok (.iconst 0, 1) := by decide +kernel
theorem dX6_makeUp_49 : decode cX6_makeUp 49 = .ok (.istore_n 3, 1) := by decide +kernel
theorem dX6_makeUp_50 : decode cX6_makeUp 50 = .ok (.iconst 0, 1) := by decide +kernel
theorem dX6_makeUp_51 : decode cX6_makeUp 51 = .ok (.istore 4, 2) := by decide +kernel
theorem dX6_makeUp_53 : decode cX6_makeUp 53 = .ok (.iload 4, 2) := by decide +kernel
theorem dX6_makeUp_55 : decode cX6_makeUp 55 = .ok (.aload_n 2, 1) := by decide +kernel
theorem dX6_makeUp_56 : decode cX6_makeUp 56 = .ok (.getfield 137, 3) := by decide +kernel
theorem dX6_makeUp_59 : decode cX6_makeUp 59 = .ok (.if_icmp .ge 40, 3) := by decide +kernel
theorem dX6_makeUp_62 : decode cX6_makeUp 62 = .ok (.iload_n 3, 1) := by decide +kernel
theorem dX6_makeUp_63 : decode cX6_makeUp 63 = .ok (.aload_n 0, 1) := by decide +kernel
theorem dX6_makeUp_64 : decode cX6_makeUp 64 = .ok (.getfield 10, 3) := by decide +kernel
theorem dX6_makeUp_67 : decode cX6_makeUp 67 = .ok (.aload_n 2, 1) := by decide +kernel
theorem dX6_makeUp_68 : decode cX6_makeUp 68 = .ok (.getfield 142, 3) := by decide +kernel
theorem dX6_makeUp_71 : decode cX6_makeUp 71 = .ok (.iload 4, 2) := by decide +kernel
theorem dX6_makeUp_73 : decode cX6_makeUp 73 = .ok (.iaload, 1) := by decide +kernel
theorem dX6_makeUp_74 : decode cX6_makeUp 74 = .ok (.aload_n 2, 1) := by decide +kernel
theorem dX6_makeUp_75 : decode cX6_makeUp 75 = .ok (.getfield 145, 3) := by decide +kernel
theorem dX6_makeUp_78 : decode cX6_makeUp 78 = .ok (.iload 4, 2) := by decide +kernel
theorem dX6_makeUp_80 : decode cX6_makeUp 80 = .ok (.iaload, 1) := by decide +kernel
theorem dX6_makeUp_81 : decode cX6_makeUp 81 = .ok (.aload_n 2, 1) := by decide +kernel
theorem dX6_makeUp_82 : decode cX6_makeUp 82 = .ok (.getfield 148, 3) := by decide +kernel
theorem dX6_makeUp_85 : decode cX6_makeUp 85 = .ok (.iload 4, 2) := by decide +kernel
theorem dX6_makeUp_87 : decode cX6_makeUp 87 = .ok (.iaload, 1) := by decide +kernel
theorem dX6_makeUp_88 : decode cX6_makeUp 88 = .ok (.invokevirtual 114, 3) := by decide +kernel
theorem dX6_makeUp_91 : decode cX6_makeUp 91 = .ok (.iadd, 1) := by decide +kernel
theorem dX6_makeUp_92 : decode cX6_makeUp 92 = .ok (.istore_n 3, 1) := by decide +kernel
theorem dX6_makeUp_93 : decode cX6_makeUp 93 = .ok (.iinc 4 1, 3) := by decide +kernel
theorem dX6_makeUp_96 : decode cX6_makeUp 96 = .ok (.goto (-43), 3) := by decide +kernel
theorem dX6_makeUp_99 : decode cX6_makeUp 99 = .ok (.iload_n 3, 1) := by decide +kernel
theorem dX6_makeUp_100 : decode cX6_makeUp 100 = .ok (.ireturn, 1) := by decide +kernel
theorem dX6_undo_0 : decode cX6_undo 0 = .ok (.aload_n 0, 1) := by decide +kernel
theorem dX6_undo_1 : decode cX6_undo 1 = .ok (.getfield 19, 3) := by decide +kernel
theorem dX6_undo_4 : decode cX6_undo 4 = .ok (.aload_n 0, 1) := by decide +kernel
theorem dX6_undo_5 : decode cX6_undo 5 = .ok (.getfield 10, 3) := by decide +kernel
theorem dX6_undo_8 : decode cX6_undo 8 = .ok (.invokevirtual 151, 3) := by decide +kernel
theorem dX6_undo_11 : decode cX6_undo 11 = .ok (.ifCond .eq 13, 3) := by decide +kernel
theorem dX6_undo_14 : decode cX6_undo 14 = .ok (.aload_n 0, 1) := by decide +kernel
theorem dX6_undo_15 : decode cX6_undo 15 = .ok (.getfield 19, 3) := by decide +kernel
theorem dX6_undo_18 : decode cX6_undo 18 = .ok (.getfield 155, 3) := by decide +kernel
theorem dX6_undo_21 : decode cX6_undo 21 = .ok (.goto 5, 3) := by decide +kernel
theorem dX6_undo_24 : decode cX6_undo 24 = .ok (.bipush (-2), 2) := by decide +kernel
theorem dX6_undo_26 : decode cX6_undo 26 = .ok (.ireturn, 1) := by decide +kernel
theorem dX6_write_0 : decode cX6_write 0 = .ok (.iload_n 1, 1) := by decide +kernel
theorem dX6_write_1 : decode cX6_write 1 = .ok (.bipush 32, 2) := by decide +kernel
theorem dX6_write_3 : decode cX6_write 3 = .ok (.bipush 126, 2) := by decide +kernel
theorem dX6_write_5 : decode cX6_write 5 = .ok (.invokestatic 45, 3) := by decide +kernel
theorem dX6_write_8 : decode cX6_write 8 = .ok (.ifCond .ne 5, 3) := by decide +kernel
theorem dX6_write_11 : decode cX6_write 11 = .ok (.iconst (-1), 1) := by decide +kernel
theorem dX6_write_12 : decode cX6_write 12 = .ok (.ireturn, 1) := by decide +kernel
theorem dX6_write_13 : decode cX6_write 13 = .ok (.aload_n 0, 1) := by decide +kernel
theorem dX6_write_14 : decode cX6_write 14 = .ok (.getfield 30, 3) := by decide +kernel
theorem dX6_write_17 : decode cX6_write 17 = .ok (.getfield 158, 3) := by decide +kernel
theorem dX6_write_20 : decode cX6_write 20 = .ok (.bipush 60, 2) := by decide +kernel
theorem dX6_write_22 : decode cX6_write 22 = .ok (.if_icmp .lt 6, 3) := by decide +kernel
theorem dX6_write_25 : decode cX6_write 25 = .ok (.bipush (-3), 2) := by decide +kernel
theorem dX6_write_27 : decode cX6_write 27 = .ok (.ireturn, 1) := by decide +kernel
theorem dX6_write_28 : decode cX6_write 28 = .ok (.aload_n 0, 1) := by decide +kernel
theorem dX6_write_29 : decode cX6_write 29 = .ok (.getfield 30, 3) := by decide +kernel
theorem dX6_write_32 : decode cX6_write 32 = .ok (.iload_n 1, 1) := by decide +kernel
theorem dX6_write_33 : decode cX6_write 33 = .ok (.invokevirtual 160, 3) := by decide +kernel
theorem dX6_write_36 : decode cX6_write 36 = .ok (.aload_n 0, 1) := by decide +kernel
theorem dX6_write_37 : decode cX6_write 37 = .ok (.getfield 30, 3) := by decide +kernel
theorem dX6_write_40 : decode cX6_write 40 = .ok (.getfield 158, 3) := by decide +kernel
theorem dX6_write_43 : decode cX6_write 43 = .ok (.ireturn, 1) := by decide +kernel
theorem dX6_wipe_0 : decode cX6_wipe 0 = .ok (.aload_n 0, 1) := by decide +kernel
theorem dX6_wipe_1 : decode cX6_wipe 1 = .ok (.getfield 30, 3) := by decide +kernel
theorem dX6_wipe_4 : decode cX6_wipe 4 = .ok (.getfield 158, 3) := by decide +kernel
theorem dX6_wipe_7 : decode cX6_wipe 7 = .ok (.istore_n 1, 1) := by decide +kernel
theorem dX6_wipe_8 : decode cX6_wipe 8 = .ok (.aload_n 0, 1) := by decide +kernel
theorem dX6_wipe_9 : decode cX6_wipe 9 = .ok (.getfield 30, 3) := by decide +kernel
theorem dX6_wipe_12 : decode cX6_wipe 12 = .ok (.iconst 0, 1) := by decide +kernel
theorem dX6_wipe_13 : decode cX6_wipe 13 = .ok (.putfield 158, 3) := by decide +kernel
theorem dX6_wipe_16 : decode cX6_wipe 16 = .ok (.iload_n 1, 1) := by decide +kernel
theorem dX6_wipe_17 : decode cX6_wipe 17 = .ok (.ireturn, 1) := by decide +kernel
theorem dX6_fault_0 : decode cX6_fault 0 = .ok (.iload_n 1, 1) := by decide +kernel
theorem dX6_fault_1 : decode cX6_fault 1 = .ok (.lookupswitch 43 #[(0, 27), (1, 35)], 27) := by decide +kernel
theorem dX6_fault_28 : decode cX6_fault 28 = .ok (.aload_n 0, 1) := by decide +kernel
theorem dX6_fault_29 : decode cX6_fault 29 = .ok (.getfield 30, 3) := by decide +kernel
theorem dX6_fault_32 : decode cX6_fault 32 = .ok (.getfield 164, 3) := by decide +kernel
theorem dX6_fault_35 : decode cX6_fault 35 = .ok (.ireturn, 1) := by decide +kernel
theorem dX6_fault_36 : decode cX6_fault 36 = .ok (.aload_n 0, 1) := by decide +kernel
theorem dX6_fault_37 : decode cX6_fault 37 = .ok (.getfield 30, 3) := by decide +kernel
theorem dX6_fault_40 : decode cX6_fault 40 = .ok (.getfield 167, 3) := by decide +kernel
theorem dX6_fault_43 : decode cX6_fault 43 = .ok (.ireturn, 1) := by decide +kernel
theorem dX6_fault_44 : decode cX6_fault 44 = .ok (.iconst (-1), 1) := by decide +kernel
theorem dX6_fault_45 : decode cX6_fault 45 = .ok (.ireturn, 1) := by decide +kernel
theorem dX6_told_0 : decode cX6_told 0 = .ok (.iload_n 1, 1) := by decide +kernel
theorem dX6_told_1 : decode cX6_told 1 = .ok (.tableswitch 192 0 14 #[75, 83, 91, 99, 107, 115, 123, 131, 139, 147, 155, 163, 168, 176, 184], 75) := by decide +kernel
theorem dX6_told_76 : decode cX6_told 76 = .ok (.aload_n 0, 1) := by decide +kernel
theorem dX6_told_77 : decode cX6_told 77 = .ok (.getfield 10, 3) := by decide +kernel
theorem dX6_told_80 : decode cX6_told 80 = .ok (.getfield 170, 3) := by decide +kernel
theorem dX6_told_83 : decode cX6_told 83 = .ok (.ireturn, 1) := by decide +kernel
theorem dX6_told_84 : decode cX6_told 84 = .ok (.aload_n 0, 1) := by decide +kernel
theorem dX6_told_85 : decode cX6_told 85 = .ok (.getfield 10, 3) := by decide +kernel
theorem dX6_told_88 : decode cX6_told 88 = .ok (.getfield 93, 3) := by decide +kernel
theorem dX6_told_91 : decode cX6_told 91 = .ok (.ireturn, 1) := by decide +kernel
theorem dX6_told_92 : decode cX6_told 92 = .ok (.aload_n 0, 1) := by decide +kernel
theorem dX6_told_93 : decode cX6_told 93 = .ok (.getfield 10, 3) := by decide +kernel
theorem dX6_told_96 : decode cX6_told 96 = .ok (.getfield 120, 3) := by decide +kernel
theorem dX6_told_99 : decode cX6_told 99 = .ok (.ireturn, 1) := by decide +kernel
theorem dX6_told_100 : decode cX6_told 100 = .ok (.aload_n 0, 1) := by decide +kernel
theorem dX6_told_101 : decode cX6_told 101 = .ok (.getfield 10, 3) := by decide +kernel
theorem dX6_told_104 : decode cX6_told 104 = .ok (.invokevirtual 49, 3) := by decide +kernel
theorem dX6_told_107 : decode cX6_told 107 = .ok (.ireturn, 1) := by decide +kernel
theorem dX6_told_108 : decode cX6_told 108 = .ok (.aload_n 0, 1) := by decide +kernel
theorem dX6_told_109 : decode cX6_told 109 = .ok (.getfield 10, 3) := by decide +kernel
theorem dX6_told_112 : decode cX6_told 112 = .ok (.getfield 107, 3) := by decide +kernel
theorem dX6_told_115 : decode cX6_told 115 = .ok (.ireturn, 1) := by decide +kernel
theorem dX6_told_116 : decode cX6_told 116 = .ok (.aload_n 0, 1) := by decide +kernel
theorem dX6_told_117 : decode cX6_told 117 = .ok (.getfield 10, 3) := by decide +kernel
theorem dX6_told_120 : decode cX6_told 120 = .ok (.invokevirtual 173, 3) := by decide +kernel
theorem dX6_told_123 : decode cX6_told 123 = .ok (.ireturn, 1) := by decide +kernel
theorem dX6_told_124 : decode cX6_told 124 = .ok (.aload_n 0, 1) := by decide +kernel
theorem dX6_told_125 : decode cX6_told 125 = .ok (.getfield 10, 3) := by decide +kernel
theorem dX6_told_128 : decode cX6_told 128 = .ok (.getfield 176, 3) := by decide +kernel
theorem dX6_told_131 : decode cX6_told 131 = .ok (.ireturn, 1) := by decide +kernel
theorem dX6_told_132 : decode cX6_told 132 = .ok (.aload_n 0, 1) := by decide +kernel
theorem dX6_told_133 : decode cX6_told 133 = .ok (.getfield 10, 3) := by decide +kernel
theorem dX6_told_136 : decode cX6_told 136 = .ok (.getfield 177, 3) := by decide +kernel
theorem dX6_told_139 : decode cX6_told 139 = .ok (.ireturn, 1) := by decide +kernel
theorem dX6_told_140 : decode cX6_told 140 = .ok (.aload_n 0, 1) := by decide +kernel
theorem dX6_told_141 : decode cX6_told 141 = .ok (.getfield 10, 3) := by decide +kernel
theorem dX6_told_144 : decode cX6_told 144 = .ok (.getfield 180, 3) := by decide +kernel
theorem dX6_told_147 : decode cX6_told 147 = .ok (.ireturn, 1) := by decide +kernel
theorem dX6_told_148 : decode cX6_told 148 = .ok (.aload_n 0, 1) := by decide +kernel
theorem dX6_told_149 : decode cX6_told 149 = .ok (.getfield 10, 3) := by decide +kernel
theorem dX6_told_152 : decode cX6_told 152 = .ok (.getfield 183, 3) := by decide +kernel
theorem dX6_told_155 : decode cX6_told 155 = .ok (.ireturn, 1) := by decide +kernel
theorem dX6_told_156 : decode cX6_told 156 = .ok (.aload_n 0, 1) := by decide +kernel
theorem dX6_told_157 : decode cX6_told 157 = .ok (.getfield 10, 3) := by decide +kernel
theorem dX6_told_160 : decode cX6_told 160 = .ok (.getfield 186, 3) := by decide +kernel
theorem dX6_told_163 : decode cX6_told 163 = .ok (.ireturn, 1) := by decide +kernel
theorem dX6_told_164 : decode cX6_told 164 = .ok (.aload_n 0, 1) := by decide +kernel
theorem dX6_told_165 : decode cX6_told 165 = .ok (.getfield 41, 3) := by decide +kernel
theorem dX6_told_168 : decode cX6_told 168 = .ok (.ireturn, 1) := by decide +kernel
theorem dX6_told_169 : decode cX6_told 169 = .ok (.aload_n 0, 1) := by decide +kernel
theorem dX6_told_170 : decode cX6_told 170 = .ok (.getfield 10, 3) := by decide +kernel
theorem dX6_told_173 : decode cX6_told 173 = .ok (.invokevirtual 189, 3) := by decide +kernel
theorem dX6_told_176 : decode cX6_told 176 = .ok (.ireturn, 1) := by decide +kernel
theorem dX6_told_177 : decode cX6_told 177 = .ok (.aload_n 0, 1) := by decide +kernel
theorem dX6_told_178 : decode cX6_told 178 = .ok (.getfield 30, 3) := by decide +kernel
theorem dX6_told_181 : decode cX6_told 181 = .ok (.getfield 158, 3) := by decide +kernel
theorem dX6_told_184 : decode cX6_told 184 = .ok (.ireturn, 1) := by decide +kernel
theorem dX6_told_185 : decode cX6_told 185 = .ok (.aload_n 0, 1) := by decide +kernel
theorem dX6_told_186 : decode cX6_told 186 = .ok (.getfield 19, 3) := by decide +kernel
theorem dX6_told_189 : decode cX6_told 189 = .ok (.getfield 155, 3) := by decide +kernel
theorem dX6_told_192 : decode cX6_told 192 = .ok (.ireturn, 1) := by decide +kernel
theorem dX6_told_193 : decode cX6_told 193 = .ok (.iconst (-1), 1) := by decide +kernel
theorem dX6_told_194 : decode cX6_told 194 = .ok (.ireturn, 1) := by decide +kernel
theorem dX6_setting_0 : decode cX6_setting 0 = .ok (.iload_n 1, 1) := by decide +kernel
theorem dX6_setting_1 : decode cX6_setting 1 = .ok (.invokestatic 61, 3) := by decide +kernel
theorem dX6_setting_4 : decode cX6_setting 4 = .ok (.ifCond .eq 15, 3) := by decide +kernel
theorem dX6_setting_7 : decode cX6_setting 7 = .ok (.aload_n 0, 1) := by decide +kernel
theorem dX6_setting_8 : decode cX6_setting 8 = .ok (.getfield 10, 3) := by decide +kernel
theorem dX6_setting_11 : decode cX6_setting 11 = .ok (.getfield 72, 3) := by decide +kernel
theorem dX6_setting_14 : decode cX6_setting 14 = .ok (.iload_n 1, 1) := by decide +kernel
theorem dX6_setting_15 : decode cX6_setting 15 = .ok (.iaload, 1) := by decide +kernel
theorem dX6_setting_16 : decode cX6_setting 16 = .ok (.goto 4, 3) := by decide +kernel
theorem dX6_setting_19 : decode cX6_setting 19 = .ok (.iconst (-1), 1) := by decide +kernel
theorem dX6_setting_20 : decode cX6_setting 20 = .ok (.ireturn, 1) := by decide +kernel
theorem dX6_track_0 : decode cX6_track 0 = .ok (.aload_n 0, 1) := by decide +kernel
theorem dX6_track_1 : decode cX6_track 1 = .ok (.getfield 10, 3) := by decide +kernel
theorem dX6_track_4 : decode cX6_track 4 = .ok (.iload_n 1, 1) := by decide +kernel
theorem dX6_track_5 : decode cX6_track 5 = .ok (.invokevirtual 76, 3) := by decide +kernel
theorem dX6_track_8 : decode cX6_track 8 = .ok (.ifCond .ne 5, 3) := by decide +kernel
theorem dX6_track_11 : decode cX6_track 11 = .ok (.iconst (-1), 1) := by decide +kernel
theorem dX6_track_12 : decode cX6_track 12 = .ok (.ireturn, 1) := by decide +kernel
theorem dX6_track_13 : decode cX6_track 13 = .ok (.iload_n 2, 1) := by decide +kernel
theorem dX6_track_14 : decode cX6_track 14 = .ok (.tableswitch 88 0 4 #[34, 44, 61, 70, 79], 34) := by decide +kernel
theorem dX6_track_48 : decode cX6_track 48 = .ok (.aload_n 0, 1) := by decide +kernel
theorem dX6_track_49 : decode cX6_track 49 = .ok (.getfield 10, 3) := by decide +kernel
theorem dX6_track_52 : decode cX6_track 52 = .ok (.getfield 87, 3) := by decide +kernel
theorem dX6_track_55 : decode cX6_track 55 = .ok (.iload_n 1, 1) := by decide +kernel
theorem dX6_track_56 : decode cX6_track 56 = .ok (.iaload, 1) := by decide +kernel
theorem dX6_track_57 : decode cX6_track 57 = .ok (.ireturn, 1) := by decide +kernel
theorem dX6_track_58 : decode cX6_track 58 = .ok (.aload_n 0, 1) := by decide +kernel
theorem dX6_track_59 : decode cX6_track 59 = .ok (.getfield 10, 3) := by decide +kernel
theorem dX6_track_62 : decode cX6_track 62 = .ok (.iload_n 1, 1) := by decide +kernel
theorem dX6_track_63 : decode cX6_track 63 = .ok (.invokevirtual 192, 3) := by decide +kernel
theorem dX6_track_66 : decode cX6_track 66 = .ok (.ifCond .eq 7, 3) := by decide +kernel
theorem dX6_track_69 : decode cX6_track 69 = .ok (.iconst 1, 1) := by decide +kernel
theorem dX6_track_70 : decode cX6_track 70 = .ok (.goto 4, 3) := by decide +kernel
theorem dX6_track_73 : decode cX6_track 73 = .ok (.iconst 0, 1) := by decide +kernel
theorem dX6_track_74 : decode cX6_track 74 = .ok (.ireturn, 1) := by decide +kernel
theorem dX6_track_75 : decode cX6_track 75 = .ok (.aload_n 0, 1) := by decide +kernel
theorem dX6_track_76 : decode cX6_track 76 = .ok (.getfield 10, 3) := by decide +kernel
theorem dX6_track_79 : decode cX6_track 79 = .ok (.iload_n 1, 1) := by decide +kernel
theorem dX6_track_80 : decode cX6_track 80 = .ok (.invokevirtual 195, 3) := by decide +kernel
theorem dX6_track_83 : decode cX6_track 83 = .ok (.ireturn, 1) := by decide +kernel
theorem dX6_track_84 : decode cX6_track 84 = .ok (.aload_n 0, 1) := by decide +kernel
theorem dX6_track_85 : decode cX6_track 85 = .ok (.getfield 10, 3) := by decide +kernel
theorem dX6_track_88 : decode cX6_track 88 = .ok (.iload_n 1, 1) := by decide +kernel
theorem dX6_track_89 : decode cX6_track 89 = .ok (.invokevirtual 198, 3) := by decide +kernel
theorem dX6_track_92 : decode cX6_track 92 = .ok (.ireturn, 1) := by decide +kernel
theorem dX6_track_93 : decode cX6_track 93 = .ok (.aload_n 0, 1) := by decide +kernel
theorem dX6_track_94 : decode cX6_track 94 = .ok (.getfield 10, 3) := by decide +kernel
theorem dX6_track_97 : decode cX6_track 97 = .ok (.iload_n 1, 1) := by decide +kernel
theorem dX6_track_98 : decode cX6_track 98 = .ok (.invokevirtual 123, 3) := by decide +kernel
theorem dX6_track_101 : decode cX6_track 101 = .ok (.ireturn, 1) := by decide +kernel
theorem dX6_track_102 : decode cX6_track 102 = .ok (.iconst (-1), 1) := by decide +kernel
theorem dX6_track_103 : decode cX6_track 103 = .ok (.ireturn, 1) := by decide +kernel
theorem dX6_wagon_0 : decode cX6_wagon 0 = .ok (.aload_n 0, 1) := by decide +kernel
theorem dX6_wagon_1 : decode cX6_wagon 1 = .ok (.getfield 10, 3) := by decide +kernel
theorem dX6_wagon_4 : decode cX6_wagon 4 = .ok (.iload_n 1, 1) := by decide +kernel
theorem dX6_wagon_5 : decode cX6_wagon 5 = .ok (.invokevirtual 76, 3) := by decide +kernel
theorem dX6_wagon_8 : decode cX6_wagon 8 = .ok (.ifCond .eq 16, 3) := by decide +kernel
theorem dX6_wagon_11 : decode cX6_wagon 11 = .ok (.iload_n 2, 1) := by decide +kernel
theorem dX6_wagon_12 : decode cX6_wagon 12 = .ok (.ifCond .lt 12, 3) := by decide +kernel
theorem dX6_wagon_15 : decode cX6_wagon 15 = .ok (.iload_n 3, 1) := by decide +kernel
theorem dX6_wagon_16 : decode cX6_wagon 16 = .ok (.iconst 0, 1) := by decide +kernel
theorem dX6_wagon_17 : decode cX6_wagon 17 = .ok (.iconst 2, 1) := by decide +kernel
theorem dX6_wagon_18 : decode cX6_wagon 18 = .ok (.invokestatic 45, 3) := by decide +kernel
theorem dX6_wagon_21 : decode cX6_wagon 21 = .ok (.ifCond .ne 5, 3) := by decide +kernel
theorem dX6_wagon_24 : decode cX6_wagon 24 = .ok (.iconst (-1), 1) := by decide +kernel
theorem dX6_wagon_25 : decode cX6_wagon 25 = .ok (.ireturn, 1) := by decide +kernel
theorem dX6_wagon_26 : decode cX6_wagon 26 = .ok (.iload_n 2, 1) := by decide +kernel
theorem dX6_wagon_27 : decode cX6_wagon 27 = .ok (.aload_n 0, 1) := by decide +kernel
theorem dX6_wagon_28 : decode cX6_wagon 28 = .ok (.getfield 10, 3) := by decide +kernel
theorem dX6_wagon_31 : decode cX6_wagon 31 = .ok (.getfield 87, 3) := by decide +kernel
theorem dX6_wagon_34 : decode cX6_wagon 34 = .ok (.iload_n 1, 1) := by decide +kernel
theorem dX6_wagon_35 : decode cX6_wagon 35 = .ok (.iaload, 1) := by decide +kernel
theorem dX6_wagon_36 : decode cX6_wagon 36 = .ok (.if_icmp .lt 6, 3) := by decide +kernel
theorem dX6_wagon_39 : decode cX6_wagon 39 = .ok (.bipush (-9), 2) := by decide +kernel
theorem dX6_wagon_41 : decode cX6_wagon 41 = .ok (.ireturn, 1) := by decide +kernel
theorem dX6_wagon_42 : decode cX6_wagon 42 = .ok (.aload_n 0, 1) := by decide +kernel
theorem dX6_wagon_43 : decode cX6_wagon 43 = .ok (.getfield 10, 3) := by decide +kernel
theorem dX6_wagon_46 : decode cX6_wagon 46 = .ok (.iload_n 1, 1) := by decide +kernel
theorem dX6_wagon_47 : decode cX6_wagon 47 = .ok (.iload_n 2, 1) := by decide +kernel
theorem dX6_wagon_48 : decode cX6_wagon 48 = .ok (.invokevirtual 201, 3) := by decide +kernel
theorem dX6_wagon_51 : decode cX6_wagon 51 = .ok (.istore 4, 2) := by decide +kernel
theorem dX6_wagon_53 : decode cX6_wagon 53 = .ok (.iload_n 3, 1) := by decide +kernel
theorem dX6_wagon_54 : decode cX6_wagon 54 = .ok (.lookupswitch 38 #[(0, 26), (1, 32)], 26) := by decide +kernel
theorem dX6_wagon_80 : decode cX6_wagon 80 = .ok (.iload 4, 2) := by decide +kernel
theorem dX6_wagon_82 : decode cX6_wagon 82 = .ok (.invokestatic 205, 3) := by decide +kernel
theorem dX6_wagon_85 : decode cX6_wagon 85 = .ok (.ireturn, 1) := by decide +kernel
theorem dX6_wagon_86 : decode cX6_wagon 86 = .ok (.iload 4, 2) := by decide +kernel
theorem dX6_wagon_88 : decode cX6_wagon 88 = .ok (.invokestatic 208, 3) := by decide +kernel
theorem dX6_wagon_91 : decode cX6_wagon 91 = .ok (.ireturn, 1) := by decide +kernel
theorem dX6_wagon_92 : decode cX6_wagon 92 = .ok (.iload 4, 2) := by decide +kernel
theorem dX6_wagon_94 : decode cX6_wagon 94 = .ok (.invokestatic 211, 3) := by decide +kernel
theorem dX6_wagon_97 : decode cX6_wagon 97 = .ok (.ireturn, 1) := by decide +kernel
theorem dX6_train_0 : decode cX6_train 0 = .ok (.iload_n 1, 1) := by decide +kernel
theorem dX6_train_1 : decode cX6_train 1 = .ok (.ifCond .ge 5, 3) := by decide +kernel
theorem dX6_train_4 : decode cX6_train 4 = .ok (.iconst (-1), 1) := by decide +kernel
theorem dX6_train_5 : decode cX6_train 5 = .ok (.ireturn, 1) := by decide +kernel
theorem dX6_train_6 : decode cX6_train 6 = .ok (.iload_n 1, 1) := by decide +kernel
theorem dX6_train_7 : decode cX6_train 7 = .ok (.aload_n 0, 1) := by decide +kernel
theorem dX6_train_8 : decode cX6_train 8 = .ok (.getfield 10, 3) := by decide +kernel
theorem dX6_train_11 : decode cX6_train 11 = .ok (.getfield 107, 3) := by decide +kernel
theorem dX6_train_14 : decode cX6_train 14 = .ok (.if_icmp .ge 15, 3) := by decide +kernel
theorem dX6_train_17 : decode cX6_train 17 = .ok (.aload_n 0, 1) := by decide +kernel
theorem dX6_train_18 : decode cX6_train 18 = .ok (.getfield 10, 3) := by decide +kernel
theorem dX6_train_21 : decode cX6_train 21 = .ok (.getfield 214, 3) := by decide +kernel
theorem dX6_train_24 : decode cX6_train 24 = .ok (.iload_n 1, 1) := by decide +kernel
theorem dX6_train_25 : decode cX6_train 25 = .ok (.iaload, 1) := by decide +kernel
theorem dX6_train_26 : decode cX6_train 26 = .ok (.goto 5, 3) := by decide +kernel
theorem dX6_train_29 : decode cX6_train 29 = .ok (.bipush (-9), 2) := by decide +kernel
theorem dX6_train_31 : decode cX6_train 31 = .ok (.ireturn, 1) := by decide +kernel
theorem dX6_find_0 : decode cX6_find 0 = .ok (.iload_n 1, 1) := by decide +kernel
theorem dX6_find_1 : decode cX6_find 1 = .ok (.ifCond .lt 12, 3) := by decide +kernel
theorem dX6_find_4 : decode cX6_find 4 = .ok (.iload_n 2, 1) := by decide +kernel
theorem dX6_find_5 : decode cX6_find 5 = .ok (.iconst 0, 1) := by decide +kernel
theorem dX6_find_6 : decode cX6_find 6 = .ok (.iconst 1, 1) := by decide +kernel
theorem dX6_find_7 : decode cX6_find 7 = .ok (.invokestatic 45, 3) := by decide +kernel
theorem dX6_find_10 : decode cX6_find 10 = .ok (.ifCond .ne 5, 3) := by decide +kernel
theorem dX6_find_13 : decode cX6_find 13 = .ok (.iconst (-1), 1) := by decide +kernel
theorem dX6_find_14 : decode cX6_find 14 = .ok (.ireturn, 1) := by decide +kernel
theorem dX6_find_15 : decode cX6_find 15 = .ok (.aload_n 0, 1) := by decide +kernel
theorem dX6_find_16 : decode cX6_find 16 = .ok (.getfield 10, 3) := by decide +kernel
theorem dX6_find_19 : decode cX6_find 19 = .ok (.iload_n 1, 1) := by decide +kernel
theorem dX6_find_20 : decode cX6_find 20 = .ok (.invokevirtual 217, 3) := by decide +kernel
theorem dX6_find_23 : decode cX6_find 23 = .ok (.istore_n 3, 1) := by decide +kernel
theorem dX6_find_24 : decode cX6_find 24 = .ok (.iload_n 3, 1) := by decide +kernel
theorem dX6_find_25 : decode cX6_find 25 = .ok (.bipush (-9), 2) := by decide +kernel
theorem dX6_find_27 : decode cX6_find 27 = .ok (.if_icmp .ne 6, 3) := by decide +kernel
theorem dX6_find_30 : decode cX6_find 30 = .ok (.bipush (-9), 2) := by decide +kernel
theorem dX6_find_32 : decode cX6_find 32 = .ok (.ireturn, 1) := by decide +kernel
theorem dX6_find_33 : decode cX6_find 33 = .ok (.iload_n 2, 1) := by decide +kernel
theorem dX6_find_34 : decode cX6_find 34 = .ok (.ifCond .ne 10, 3) := by decide +kernel
theorem dX6_find_37 : decode cX6_find 37 = .ok (.iload_n 3, 1) := by decide +kernel
theorem dX6_find_38 : decode cX6_find 38 = .ok (.bipush 8, 2) := by decide +kernel
theorem dX6_find_40 : decode cX6_find 40 = .ok (.idiv, 1) := by decide +kernel
theorem dX6_find_41 : decode cX6_find 41 = .ok (.goto 7, 3) := by decide +kernel
theorem dX6_find_44 : decode cX6_find 44 = .ok (.iload_n 3, 1) := by decide +kernel
theorem dX6_find_45 : decode cX6_find 45 = .ok (.bipush 8, 2) := by decide +kernel
theorem dX6_find_47 : decode cX6_find 47 = .ok (.irem, 1) := by decide +kernel
theorem dX6_find_48 : decode cX6_find 48 = .ok (.ireturn, 1) := by decide +kernel
theorem dX6_mean_0 : decode cX6_mean 0 = .ok (.aload_n 0, 1) := by decide +kernel
theorem dX6_mean_1 : decode cX6_mean 1 = .ok (.getfield 10, 3) := by decide +kernel
theorem dX6_mean_4 : decode cX6_mean 4 = .ok (.getfield 176, 3) := by decide +kernel
theorem dX6_mean_7 : decode cX6_mean 7 = .ok (.ifCond .ne 7, 3) := by decide +kernel
theorem dX6_mean_10 : decode cX6_mean 10 = .ok (.fconst 0, 1) := by decide +kernel
theorem dX6_mean_11 : decode cX6_mean 11 = .ok (.goto 20, 3) := by decide +kernel
theorem dX6_mean_14 : decode cX6_mean 14 = .ok (.aload_n 0, 1) := by decide +kernel
theorem dX6_mean_15 : decode cX6_mean 15 = .ok (.getfield 10, 3) := by decide +kernel
theorem dX6_mean_18 : decode cX6_mean 18 = .ok (.getfield 177, 3) := by decide +kernel
theorem dX6_mean_21 : decode cX6_mean 21 = .ok (.i2f, 1) := by decide +kernel
theorem dX6_mean_22 : decode cX6_mean 22 = .ok (.aload_n 0, 1) := by decide +kernel
theorem dX6_mean_23 : decode cX6_mean 23 = .ok (.getfield 10, 3) := by decide +kernel
theorem dX6_mean_26 : decode cX6_mean 26 = .ok (.getfield 176, 3) := by decide +kernel
theorem dX6_mean_29 : decode cX6_mean 29 = .ok (.i2f, 1) := by decide +kernel
theorem dX6_mean_30 : decode cX6_mean 30 = .ok (.fdiv, 1) := by decide +kernel
theorem dX6_mean_31 : decode cX6_mean 31 = .ok (.freturn, 1) := by decide +kernel
theorem dX6_cost_0 : decode cX6_cost 0 = .ok (.aload_n 0, 1) := by decide +kernel
theorem dX6_cost_1 : decode cX6_cost 1 = .ok (.getfield 10, 3) := by decide +kernel
theorem dX6_cost_4 : decode cX6_cost 4 = .ok (.iload_n 1, 1) := by decide +kernel
theorem dX6_cost_5 : decode cX6_cost 5 = .ok (.iload_n 2, 1) := by decide +kernel
theorem dX6_cost_6 : decode cX6_cost 6 = .ok (.iload_n 3, 1) := by decide +kernel
theorem dX6_cost_7 : decode cX6_cost 7 = .ok (.invokevirtual 110, 3) := by decide +kernel
theorem dX6_cost_10 : decode cX6_cost 10 = .ok (.ireturn, 1) := by decide +kernel
theorem dX6_cheapest_0 : decode cX6_cheapest 0 = .ok (.iload_n 1, 1) := by decide +kernel
theorem dX6_cheapest_1 : decode cX6_cheapest 1 = .ok (.iconst 0, 1) := by decide +kernel
theorem dX6_cheapest_2 : decode cX6_cheapest 2 = .ok (.iconst 3, 1) := by decide +kernel
theorem dX6_cheapest_3 : decode cX6_cheapest 3 = .ok (.invokestatic 45, 3) := by decide +kernel
theorem dX6_cheapest_6 : decode cX6_cheapest 6 = .ok (.ifCond .eq 12, 3) := by decide +kernel
theorem dX6_cheapest_9 : decode cX6_cheapest 9 = .ok (.iload_n 2, 1) := by decide +kernel
theorem dX6_cheapest_10 : decode cX6_cheapest 10 = .ok (.iconst 0, 1) := by decide +kernel
theorem dX6_cheapest_11 : decode cX6_cheapest 11 = .ok (.iconst 4, 1) := by decide +kernel
theorem dX6_cheapest_12 : decode cX6_cheapest 12 = .ok (.invokestatic 45, 3) := by decide +kernel
theorem dX6_cheapest_15 : decode cX6_cheapest 15 = .ok (.ifCond .ne 5, 3) := by decide +kernel
theorem dX6_cheapest_18 : decode cX6_cheapest 18 = .ok (.iconst (-1), 1) := by decide +kernel
theorem dX6_cheapest_19 : decode cX6_cheapest 19 = .ok (.ireturn, 1) := by decide +kernel
theorem dX6_cheapest_20 : decode cX6_cheapest 20 = .ok (.aload_n 0, 1) := by decide +kernel
theorem dX6_cheapest_21 : decode cX6_cheapest 21 = .ok (.getfield 37, 3) := by decide +kernel
theorem dX6_cheapest_24 : decode cX6_cheapest 24 = .ok (.aload_n 0, 1) := by decide +kernel
theorem dX6_cheapest_25 : decode cX6_cheapest 25 = .ok (.getfield 10, 3) := by decide +kernel
theorem dX6_cheapest_28 : decode cX6_cheapest 28 = .ok (.iload_n 1, 1) := by decide +kernel
theorem dX6_cheapest_29 : decode cX6_cheapest 29 = .ok (.invokevirtual 129, 3) := by decide +kernel
theorem dX6_cheapest_32 : decode cX6_cheapest 32 = .ok (.ifCond .ne 6, 3) := by decide +kernel
theorem dX6_cheapest_35 : decode cX6_cheapest 35 = .ok (.bipush (-9), 2) := by decide +kernel
theorem dX6_cheapest_37 : decode cX6_cheapest 37 = .ok (.ireturn, 1) := by decide +kernel
theorem dX6_cheapest_38 : decode cX6_cheapest 38 = .ok (.aload_n 0, 1) := by decide +kernel
theorem dX6_cheapest_39 : decode cX6_cheapest 39 = .ok (.getfield 37, 3) := by decide +kernel
theorem dX6_cheapest_42 : decode cX6_cheapest 42 = .ok (.getfield 133, 3) := by decide +kernel
theorem dX6_cheapest_45 : decode cX6_cheapest 45 = .ok (.astore_n 3, 1) := by decide +kernel
theorem dX6_cheapest_46 : decode cX6_cheapest 46 = .ok (.iload_n 2, 1) := by decide +kernel
theorem dX6_cheapest_47 : decode cX6_cheapest 47 = .ok (.iconst 2, 1) := by decide +kernel
theorem dX6_cheapest_48 : decode cX6_cheapest 48 = .ok (.if_icmp .lt 13, 3) := by decide +kernel
theorem dX6_cheapest_51 : decode cX6_cheapest 51 = .ok (.aload_n 3, 1) := by decide +kernel
theorem dX6_cheapest_52 : decode cX6_cheapest 52 = .ok (.getfield 137, 3) := by decide +kernel
theorem dX6_cheapest_55 : decode cX6_cheapest 55 = .ok (.ifCond .ne 6, 3) := by decide +kernel
theorem dX6_cheapest_58 : decode cX6_cheapest 58 = .ok (.bipush (-9), 2) := by decide +kernel
theorem dX6_cheapest_60 : decode cX6_cheapest 60 = .ok (.ireturn, 1) := by decide +kernel
theorem dX6_cheapest_61 : decode cX6_cheapest 61 = .ok (.iload_n 2, 1) := by decide +kernel
theorem dX6_cheapest_62 : decode cX6_cheapest 62 = .ok (.tableswitch 54 0 3 #[30, 35, 40, 47], 30) := by decide +kernel
theorem dX6_cheapest_92 : decode cX6_cheapest 92 = .ok (.aload_n 3, 1) := by decide +kernel
theorem dX6_cheapest_93 : decode cX6_cheapest 93 = .ok (.getfield 220, 3) := by decide +kernel
theorem dX6_cheapest_96 : decode cX6_cheapest 96 = .ok (.ireturn, 1) := by decide +kernel
theorem dX6_cheapest_97 : decode cX6_cheapest 97 = .ok (.aload_n 3, 1) := by decide +kernel
theorem dX6_cheapest_98 : decode cX6_cheapest 98 = .ok (.getfield 137, 3) := by decide +kernel
theorem dX6_cheapest_101 : decode cX6_cheapest 101 = .ok (.ireturn, 1) := by decide +kernel
theorem dX6_cheapest_102 : decode cX6_cheapest 102 = .ok (.aload_n 3, 1) := by decide +kernel
theorem dX6_cheapest_103 : decode cX6_cheapest 103 = .ok (.getfield 142, 3) := by decide +kernel
theorem dX6_cheapest_106 : decode cX6_cheapest 106 = .ok (.iconst 0, 1) := by decide +kernel
theorem dX6_cheapest_107 : decode cX6_cheapest 107 = .ok (.iaload, 1) := by decide +kernel
theorem dX6_cheapest_108 : decode cX6_cheapest 108 = .ok (.ireturn, 1) := by decide +kernel
theorem dX6_cheapest_109 : decode cX6_cheapest 109 = .ok (.aload_n 3, 1) := by decide +kernel
theorem dX6_cheapest_110 : decode cX6_cheapest 110 = .ok (.getfield 145, 3) := by decide +kernel
theorem dX6_cheapest_113 : decode cX6_cheapest 113 = .ok (.iconst 0, 1) := by decide +kernel
theorem dX6_cheapest_114 : decode cX6_cheapest 114 = .ok (.iaload, 1) := by decide +kernel
theorem dX6_cheapest_115 : decode cX6_cheapest 115 = .ok (.ireturn, 1) := by decide +kernel
theorem dX6_cheapest_116 : decode cX6_cheapest 116 = .ok (.aload_n 3, 1) := by decide +kernel
theorem dX6_cheapest_117 : decode cX6_cheapest 117 = .ok (.getfield 148, 3) := by decide +kernel
theorem dX6_cheapest_120 : decode cX6_cheapest 120 = .ok (.iconst 0, 1) := by decide +kernel
theorem dX6_cheapest_121 : decode cX6_cheapest 121 = .ok (.iaload, 1) := by decide +kernel
theorem dX6_cheapest_122 : decode cX6_cheapest 122 = .ok (.ireturn, 1) := by decide +kernel
theorem dX6_keep_0 : decode cX6_keep 0 = .ok (.iload_n 1, 1) := by decide +kernel
theorem dX6_keep_1 : decode cX6_keep 1 = .ok (.iconst 0, 1) := by decide +kernel
theorem dX6_keep_2 : decode cX6_keep 2 = .ok (.iconst 1, 1) := by decide +kernel
theorem dX6_keep_3 : decode cX6_keep 3 = .ok (.invokestatic 45, 3) := by decide +kernel
theorem dX6_keep_6 : decode cX6_keep 6 = .ok (.ifCond .ne 5, 3) := by decide +kernel
theorem dX6_keep_9 : decode cX6_keep 9 = .ok (.iconst (-1), 1) := by decide +kernel
theorem dX6_keep_10 : decode cX6_keep 10 = .ok (.ireturn, 1) := by decide +kernel
theorem dX6_keep_11 : decode cX6_keep 11 = .ok (.aload_n 0, 1) := by decide +kernel
theorem dX6_keep_12 : decode cX6_keep 12 = .ok (.getfield 23, 3) := by decide +kernel
theorem dX6_keep_15 : decode cX6_keep 15 = .ok (.iload_n 1, 1) := by decide +kernel
theorem dX6_keep_16 : decode cX6_keep 16 = .ok (.aaload, 1) := by decide +kernel
theorem dX6_keep_17 : decode cX6_keep 17 = .ok (.ifnonnull 16, 3) := by decide +kernel
theorem dX6_keep_20 : decode cX6_keep 20 = .ok (.aload_n 0, 1) := by decide +kernel
theorem dX6_keep_21 : decode cX6_keep 21 = .ok (.getfield 23, 3) := by decide +kernel
theorem dX6_keep_24 : decode cX6_keep 24 = .ok (.iload_n 1, 1) := by decide +kernel
theorem dX6_keep_25 : decode cX6_keep 25 = .ok (.new 7, 3) := by decide +kernel
theorem dX6_keep_28 : decode cX6_keep 28 = .ok (.dup, 1) := by decide +kernel
theorem dX6_keep_29 : decode cX6_keep 29 = .ok (.invokespecial 9, 3) := by decide +kernel
theorem dX6_keep_32 : decode cX6_keep 32 = .ok (.aastore, 1) := by decide +kernel
theorem dX6_keep_33 : decode cX6_keep 33 = .ok (.aload_n 0, 1) := by decide +kernel
theorem dX6_keep_34 : decode cX6_keep 34 = .ok (.getfield 23, 3) := by decide +kernel
theorem dX6_keep_37 : decode cX6_keep 37 = .ok (.iload_n 1, 1) := by decide +kernel
theorem dX6_keep_38 : decode cX6_keep 38 = .ok (.aaload, 1) := by decide +kernel
theorem dX6_keep_39 : decode cX6_keep 39 = .ok (.aload_n 0, 1) := by decide +kernel
theorem dX6_keep_40 : decode cX6_keep 40 = .ok (.getfield 10, 3) := by decide +kernel
theorem dX6_keep_43 : decode cX6_keep 43 = .ok (.invokevirtual 223, 3) := by decide +kernel
theorem dX6_keep_46 : decode cX6_keep 46 = .ok (.aload_n 0, 1) := by decide +kernel
theorem dX6_keep_47 : decode cX6_keep 47 = .ok (.getfield 10, 3) := by decide +kernel
theorem dX6_keep_50 : decode cX6_keep 50 = .ok (.invokevirtual 49, 3) := by decide +kernel
theorem dX6_keep_53 : decode cX6_keep 53 = .ok (.ireturn, 1) := by decide +kernel
theorem dX6_back_0 : decode cX6_back 0 = .ok (.iload_n 1, 1) := by decide +kernel
theorem dX6_back_1 : decode cX6_back 1 = .ok (.iconst 0, 1) := by decide +kernel
theorem dX6_back_2 : decode cX6_back 2 = .ok (.iconst 1, 1) := by decide +kernel
theorem dX6_back_3 : decode cX6_back 3 = .ok (.invokestatic 45, 3) := by decide +kernel
theorem dX6_back_6 : decode cX6_back 6 = .ok (.ifCond .ne 5, 3) := by decide +kernel
theorem dX6_back_9 : decode cX6_back 9 = .ok (.iconst (-1), 1) := by decide +kernel
theorem dX6_back_10 : decode cX6_back 10 = .ok (.ireturn, 1) := by decide +kernel
theorem dX6_back_11 : decode cX6_back 11 = .ok (.aload_n 0, 1) := by decide +kernel
theorem dX6_back_12 : decode cX6_back 12 = .ok (.getfield 23, 3) := by decide +kernel
theorem dX6_back_15 : decode cX6_back 15 = .ok (.iload_n 1, 1) := by decide +kernel
theorem dX6_back_16 : decode cX6_back 16 = .ok (.aaload, 1) := by decide +kernel
theorem dX6_back_17 : decode cX6_back 17 = .ok (.ifnonnull 6, 3) := by decide +kernel
theorem dX6_back_20 : decode cX6_back 20 = .ok (.bipush (-2), 2) := by decide +kernel
theorem dX6_back_22 : decode cX6_back 22 = .ok (.ireturn, 1) := by decide +kernel
theorem dX6_back_23 : decode cX6_back 23 = .ok (.aload_n 0, 1) := by decide +kernel
theorem dX6_back_24 : decode cX6_back 24 = .ok (.getfield 19, 3) := by decide +kernel
theorem dX6_back_27 : decode cX6_back 27 = .ok (.aload_n 0, 1) := by decide +kernel
theorem dX6_back_28 : decode cX6_back 28 = .ok (.getfield 10, 3) := by decide +kernel
theorem dX6_back_31 : decode cX6_back 31 = .ok (.invokevirtual 53, 3) := by decide +kernel
theorem dX6_back_34 : decode cX6_back 34 = .ok (.aload_n 0, 1) := by decide +kernel
theorem dX6_back_35 : decode cX6_back 35 = .ok (.getfield 10, 3) := by decide +kernel
theorem dX6_back_38 : decode cX6_back 38 = .ok (.aload_n 0, 1) := by decide +kernel
theorem dX6_back_39 : decode cX6_back 39 = .ok (.getfield 23, 3) := by decide +kernel
theorem dX6_back_42 : decode cX6_back 42 = .ok (.iload_n 1, 1) := by decide +kernel
theorem dX6_back_43 : decode cX6_back 43 = .ok (.aaload, 1) := by decide +kernel
theorem dX6_back_44 : decode cX6_back 44 = .ok (.invokevirtual 223, 3) := by decide +kernel
theorem dX6_back_47 : decode cX6_back 47 = .ok (.aload_n 0, 1) := by decide +kernel
theorem dX6_back_48 : decode cX6_back 48 = .ok (.getfield 10, 3) := by decide +kernel
theorem dX6_back_51 : decode cX6_back 51 = .ok (.invokevirtual 49, 3) := by decide +kernel
theorem dX6_back_54 : decode cX6_back 54 = .ok (.ireturn, 1) := by decide +kernel
theorem dX6_within_0 : decode cX6_within 0 = .ok (.iload_n 0, 1) := by decide +kernel
theorem dX6_within_1 : decode cX6_within 1 = .ok (.iload_n 1, 1) := by decide +kernel
theorem dX6_within_2 : decode cX6_within 2 = .ok (.if_icmp .lt 12, 3) := by decide +kernel
theorem dX6_within_5 : decode cX6_within 5 = .ok (.iload_n 0, 1) := by decide +kernel
theorem dX6_within_6 : decode cX6_within 6 = .ok (.iload_n 2, 1) := by decide +kernel
theorem dX6_within_7 : decode cX6_within 7 = .ok (.if_icmp .gt 7, 3) := by decide +kernel
theorem dX6_within_10 : decode cX6_within 10 = .ok (.iconst 1, 1) := by decide +kernel
theorem dX6_within_11 : decode cX6_within 11 = .ok (.goto 4, 3) := by decide +kernel
theorem dX6_within_14 : decode cX6_within 14 = .ok (.iconst 0, 1) := by decide +kernel
theorem dX6_within_15 : decode cX6_within 15 = .ok (.ireturn, 1) := by decide +kernel
theorem dX6_isSetting_0 : decode cX6_isSetting 0 = .ok (.iload_n 0, 1) := by decide +kernel
theorem dX6_isSetting_1 : decode cX6_isSetting 1 = .ok (.iconst 0, 1) := by decide +kernel
theorem dX6_isSetting_2 : decode cX6_isSetting 2 = .ok (.iconst 3, 1) := by decide +kernel
theorem dX6_isSetting_3 : decode cX6_isSetting 3 = .ok (.invokestatic 45, 3) := by decide +kernel
theorem dX6_isSetting_6 : decode cX6_isSetting 6 = .ok (.ireturn, 1) := by decide +kernel
theorem dX6_leastOf_0 : decode cX6_leastOf 0 = .ok (.iload_n 0, 1) := by decide +kernel
theorem dX6_leastOf_1 : decode cX6_leastOf 1 = .ok (.lookupswitch 32 #[(1, 27), (2, 30)], 27) := by decide +kernel
theorem dX6_leastOf_28 : decode cX6_leastOf 28 = .ok (.bipush 10, 2) := by decide +kernel
theorem dX6_leastOf_30 : decode cX6_leastOf 30 = .ok (.ireturn, 1) := by decide +kernel
theorem dX6_leastOf_31 : decode cX6_leastOf 31 = .ok (.iconst 1, 1) := by decide +kernel
theorem dX6_leastOf_32 : decode cX6_leastOf 32 = .ok (.ireturn, 1) := by decide +kernel
theorem dX6_leastOf_33 : decode cX6_leastOf 33 = .ok (.iconst 0, 1) := by decide +kernel
theorem dX6_leastOf_34 : decode cX6_leastOf 34 = .ok (.ireturn, 1) := by decide +kernel
theorem dX6_greatestOf_0 : decode cX6_greatestOf 0 = .ok (.iload_n 0, 1) := by decide +kernel
theorem dX6_greatestOf_1 : decode cX6_greatestOf 1 = .ok (.tableswitch 36 0 2 #[27, 29, 33], 27) := by decide +kernel
theorem dX6_greatestOf_28 : decode cX6_greatestOf 28 = .ok (.iconst 3, 1) := by decide +kernel
theorem dX6_greatestOf_29 : decode cX6_greatestOf 29 = .ok (.ireturn, 1) := by decide +kernel
theorem dX6_greatestOf_30 : decode cX6_greatestOf 30 = .ok (.sipush 600, 3) := by decide +kernel
theorem dX6_greatestOf_33 : decode cX6_greatestOf 33 = .ok (.ireturn, 1) := by decide +kernel
theorem dX6_greatestOf_34 : decode cX6_greatestOf 34 = .ok (.bipush 20, 2) := by decide +kernel
theorem dX6_greatestOf_36 : decode cX6_greatestOf 36 = .ok (.ireturn, 1) := by decide +kernel
theorem dX6_greatestOf_37 : decode cX6_greatestOf 37 = .ok (.bipush 30, 2) := by decide +kernel
theorem dX6_greatestOf_39 : decode cX6_greatestOf 39 = .ok (.ireturn, 1) := by decide +kernel
theorem dX6_wagonOf_0 : decode cX6_wagonOf 0 = .ok (.iload_n 0, 1) := by decide +kernel
theorem dX6_wagonOf_1 : decode cX6_wagonOf 1 = .ok (.bipush 6, 2) := by decide +kernel
theorem dX6_wagonOf_3 : decode cX6_wagonOf 3 = .ok (.imul, 1) := by decide +kernel
theorem dX6_wagonOf_4 : decode cX6_wagonOf 4 = .ok (.iload_n 1, 1) := by decide +kernel
theorem dX6_wagonOf_5 : decode cX6_wagonOf 5 = .ok (.iadd, 1) := by decide +kernel
theorem dX6_wagonOf_6 : decode cX6_wagonOf 6 = .ok (.iconst 3, 1) := by decide +kernel
theorem dX6_wagonOf_7 : decode cX6_wagonOf 7 = .ok (.imul, 1) := by decide +kernel
theorem dX6_wagonOf_8 : decode cX6_wagonOf 8 = .ok (.iload_n 2, 1) := by decide +kernel
theorem dX6_wagonOf_9 : decode cX6_wagonOf 9 = .ok (.iadd, 1) := by decide +kernel
theorem dX6_wagonOf_10 : decode cX6_wagonOf 10 = .ok (.ireturn, 1) := by decide +kernel
theorem dX6_numberOf_0 : decode cX6_numberOf 0 = .ok (.iload_n 0, 1) := by decide +kernel
theorem dX6_numberOf_1 : decode cX6_numberOf 1 = .ok (.bipush 18, 2) := by decide +kernel
theorem dX6_numberOf_3 : decode cX6_numberOf 3 = .ok (.idiv, 1) := by decide +kernel
theorem dX6_numberOf_4 : decode cX6_numberOf 4 = .ok (.ireturn, 1) := by decide +kernel
theorem dX6_destinationOf_0 : decode cX6_destinationOf 0 = .ok (.iload_n 0, 1) := by decide +kernel
theorem dX6_destinationOf_1 : decode cX6_destinationOf 1 = .ok (.iconst 3, 1) := by decide +kernel
theorem dX6_destinationOf_2 : decode cX6_destinationOf 2 = .ok (.idiv, 1) := by decide +kernel
theorem dX6_destinationOf_3 : decode cX6_destinationOf 3 = .ok (.bipush 6, 2) := by decide +kernel
theorem dX6_destinationOf_5 : decode cX6_destinationOf 5 = .ok (.irem, 1) := by decide +kernel
theorem dX6_destinationOf_6 : decode cX6_destinationOf 6 = .ok (.ireturn, 1) := by decide +kernel
theorem dX6_kindOf_0 : decode cX6_kindOf 0 = .ok (.iload_n 0, 1) := by decide +kernel
theorem dX6_kindOf_1 : decode cX6_kindOf 1 = .ok (.iconst 3, 1) := by decide +kernel
theorem dX6_kindOf_2 : decode cX6_kindOf 2 = .ok (.irem, 1) := by decide +kernel
theorem dX6_kindOf_3 : decode cX6_kindOf 3 = .ok (.ireturn, 1) := by decide +kernel
theorem dX7_init_0 : decode cX7_init 0 = .ok (.aload_n 0, 1) := by decide +kernel
theorem dX7_init_1 : decode cX7_init 1 = .ok (.invokespecial 1, 3) := by decide +kernel
theorem dX7_init_4 : decode cX7_init 4 = .ok (.aload_n 0, 1) := by decide +kernel
theorem dX7_init_5 : decode cX7_init 5 = .ok (.sipush 131, 3) := by decide +kernel
theorem dX7_init_8 : decode cX7_init 8 = .ok (.newarray .int, 2) := by decide +kernel
theorem dX7_init_10 : decode cX7_init 10 = .ok (.putfield 7, 3) := by decide +kernel
theorem dX7_init_13 : decode cX7_init 13 = .ok (.aload_n 0, 1) := by decide +kernel
theorem dX7_init_14 : decode cX7_init 14 = .ok (.sipush 1048, 3) := by decide +kernel
theorem dX7_init_17 : decode cX7_init 17 = .ok (.newarray .int, 2) := by decide +kernel
theorem dX7_init_19 : decode cX7_init 19 = .ok (.putfield 13, 3) := by decide +kernel
theorem dX7_init_22 : decode cX7_init 22 = .ok (.aload_n 0, 1) := by decide +kernel
theorem dX7_init_23 : decode cX7_init 23 = .ok (.sipush 262, 3) := by decide +kernel
theorem dX7_init_26 : decode cX7_init 26 = .ok (.newarray .int, 2) := by decide +kernel
theorem dX7_init_28 : decode cX7_init 28 = .ok (.putfield 16, 3) := by decide +kernel
theorem dX7_init_31 : decode cX7_init 31 = .ok (.aload_n 0, 1) := by decide +kernel
theorem dX7_init_32 : decode cX7_init 32 = .ok (.bipush 60, 2) := by decide +kernel
theorem dX7_init_34 : decode cX7_init 34 = .ok (.newarray .int, 2) := by decide +kernel
theorem dX7_init_36 : decode cX7_init 36 = .ok (.putfield 19, 3) := by decide +kernel
theorem dX7_init_39 : decode cX7_init 39 = .ok (.aload_n 0, 1) := by decide +kernel
theorem dX7_init_40 : decode cX7_init 40 = .ok (.bipush (-9), 2) := by decide +kernel
theorem dX7_init_42 : decode cX7_init 42 = .ok (.putfield 22, 3) := by decide +kernel
theorem dX7_init_45 : decode cX7_init 45 = .ok (.aload_n 0, 1) := by decide +kernel
theorem dX7_init_46 : decode cX7_init 46 = .ok (.bipush (-9), 2) := by decide +kernel
theorem dX7_init_48 : decode cX7_init 48 = .ok (.putfield 26, 3) := by decide +kernel
theorem dX7_init_51 : decode cX7_init 51 = .ok (.aload_n 0, 1) := by decide +kernel
theorem dX7_init_52 : decode cX7_init 52 = .ok (.bipush (-9), 2) := by decide +kernel
theorem dX7_init_54 : decode cX7_init 54 = .ok (.putfield 29, 3) := by decide +kernel
theorem dX7_init_57 : decode cX7_init 57 = .ok (.aload_n 0, 1) := by decide +kernel
theorem dX7_init_58 : decode cX7_init 58 = .ok (.bipush 24, 2) := by decide +kernel
theorem dX7_init_60 : decode cX7_init 60 = .ok (.newarray .int, 2) := by decide +kernel
theorem dX7_init_62 : decode cX7_init 62 = .ok (.putfield 32, 3) := by decide +kernel
theorem dX7_init_65 : decode cX7_init 65 = .ok (.aload_n 0, 1) := by decide +kernel
theorem dX7_init_66 : decode cX7_init 66 = .ok (.bipush 8, 2) := by decide +kernel
theorem dX7_init_68 : decode cX7_init 68 = .ok (.newarray .int, 2) := by decide +kernel
theorem dX7_init_70 : decode cX7_init 70 = .ok (.putfield 35, 3) := by decide +kernel
theorem dX7_init_73 : decode cX7_init 73 = .ok (.aload_n 0, 1) := by decide +kernel
theorem dX7_init_74 : decode cX7_init 74 = .ok (.bipush 8, 2) := by decide +kernel
theorem dX7_init_76 : decode cX7_init 76 = .ok (.newarray .int, 2) := by decide +kernel
theorem dX7_init_78 : decode cX7_init 78 = .ok (.putfield 38, 3) := by decide +kernel
theorem dX7_init_81 : decode cX7_init 81 = .ok (.aload_n 0, 1) := by decide +kernel
theorem dX7_init_82 : decode cX7_init 82 = .ok (.bipush 10, 2) := by decide +kernel
theorem dX7_init_84 : decode cX7_init 84 = .ok (.newarray .int, 2) := by decide +kernel
theorem dX7_init_86 : decode cX7_init 86 = .ok (.putfield 41, 3) := by decide +kernel
theorem dX7_init_89 : decode cX7_init 89 = .ok (.aload_n 0, 1) := by decide +kernel
theorem dX7_init_90 : decode cX7_init 90 = .ok (.sipush 524, 3) := by decide +kernel
theorem dX7_init_93 : decode cX7_init 93 = .ok (.newarray .int, 2) := by decide +kernel
theorem dX7_init_95 : decode cX7_init 95 = .ok (.putfield 44, 3) := by decide +kernel
theorem dX7_init_98 : decode cX7_init 98 = .ok (.aload_n 0, 1) := by decide +kernel
theorem dX7_init_99 : decode cX7_init 99 = .ok (.bipush 9, 2) := by decide +kernel
theorem dX7_init_101 : decode cX7_init 101 = .ok (.newarray .int, 2) := by decide +kernel
theorem dX7_init_103 : decode cX7_init 103 = .ok (.putfield 47, 3) := by decide +kernel
theorem dX7_init_106 : decode cX7_init 106 = .ok (.aload_n 0, 1) := by decide +kernel
theorem dX7_init_107 : decode cX7_init 107 = .ok (.bipush 9, 2) := by decide +kernel
theorem dX7_init_109 : decode cX7_init 109 = .ok (.newarray .int, 2) := by decide +kernel
theorem dX7_init_111 : decode cX7_init 111 = .ok (.putfield 50, 3) := by decide +kernel
theorem dX7_init_114 : decode cX7_init 114 = .ok (.aload_n 0, 1) := by decide +kernel
theorem dX7_init_115 : decode cX7_init 115 = .ok (.iconst 4, 1) := by decide +kernel
theorem dX7_init_116 : decode cX7_init 116 = .ok (.newarray .int, 2) := by decide +kernel
theorem dX7_init_118 : decode cX7_init 118 = .ok (.putfield 53, 3) := by decide +kernel
theorem dX7_init_121 : decode cX7_init 121 = .ok (.aload_n 0, 1) := by decide +kernel
theorem dX7_init_122 : decode cX7_init 122 = .ok (.getfield 7, 3) := by decide +kernel
theorem dX7_init_125 : decode cX7_init 125 = .ok (.iconst 0, 1) := by decide +kernel
theorem dX7_init_126 : decode cX7_init 126 = .ok (.iconst 1, 1) := by decide +kernel
theorem dX7_init_127 : decode cX7_init 127 = .ok (.iastore, 1) := by decide +kernel
theorem dX7_init_128 : decode cX7_init 128 = .ok (.aload_n 0, 1) := by decide +kernel
theorem dX7_init_129 : decode cX7_init 129 = .ok (.getfield 7, 3) := by decide +kernel
theorem dX7_init_132 : decode cX7_init 132 = .ok (.iconst 1, 1) := by decide +kernel
theorem dX7_init_133 : decode cX7_init 133 = .ok (.bipush 120, 2) := by decide +kernel
theorem dX7_init_135 : decode cX7_init 135 = .ok (.iastore, 1) := by decide +kernel
theorem dX7_init_136 : decode cX7_init 136 = .ok (.aload_n 0, 1) := by decide +kernel
theorem dX7_init_137 : decode cX7_init 137 = .ok (.getfield 7, 3) := by decide +kernel
theorem dX7_init_140 : decode cX7_init 140 = .ok (.iconst 2, 1) := by decide +kernel
theorem dX7_init_141 : decode cX7_init 141 = .ok (.iconst 4, 1) := by decide +kernel
theorem dX7_init_142 : decode cX7_init 142 = .ok (.iastore, 1) := by decide +kernel
theorem dX7_init_143 : decode cX7_init 143 = .ok (.aload_n 0, 1) := by decide +kernel
theorem dX7_init_144 : decode cX7_init 144 = .ok (.getfield 7, 3) := by decide +kernel
theorem dX7_init_147 : decode cX7_init 147 = .ok (.iconst 3, 1) := by decide +kernel
theorem dX7_init_148 : decode cX7_init 148 = .ok (.iconst 5, 1) := by decide +kernel
theorem dX7_init_149 : decode cX7_init 149 = .ok (.iastore, 1) := by decide +kernel
theorem dX7_init_150 : decode cX7_init 150 = .ok (.aload_n 0, 1) := by decide +kernel
theorem dX7_init_151 : decode cX7_init 151 = .ok (.getfield 7, 3) := by decide +kernel
theorem dX7_init_154 : decode cX7_init 154 = .ok (.iconst 4, 1) := by decide +kernel
theorem dX7_init_155 : decode cX7_init 155 = .ok (.iconst 3, 1) := by decide +kernel
theorem dX7_init_156 : decode cX7_init 156 = .ok (.iastore, 1) := by decide +kernel
theorem dX7_init_157 : decode cX7_init 157 = .ok (.aload_n 0, 1) := by decide +kernel
theorem dX7_init_158 : decode cX7_init 158 = .ok (.getfield 7, 3) := by decide +kernel
theorem dX7_init_161 : decode cX7_init 161 = .ok (.iconst 5, 1) := by decide +kernel
theorem dX7_init_162 : decode cX7_init 162 = .ok (.bipush 6, 2) := by decide +kernel
theorem dX7_init_164 : decode cX7_init 164 = .ok (.iastore, 1) := by decide +kernel
theorem dX7_init_165 : decode cX7_init 165 = .ok (.return_, 1) := by decide +kernel
theorem dX7_isIn_0 : decode cX7_isIn 0 = .ok (.iload_n 0, 1) := by decide +kernel
theorem dX7_isIn_1 : decode cX7_isIn 1 = .ok (.iload_n 1, 1) := by decide +kernel
theorem dX7_isIn_2 : decode cX7_isIn 2 = .ok (.if_icmp .lt 12, 3) := by decide +kernel
theorem dX7_isIn_5 : decode cX7_isIn 5 = .ok (.iload_n 0, 1) := by decide +kernel
theorem dX7_isIn_6 : decode cX7_isIn 6 = .ok (.iload_n 2, 1) := by decide +kernel
theorem dX7_isIn_7 : decode cX7_isIn 7 = .ok (.if_icmp .gt 7, 3) := by decide +kernel
theorem dX7_isIn_10 : decode cX7_isIn 10 = .ok (.iconst 1, 1) := by decide +kernel
theorem dX7_isIn_11 : decode cX7_isIn 11 = .ok (.goto 4, 3) := by decide +kernel
theorem dX7_isIn_14 : decode cX7_isIn 14 = .ok (.iconst 0, 1) := by decide +kernel
theorem dX7_isIn_15 : decode cX7_isIn 15 = .ok (.ireturn, 1) := by decide +kernel
theorem dX7_remember_0 : decode cX7_remember 0 = .ok (.aload_n 0, 1) := by decide +kernel
theorem dX7_remember_1 : decode cX7_remember 1 = .ok (.getfield 56, 3) := by decide +kernel
theorem dX7_remember_4 : decode cX7_remember 4 = .ok (.bipush 8, 2) := by decide +kernel
theorem dX7_remember_6 : decode cX7_remember 6 = .ok (.if_icmp .ne 44, 3) := by decide +kernel
theorem dX7_remember_9 : decode cX7_remember 9 = .ok (.iconst 0, 1) := by decide +kernel
theorem dX7_remember_10 : decode cX7_remember 10 = .ok (.istore_n 1, 1) := by decide +kernel
theorem dX7_remember_11 : decode cX7_remember 11 = .ok (.iload_n 1, 1) := by decide +kernel
theorem dX7_remember_12 : decode cX7_remember 12 = .ok (.sipush 917, 3) := by decide +kernel
theorem dX7_remember_15 : decode cX7_remember 15 = .ok (.if_icmp .ge 25, 3) := by decide +kernel
theorem dX7_remember_18 : decode cX7_remember 18 = .ok (.aload_n 0, 1) := by decide +kernel
theorem dX7_remember_19 : decode cX7_remember 19 = .ok (.getfield 13, 3) := by decide +kernel
theorem dX7_remember_22 : decode cX7_remember 22 = .ok (.iload_n 1, 1) := by decide +kernel
theorem dX7_remember_23 : decode cX7_remember 23 = .ok (.aload_n 0, 1) := by decide +kernel
theorem dX7_remember_24 : decode cX7_remember 24 = .ok (.getfield 13, 3) := by decide +kernel
theorem dX7_remember_27 : decode cX7_remember 27 = .ok (.iload_n 1, 1) := by decide +kernel
theorem dX7_remember_28 : decode cX7_remember 28 = .ok (.sipush 131, 3) := by decide +kernel
theorem dX7_remember_31 : decode cX7_remember 31 = .ok (.iadd, 1) := by decide +kernel
theorem dX7_remember_32 : decode cX7_remember 32 = .ok (.iaload, 1) := by decide +kernel
theorem dX7_remember_33 : decode cX7_remember 33 = .ok (.iastore, 1) := by decide +kernel
theorem dX7_remember_34 : decode cX7_remember 34 = .ok (.iinc 1 1, 3) := by decide +kernel
theorem dX7_remember_37 : decode cX7_remember 37 = .ok (.goto (-26), 3) := by decide +kernel
theorem dX7_remember_40 : decode cX7_remember 40 = .ok (.aload_n 0, 1) := by decide +kernel
theorem dX7_remember_41 : decode cX7_remember 41 = .ok (.dup, 1) := by decide +kernel
theorem dX7_remember_42 : decode cX7_remember 42 = .ok (.getfield 56, 3) := by decide +kernel
theorem dX7_remember_45 : decode cX7_remember 45 = .ok (.iconst 1, 1) := by decide +kernel
theorem dX7_remember_46 : decode cX7_remember 46 = .ok (.isub, 1) := by decide +kernel
theorem dX7_remember_47 : decode cX7_remember 47 = .ok (.putfield 56, 3) := by decide +kernel
theorem dX7_remember_50 : decode cX7_remember 50 = .ok (.iconst 0, 1) := by decide +kernel
theorem dX7_remember_51 : decode cX7_remember 51 = .ok (.istore_n 1, 1) := by decide +kernel
theorem dX7_remember_52 : decode cX7_remember 52 = .ok (.iload_n 1, 1) := by decide +kernel
theorem dX7_remember_53 : decode cX7_remember 53 = .ok (.sipush 131, 3) := by decide +kernel
theorem dX7_remember_56 : decode cX7_remember 56 = .ok (.if_icmp .ge 30, 3) := by decide +kernel
theorem dX7_remember_59 : decode cX7_remember 59 = .ok (.aload_n 0, 1) := by decide +kernel
theorem dX7_remember_60 : decode cX7_remember 60 = .ok (.getfield 13, 3) := by decide +kernel
theorem dX7_remember_63 : decode cX7_remember 63 = .ok (.sipush 131, 3) := by decide +kernel
theorem dX7_remember_66 : decode cX7_remember 66 = .ok (.aload_n 0, 1) := by decide +kernel
theorem dX7_remember_67 : decode cX7_remember 67 = .ok (.getfield 56, 3) := by decide +kernel
theorem dX7_remember_70 : decode cX7_remember 70 = .ok (.imul, 1) := by decide +kernel
theorem dX7_remember_71 : decode cX7_remember 71 = .ok (.iload_n 1, 1) := by decide +kernel
theorem dX7_remember_72 : decode cX7_remember 72 = .ok (.iadd, 1) := by decide +kernel
theorem dX7_remember_73 : decode cX7_remember 73 = .ok (.aload_n 0, 1) := by decide +kernel
theorem dX7_remember_74 : decode cX7_remember 74 = .ok (.getfield 7, 3) := by decide +kernel
theorem dX7_remember_77 : decode cX7_remember 77 = .ok (.iload_n 1, 1) := by decide +kernel
theorem dX7_remember_78 : decode cX7_remember 78 = .ok (.iaload, 1) := by decide +kernel
theorem dX7_remember_79 : decode cX7_remember 79 = .ok (.iastore, 1) := by decide +kernel
theorem dX7_remember_80 : decode cX7_remember 80 = .ok (.iinc 1 1, 3) := by decide +kernel
theorem dX7_remember_83 : decode cX7_remember 83 = .ok (.goto (-31), 3) := by decide +kernel
theorem dX7_remember_86 : decode cX7_remember 86 = .ok (.aload_n 0, 1) := by decide +kernel
theorem dX7_remember_87 : decode cX7_remember 87 = .ok (.dup, 1) := by decide +kernel
theorem dX7_remember_88 : decode cX7_remember 88 = .ok (.getfield 56, 3) := by decide +kernel
theorem dX7_remember_91 : decode cX7_remember 91 = .ok (.iconst 1, 1) := by decide +kernel
theorem dX7_remember_92 : decode cX7_remember 92 = .ok (.iadd, 1) := by decide +kernel
theorem dX7_remember_93 : decode cX7_remember 93 = .ok (.putfield 56, 3) := by decide +kernel
theorem dX7_remember_96 : decode cX7_remember 96 = .ok (.return_, 1) := by decide +kernel
theorem dX7_isTrack_0 : decode cX7_isTrack 0 = .ok (.iload_n 1, 1) := by decide +kernel
theorem dX7_isTrack_1 : decode cX7_isTrack 1 = .ok (.iconst 0, 1) := by decide +kernel
theorem dX7_isTrack_2 : decode cX7_isTrack 2 = .ok (.aload_n 0, 1) := by decide +kernel
theorem dX7_isTrack_3 : decode cX7_isTrack 3 = .ok (.getfield 7, 3) := by decide +kernel
theorem dX7_isTrack_6 : decode cX7_isTrack 6 = .ok (.iconst 4, 1) := by decide +kernel
theorem dX7_isTrack_7 : decode cX7_isTrack 7 = .ok (.iaload, 1) := by decide +kernel
theorem dX7_isTrack_8 : decode cX7_isTrack 8 = .ok (.iconst 1, 1) := by decide +kernel
theorem dX7_isTrack_9 : decode cX7_isTrack 9 = .ok (.isub, 1) := by decide +kernel
theorem dX7_isTrack_10 : decode cX7_isTrack 10 = .ok (.invokestatic 59, 3) := by decide +kernel
theorem dX7_isTrack_13 : decode cX7_isTrack 13 = .ok (.ireturn, 1) := by decide +kernel
theorem dX7_of_0 : decode cX7_of 0 = .ok (.aload_n 0, 1) := by decide +kernel
theorem dX7_of_1 : decode cX7_of 1 = .ok (.getfield 7, 3) := by decide +kernel
theorem dX7_of_4 : decode cX7_of 4 = .ok (.bipush 23, 2) := by decide +kernel
theorem dX7_of_6 : decode cX7_of 6 = .ok (.bipush 27, 2) := by decide +kernel
theorem dX7_of_8 : decode cX7_of 8 = .ok (.iload_n 1, 1) := by decide +kernel
theorem dX7_of_9 : decode cX7_of 9 = .ok (.imul, 1) := by decide +kernel
theorem dX7_of_10 : decode cX7_of 10 = .ok (.iadd, 1) := by decide +kernel
theorem dX7_of_11 : decode cX7_of 11 = .ok (.iload_n 2, 1) := by decide +kernel
theorem dX7_of_12 : decode cX7_of 12 = .ok (.iadd, 1) := by decide +kernel
theorem dX7_of_13 : decode cX7_of 13 = .ok (.iaload, 1) := by decide +kernel
theorem dX7_of_14 : decode cX7_of 14 = .ok (.ireturn, 1) := by decide +kernel
theorem dX7_put_0 : decode cX7_put 0 = .ok (.aload_n 0, 1) := by decide +kernel
theorem dX7_put_1 : decode cX7_put 1 = .ok (.getfield 7, 3) := by decide +kernel
theorem dX7_put_4 : decode cX7_put 4 = .ok (.bipush 23, 2) := by decide +kernel
theorem dX7_put_6 : decode cX7_put 6 = .ok (.bipush 27, 2) := by decide +kernel
theorem dX7_put_8 : decode cX7_put 8 = .ok (.iload_n 1, 1) := by decide +kernel
theorem dX7_put_9 : decode cX7_put 9 = .ok (.imul, 1) := by decide +kernel
theorem dX7_put_10 : decode cX7_put 10 = .ok (.iadd, 1) := by decide +kernel
theorem dX7_put_11 : decode cX7_put 11 = .ok (.iload_n 2, 1) := by decide +kernel
theorem dX7_put_12 : decode cX7_put 12 = .ok (.iadd, 1) := by decide +kernel
theorem dX7_put_13 : decode cX7_put 13 = .ok (.iload_n 3, 1) := by decide +kernel
theorem dX7_put_14 : decode cX7_put 14 = .ok (.iastore, 1) := by decide +kernel
theorem dX7_put_15 : decode cX7_put 15 = .ok (.return_, 1) := by decide +kernel
theorem dX7_destination_0 : decode cX7_destination 0 = .ok (.aload_n 0, 1) := by decide +kernel
theorem dX7_destination_1 : decode cX7_destination 1 = .ok (.iload_n 1, 1) := by decide +kernel
theorem dX7_destination_2 : decode cX7_destination 2 = .ok (.iconst 3, 1) := by decide +kernel
theorem dX7_destination_3 : decode cX7_destination 3 = .ok (.iconst 3, 1) := by decide +kernel
theorem dX7_destination_4 : decode cX7_destination 4 = .ok (.iload_n 2, 1) := by decide +kernel
theorem dX7_destination_5 : decode cX7_destination 5 = .ok (.imul, 1) := by decide +kernel
theorem dX7_destination_6 : decode cX7_destination 6 = .ok (.iadd, 1) := by decide +kernel
theorem dX7_destination_7 : decode cX7_destination 7 = .ok (.iconst 1, 1) := by decide +kernel
theorem dX7_destination_8 : decode cX7_destination 8 = .ok (.iadd, 1) := by decide +kernel
theorem dX7_destination_9 : decode cX7_destination 9 = .ok (.invokevirtual 63, 3) := by decide +kernel
theorem dX7_destination_12 : decode cX7_destination 12 = .ok (.ireturn, 1) := by decide +kernel
theorem dX7_kindAt_0 : decode cX7_kindAt 0 = .ok (.aload_n 0, 1) := by decide +kernel
theorem dX7_kindAt_1 : decode cX7_kindAt 1 = .ok (.iload_n 1, 1) := by decide +kernel
theorem dX7_kindAt_2 : decode cX7_kindAt 2 = .ok (.iconst 3, 1) := by decide +kernel
theorem dX7_kindAt_3 : decode cX7_kindAt 3 = .ok (.iconst 3, 1) := by decide +kernel
theorem dX7_kindAt_4 : decode cX7_kindAt 4 = .ok (.iload_n 2, 1) := by decide +kernel
theorem dX7_kindAt_5 : decode cX7_kindAt 5 = .ok (.imul, 1) := by decide +kernel
theorem dX7_kindAt_6 : decode cX7_kindAt 6 = .ok (.iadd, 1) := by decide +kernel
theorem dX7_kindAt_7 : decode cX7_kindAt 7 = .ok (.iconst 2, 1) := by decide +kernel
theorem dX7_kindAt_8 : decode cX7_kindAt 8 = .ok (.iadd, 1) := by decide +kernel
theorem dX7_kindAt_9 : decode cX7_kindAt 9 = .ok (.invokevirtual 63, 3) := by decide +kernel
theorem dX7_kindAt_12 : decode cX7_kindAt 12 = .ok (.ireturn, 1) := by decide +kernel
