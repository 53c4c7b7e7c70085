theorem dX7_wagons_0 : decode cX7_wagons 0 = .ok (.iconst 0, 1) := by decide +kernel
theorem dX7_wagons_1 : decode cX7_wagons 1 = .ok (.istore_n 1, 1) := by decide +kernel
theorem dX7_wagons_2 : decode cX7_wagons 2 = .ok (.iconst 0, 1) := by decide +kernel
theorem dX7_wagons_3 : decode cX7_wagons 3 = .ok (.istore_n 2, 1) := by decide +kernel
theorem dX7_wagons_4 : decode cX7_wagons 4 = .ok (.iload_n 2, 1) := by decide +kernel
theorem dX7_wagons_5 : decode cX7_wagons 5 = .ok (.aload_n 0, 1) := by decide +kernel
theorem dX7_wagons_6 : decode cX7_wagons 6 = .ok (.getfield 7, 3) := by decide +kernel
theorem dX7_wagons_9 : decode cX7_wagons 9 = .ok (.iconst 4, 1) := by decide +kernel
theorem dX7_wagons_10 : decode cX7_wagons 10 = .ok (.iaload, 1) := by decide +kernel
theorem dX7_wagons_11 : decode cX7_wagons 11 = .ok (.if_icmp .ge 18, 3) := by decide +kernel
theorem dX7_wagons_14 : decode cX7_wagons 14 = .ok (.iload_n 1, 1) := by decide +kernel
theorem dX7_wagons_15 : decode cX7_wagons 15 = .ok (.aload_n 0, 1) := by decide +kernel
theorem dX7_wagons_16 : decode cX7_wagons 16 = .ok (.iload_n 2, 1) := by decide +kernel
theorem dX7_wagons_17 : decode cX7_wagons 17 = .ok (.iconst 0, 1) := by decide +kernel
theorem dX7_wagons_18 : decode cX7_wagons 18 = .ok (.invokevirtual 63, 3) := by decide +kernel
theorem dX7_wagons_21 : decode cX7_wagons 21 = .ok (.iadd, 1) := by decide +kernel
theorem dX7_wagons_22 : decode cX7_wagons 22 = .ok (.istore_n 1, 1) := by decide +kernel
theorem dX7_wagons_23 : decode cX7_wagons 23 = .ok (.iinc 2 1, 3) := by decide +kernel
theorem dX7_wagons_26 : decode cX7_wagons 26 = .ok (.goto (-22), 3) := by decide +kernel
theorem dX7_wagons_29 : decode cX7_wagons 29 = .ok (.iload_n 1, 1) := by decide +kernel
theorem dX7_wagons_30 : decode cX7_wagons 30 = .ok (.ireturn, 1) := by decide +kernel
theorem dX7_beginRow_0 : decode cX7_beginRow 0 = .ok (.aload_n 0, 1) := by decide +kernel
theorem dX7_beginRow_1 : decode cX7_beginRow 1 = .ok (.iconst 0, 1) := by decide +kernel
theorem dX7_beginRow_2 : decode cX7_beginRow 2 = .ok (.putfield 67, 3) := by decide +kernel
theorem dX7_beginRow_5 : decode cX7_beginRow 5 = .ok (.iconst 0, 1) := by decide +kernel
theorem dX7_beginRow_6 : decode cX7_beginRow 6 = .ok (.istore_n 3, 1) := by decide +kernel
theorem dX7_beginRow_7 : decode cX7_beginRow 7 = .ok (.iload_n 3, 1) := by decide +kernel
theorem dX7_beginRow_8 : decode cX7_beginRow 8 = .ok (.iload_n 2, 1) := by decide +kernel
theorem dX7_beginRow_9 : decode cX7_beginRow 9 = .ok (.if_icmp .ge 19, 3) := by decide +kernel
theorem dX7_beginRow_12 : decode cX7_beginRow 12 = .ok (.aload_n 0, 1) := by decide +kernel
theorem dX7_beginRow_13 : decode cX7_beginRow 13 = .ok (.aload_n 0, 1) := by decide +kernel
theorem dX7_beginRow_14 : decode cX7_beginRow 14 = .ok (.iload_n 1, 1) := by decide +kernel
theorem dX7_beginRow_15 : decode cX7_beginRow 15 = .ok (.iload_n 3, 1) := by decide +kernel
theorem dX7_beginRow_16 : decode cX7_beginRow 16 = .ok (.invokevirtual 70, 3) := by decide +kernel
theorem dX7_beginRow_19 : decode cX7_beginRow 19 = .ok (.invokevirtual 73, 3) := by decide +kernel
theorem dX7_beginRow_22 : decode cX7_beginRow 22 = .ok (.iinc 3 1, 3) := by decide +kernel
theorem dX7_beginRow_25 : decode cX7_beginRow 25 = .ok (.goto (-18), 3) := by decide +kernel
theorem dX7_beginRow_28 : decode cX7_beginRow 28 = .ok (.return_, 1) := by decide +kernel
theorem dX7_appendKind_0 : decode cX7_appendKind 0 = .ok (.aload_n 0, 1) := by decide +kernel
theorem dX7_appendKind_1 : decode cX7_appendKind 1 = .ok (.getfield 32, 3) := by decide +kernel
theorem dX7_appendKind_4 : decode cX7_appendKind 4 = .ok (.aload_n 0, 1) := by decide +kernel
theorem dX7_appendKind_5 : decode cX7_appendKind 5 = .ok (.getfield 67, 3) := by decide +kernel
theorem dX7_appendKind_8 : decode cX7_appendKind 8 = .ok (.iload_n 1, 1) := by decide +kernel
theorem dX7_appendKind_9 : decode cX7_appendKind 9 = .ok (.iastore, 1) := by decide +kernel
theorem dX7_appendKind_10 : decode cX7_appendKind 10 = .ok (.aload_n 0, 1) := by decide +kernel
theorem dX7_appendKind_11 : decode cX7_appendKind 11 = .ok (.dup, 1) := by decide +kernel
theorem dX7_appendKind_12 : decode cX7_appendKind 12 = .ok (.getfield 67, 3) := by decide +kernel
theorem dX7_appendKind_15 : decode cX7_appendKind 15 = .ok (.iconst 1, 1) := by decide +kernel
theorem dX7_appendKind_16 : decode cX7_appendKind 16 = .ok (.iadd, 1) := by decide +kernel
theorem dX7_appendKind_17 : decode cX7_appendKind 17 = .ok (.putfield 67, 3) := by decide +kernel
theorem dX7_appendKind_20 : decode cX7_appendKind 20 = .ok (.return_, 1) := by decide +kernel
theorem dX7_leastGap_0 : decode cX7_leastGap 0 = .ok (.bipush (-9), 2) := by decide +kernel
theorem dX7_leastGap_2 : decode cX7_leastGap 2 = .ok (.istore_n 1, 1) := by decide +kernel
theorem dX7_leastGap_3 : decode cX7_leastGap 3 = .ok (.bipush (-9), 2) := by decide +kernel
theorem dX7_leastGap_5 : decode cX7_leastGap 5 = .ok (.istore_n 2, 1) := by decide +kernel
theorem dX7_leastGap_6 : decode cX7_leastGap 6 = .ok (.iconst 0, 1) := by decide +kernel
theorem dX7_leastGap_7 : decode cX7_leastGap 7 = .ok (.istore_n 3, 1) := by decide +kernel
theorem dX7_leastGap_8 : decode cX7_leastGap 8 = .ok (.iload_n 3, 1) := by decide +kernel
theorem dX7_leastGap_9 : decode cX7_leastGap 9 = .ok (.aload_n 0, 1) := by decide +kernel
theorem dX7_leastGap_10 : decode cX7_leastGap 10 = .ok (.getfield 67, 3) := by decide +kernel
theorem dX7_leastGap_13 : decode cX7_leastGap 13 = .ok (.if_icmp .ge 67, 3) := by decide +kernel
theorem dX7_leastGap_16 : decode cX7_leastGap 16 = .ok (.aload_n 0, 1) := by decide +kernel
theorem dX7_leastGap_17 : decode cX7_leastGap 17 = .ok (.getfield 32, 3) := by decide +kernel
theorem dX7_leastGap_20 : decode cX7_leastGap 20 = .ok (.iload_n 3, 1) := by decide +kernel
theorem dX7_leastGap_21 : decode cX7_leastGap 21 = .ok (.iaload, 1) := by decide +kernel
theorem dX7_leastGap_22 : decode cX7_leastGap 22 = .ok (.ifCond .eq 52, 3) := by decide +kernel
theorem dX7_leastGap_25 : decode cX7_leastGap 25 = .ok (.iload_n 2, 1) := by decide +kernel
theorem dX7_leastGap_26 : decode cX7_leastGap 26 = .ok (.bipush (-9), 2) := by decide +kernel
theorem dX7_leastGap_28 : decode cX7_leastGap 28 = .ok (.if_icmp .eq 44, 3) := by decide +kernel
theorem dX7_leastGap_31 : decode cX7_leastGap 31 = .ok (.aload_n 0, 1) := by decide +kernel
theorem dX7_leastGap_32 : decode cX7_leastGap 32 = .ok (.getfield 32, 3) := by decide +kernel
theorem dX7_leastGap_35 : decode cX7_leastGap 35 = .ok (.iload_n 2, 1) := by decide +kernel
theorem dX7_leastGap_36 : decode cX7_leastGap 36 = .ok (.iaload, 1) := by decide +kernel
theorem dX7_leastGap_37 : decode cX7_leastGap 37 = .ok (.aload_n 0, 1) := by decide +kernel
theorem dX7_leastGap_38 : decode cX7_leastGap 38 = .ok (.getfield 32, 3) := by decide +kernel
theorem dX7_leastGap_41 : decode cX7_leastGap 41 = .ok (.iload_n 3, 1) := by decide +kernel
theorem dX7_leastGap_42 : decode cX7_leastGap 42 = .ok (.iaload, 1) := by decide +kernel
theorem dX7_leastGap_43 : decode cX7_leastGap 43 = .ok (.if_icmp .eq 29, 3) := by decide +kernel
theorem dX7_leastGap_46 : decode cX7_leastGap 46 = .ok (.iload_n 3, 1) := by decide +kernel
theorem dX7_leastGap_47 : decode cX7_leastGap 47 = .ok (.iload_n 2, 1) := by decide +kernel
theorem dX7_leastGap_48 : decode cX7_leastGap 48 = .ok (.isub, 1) := by decide +kernel
theorem dX7_leastGap_49 : decode cX7_leastGap 49 = .ok (.iconst 1, 1) := by decide +kernel
theorem dX7_leastGap_50 : decode cX7_leastGap 50 = .ok (.isub, 1) := by decide +kernel
theorem dX7_leastGap_51 : decode cX7_leastGap 51 = .ok (.istore 4, 2) := by decide +kernel
theorem dX7_leastGap_53 : decode cX7_leastGap 53 = .ok (.iload_n 1, 1) := by decide +kernel
theorem dX7_leastGap_54 : decode cX7_leastGap 54 = .ok (.bipush (-9), 2) := by decide +kernel
theorem dX7_leastGap_56 : decode cX7_leastGap 56 = .ok (.if_icmp .eq 9, 3) := by decide +kernel
theorem dX7_leastGap_59 : decode cX7_leastGap 59 = .ok (.iload 4, 2) := by decide +kernel
theorem dX7_leastGap_61 : decode cX7_leastGap 61 = .ok (.iload_n 1, 1) := by decide +kernel
theorem dX7_leastGap_62 : decode cX7_leastGap 62 = .ok (.if_icmp .ge 8, 3) := by decide +kernel
theorem dX7_leastGap_65 : decode cX7_leastGap 65 = .ok (.iload 4, 2) := by decide +kernel
theorem dX7_leastGap_67 : decode cX7_leastGap 67 = .ok (.goto 4, 3) := by decide +kernel
theorem dX7_leastGap_70 : decode cX7_leastGap 70 = .ok (.iload_n 1, 1) := by decide +kernel
theorem dX7_leastGap_71 : decode cX7_leastGap 71 = .ok (.istore_n 1, 1) := by decide +kernel
theorem dX7_leastGap_72 : decode cX7_leastGap 72 = .ok (.iload_n 3, 1) := by decide +kernel
theorem dX7_leastGap_73 : decode cX7_leastGap 73 = .ok (.istore_n 2, 1) := by decide +kernel
theorem dX7_leastGap_74 : decode cX7_leastGap 74 = .ok (.iinc 3 1, 3) := by decide +kernel
theorem dX7_leastGap_77 : decode cX7_leastGap 77 = .ok (.goto (-69), 3) := by decide +kernel
theorem dX7_leastGap_80 : decode cX7_leastGap 80 = .ok (.iload_n 1, 1) := by decide +kernel
theorem dX7_leastGap_81 : decode cX7_leastGap 81 = .ok (.ireturn, 1) := by decide +kernel
theorem dX7_isSafeRow_0 : decode cX7_isSafeRow 0 = .ok (.aload_n 0, 1) := by decide +kernel
theorem dX7_isSafeRow_1 : decode cX7_isSafeRow 1 = .ok (.invokevirtual 77, 3) := by decide +kernel
theorem dX7_isSafeRow_4 : decode cX7_isSafeRow 4 = .ok (.istore_n 1, 1) := by decide +kernel
theorem dX7_isSafeRow_5 : decode cX7_isSafeRow 5 = .ok (.iload_n 1, 1) := by decide +kernel
theorem dX7_isSafeRow_6 : decode cX7_isSafeRow 6 = .ok (.bipush (-9), 2) := by decide +kernel
theorem dX7_isSafeRow_8 : decode cX7_isSafeRow 8 = .ok (.if_icmp .eq 13, 3) := by decide +kernel
theorem dX7_isSafeRow_11 : decode cX7_isSafeRow 11 = .ok (.iload_n 1, 1) := by decide +kernel
theorem dX7_isSafeRow_12 : decode cX7_isSafeRow 12 = .ok (.aload_n 0, 1) := by decide +kernel
theorem dX7_isSafeRow_13 : decode cX7_isSafeRow 13 = .ok (.getfield 7, 3) := by decide +kernel
theorem dX7_isSafeRow_16 : decode cX7_isSafeRow 16 = .ok (.iconst 0, 1) := by decide +kernel
theorem dX7_isSafeRow_17 : decode cX7_isSafeRow 17 = .ok (.iaload, 1) := by decide +kernel
theorem dX7_isSafeRow_18 : decode cX7_isSafeRow 18 = .ok (.if_icmp .lt 7, 3) := by decide +kernel
theorem dX7_isSafeRow_21 : decode cX7_isSafeRow 21 = .ok (.iconst 1, 1) := by decide +kernel
theorem dX7_isSafeRow_22 : decode cX7_isSafeRow 22 = .ok (.goto 4, 3) := by decide +kernel
theorem dX7_isSafeRow_25 : decode cX7_isSafeRow 25 = .ok (.iconst 0, 1) := by decide +kernel
theorem dX7_isSafeRow_26 : decode cX7_isSafeRow 26 = .ok (.ireturn, 1) := by decide +kernel
theorem dX7_isSafe_0 : decode cX7_isSafe 0 = .ok (.aload_n 0, 1) := by decide +kernel
theorem dX7_isSafe_1 : decode cX7_isSafe 1 = .ok (.iload_n 1, 1) := by decide +kernel
theorem dX7_isSafe_2 : decode cX7_isSafe 2 = .ok (.aload_n 0, 1) := by decide +kernel
theorem dX7_isSafe_3 : decode cX7_isSafe 3 = .ok (.iload_n 1, 1) := by decide +kernel
theorem dX7_isSafe_4 : decode cX7_isSafe 4 = .ok (.iconst 0, 1) := by decide +kernel
theorem dX7_isSafe_5 : decode cX7_isSafe 5 = .ok (.invokevirtual 63, 3) := by decide +kernel
theorem dX7_isSafe_8 : decode cX7_isSafe 8 = .ok (.invokevirtual 81, 3) := by decide +kernel
theorem dX7_isSafe_11 : decode cX7_isSafe 11 = .ok (.aload_n 0, 1) := by decide +kernel
theorem dX7_isSafe_12 : decode cX7_isSafe 12 = .ok (.invokevirtual 85, 3) := by decide +kernel
theorem dX7_isSafe_15 : decode cX7_isSafe 15 = .ok (.ireturn, 1) := by decide +kernel
theorem dX7_costOf_0 : decode cX7_costOf 0 = .ok (.aload_n 0, 1) := by decide +kernel
theorem dX7_costOf_1 : decode cX7_costOf 1 = .ok (.iload_n 1, 1) := by decide +kernel
theorem dX7_costOf_2 : decode cX7_costOf 2 = .ok (.iconst 0, 1) := by decide +kernel
theorem dX7_costOf_3 : decode cX7_costOf 3 = .ok (.invokevirtual 63, 3) := by decide +kernel
theorem dX7_costOf_6 : decode cX7_costOf 6 = .ok (.istore 4, 2) := by decide +kernel
theorem dX7_costOf_8 : decode cX7_costOf 8 = .ok (.iload_n 3, 1) := by decide +kernel
theorem dX7_costOf_9 : decode cX7_costOf 9 = .ok (.iload 4, 2) := by decide +kernel
theorem dX7_costOf_11 : decode cX7_costOf 11 = .ok (.if_icmp .le 6, 3) := by decide +kernel
theorem dX7_costOf_14 : decode cX7_costOf 14 = .ok (.bipush (-2), 2) := by decide +kernel
theorem dX7_costOf_16 : decode cX7_costOf 16 = .ok (.ireturn, 1) := by decide +kernel
theorem dX7_costOf_17 : decode cX7_costOf 17 = .ok (.aload_n 0, 1) := by decide +kernel
theorem dX7_costOf_18 : decode cX7_costOf 18 = .ok (.iload_n 1, 1) := by decide +kernel
theorem dX7_costOf_19 : decode cX7_costOf 19 = .ok (.iload 4, 2) := by decide +kernel
theorem dX7_costOf_21 : decode cX7_costOf 21 = .ok (.iload_n 3, 1) := by decide +kernel
theorem dX7_costOf_22 : decode cX7_costOf 22 = .ok (.isub, 1) := by decide +kernel
theorem dX7_costOf_23 : decode cX7_costOf 23 = .ok (.invokevirtual 81, 3) := by decide +kernel
theorem dX7_costOf_26 : decode cX7_costOf 26 = .ok (.aload_n 0, 1) := by decide +kernel
theorem dX7_costOf_27 : decode cX7_costOf 27 = .ok (.invokevirtual 85, 3) := by decide +kernel
theorem dX7_costOf_30 : decode cX7_costOf 30 = .ok (.ifCond .ne 6, 3) := by decide +kernel
theorem dX7_costOf_33 : decode cX7_costOf 33 = .ok (.bipush (-2), 2) := by decide +kernel
theorem dX7_costOf_35 : decode cX7_costOf 35 = .ok (.ireturn, 1) := by decide +kernel
theorem dX7_costOf_36 : decode cX7_costOf 36 = .ok (.aload_n 0, 1) := by decide +kernel
theorem dX7_costOf_37 : decode cX7_costOf 37 = .ok (.iload_n 2, 1) := by decide +kernel
theorem dX7_costOf_38 : decode cX7_costOf 38 = .ok (.aload_n 0, 1) := by decide +kernel
theorem dX7_costOf_39 : decode cX7_costOf 39 = .ok (.iload_n 2, 1) := by decide +kernel
theorem dX7_costOf_40 : decode cX7_costOf 40 = .ok (.iconst 0, 1) := by decide +kernel
theorem dX7_costOf_41 : decode cX7_costOf 41 = .ok (.invokevirtual 63, 3) := by decide +kernel
theorem dX7_costOf_44 : decode cX7_costOf 44 = .ok (.invokevirtual 81, 3) := by decide +kernel
theorem dX7_costOf_47 : decode cX7_costOf 47 = .ok (.iconst 0, 1) := by decide +kernel
theorem dX7_costOf_48 : decode cX7_costOf 48 = .ok (.istore 5, 2) := by decide +kernel
theorem dX7_costOf_50 : decode cX7_costOf 50 = .ok (.iload 4, 2) := by decide +kernel
theorem dX7_costOf_52 : decode cX7_costOf 52 = .ok (.iload_n 3, 1) := by decide +kernel
theorem dX7_costOf_53 : decode cX7_costOf 53 = .ok (.isub, 1) := by decide +kernel
theorem dX7_costOf_54 : decode cX7_costOf 54 = .ok (.istore 6, 2) := by decide +kernel
theorem dX7_costOf_56 : decode cX7_costOf 56 = .ok (.iload 6, 2) := by decide +kernel
theorem dX7_costOf_58 : decode cX7_costOf 58 = .ok (.iload 4, 2) := by decide +kernel
theorem dX7_costOf_60 : decode cX7_costOf 60 = .ok (.if_icmp .ge 41, 3) := by decide +kernel
theorem dX7_costOf_63 : decode cX7_costOf 63 = .ok (.aload_n 0, 1) := by decide +kernel
theorem dX7_costOf_64 : decode cX7_costOf 64 = .ok (.aload_n 0, 1) := by decide +kernel
theorem dX7_costOf_65 : decode cX7_costOf 65 = .ok (.iload_n 1, 1) := by decide +kernel
theorem dX7_costOf_66 : decode cX7_costOf 66 = .ok (.iload 6, 2) := by decide +kernel
theorem dX7_costOf_68 : decode cX7_costOf 68 = .ok (.invokevirtual 70, 3) := by decide +kernel
theorem dX7_costOf_71 : decode cX7_costOf 71 = .ok (.invokevirtual 73, 3) := by decide +kernel
theorem dX7_costOf_74 : decode cX7_costOf 74 = .ok (.iload 5, 2) := by decide +kernel
theorem dX7_costOf_76 : decode cX7_costOf 76 = .ok (.aload_n 0, 1) := by decide +kernel
theorem dX7_costOf_77 : decode cX7_costOf 77 = .ok (.iload_n 1, 1) := by decide +kernel
theorem dX7_costOf_78 : decode cX7_costOf 78 = .ok (.iload 6, 2) := by decide +kernel
theorem dX7_costOf_80 : decode cX7_costOf 80 = .ok (.invokevirtual 70, 3) := by decide +kernel
theorem dX7_costOf_83 : decode cX7_costOf 83 = .ok (.iconst 2, 1) := by decide +kernel
theorem dX7_costOf_84 : decode cX7_costOf 84 = .ok (.if_icmp .ne 7, 3) := by decide +kernel
theorem dX7_costOf_87 : decode cX7_costOf 87 = .ok (.iconst 1, 1) := by decide +kernel
theorem dX7_costOf_88 : decode cX7_costOf 88 = .ok (.goto 4, 3) := by decide +kernel
theorem dX7_costOf_91 : decode cX7_costOf 91 = .ok (.iconst 0, 1) := by decide +kernel
theorem dX7_costOf_92 : decode cX7_costOf 92 = .ok (.ior, 1) := by decide +kernel
theorem dX7_costOf_93 : decode cX7_costOf 93 = .ok (.istore 5, 2) := by decide +kernel
theorem dX7_costOf_95 : decode cX7_costOf 95 = .ok (.iinc 6 1, 3) := by decide +kernel
theorem dX7_costOf_98 : decode cX7_costOf 98 = .ok (.goto (-42), 3) := by decide +kernel
theorem dX7_costOf_101 : decode cX7_costOf 101 = .ok (.aload_n 0, 1) := by decide +kernel
theorem dX7_costOf_102 : decode cX7_costOf 102 = .ok (.invokevirtual 85, 3) := by decide +kernel
theorem dX7_costOf_105 : decode cX7_costOf 105 = .ok (.ifCond .ne 6, 3) := by decide +kernel
theorem dX7_costOf_108 : decode cX7_costOf 108 = .ok (.bipush (-2), 2) := by decide +kernel
theorem dX7_costOf_110 : decode cX7_costOf 110 = .ok (.ireturn, 1) := by decide +kernel
theorem dX7_costOf_111 : decode cX7_costOf 111 = .ok (.aload_n 0, 1) := by decide +kernel
theorem dX7_costOf_112 : decode cX7_costOf 112 = .ok (.iload_n 2, 1) := by decide +kernel
theorem dX7_costOf_113 : decode cX7_costOf 113 = .ok (.iconst 0, 1) := by decide +kernel
theorem dX7_costOf_114 : decode cX7_costOf 114 = .ok (.invokevirtual 63, 3) := by decide +kernel
theorem dX7_costOf_117 : decode cX7_costOf 117 = .ok (.iload_n 3, 1) := by decide +kernel
theorem dX7_costOf_118 : decode cX7_costOf 118 = .ok (.iadd, 1) := by decide +kernel
theorem dX7_costOf_119 : decode cX7_costOf 119 = .ok (.aload_n 0, 1) := by decide +kernel
theorem dX7_costOf_120 : decode cX7_costOf 120 = .ok (.getfield 7, 3) := by decide +kernel
theorem dX7_costOf_123 : decode cX7_costOf 123 = .ok (.iconst 5, 1) := by decide +kernel
theorem dX7_costOf_124 : decode cX7_costOf 124 = .ok (.iaload, 1) := by decide +kernel
theorem dX7_costOf_125 : decode cX7_costOf 125 = .ok (.if_icmp .le 6, 3) := by decide +kernel
theorem dX7_costOf_128 : decode cX7_costOf 128 = .ok (.bipush (-3), 2) := by decide +kernel
theorem dX7_costOf_130 : decode cX7_costOf 130 = .ok (.ireturn, 1) := by decide +kernel
theorem dX7_costOf_131 : decode cX7_costOf 131 = .ok (.aload_n 0, 1) := by decide +kernel
theorem dX7_costOf_132 : decode cX7_costOf 132 = .ok (.getfield 7, 3) := by decide +kernel
theorem dX7_costOf_135 : decode cX7_costOf 135 = .ok (.iconst 2, 1) := by decide +kernel
theorem dX7_costOf_136 : decode cX7_costOf 136 = .ok (.iaload, 1) := by decide +kernel
theorem dX7_costOf_137 : decode cX7_costOf 137 = .ok (.iload_n 3, 1) := by decide +kernel
theorem dX7_costOf_138 : decode cX7_costOf 138 = .ok (.iadd, 1) := by decide +kernel
theorem dX7_costOf_139 : decode cX7_costOf 139 = .ok (.iconst 2, 1) := by decide +kernel
theorem dX7_costOf_140 : decode cX7_costOf 140 = .ok (.iload_n 1, 1) := by decide +kernel
theorem dX7_costOf_141 : decode cX7_costOf 141 = .ok (.iload_n 2, 1) := by decide +kernel
theorem dX7_costOf_142 : decode cX7_costOf 142 = .ok (.if_icmp .le 9, 3) := by decide +kernel
theorem dX7_costOf_145 : decode cX7_costOf 145 = .ok (.iload_n 1, 1) := by decide +kernel
theorem dX7_costOf_146 : decode cX7_costOf 146 = .ok (.iload_n 2, 1) := by decide +kernel
theorem dX7_costOf_147 : decode cX7_costOf 147 = .ok (.isub, 1) := by decide +kernel
theorem dX7_costOf_148 : decode cX7_costOf 148 = .ok (.goto 6, 3) := by decide +kernel
theorem dX7_costOf_151 : decode cX7_costOf 151 = .ok (.iload_n 2, 1) := by decide +kernel
theorem dX7_costOf_152 : decode cX7_costOf 152 = .ok (.iload_n 1, 1) := by decide +kernel
theorem dX7_costOf_153 : decode cX7_costOf 153 = .ok (.isub, 1) := by decide +kernel
theorem dX7_costOf_154 : decode cX7_costOf 154 = .ok (.imul, 1) := by decide +kernel
theorem dX7_costOf_155 : decode cX7_costOf 155 = .ok (.iadd, 1) := by decide +kernel
theorem dX7_costOf_156 : decode cX7_costOf 156 = .ok (.iload 5, 2) := by decide +kernel
theorem dX7_costOf_158 : decode cX7_costOf 158 = .ok (.ifCond .eq 7, 3) := by decide +kernel
theorem dX7_costOf_161 : decode cX7_costOf 161 = .ok (.iconst 5, 1) := by decide +kernel
theorem dX7_costOf_162 : decode cX7_costOf 162 = .ok (.goto 4, 3) := by decide +kernel
theorem dX7_costOf_165 : decode cX7_costOf 165 = .ok (.iconst 0, 1) := by decide +kernel
theorem dX7_costOf_166 : decode cX7_costOf 166 = .ok (.iadd, 1) := by decide +kernel
theorem dX7_costOf_167 : decode cX7_costOf 167 = .ok (.ireturn, 1) := by decide +kernel
theorem dX7_areTracks_0 : decode cX7_areTracks 0 = .ok (.aload_n 0, 1) := by decide +kernel
theorem dX7_areTracks_1 : decode cX7_areTracks 1 = .ok (.iload_n 1, 1) := by decide +kernel
theorem dX7_areTracks_2 : decode cX7_areTracks 2 = .ok (.invokevirtual 89, 3) := by decide +kernel
theorem dX7_areTracks_5 : decode cX7_areTracks 5 = .ok (.ifCond .eq 30, 3) := by decide +kernel
theorem dX7_areTracks_8 : decode cX7_areTracks 8 = .ok (.aload_n 0, 1) := by decide +kernel
theorem dX7_areTracks_9 : decode cX7_areTracks 9 = .ok (.iload_n 2, 1) := by decide +kernel
theorem dX7_areTracks_10 : decode cX7_areTracks 10 = .ok (.invokevirtual 89, 3) := by decide +kernel
theorem dX7_areTracks_13 : decode cX7_areTracks 13 = .ok (.ifCond .eq 22, 3) := by decide +kernel
theorem dX7_areTracks_16 : decode cX7_areTracks 16 = .ok (.iload_n 1, 1) := by decide +kernel
theorem dX7_areTracks_17 : decode cX7_areTracks 17 = .ok (.iload_n 2, 1) := by decide +kernel
theorem dX7_areTracks_18 : decode cX7_areTracks 18 = .ok (.if_icmp .eq 17, 3) := by decide +kernel
theorem dX7_areTracks_21 : decode cX7_areTracks 21 = .ok (.iload_n 3, 1) := by decide +kernel
theorem dX7_areTracks_22 : decode cX7_areTracks 22 = .ok (.iconst 1, 1) := by decide +kernel
theorem dX7_areTracks_23 : decode cX7_areTracks 23 = .ok (.bipush 8, 2) := by decide +kernel
theorem dX7_areTracks_25 : decode cX7_areTracks 25 = .ok (.invokestatic 59, 3) := by decide +kernel
theorem dX7_areTracks_28 : decode cX7_areTracks 28 = .ok (.ifCond .eq 7, 3) := by decide +kernel
theorem dX7_areTracks_31 : decode cX7_areTracks 31 = .ok (.iconst 1, 1) := by decide +kernel
theorem dX7_areTracks_32 : decode cX7_areTracks 32 = .ok (.goto 4, 3) := by decide +kernel
theorem dX7_areTracks_35 : decode cX7_areTracks 35 = .ok (.iconst 0, 1) := by decide +kernel
theorem dX7_areTracks_36 : decode cX7_areTracks 36 = .ok (.ireturn, 1) := by decide +kernel
theorem dX7_carry_0 : decode cX7_carry 0 = .ok (.aload_n 0, 1) := by decide +kernel
theorem dX7_carry_1 : decode cX7_carry 1 = .ok (.iload_n 1, 1) := by decide +kernel
theorem dX7_carry_2 : decode cX7_carry 2 = .ok (.iconst 0, 1) := by decide +kernel
theorem dX7_carry_3 : decode cX7_carry 3 = .ok (.invokevirtual 63, 3) := by decide +kernel
theorem dX7_carry_6 : decode cX7_carry 6 = .ok (.iload_n 3, 1) := by decide +kernel
theorem dX7_carry_7 : decode cX7_carry 7 = .ok (.isub, 1) := by decide +kernel
theorem dX7_carry_8 : decode cX7_carry 8 = .ok (.istore 5, 2) := by decide +kernel
theorem dX7_carry_10 : decode cX7_carry 10 = .ok (.iconst 0, 1) := by decide +kernel
theorem dX7_carry_11 : decode cX7_carry 11 = .ok (.istore 6, 2) := by decide +kernel
theorem dX7_carry_13 : decode cX7_carry 13 = .ok (.iload 6, 2) := by decide +kernel
theorem dX7_carry_15 : decode cX7_carry 15 = .ok (.iload_n 3, 1) := by decide +kernel
theorem dX7_carry_16 : decode cX7_carry 16 = .ok (.if_icmp .ge 62, 3) := by decide +kernel
theorem dX7_carry_19 : decode cX7_carry 19 = .ok (.iconst 0, 1) := by decide +kernel
theorem dX7_carry_20 : decode cX7_carry 20 = .ok (.istore 7, 2) := by decide +kernel
theorem dX7_carry_22 : decode cX7_carry 22 = .ok (.iload 7, 2) := by decide +kernel
theorem dX7_carry_24 : decode cX7_carry 24 = .ok (.iconst 3, 1) := by decide +kernel
theorem dX7_carry_25 : decode cX7_carry 25 = .ok (.if_icmp .ge 47, 3) := by decide +kernel
theorem dX7_carry_28 : decode cX7_carry 28 = .ok (.aload_n 0, 1) := by decide +kernel
theorem dX7_carry_29 : decode cX7_carry 29 = .ok (.iload_n 2, 1) := by decide +kernel
theorem dX7_carry_30 : decode cX7_carry 30 = .ok (.iconst 3, 1) := by decide +kernel
theorem dX7_carry_31 : decode cX7_carry 31 = .ok (.iconst 3, 1) := by decide +kernel
theorem dX7_carry_32 : decode cX7_carry 32 = .ok (.aload_n 0, 1) := by decide +kernel
theorem dX7_carry_33 : decode cX7_carry 33 = .ok (.iload_n 2, 1) := by decide +kernel
theorem dX7_carry_34 : decode cX7_carry 34 = .ok (.iconst 0, 1) := by decide +kernel
theorem dX7_carry_35 : decode cX7_carry 35 = .ok (.invokevirtual 63, 3) := by decide +kernel
theorem dX7_carry_38 : decode cX7_carry 38 = .ok (.iload 6, 2) := by decide +kernel
theorem dX7_carry_40 : decode cX7_carry 40 = .ok (.iadd, 1) := by decide +kernel
theorem dX7_carry_41 : decode cX7_carry 41 = .ok (.imul, 1) := by decide +kernel
theorem dX7_carry_42 : decode cX7_carry 42 = .ok (.iadd, 1) := by decide +kernel
theorem dX7_carry_43 : decode cX7_carry 43 = .ok (.iload 7, 2) := by decide +kernel
theorem dX7_carry_45 : decode cX7_carry 45 = .ok (.iadd, 1) := by decide +kernel
theorem dX7_carry_46 : decode cX7_carry 46 = .ok (.aload_n 0, 1) := by decide +kernel
theorem dX7_carry_47 : decode cX7_carry 47 = .ok (.iload_n 1, 1) := by decide +kernel
theorem dX7_carry_48 : decode cX7_carry 48 = .ok (.iconst 3, 1) := by decide +kernel
theorem dX7_carry_49 : decode cX7_carry 49 = .ok (.iconst 3, 1) := by decide +kernel
theorem dX7_carry_50 : decode cX7_carry 50 = .ok (.iload 5, 2) := by decide +kernel
theorem dX7_carry_52 : decode cX7_carry 52 = .ok (.iload 6, 2) := by decide +kernel
theorem dX7_carry_54 : decode cX7_carry 54 = .ok (.iadd, 1) := by decide +kernel
theorem dX7_carry_55 : decode cX7_carry 55 = .ok (.imul, 1) := by decide +kernel
theorem dX7_carry_56 : decode cX7_carry 56 = .ok (.iadd, 1) := by decide +kernel
theorem dX7_carry_57 : decode cX7_carry 57 = .ok (.iload 7, 2) := by decide +kernel
theorem dX7_carry_59 : decode cX7_carry 59 = .ok (.iadd, 1) := by decide +kernel
theorem dX7_carry_60 : decode cX7_carry 60 = .ok (.invokevirtual 63, 3) := by decide +kernel
theorem dX7_carry_63 : decode cX7_carry 63 = .ok (.invokevirtual 93, 3) := by decide +kernel
theorem dX7_carry_66 : decode cX7_carry 66 = .ok (.iinc 7 1, 3) := by decide +kernel
theorem dX7_carry_69 : decode cX7_carry 69 = .ok (.goto (-47), 3) := by decide +kernel
theorem dX7_carry_72 : decode cX7_carry 72 = .ok (.iinc 6 1, 3) := by decide +kernel
theorem dX7_carry_75 : decode cX7_carry 75 = .ok (.goto (-62), 3) := by decide +kernel
theorem dX7_carry_78 : decode cX7_carry 78 = .ok (.aload_n 0, 1) := by decide +kernel
theorem dX7_carry_79 : decode cX7_carry 79 = .ok (.iload_n 1, 1) := by decide +kernel
theorem dX7_carry_80 : decode cX7_carry 80 = .ok (.iconst 0, 1) := by decide +kernel
theorem dX7_carry_81 : decode cX7_carry 81 = .ok (.iload 5, 2) := by decide +kernel
theorem dX7_carry_83 : decode cX7_carry 83 = .ok (.invokevirtual 93, 3) := by decide +kernel
theorem dX7_carry_86 : decode cX7_carry 86 = .ok (.aload_n 0, 1) := by decide +kernel
theorem dX7_carry_87 : decode cX7_carry 87 = .ok (.iload_n 2, 1) := by decide +kernel
theorem dX7_carry_88 : decode cX7_carry 88 = .ok (.iconst 0, 1) := by decide +kernel
theorem dX7_carry_89 : decode cX7_carry 89 = .ok (.aload_n 0, 1) := by decide +kernel
theorem dX7_carry_90 : decode cX7_carry 90 = .ok (.iload_n 2, 1) := by decide +kernel
theorem dX7_carry_91 : decode cX7_carry 91 = .ok (.iconst 0, 1) := by decide +kernel
theorem dX7_carry_92 : decode cX7_carry 92 = .ok (.invokevirtual 63, 3) := by decide +kernel
theorem dX7_carry_95 : decode cX7_carry 95 = .ok (.iload_n 3, 1) := by decide +kernel
theorem dX7_carry_96 : decode cX7_carry 96 = .ok (.iadd, 1) := by decide +kernel
theorem dX7_carry_97 : decode cX7_carry 97 = .ok (.invokevirtual 93, 3) := by decide +kernel
theorem dX7_carry_100 : decode cX7_carry 100 = .ok (.aload_n 0, 1) := by decide +kernel
theorem dX7_carry_101 : decode cX7_carry 101 = .ok (.iload_n 1, 1) := by decide +kernel
theorem dX7_carry_102 : decode cX7_carry 102 = .ok (.iconst 1, 1) := by decide +kernel
theorem dX7_carry_103 : decode cX7_carry 103 = .ok (.iconst 0, 1) := by decide +kernel
theorem dX7_carry_104 : decode cX7_carry 104 = .ok (.invokevirtual 93, 3) := by decide +kernel
theorem dX7_carry_107 : decode cX7_carry 107 = .ok (.aload_n 0, 1) := by decide +kernel
theorem dX7_carry_108 : decode cX7_carry 108 = .ok (.iload_n 2, 1) := by decide +kernel
theorem dX7_carry_109 : decode cX7_carry 109 = .ok (.iconst 1, 1) := by decide +kernel
theorem dX7_carry_110 : decode cX7_carry 110 = .ok (.iconst 0, 1) := by decide +kernel
theorem dX7_carry_111 : decode cX7_carry 111 = .ok (.invokevirtual 93, 3) := by decide +kernel
theorem dX7_carry_114 : decode cX7_carry 114 = .ok (.aload_n 0, 1) := by decide +kernel
theorem dX7_carry_115 : decode cX7_carry 115 = .ok (.getfield 7, 3) := by decide +kernel
theorem dX7_carry_118 : decode cX7_carry 118 = .ok (.bipush 6, 2) := by decide +kernel
theorem dX7_carry_120 : decode cX7_carry 120 = .ok (.dup2, 1) := by decide +kernel
theorem dX7_carry_121 : decode cX7_carry 121 = .ok (.iaload, 1) := by decide +kernel
theorem dX7_carry_122 : decode cX7_carry 122 = .ok (.iload 4, 2) := by decide +kernel
theorem dX7_carry_124 : decode cX7_carry 124 = .ok (.iadd, 1) := by decide +kernel
theorem dX7_carry_125 : decode cX7_carry 125 = .ok (.iastore, 1) := by decide +kernel
theorem dX7_carry_126 : decode cX7_carry 126 = .ok (.aload_n 0, 1) := by decide +kernel
theorem dX7_carry_127 : decode cX7_carry 127 = .ok (.getfield 7, 3) := by decide +kernel
theorem dX7_carry_130 : decode cX7_carry 130 = .ok (.bipush 8, 2) := by decide +kernel
theorem dX7_carry_132 : decode cX7_carry 132 = .ok (.dup2, 1) := by decide +kernel
theorem dX7_carry_133 : decode cX7_carry 133 = .ok (.iaload, 1) := by decide +kernel
theorem dX7_carry_134 : decode cX7_carry 134 = .ok (.iconst 1, 1) := by decide +kernel
theorem dX7_carry_135 : decode cX7_carry 135 = .ok (.iadd, 1) := by decide +kernel
theorem dX7_carry_136 : decode cX7_carry 136 = .ok (.iastore, 1) := by decide +kernel
theorem dX7_carry_137 : decode cX7_carry 137 = .ok (.aload_n 0, 1) := by decide +kernel
theorem dX7_carry_138 : decode cX7_carry 138 = .ok (.getfield 7, 3) := by decide +kernel
theorem dX7_carry_141 : decode cX7_carry 141 = .ok (.bipush 9, 2) := by decide +kernel
theorem dX7_carry_143 : decode cX7_carry 143 = .ok (.dup2, 1) := by decide +kernel
theorem dX7_carry_144 : decode cX7_carry 144 = .ok (.iaload, 1) := by decide +kernel
theorem dX7_carry_145 : decode cX7_carry 145 = .ok (.iload 4, 2) := by decide +kernel
theorem dX7_carry_147 : decode cX7_carry 147 = .ok (.iadd, 1) := by decide +kernel
theorem dX7_carry_148 : decode cX7_carry 148 = .ok (.iastore, 1) := by decide +kernel
theorem dX7_carry_149 : decode cX7_carry 149 = .ok (.return_, 1) := by decide +kernel
theorem dX7_cost_0 : decode cX7_cost 0 = .ok (.aload_n 0, 1) := by decide +kernel
theorem dX7_cost_1 : decode cX7_cost 1 = .ok (.iload_n 1, 1) := by decide +kernel
theorem dX7_cost_2 : decode cX7_cost 2 = .ok (.iload_n 2, 1) := by decide +kernel
theorem dX7_cost_3 : decode cX7_cost 3 = .ok (.iload_n 3, 1) := by decide +kernel
theorem dX7_cost_4 : decode cX7_cost 4 = .ok (.invokevirtual 97, 3) := by decide +kernel
theorem dX7_cost_7 : decode cX7_cost 7 = .ok (.ifCond .eq 13, 3) := by decide +kernel
theorem dX7_cost_10 : decode cX7_cost 10 = .ok (.aload_n 0, 1) := by decide +kernel
theorem dX7_cost_11 : decode cX7_cost 11 = .ok (.iload_n 1, 1) := by decide +kernel
theorem dX7_cost_12 : decode cX7_cost 12 = .ok (.iload_n 2, 1) := by decide +kernel
theorem dX7_cost_13 : decode cX7_cost 13 = .ok (.iload_n 3, 1) := by decide +kernel
theorem dX7_cost_14 : decode cX7_cost 14 = .ok (.invokevirtual 100, 3) := by decide +kernel
theorem dX7_cost_17 : decode cX7_cost 17 = .ok (.goto 4, 3) := by decide +kernel
theorem dX7_cost_20 : decode cX7_cost 20 = .ok (.iconst (-1), 1) := by decide +kernel
theorem dX7_cost_21 : decode cX7_cost 21 = .ok (.ireturn, 1) := by decide +kernel
theorem dX7_move_0 : decode cX7_move 0 = .ok (.aload_n 0, 1) := by decide +kernel
theorem dX7_move_1 : decode cX7_move 1 = .ok (.iload_n 1, 1) := by decide +kernel
theorem dX7_move_2 : decode cX7_move 2 = .ok (.iload_n 2, 1) := by decide +kernel
theorem dX7_move_3 : decode cX7_move 3 = .ok (.iload_n 3, 1) := by decide +kernel
theorem dX7_move_4 : decode cX7_move 4 = .ok (.invokevirtual 104, 3) := by decide +kernel
theorem dX7_move_7 : decode cX7_move 7 = .ok (.istore 4, 2) := by decide +kernel
theorem dX7_move_9 : decode cX7_move 9 = .ok (.iload 4, 2) := by decide +kernel
theorem dX7_move_11 : decode cX7_move 11 = .ok (.ifCond .lt 16, 3) := by decide +kernel
theorem dX7_move_14 : decode cX7_move 14 = .ok (.aload_n 0, 1) := by decide +kernel
theorem dX7_move_15 : decode cX7_move 15 = .ok (.invokevirtual 107, 3) := by decide +kernel
theorem dX7_move_18 : decode cX7_move 18 = .ok (.aload_n 0, 1) := by decide +kernel
theorem dX7_move_19 : decode cX7_move 19 = .ok (.iload_n 1, 1) := by decide +kernel
theorem dX7_move_20 : decode cX7_move 20 = .ok (.iload_n 2, 1) := by decide +kernel
theorem dX7_move_21 : decode cX7_move 21 = .ok (.iload_n 3, 1) := by decide +kernel
theorem dX7_move_22 : decode cX7_move 22 = .ok (.iload 4, 2) := by decide +kernel
theorem dX7_move_24 : decode cX7_move 24 = .ok (.invokevirtual 110, 3) := by decide +kernel
theorem dX7_move_27 : decode cX7_move 27 = .ok (.iload 4, 2) := by decide +kernel
theorem dX7_move_29 : decode cX7_move 29 = .ok (.ireturn, 1) := by decide +kernel
theorem dX7_stillHolds_0 : decode cX7_stillHolds 0 = .ok (.aload_n 0, 1) := by decide +kernel
theorem dX7_stillHolds_1 : decode cX7_stillHolds 1 = .ok (.iload_n 1, 1) := by decide +kernel
theorem dX7_stillHolds_2 : decode cX7_stillHolds 2 = .ok (.iconst 1, 1) := by decide +kernel
theorem dX7_stillHolds_3 : decode cX7_stillHolds 3 = .ok (.invokevirtual 63, 3) := by decide +kernel
theorem dX7_stillHolds_6 : decode cX7_stillHolds 6 = .ok (.ifCond .ne 7, 3) := by decide +kernel
theorem dX7_stillHolds_9 : decode cX7_stillHolds 9 = .ok (.iconst 0, 1) := by decide +kernel
theorem dX7_stillHolds_10 : decode cX7_stillHolds 10 = .ok (.goto 24, 3) := by decide +kernel
theorem dX7_stillHolds_13 : decode cX7_stillHolds 13 = .ok (.aload_n 0, 1) := by decide +kernel
theorem dX7_stillHolds_14 : decode cX7_stillHolds 14 = .ok (.getfield 7, 3) := by decide +kernel
theorem dX7_stillHolds_17 : decode cX7_stillHolds 17 = .ok (.iconst 1, 1) := by decide +kernel
theorem dX7_stillHolds_18 : decode cX7_stillHolds 18 = .ok (.iaload, 1) := by decide +kernel
theorem dX7_stillHolds_19 : decode cX7_stillHolds 19 = .ok (.aload_n 0, 1) := by decide +kernel
theorem dX7_stillHolds_20 : decode cX7_stillHolds 20 = .ok (.getfield 7, 3) := by decide +kernel
theorem dX7_stillHolds_23 : decode cX7_stillHolds 23 = .ok (.bipush 6, 2) := by decide +kernel
theorem dX7_stillHolds_25 : decode cX7_stillHolds 25 = .ok (.iaload, 1) := by decide +kernel
theorem dX7_stillHolds_26 : decode cX7_stillHolds 26 = .ok (.aload_n 0, 1) := by decide +kernel
theorem dX7_stillHolds_27 : decode cX7_stillHolds 27 = .ok (.iload_n 1, 1) := by decide +kernel
theorem dX7_stillHolds_28 : decode cX7_stillHolds 28 = .ok (.iconst 2, 1) := by decide +kernel
theorem dX7_stillHolds_29 : decode cX7_stillHolds 29 = .ok (.invokevirtual 63, 3) := by decide +kernel
theorem dX7_stillHolds_32 : decode cX7_stillHolds 32 = .ok (.isub, 1) := by decide +kernel
theorem dX7_stillHolds_33 : decode cX7_stillHolds 33 = .ok (.isub, 1) := by decide +kernel
theorem dX7_stillHolds_34 : decode cX7_stillHolds 34 = .ok (.istore_n 2, 1) := by decide +kernel
theorem dX7_stillHolds_35 : decode cX7_stillHolds 35 = .ok (.iload_n 2, 1) := by decide +kernel
theorem dX7_stillHolds_36 : decode cX7_stillHolds 36 = .ok (.ifCond .ge 7, 3) := by decide +kernel
theorem dX7_stillHolds_39 : decode cX7_stillHolds 39 = .ok (.iconst 0, 1) := by decide +kernel
theorem dX7_stillHolds_40 : decode cX7_stillHolds 40 = .ok (.goto 4, 3) := by decide +kernel
theorem dX7_stillHolds_43 : decode cX7_stillHolds 43 = .ok (.iload_n 2, 1) := by decide +kernel
theorem dX7_stillHolds_44 : decode cX7_stillHolds 44 = .ok (.ireturn, 1) := by decide +kernel
theorem dX7_bound_0 : decode cX7_bound 0 = .ok (.iconst 0, 1) := by decide +kernel
theorem dX7_bound_1 : decode cX7_bound 1 = .ok (.istore_n 3, 1) := by decide +kernel
theorem dX7_bound_2 : decode cX7_bound 2 = .ok (.iconst 0, 1) := by decide +kernel
theorem dX7_bound_3 : decode cX7_bound 3 = .ok (.istore 4, 2) := by decide +kernel
theorem dX7_bound_5 : decode cX7_bound 5 = .ok (.iload 4, 2) := by decide +kernel
theorem dX7_bound_7 : decode cX7_bound 7 = .ok (.aload_n 0, 1) := by decide +kernel
theorem dX7_bound_8 : decode cX7_bound 8 = .ok (.iload_n 1, 1) := by decide +kernel
theorem dX7_bound_9 : decode cX7_bound 9 = .ok (.iconst 0, 1) := by decide +kernel
theorem dX7_bound_10 : decode cX7_bound 10 = .ok (.invokevirtual 63, 3) := by decide +kernel
theorem dX7_bound_13 : decode cX7_bound 13 = .ok (.if_icmp .ge 28, 3) := by decide +kernel
theorem dX7_bound_16 : decode cX7_bound 16 = .ok (.iload_n 3, 1) := by decide +kernel
theorem dX7_bound_17 : decode cX7_bound 17 = .ok (.aload_n 0, 1) := by decide +kernel
theorem dX7_bound_18 : decode cX7_bound 18 = .ok (.iload_n 1, 1) := by decide +kernel
theorem dX7_bound_19 : decode cX7_bound 19 = .ok (.iload 4, 2) := by decide +kernel
theorem dX7_bound_21 : decode cX7_bound 21 = .ok (.invokevirtual 114, 3) := by decide +kernel
theorem dX7_bound_24 : decode cX7_bound 24 = .ok (.iload_n 2, 1) := by decide +kernel
theorem dX7_bound_25 : decode cX7_bound 25 = .ok (.if_icmp .ne 7, 3) := by decide +kernel
theorem dX7_bound_28 : decode cX7_bound 28 = .ok (.iconst 1, 1) := by decide +kernel
theorem dX7_bound_29 : decode cX7_bound 29 = .ok (.goto 4, 3) := by decide +kernel
theorem dX7_bound_32 : decode cX7_bound 32 = .ok (.iconst 0, 1) := by decide +kernel
theorem dX7_bound_33 : decode cX7_bound 33 = .ok (.iadd, 1) := by decide +kernel
theorem dX7_bound_34 : decode cX7_bound 34 = .ok (.istore_n 3, 1) := by decide +kernel
theorem dX7_bound_35 : decode cX7_bound 35 = .ok (.iinc 4 1, 3) := by decide +kernel
theorem dX7_bound_38 : decode cX7_bound 38 = .ok (.goto (-33), 3) := by decide +kernel
theorem dX7_bound_41 : decode cX7_bound 41 = .ok (.iload_n 3, 1) := by decide +kernel
theorem dX7_bound_42 : decode cX7_bound 42 = .ok (.ireturn, 1) := by decide +kernel
theorem dX7_reasonAgainst_0 : decode cX7_reasonAgainst 0 = .ok (.aload_n 0, 1) := by decide +kernel
theorem dX7_reasonAgainst_1 : decode cX7_reasonAgainst 1 = .ok (.getfield 7, 3) := by decide +kernel
theorem dX7_reasonAgainst_4 : decode cX7_reasonAgainst 4 = .ok (.bipush 12, 2) := by decide +kernel
theorem dX7_reasonAgainst_6 : decode cX7_reasonAgainst 6 = .ok (.iaload, 1) := by decide +kernel
theorem dX7_reasonAgainst_7 : decode cX7_reasonAgainst 7 = .ok (.ifCond .ne 5, 3) := by decide +kernel
theorem dX7_reasonAgainst_10 : decode cX7_reasonAgainst 10 = .ok (.iconst 1, 1) := by decide +kernel
theorem dX7_reasonAgainst_11 : decode cX7_reasonAgainst 11 = .ok (.ireturn, 1) := by decide +kernel
theorem dX7_reasonAgainst_12 : decode cX7_reasonAgainst 12 = .ok (.aload_n 0, 1) := by decide +kernel
theorem dX7_reasonAgainst_13 : decode cX7_reasonAgainst 13 = .ok (.iload_n 1, 1) := by decide +kernel
theorem dX7_reasonAgainst_14 : decode cX7_reasonAgainst 14 = .ok (.iconst 0, 1) := by decide +kernel
theorem dX7_reasonAgainst_15 : decode cX7_reasonAgainst 15 = .ok (.invokevirtual 63, 3) := by decide +kernel
theorem dX7_reasonAgainst_18 : decode cX7_reasonAgainst 18 = .ok (.ifCond .ne 5, 3) := by decide +kernel
theorem dX7_reasonAgainst_21 : decode cX7_reasonAgainst 21 = .ok (.iconst 2, 1) := by decide +kernel
theorem dX7_reasonAgainst_22 : decode cX7_reasonAgainst 22 = .ok (.ireturn, 1) := by decide +kernel
theorem dX7_reasonAgainst_23 : decode cX7_reasonAgainst 23 = .ok (.aload_n 0, 1) := by decide +kernel
theorem dX7_reasonAgainst_24 : decode cX7_reasonAgainst 24 = .ok (.iload_n 1, 1) := by decide +kernel
theorem dX7_reasonAgainst_25 : decode cX7_reasonAgainst 25 = .ok (.aload_n 0, 1) := by decide +kernel
theorem dX7_reasonAgainst_26 : decode cX7_reasonAgainst 26 = .ok (.getfield 7, 3) := by decide +kernel
theorem dX7_reasonAgainst_29 : decode cX7_reasonAgainst 29 = .ok (.bipush 13, 2) := by decide +kernel
theorem dX7_reasonAgainst_31 : decode cX7_reasonAgainst 31 = .ok (.iaload, 1) := by decide +kernel
theorem dX7_reasonAgainst_32 : decode cX7_reasonAgainst 32 = .ok (.invokevirtual 117, 3) := by decide +kernel
theorem dX7_reasonAgainst_35 : decode cX7_reasonAgainst 35 = .ok (.aload_n 0, 1) := by decide +kernel
theorem dX7_reasonAgainst_36 : decode cX7_reasonAgainst 36 = .ok (.iload_n 1, 1) := by decide +kernel
theorem dX7_reasonAgainst_37 : decode cX7_reasonAgainst 37 = .ok (.iconst 0, 1) := by decide +kernel
theorem dX7_reasonAgainst_38 : decode cX7_reasonAgainst 38 = .ok (.invokevirtual 63, 3) := by decide +kernel
theorem dX7_reasonAgainst_41 : decode cX7_reasonAgainst 41 = .ok (.if_icmp .ge 5, 3) := by decide +kernel
theorem dX7_reasonAgainst_44 : decode cX7_reasonAgainst 44 = .ok (.iconst 3, 1) := by decide +kernel
theorem dX7_reasonAgainst_45 : decode cX7_reasonAgainst 45 = .ok (.ireturn, 1) := by decide +kernel
theorem dX7_reasonAgainst_46 : decode cX7_reasonAgainst 46 = .ok (.iconst 0, 1) := by decide +kernel
theorem dX7_reasonAgainst_47 : decode cX7_reasonAgainst 47 = .ok (.istore_n 2, 1) := by decide +kernel
theorem dX7_reasonAgainst_48 : decode cX7_reasonAgainst 48 = .ok (.iload_n 2, 1) := by decide +kernel
theorem dX7_reasonAgainst_49 : decode cX7_reasonAgainst 49 = .ok (.aload_n 0, 1) := by decide +kernel
theorem dX7_reasonAgainst_50 : decode cX7_reasonAgainst 50 = .ok (.getfield 7, 3) := by decide +kernel
theorem dX7_reasonAgainst_53 : decode cX7_reasonAgainst 53 = .ok (.iconst 4, 1) := by decide +kernel
theorem dX7_reasonAgainst_54 : decode cX7_reasonAgainst 54 = .ok (.iaload, 1) := by decide +kernel
theorem dX7_reasonAgainst_55 : decode cX7_reasonAgainst 55 = .ok (.if_icmp .ge 31, 3) := by decide +kernel
theorem dX7_reasonAgainst_58 : decode cX7_reasonAgainst 58 = .ok (.iload_n 2, 1) := by decide +kernel
theorem dX7_reasonAgainst_59 : decode cX7_reasonAgainst 59 = .ok (.iload_n 1, 1) := by decide +kernel
theorem dX7_reasonAgainst_60 : decode cX7_reasonAgainst 60 = .ok (.if_icmp .eq 20, 3) := by decide +kernel
theorem dX7_reasonAgainst_63 : decode cX7_reasonAgainst 63 = .ok (.aload_n 0, 1) := by decide +kernel
theorem dX7_reasonAgainst_64 : decode cX7_reasonAgainst 64 = .ok (.iload_n 2, 1) := by decide +kernel
theorem dX7_reasonAgainst_65 : decode cX7_reasonAgainst 65 = .ok (.aload_n 0, 1) := by decide +kernel
theorem dX7_reasonAgainst_66 : decode cX7_reasonAgainst 66 = .ok (.getfield 7, 3) := by decide +kernel
theorem dX7_reasonAgainst_69 : decode cX7_reasonAgainst 69 = .ok (.bipush 13, 2) := by decide +kernel
theorem dX7_reasonAgainst_71 : decode cX7_reasonAgainst 71 = .ok (.iaload, 1) := by decide +kernel
theorem dX7_reasonAgainst_72 : decode cX7_reasonAgainst 72 = .ok (.invokevirtual 117, 3) := by decide +kernel
theorem dX7_reasonAgainst_75 : decode cX7_reasonAgainst 75 = .ok (.ifCond .le 5, 3) := by decide +kernel
theorem dX7_reasonAgainst_78 : decode cX7_reasonAgainst 78 = .ok (.iconst 4, 1) := by decide +kernel
theorem dX7_reasonAgainst_79 : decode cX7_reasonAgainst 79 = .ok (.ireturn, 1) := by decide +kernel
theorem dX7_reasonAgainst_80 : decode cX7_reasonAgainst 80 = .ok (.iinc 2 1, 3) := by decide +kernel
theorem dX7_reasonAgainst_83 : decode cX7_reasonAgainst 83 = .ok (.goto (-35), 3) := by decide +kernel
theorem dX7_reasonAgainst_86 : decode cX7_reasonAgainst 86 = .ok (.aload_n 0, 1) := by decide +kernel
theorem dX7_reasonAgainst_87 : decode cX7_reasonAgainst 87 = .ok (.iload_n 1, 1) := by decide +kernel
theorem dX7_reasonAgainst_88 : decode cX7_reasonAgainst 88 = .ok (.invokevirtual 120, 3) := by decide +kernel
theorem dX7_reasonAgainst_91 : decode cX7_reasonAgainst 91 = .ok (.ifCond .ne 7, 3) := by decide +kernel
theorem dX7_reasonAgainst_94 : decode cX7_reasonAgainst 94 = .ok (.iconst 5, 1) := by decide +kernel
theorem dX7_reasonAgainst_95 : decode cX7_reasonAgainst 95 = .ok (.goto 17, 3) := by decide +kernel
theorem dX7_reasonAgainst_98 : decode cX7_reasonAgainst 98 = .ok (.aload_n 0, 1) := by decide +kernel
theorem dX7_reasonAgainst_99 : decode cX7_reasonAgainst 99 = .ok (.iload_n 1, 1) := by decide +kernel
theorem dX7_reasonAgainst_100 : decode cX7_reasonAgainst 100 = .ok (.invokevirtual 123, 3) := by decide +kernel
theorem dX7_reasonAgainst_103 : decode cX7_reasonAgainst 103 = .ok (.ifCond .ne 8, 3) := by decide +kernel
theorem dX7_reasonAgainst_106 : decode cX7_reasonAgainst 106 = .ok (.bipush 6, 2) := by decide +kernel
theorem dX7_reasonAgainst_108 : decode cX7_reasonAgainst 108 = .ok (.goto 4, 3) := by decide +kernel
theorem dX7_reasonAgainst_111 : decode cX7_reasonAgainst 111 = .ok (.iconst 0, 1) := by decide +kernel
theorem dX7_reasonAgainst_112 : decode cX7_reasonAgainst 112 = .ok (.ireturn, 1) := by decide +kernel
theorem dX7_test_0 : decode cX7_test 0 = .ok (.aload_n 0, 1) := by decide +kernel
theorem dX7_test_1 : decode cX7_test 1 = .ok (.iload_n 1, 1) := by decide +kernel
theorem dX7_test_2 : decode cX7_test 2 = .ok (.invokevirtual 89, 3) := by decide +kernel
theorem dX7_test_5 : decode cX7_test 5 = .ok (.ifCond .ne 5, 3) := by decide +kernel
theorem dX7_test_8 : decode cX7_test 8 = .ok (.iconst (-1), 1) := by decide +kernel
theorem dX7_test_9 : decode cX7_test 9 = .ok (.ireturn, 1) := by decide +kernel
theorem dX7_test_10 : decode cX7_test 10 = .ok (.aload_n 0, 1) := by decide +kernel
theorem dX7_test_11 : decode cX7_test 11 = .ok (.iload_n 1, 1) := by decide +kernel
theorem dX7_test_12 : decode cX7_test 12 = .ok (.iconst 0, 1) := by decide +kernel
theorem dX7_test_13 : decode cX7_test 13 = .ok (.invokevirtual 63, 3) := by decide +kernel
theorem dX7_test_16 : decode cX7_test 16 = .ok (.ifCond .ne 6, 3) := by decide +kernel
theorem dX7_test_19 : decode cX7_test 19 = .ok (.bipush (-2), 2) := by decide +kernel
theorem dX7_test_21 : decode cX7_test 21 = .ok (.ireturn, 1) := by decide +kernel
theorem dX7_test_22 : decode cX7_test 22 = .ok (.aload_n 0, 1) := by decide +kernel
theorem dX7_test_23 : decode cX7_test 23 = .ok (.invokevirtual 107, 3) := by decide +kernel
theorem dX7_test_26 : decode cX7_test 26 = .ok (.aload_n 0, 1) := by decide +kernel
theorem dX7_test_27 : decode cX7_test 27 = .ok (.getfield 7, 3) := by decide +kernel
theorem dX7_test_30 : decode cX7_test 30 = .ok (.iconst 3, 1) := by decide +kernel
theorem dX7_test_31 : decode cX7_test 31 = .ok (.iaload, 1) := by decide +kernel
theorem dX7_test_32 : decode cX7_test 32 = .ok (.iconst 2, 1) := by decide +kernel
theorem dX7_test_33 : decode cX7_test 33 = .ok (.aload_n 0, 1) := by decide +kernel
theorem dX7_test_34 : decode cX7_test 34 = .ok (.iload_n 1, 1) := by decide +kernel
theorem dX7_test_35 : decode cX7_test 35 = .ok (.iconst 0, 1) := by decide +kernel
theorem dX7_test_36 : decode cX7_test 36 = .ok (.invokevirtual 63, 3) := by decide +kernel
theorem dX7_test_39 : decode cX7_test 39 = .ok (.imul, 1) := by decide +kernel
theorem dX7_test_40 : decode cX7_test 40 = .ok (.iadd, 1) := by decide +kernel
theorem dX7_test_41 : decode cX7_test 41 = .ok (.istore_n 2, 1) := by decide +kernel
theorem dX7_test_42 : decode cX7_test 42 = .ok (.aload_n 0, 1) := by decide +kernel
theorem dX7_test_43 : decode cX7_test 43 = .ok (.getfield 7, 3) := by decide +kernel
theorem dX7_test_46 : decode cX7_test 46 = .ok (.bipush 6, 2) := by decide +kernel
theorem dX7_test_48 : decode cX7_test 48 = .ok (.dup2, 1) := by decide +kernel
theorem dX7_test_49 : decode cX7_test 49 = .ok (.iaload, 1) := by decide +kernel
theorem dX7_test_50 : decode cX7_test 50 = .ok (.iload_n 2, 1) := by decide +kernel
theorem dX7_test_51 : decode cX7_test 51 = .ok (.iadd, 1) := by decide +kernel
theorem dX7_test_52 : decode cX7_test 52 = .ok (.iastore, 1) := by decide +kernel
theorem dX7_test_53 : decode cX7_test 53 = .ok (.aload_n 0, 1) := by decide +kernel
theorem dX7_test_54 : decode cX7_test 54 = .ok (.iload_n 1, 1) := by decide +kernel
theorem dX7_test_55 : decode cX7_test 55 = .ok (.iconst 1, 1) := by decide +kernel
theorem dX7_test_56 : decode cX7_test 56 = .ok (.iconst 1, 1) := by decide +kernel
theorem dX7_test_57 : decode cX7_test 57 = .ok (.invokevirtual 93, 3) := by decide +kernel
theorem dX7_test_60 : decode cX7_test 60 = .ok (.aload_n 0, 1) := by decide +kernel
theorem dX7_test_61 : decode cX7_test 61 = .ok (.iload_n 1, 1) := by decide +kernel
theorem dX7_test_62 : decode cX7_test 62 = .ok (.iconst 2, 1) := by decide +kernel
theorem dX7_test_63 : decode cX7_test 63 = .ok (.aload_n 0, 1) := by decide +kernel
theorem dX7_test_64 : decode cX7_test 64 = .ok (.getfield 7, 3) := by decide +kernel
theorem dX7_test_67 : decode cX7_test 67 = .ok (.bipush 6, 2) := by decide +kernel
theorem dX7_test_69 : decode cX7_test 69 = .ok (.iaload, 1) := by decide +kernel
theorem dX7_test_70 : decode cX7_test 70 = .ok (.invokevirtual 93, 3) := by decide +kernel
theorem dX7_test_73 : decode cX7_test 73 = .ok (.iload_n 2, 1) := by decide +kernel
theorem dX7_test_74 : decode cX7_test 74 = .ok (.ireturn, 1) := by decide +kernel
theorem dX7_pause_0 : decode cX7_pause 0 = .ok (.iload_n 1, 1) := by decide +kernel
theorem dX7_pause_1 : decode cX7_pause 1 = .ok (.iconst 1, 1) := by decide +kernel
theorem dX7_pause_2 : decode cX7_pause 2 = .ok (.sipush 1000, 3) := by decide +kernel
theorem dX7_pause_5 : decode cX7_pause 5 = .ok (.invokestatic 59, 3) := by decide +kernel
theorem dX7_pause_8 : decode cX7_pause 8 = .ok (.ifCond .ne 5, 3) := by decide +kernel
theorem dX7_pause_11 : decode cX7_pause 11 = .ok (.iconst (-1), 1) := by decide +kernel
theorem dX7_pause_12 : decode cX7_pause 12 = .ok (.ireturn, 1) := by decide +kernel
theorem dX7_pause_13 : decode cX7_pause 13 = .ok (.aload_n 0, 1) := by decide +kernel
theorem dX7_pause_14 : decode cX7_pause 14 = .ok (.invokevirtual 107, 3) := by decide +kernel
theorem dX7_pause_17 : decode cX7_pause 17 = .ok (.aload_n 0, 1) := by decide +kernel
theorem dX7_pause_18 : decode cX7_pause 18 = .ok (.getfield 7, 3) := by decide +kernel
theorem dX7_pause_21 : decode cX7_pause 21 = .ok (.bipush 6, 2) := by decide +kernel
theorem dX7_pause_23 : decode cX7_pause 23 = .ok (.dup2, 1) := by decide +kernel
theorem dX7_pause_24 : decode cX7_pause 24 = .ok (.iaload, 1) := by decide +kernel
theorem dX7_pause_25 : decode cX7_pause 25 = .ok (.iload_n 1, 1) := by decide +kernel
theorem dX7_pause_26 : decode cX7_pause 26 = .ok (.iadd, 1) := by decide +kernel
theorem dX7_pause_27 : decode cX7_pause 27 = .ok (.iastore, 1) := by decide +kernel
theorem dX7_pause_28 : decode cX7_pause 28 = .ok (.aload_n 0, 1) := by decide +kernel
theorem dX7_pause_29 : decode cX7_pause 29 = .ok (.getfield 7, 3) := by decide +kernel
theorem dX7_pause_32 : decode cX7_pause 32 = .ok (.bipush 6, 2) := by decide +kernel
theorem dX7_pause_34 : decode cX7_pause 34 = .ok (.iaload, 1) := by decide +kernel
theorem dX7_pause_35 : decode cX7_pause 35 = .ok (.ireturn, 1) := by decide +kernel
theorem dX7_depart_0 : decode cX7_depart 0 = .ok (.aload_n 0, 1) := by decide +kernel
theorem dX7_depart_1 : decode cX7_depart 1 = .ok (.iload_n 1, 1) := by decide +kernel
theorem dX7_depart_2 : decode cX7_depart 2 = .ok (.invokevirtual 89, 3) := by decide +kernel
theorem dX7_depart_5 : decode cX7_depart 5 = .ok (.ifCond .ne 5, 3) := by decide +kernel
theorem dX7_depart_8 : decode cX7_depart 8 = .ok (.iconst (-1), 1) := by decide +kernel
theorem dX7_depart_9 : decode cX7_depart 9 = .ok (.ireturn, 1) := by decide +kernel
theorem dX7_depart_10 : decode cX7_depart 10 = .ok (.aload_n 0, 1) := by decide +kernel
theorem dX7_depart_11 : decode cX7_depart 11 = .ok (.iload_n 1, 1) := by decide +kernel
theorem dX7_depart_12 : decode cX7_depart 12 = .ok (.invokevirtual 127, 3) := by decide +kernel
theorem dX7_depart_15 : decode cX7_depart 15 = .ok (.istore_n 2, 1) := by decide +kernel
theorem dX7_depart_16 : decode cX7_depart 16 = .ok (.iload_n 2, 1) := by decide +kernel
theorem dX7_depart_17 : decode cX7_depart 17 = .ok (.ifCond .eq 11, 3) := by decide +kernel
theorem dX7_depart_20 : decode cX7_depart 20 = .ok (.aload_n 0, 1) := by decide +kernel
theorem dX7_depart_21 : decode cX7_depart 21 = .ok (.iload_n 2, 1) := by decide +kernel
theorem dX7_depart_22 : decode cX7_depart 22 = .ok (.putfield 29, 3) := by decide +kernel
theorem dX7_depart_25 : decode cX7_depart 25 = .ok (.bipush (-2), 2) := by decide +kernel
theorem dX7_depart_27 : decode cX7_depart 27 = .ok (.ireturn, 1) := by decide +kernel
theorem dX7_depart_28 : decode cX7_depart 28 = .ok (.aload_n 0, 1) := by decide +kernel
theorem dX7_depart_29 : decode cX7_depart 29 = .ok (.invokevirtual 107, 3) := by decide +kernel
theorem dX7_depart_32 : decode cX7_depart 32 = .ok (.aload_n 0, 1) := by decide +kernel
theorem dX7_depart_33 : decode cX7_depart 33 = .ok (.iload_n 1, 1) := by decide +kernel
theorem dX7_depart_34 : decode cX7_depart 34 = .ok (.iconst 0, 1) := by decide +kernel
theorem dX7_depart_35 : decode cX7_depart 35 = .ok (.invokevirtual 63, 3) := by decide +kernel
theorem dX7_depart_38 : decode cX7_depart 38 = .ok (.istore_n 3, 1) := by decide +kernel
theorem dX7_depart_39 : decode cX7_depart 39 = .ok (.aload_n 0, 1) := by decide +kernel
theorem dX7_depart_40 : decode cX7_depart 40 = .ok (.iload_n 1, 1) := by decide +kernel
theorem dX7_depart_41 : decode cX7_depart 41 = .ok (.iconst 0, 1) := by decide +kernel
theorem dX7_depart_42 : decode cX7_depart 42 = .ok (.iconst 0, 1) := by decide +kernel
theorem dX7_depart_43 : decode cX7_depart 43 = .ok (.invokevirtual 93, 3) := by decide +kernel
theorem dX7_depart_46 : decode cX7_depart 46 = .ok (.aload_n 0, 1) := by decide +kernel
theorem dX7_depart_47 : decode cX7_depart 47 = .ok (.iload_n 1, 1) := by decide +kernel
theorem dX7_depart_48 : decode cX7_depart 48 = .ok (.iconst 1, 1) := by decide +kernel
theorem dX7_depart_49 : decode cX7_depart 49 = .ok (.iconst 0, 1) := by decide +kernel
theorem dX7_depart_50 : decode cX7_depart 50 = .ok (.invokevirtual 93, 3) := by decide +kernel
theorem dX7_depart_53 : decode cX7_depart 53 = .ok (.aload_n 0, 1) := by decide +kernel
theorem dX7_depart_54 : decode cX7_depart 54 = .ok (.getfield 7, 3) := by decide +kernel
theorem dX7_depart_57 : decode cX7_depart 57 = .ok (.bipush 10, 2) := by decide +kernel
theorem dX7_depart_59 : decode cX7_depart 59 = .ok (.dup2, 1) := by decide +kernel
theorem dX7_depart_60 : decode cX7_depart 60 = .ok (.iaload, 1) := by decide +kernel
theorem dX7_depart_61 : decode cX7_depart 61 = .ok (.iconst 1, 1) := by decide +kernel
theorem dX7_depart_62 : decode cX7_depart 62 = .ok (.iadd, 1) := by decide +kernel
theorem dX7_depart_63 : decode cX7_depart 63 = .ok (.iastore, 1) := by decide +kernel
theorem dX7_depart_64 : decode cX7_depart 64 = .ok (.aload_n 0, 1) := by decide +kernel
theorem dX7_depart_65 : decode cX7_depart 65 = .ok (.getfield 7, 3) := by decide +kernel
theorem dX7_depart_68 : decode cX7_depart 68 = .ok (.bipush 11, 2) := by decide +kernel
theorem dX7_depart_70 : decode cX7_depart 70 = .ok (.dup2, 1) := by decide +kernel
theorem dX7_depart_71 : decode cX7_depart 71 = .ok (.iaload, 1) := by decide +kernel
theorem dX7_depart_72 : decode cX7_depart 72 = .ok (.iload_n 3, 1) := by decide +kernel
theorem dX7_depart_73 : decode cX7_depart 73 = .ok (.iadd, 1) := by decide +kernel
theorem dX7_depart_74 : decode cX7_depart 74 = .ok (.iastore, 1) := by decide +kernel
theorem dX7_depart_75 : decode cX7_depart 75 = .ok (.bipush 13, 2) := by decide +kernel
theorem dX7_depart_77 : decode cX7_depart 77 = .ok (.istore 4, 2) := by decide +kernel
theorem dX7_depart_79 : decode cX7_depart 79 = .ok (.iload 4, 2) := by decide +kernel
theorem dX7_depart_81 : decode cX7_depart 81 = .ok (.bipush 13, 2) := by decide +kernel
theorem dX7_depart_83 : decode cX7_depart 83 = .ok (.aload_n 0, 1) := by decide +kernel
theorem dX7_depart_84 : decode cX7_depart 84 = .ok (.getfield 7, 3) := by decide +kernel
theorem dX7_depart_87 : decode cX7_depart 87 = .ok (.bipush 12, 2) := by decide +kernel
theorem dX7_depart_89 : decode cX7_depart 89 = .ok (.iaload, 1) := by decide +kernel
theorem dX7_depart_90 : decode cX7_depart 90 = .ok (.iadd, 1) := by decide +kernel
theorem dX7_depart_91 : decode cX7_depart 91 = .ok (.iconst 1, 1) := by decide +kernel
theorem dX7_depart_92 : decode cX7_depart 92 = .ok (.isub, 1) := by decide +kernel
theorem dX7_depart_93 : decode cX7_depart 93 = .ok (.if_icmp .ge 25, 3) := by decide +kernel
theorem dX7_depart_96 : decode cX7_depart 96 = .ok (.aload_n 0, 1) := by decide +kernel
theorem dX7_depart_97 : decode cX7_depart 97 = .ok (.getfield 7, 3) := by decide +kernel
theorem dX7_depart_100 : decode cX7_depart 100 = .ok (.iload 4, 2) := by decide +kernel
theorem dX7_depart_102 : decode cX7_depart 102 = .ok (.aload_n 0, 1) := by decide +kernel
theorem dX7_depart_103 : decode cX7_depart 103 = .ok (.getfield 7, 3) := by decide +kernel
theorem dX7_depart_106 : decode cX7_depart 106 = .ok (.iload 4, 2) := by decide +kernel
theorem dX7_depart_108 : decode cX7_depart 108 = .ok (.iconst 1, 1) := by decide +kernel
theorem dX7_depart_109 : decode cX7_depart 109 = .ok (.iadd, 1) := by decide +kernel
theorem dX7_depart_110 : decode cX7_depart 110 = .ok (.iaload, 1) := by decide +kernel
theorem dX7_depart_111 : decode cX7_depart 111 = .ok (.iastore, 1) := by decide +kernel
theorem dX7_depart_112 : decode cX7_depart 112 = .ok (.iinc 4 1, 3) := by decide +kernel
theorem dX7_depart_115 : decode cX7_depart 115 = .ok (.goto (-36), 3) := by decide +kernel
theorem dX7_depart_118 : decode cX7_depart 118 = .ok (.aload_n 0, 1) := by decide +kernel
theorem dX7_depart_119 : decode cX7_depart 119 = .ok (.getfield 7, 3) := by decide +kernel
theorem dX7_depart_122 : decode cX7_depart 122 = .ok (.bipush 12, 2) := by decide +kernel
theorem dX7_depart_124 : decode cX7_depart 124 = .ok (.dup2, 1) := by decide +kernel
theorem dX7_depart_125 : decode cX7_depart 125 = .ok (.iaload, 1) := by decide +kernel
theorem dX7_depart_126 : decode cX7_depart 126 = .ok (.iconst 1, 1) := by decide +kernel
theorem dX7_depart_127 : decode cX7_depart 127 = .ok (.isub, 1) := by decide +kernel
theorem dX7_depart_128 : decode cX7_depart 128 = .ok (.iastore, 1) := by decide +kernel
theorem dX7_depart_129 : decode cX7_depart 129 = .ok (.iload_n 3, 1) := by decide +kernel
theorem dX7_depart_130 : decode cX7_depart 130 = .ok (.ireturn, 1) := by decide +kernel
theorem dX7_fails_0 : decode cX7_fails 0 = .ok (.aload_n 0, 1) := by decide +kernel
theorem dX7_fails_1 : decode cX7_fails 1 = .ok (.iload_n 1, 1) := by decide +kernel
theorem dX7_fails_2 : decode cX7_fails 2 = .ok (.putfield 130, 3) := by decide +kernel
theorem dX7_fails_5 : decode cX7_fails 5 = .ok (.aload_n 0, 1) := by decide +kernel
theorem dX7_fails_6 : decode cX7_fails 6 = .ok (.iload_n 2, 1) := by decide +kernel
theorem dX7_fails_7 : decode cX7_fails 7 = .ok (.putfield 133, 3) := by decide +kernel
theorem dX7_fails_10 : decode cX7_fails 10 = .ok (.return_, 1) := by decide +kernel
theorem dX7_isLetter_0 : decode cX7_isLetter 0 = .ok (.iload_n 0, 1) := by decide +kernel
theorem dX7_isLetter_1 : decode cX7_isLetter 1 = .ok (.bipush 65, 2) := by decide +kernel
theorem dX7_isLetter_3 : decode cX7_isLetter 3 = .ok (.bipush 70, 2) := by decide +kernel
theorem dX7_isLetter_5 : decode cX7_isLetter 5 = .ok (.invokestatic 59, 3) := by decide +kernel
theorem dX7_isLetter_8 : decode cX7_isLetter 8 = .ok (.ireturn, 1) := by decide +kernel
theorem dX7_readWagons_0 : decode cX7_readWagons 0 = .ok (.aload_n 0, 1) := by decide +kernel
theorem dX7_readWagons_1 : decode cX7_readWagons 1 = .ok (.bipush (-9), 2) := by decide +kernel
theorem dX7_readWagons_3 : decode cX7_readWagons 3 = .ok (.bipush (-9), 2) := by decide +kernel
theorem dX7_readWagons_5 : decode cX7_readWagons 5 = .ok (.invokevirtual 136, 3) := by decide +kernel
theorem dX7_readWagons_8 : decode cX7_readWagons 8 = .ok (.aload_n 0, 1) := by decide +kernel
theorem dX7_readWagons_9 : decode cX7_readWagons 9 = .ok (.iconst 0, 1) := by decide +kernel
theorem dX7_readWagons_10 : decode cX7_readWagons 10 = .ok (.putfield 139, 3) := by decide +kernel
theorem dX7_readWagons_13 : decode cX7_readWagons 13 = .ok (.iconst 0, 1) := by decide +kernel
theorem dX7_readWagons_14 : decode cX7_readWagons 14 = .ok (.istore_n 1, 1) := by decide +kernel
theorem dX7_readWagons_15 : decode cX7_readWagons 15 = .ok (.iconst 1, 1) := by decide +kernel
theorem dX7_readWagons_16 : decode cX7_readWagons 16 = .ok (.istore_n 2, 1) := by decide +kernel
theorem dX7_readWagons_17 : decode cX7_readWagons 17 = .ok (.iconst 0, 1) := by decide +kernel
theorem dX7_readWagons_18 : decode cX7_readWagons 18 = .ok (.istore_n 3, 1) := by decide +kernel
theorem dX7_readWagons_19 : decode cX7_readWagons 19 = .ok (.iconst 0, 1) := by decide +kernel
theorem dX7_readWagons_20 : decode cX7_readWagons 20 = .ok (.istore 4, 2) := by decide +kernel
theorem dX7_readWagons_22 : decode cX7_readWagons 22 = .ok (.iload 4, 2) := by decide +kernel
theorem dX7_readWagons_24 : decode cX7_readWagons 24 = .ok (.aload_n 0, 1) := by decide +kernel
theorem dX7_readWagons_25 : decode cX7_readWagons 25 = .ok (.getfield 142, 3) := by decide +kernel
theorem dX7_readWagons_28 : decode cX7_readWagons 28 = .ok (.if_icmp .ge 234, 3) := by decide +kernel
theorem dX7_readWagons_31 : decode cX7_readWagons 31 = .ok (.aload_n 0, 1) := by decide +kernel
theorem dX7_readWagons_32 : decode cX7_readWagons 32 = .ok (.getfield 130, 3) := by decide +kernel
theorem dX7_readWagons_35 : decode cX7_readWagons 35 = .ok (.bipush (-9), 2) := by decide +kernel
theorem dX7_readWagons_37 : decode cX7_readWagons 37 = .ok (.if_icmp .ne 225, 3) := by decide +kernel
theorem dX7_readWagons_40 : decode cX7_readWagons 40 = .ok (.aload_n 0, 1) := by decide +kernel
theorem dX7_readWagons_41 : decode cX7_readWagons 41 = .ok (.getfield 19, 3) := by decide +kernel
theorem dX7_readWagons_44 : decode cX7_readWagons 44 = .ok (.iload 4, 2) := by decide +kernel
theorem dX7_readWagons_46 : decode cX7_readWagons 46 = .ok (.iaload, 1) := by decide +kernel
theorem dX7_readWagons_47 : decode cX7_readWagons 47 = .ok (.istore 5, 2) := by decide +kernel
theorem dX7_readWagons_49 : decode cX7_readWagons 49 = .ok (.iload_n 1, 1) := by decide +kernel
theorem dX7_readWagons_50 : decode cX7_readWagons 50 = .ok (.iconst 2, 1) := by decide +kernel
theorem dX7_readWagons_51 : decode cX7_readWagons 51 = .ok (.if_icmp .ge 93, 3) := by decide +kernel
theorem dX7_readWagons_54 : decode cX7_readWagons 54 = .ok (.iload 5, 2) := by decide +kernel
theorem dX7_readWagons_56 : decode cX7_readWagons 56 = .ok (.invokestatic 145, 3) := by decide +kernel
theorem dX7_readWagons_59 : decode cX7_readWagons 59 = .ok (.ifCond .eq 85, 3) := by decide +kernel
theorem dX7_readWagons_62 : decode cX7_readWagons 62 = .ok (.aload_n 0, 1) := by decide +kernel
theorem dX7_readWagons_63 : decode cX7_readWagons 63 = .ok (.getfield 139, 3) := by decide +kernel
theorem dX7_readWagons_66 : decode cX7_readWagons 66 = .ok (.iload_n 2, 1) := by decide +kernel
theorem dX7_readWagons_67 : decode cX7_readWagons 67 = .ok (.iadd, 1) := by decide +kernel
theorem dX7_readWagons_68 : decode cX7_readWagons 68 = .ok (.bipush 8, 2) := by decide +kernel
theorem dX7_readWagons_70 : decode cX7_readWagons 70 = .ok (.if_icmp .le 13, 3) := by decide +kernel
theorem dX7_readWagons_73 : decode cX7_readWagons 73 = .ok (.aload_n 0, 1) := by decide +kernel
theorem dX7_readWagons_74 : decode cX7_readWagons 74 = .ok (.iconst 3, 1) := by decide +kernel
theorem dX7_readWagons_75 : decode cX7_readWagons 75 = .ok (.iload 4, 2) := by decide +kernel
theorem dX7_readWagons_77 : decode cX7_readWagons 77 = .ok (.invokevirtual 136, 3) := by decide +kernel
theorem dX7_readWagons_80 : decode cX7_readWagons 80 = .ok (.goto 176, 3) := by decide +kernel
theorem dX7_readWagons_83 : decode cX7_readWagons 83 = .ok (.aload_n 0, 1) := by decide +kernel
theorem dX7_readWagons_84 : decode cX7_readWagons 84 = .ok (.getfield 139, 3) := by decide +kernel
theorem dX7_readWagons_87 : decode cX7_readWagons 87 = .ok (.istore_n 3, 1) := by decide +kernel
theorem dX7_readWagons_88 : decode cX7_readWagons 88 = .ok (.iconst 0, 1) := by decide +kernel
theorem dX7_readWagons_89 : decode cX7_readWagons 89 = .ok (.istore 6, 2) := by decide +kernel
theorem dX7_readWagons_91 : decode cX7_readWagons 91 = .ok (.iload 6, 2) := by decide +kernel
theorem dX7_readWagons_93 : decode cX7_readWagons 93 = .ok (.iload_n 2, 1) := by decide +kernel
theorem dX7_readWagons_94 : decode cX7_readWagons 94 = .ok (.if_icmp .ge 43, 3) := by decide +kernel
theorem dX7_readWagons_97 : decode cX7_readWagons 97 = .ok (.aload_n 0, 1) := by decide +kernel
theorem dX7_readWagons_98 : decode cX7_readWagons 98 = .ok (.getfield 35, 3) := by decide +kernel
theorem dX7_readWagons_101 : decode cX7_readWagons 101 = .ok (.aload_n 0, 1) := by decide +kernel
theorem dX7_readWagons_102 : decode cX7_readWagons 102 = .ok (.getfield 139, 3) := by decide +kernel
theorem dX7_readWagons_105 : decode cX7_readWagons 105 = .ok (.iload 5, 2) := by decide +kernel
theorem dX7_readWagons_107 : decode cX7_readWagons 107 = .ok (.bipush 65, 2) := by decide +kernel
theorem dX7_readWagons_109 : decode cX7_readWagons 109 = .ok (.isub, 1) := by decide +kernel
theorem dX7_readWagons_110 : decode cX7_readWagons 110 = .ok (.iastore, 1) := by decide +kernel
theorem dX7_readWagons_111 : decode cX7_readWagons 111 = .ok (.aload_n 0, 1) := by decide +kernel
theorem dX7_readWagons_112 : decode cX7_readWagons 112 = .ok (.getfield 38, 3) := by decide +kernel
theorem dX7_readWagons_115 : decode cX7_readWagons 115 = .ok (.aload_n 0, 1) := by decide +kernel
theorem dX7_readWagons_116 : decode cX7_readWagons 116 = .ok (.getfield 139, 3) := by decide +kernel
theorem dX7_readWagons_119 : decode cX7_readWagons 119 = .ok (.iconst 0, 1) := by decide +kernel
theorem dX7_readWagons_120 : decode cX7_readWagons 120 = .ok (.iastore, 1) := by decide +kernel
theorem dX7_readWagons_121 : decode cX7_readWagons 121 = .ok (.aload_n 0, 1) := by decide +kernel
theorem dX7_readWagons_122 : decode cX7_readWagons 122 = .ok (.dup, 1) := by decide +kernel
theorem dX7_readWagons_123 : decode cX7_readWagons 123 = .ok (.getfield 139, 3) := by decide +kernel
theorem dX7_readWagons_126 : decode cX7_readWagons 126 = .ok (.iconst 1, 1) := by decide +kernel
theorem dX7_readWagons_127 : decode cX7_readWagons 127 = .ok (.iadd, 1) := by decide +kernel
theorem dX7_readWagons_128 : decode cX7_readWagons 128 = .ok (.putfield 139, 3) := by decide +kernel
theorem dX7_readWagons_131 : decode cX7_readWagons 131 = .ok (.iinc 6 1, 3) := by decide +kernel
theorem dX7_readWagons_134 : decode cX7_readWagons 134 = .ok (.goto (-43), 3) := by decide +kernel
theorem dX7_readWagons_137 : decode cX7_readWagons 137 = .ok (.iconst 1, 1) := by decide +kernel
theorem dX7_readWagons_138 : decode cX7_readWagons 138 = .ok (.istore_n 2, 1) := by decide +kernel
theorem dX7_readWagons_139 : decode cX7_readWagons 139 = .ok (.iconst 2, 1) := by decide +kernel
theorem dX7_readWagons_140 : decode cX7_readWagons 140 = .ok (.istore_n 1, 1) := by decide +kernel
theorem dX7_readWagons_141 : decode cX7_readWagons 141 = .ok (.goto 115, 3) := by decide +kernel
theorem dX7_readWagons_144 : decode cX7_readWagons 144 = .ok (.iload_n 1, 1) := by decide +kernel
theorem dX7_readWagons_145 : decode cX7_readWagons 145 = .ok (.ifCond .ne 26, 3) := by decide +kernel
theorem dX7_readWagons_148 : decode cX7_readWagons 148 = .ok (.iload 5, 2) := by decide +kernel
theorem dX7_readWagons_150 : decode cX7_readWagons 150 = .ok (.bipush 49, 2) := by decide +kernel
theorem dX7_readWagons_152 : decode cX7_readWagons 152 = .ok (.bipush 56, 2) := by decide +kernel
theorem dX7_readWagons_154 : decode cX7_readWagons 154 = .ok (.invokestatic 59, 3) := by decide +kernel
theorem dX7_readWagons_157 : decode cX7_readWagons 157 = .ok (.ifCond .eq 14, 3) := by decide +kernel
theorem dX7_readWagons_160 : decode cX7_readWagons 160 = .ok (.iload 5, 2) := by decide +kernel
theorem dX7_readWagons_162 : decode cX7_readWagons 162 = .ok (.bipush 48, 2) := by decide +kernel
theorem dX7_readWagons_164 : decode cX7_readWagons 164 = .ok (.isub, 1) := by decide +kernel
theorem dX7_readWagons_165 : decode cX7_readWagons 165 = .ok (.istore_n 2, 1) := by decide +kernel
theorem dX7_readWagons_166 : decode cX7_readWagons 166 = .ok (.iconst 1, 1) := by decide +kernel
theorem dX7_readWagons_167 : decode cX7_readWagons 167 = .ok (.istore_n 1, 1) := by decide +kernel
theorem dX7_readWagons_168 : decode cX7_readWagons 168 = .ok (.goto 88, 3) := by decide +kernel
theorem dX7_readWagons_171 : decode cX7_readWagons 171 = .ok (.iload_n 1, 1) := by decide +kernel
theorem dX7_readWagons_172 : decode cX7_readWagons 172 = .ok (.iconst 2, 1) := by decide +kernel
theorem dX7_readWagons_173 : decode cX7_readWagons 173 = .ok (.if_icmp .ne 59, 3) := by decide +kernel
theorem dX7_readWagons_176 : decode cX7_readWagons 176 = .ok (.iload 5, 2) := by decide +kernel
theorem dX7_readWagons_178 : decode cX7_readWagons 178 = .ok (.bipush 102, 2) := by decide +kernel
theorem dX7_readWagons_180 : decode cX7_readWagons 180 = .ok (.if_icmp .eq 10, 3) := by decide +kernel
theorem dX7_readWagons_183 : decode cX7_readWagons 183 = .ok (.iload 5, 2) := by decide +kernel
theorem dX7_readWagons_185 : decode cX7_readWagons 185 = .ok (.bipush 120, 2) := by decide +kernel
theorem dX7_readWagons_187 : decode cX7_readWagons 187 = .ok (.if_icmp .ne 45, 3) := by decide +kernel
theorem dX7_readWagons_190 : decode cX7_readWagons 190 = .ok (.iload_n 3, 1) := by decide +kernel
theorem dX7_readWagons_191 : decode cX7_readWagons 191 = .ok (.istore 6, 2) := by decide +kernel
theorem dX7_readWagons_193 : decode cX7_readWagons 193 = .ok (.iload 6, 2) := by decide +kernel
theorem dX7_readWagons_195 : decode cX7_readWagons 195 = .ok (.aload_n 0, 1) := by decide +kernel
theorem dX7_readWagons_196 : decode cX7_readWagons 196 = .ok (.getfield 139, 3) := by decide +kernel
theorem dX7_readWagons_199 : decode cX7_readWagons 199 = .ok (.if_icmp .ge 28, 3) := by decide +kernel
theorem dX7_readWagons_202 : decode cX7_readWagons 202 = .ok (.aload_n 0, 1) := by decide +kernel
theorem dX7_readWagons_203 : decode cX7_readWagons 203 = .ok (.getfield 38, 3) := by decide +kernel
theorem dX7_readWagons_206 : decode cX7_readWagons 206 = .ok (.iload 6, 2) := by decide +kernel
theorem dX7_readWagons_208 : decode cX7_readWagons 208 = .ok (.iload 5, 2) := by decide +kernel
theorem dX7_readWagons_210 : decode cX7_readWagons 210 = .ok (.bipush 102, 2) := by decide +kernel
theorem dX7_readWagons_212 : decode cX7_readWagons 212 = .ok (.if_icmp .ne 7, 3) := by decide +kernel
theorem dX7_readWagons_215 : decode cX7_readWagons 215 = .ok (.iconst 1, 1) := by decide +kernel
theorem dX7_readWagons_216 : decode cX7_readWagons 216 = .ok (.goto 4, 3) := by decide +kernel
theorem dX7_readWagons_219 : decode cX7_readWagons 219 = .ok (.iconst 2, 1) := by decide +kernel
theorem dX7_readWagons_220 : decode cX7_readWagons 220 = .ok (.iastore, 1) := by decide +kernel
theorem dX7_readWagons_221 : decode cX7_readWagons 221 = .ok (.iinc 6 1, 3) := by decide +kernel
theorem dX7_readWagons_224 : decode cX7_readWagons 224 = .ok (.goto (-31), 3) := by decide +kernel
theorem dX7_readWagons_227 : decode cX7_readWagons 227 = .ok (.iconst 3, 1) := by decide +kernel
theorem dX7_readWagons_228 : decode cX7_readWagons 228 = .ok (.istore_n 1, 1) := by decide +kernel
theorem dX7_readWagons_229 : decode cX7_readWagons 229 = .ok (.goto 27, 3) := by decide +kernel
theorem dX7_readWagons_232 : decode cX7_readWagons 232 = .ok (.iload 5, 2) := by decide +kernel
theorem dX7_readWagons_234 : decode cX7_readWagons 234 = .ok (.bipush 32, 2) := by decide +kernel
theorem dX7_readWagons_236 : decode cX7_readWagons 236 = .ok (.if_icmp .ne 13, 3) := by decide +kernel
theorem dX7_readWagons_239 : decode cX7_readWagons 239 = .ok (.iload_n 1, 1) := by decide +kernel
theorem dX7_readWagons_240 : decode cX7_readWagons 240 = .ok (.iconst 1, 1) := by decide +kernel
theorem dX7_readWagons_241 : decode cX7_readWagons 241 = .ok (.if_icmp .eq 8, 3) := by decide +kernel
theorem dX7_readWagons_244 : decode cX7_readWagons 244 = .ok (.iconst 0, 1) := by decide +kernel
theorem dX7_readWagons_245 : decode cX7_readWagons 245 = .ok (.istore_n 1, 1) := by decide +kernel
theorem dX7_readWagons_246 : decode cX7_readWagons 246 = .ok (.goto 10, 3) := by decide +kernel
theorem dX7_readWagons_249 : decode cX7_readWagons 249 = .ok (.aload_n 0, 1) := by decide +kernel
theorem dX7_readWagons_250 : decode cX7_readWagons 250 = .ok (.iconst 1, 1) := by decide +kernel
theorem dX7_readWagons_251 : decode cX7_readWagons 251 = .ok (.iload 4, 2) := by decide +kernel
theorem dX7_readWagons_253 : decode cX7_readWagons 253 = .ok (.invokevirtual 136, 3) := by decide +kernel
theorem dX7_readWagons_256 : decode cX7_readWagons 256 = .ok (.iinc 4 1, 3) := by decide +kernel
theorem dX7_readWagons_259 : decode cX7_readWagons 259 = .ok (.goto (-237), 3) := by decide +kernel
theorem dX7_readWagons_262 : decode cX7_readWagons 262 = .ok (.aload_n 0, 1) := by decide +kernel
theorem dX7_readWagons_263 : decode cX7_readWagons 263 = .ok (.getfield 130, 3) := by decide +kernel
theorem dX7_readWagons_266 : decode cX7_readWagons 266 = .ok (.bipush (-9), 2) := by decide +kernel
theorem dX7_readWagons_268 : decode cX7_readWagons 268 = .ok (.if_icmp .ne 17, 3) := by decide +kernel
theorem dX7_readWagons_271 : decode cX7_readWagons 271 = .ok (.iload_n 1, 1) := by decide +kernel
theorem dX7_readWagons_272 : decode cX7_readWagons 272 = .ok (.iconst 1, 1) := by decide +kernel
theorem dX7_readWagons_273 : decode cX7_readWagons 273 = .ok (.if_icmp .ne 12, 3) := by decide +kernel
theorem dX7_readWagons_276 : decode cX7_readWagons 276 = .ok (.aload_n 0, 1) := by decide +kernel
theorem dX7_readWagons_277 : decode cX7_readWagons 277 = .ok (.iconst 2, 1) := by decide +kernel
theorem dX7_readWagons_278 : decode cX7_readWagons 278 = .ok (.aload_n 0, 1) := by decide +kernel
theorem dX7_readWagons_279 : decode cX7_readWagons 279 = .ok (.getfield 142, 3) := by decide +kernel
theorem dX7_readWagons_282 : decode cX7_readWagons 282 = .ok (.invokevirtual 136, 3) := by decide +kernel
theorem dX7_readWagons_285 : decode cX7_readWagons 285 = .ok (.return_, 1) := by decide +kernel
theorem dX7_readList_0 : decode cX7_readList 0 = .ok (.aload_n 0, 1) := by decide +kernel
theorem dX7_readList_1 : decode cX7_readList 1 = .ok (.bipush (-9), 2) := by decide +kernel
theorem dX7_readList_3 : decode cX7_readList 3 = .ok (.bipush (-9), 2) := by decide +kernel
theorem dX7_readList_5 : decode cX7_readList 5 = .ok (.invokevirtual 136, 3) := by decide +kernel
theorem dX7_readList_8 : decode cX7_readList 8 = .ok (.aload_n 0, 1) := by decide +kernel
theorem dX7_readList_9 : decode cX7_readList 9 = .ok (.iconst 0, 1) := by decide +kernel
theorem dX7_readList_10 : decode cX7_readList 10 = .ok (.putfield 139, 3) := by decide +kernel
theorem dX7_readList_13 : decode cX7_readList 13 = .ok (.iconst 0, 1) := by decide +kernel
theorem dX7_readList_14 : decode cX7_readList 14 = .ok (.istore_n 1, 1) := by decide +kernel
theorem dX7_readList_15 : decode cX7_readList 15 = .ok (.iload_n 1, 1) := by decide +kernel
theorem dX7_readList_16 : decode cX7_readList 16 = .ok (.aload_n 0, 1) := by decide +kernel
theorem dX7_readList_17 : decode cX7_readList 17 = .ok (.getfield 142, 3) := by decide +kernel
theorem dX7_readList_20 : decode cX7_readList 20 = .ok (.if_icmp .ge 88, 3) := by decide +kernel
theorem dX7_readList_23 : decode cX7_readList 23 = .ok (.aload_n 0, 1) := by decide +kernel
theorem dX7_readList_24 : decode cX7_readList 24 = .ok (.getfield 130, 3) := by decide +kernel
theorem dX7_readList_27 : decode cX7_readList 27 = .ok (.bipush (-9), 2) := by decide +kernel
theorem dX7_readList_29 : decode cX7_readList 29 = .ok (.if_icmp .ne 79, 3) := by decide +kernel
theorem dX7_readList_32 : decode cX7_readList 32 = .ok (.aload_n 0, 1) := by decide +kernel
theorem dX7_readList_33 : decode cX7_readList 33 = .ok (.getfield 19, 3) := by decide +kernel
theorem dX7_readList_36 : decode cX7_readList 36 = .ok (.iload_n 1, 1) := by decide +kernel
theorem dX7_readList_37 : decode cX7_readList 37 = .ok (.iaload, 1) := by decide +kernel
theorem dX7_readList_38 : decode cX7_readList 38 = .ok (.istore_n 2, 1) := by decide +kernel
theorem dX7_readList_39 : decode cX7_readList 39 = .ok (.iload_n 2, 1) := by decide +kernel
theorem dX7_readList_40 : decode cX7_readList 40 = .ok (.invokestatic 145, 3) := by decide +kernel
theorem dX7_readList_43 : decode cX7_readList 43 = .ok (.ifCond .eq 47, 3) := by decide +kernel
theorem dX7_readList_46 : decode cX7_readList 46 = .ok (.aload_n 0, 1) := by decide +kernel
theorem dX7_readList_47 : decode cX7_readList 47 = .ok (.getfield 139, 3) := by decide +kernel
theorem dX7_readList_50 : decode cX7_readList 50 = .ok (.bipush 10, 2) := by decide +kernel
theorem dX7_readList_52 : decode cX7_readList 52 = .ok (.if_icmp .ne 12, 3) := by decide +kernel
theorem dX7_readList_55 : decode cX7_readList 55 = .ok (.aload_n 0, 1) := by decide +kernel
theorem dX7_readList_56 : decode cX7_readList 56 = .ok (.iconst 4, 1) := by decide +kernel
theorem dX7_readList_57 : decode cX7_readList 57 = .ok (.iload_n 1, 1) := by decide +kernel
theorem dX7_readList_58 : decode cX7_readList 58 = .ok (.invokevirtual 136, 3) := by decide +kernel
theorem dX7_readList_61 : decode cX7_readList 61 = .ok (.goto 41, 3) := by decide +kernel
theorem dX7_readList_64 : decode cX7_readList 64 = .ok (.aload_n 0, 1) := by decide +kernel
theorem dX7_readList_65 : decode cX7_readList 65 = .ok (.getfield 41, 3) := by decide +kernel
theorem dX7_readList_68 : decode cX7_readList 68 = .ok (.aload_n 0, 1) := by decide +kernel
theorem dX7_readList_69 : decode cX7_readList 69 = .ok (.getfield 139, 3) := by decide +kernel
theorem dX7_readList_72 : decode cX7_readList 72 = .ok (.iload_n 2, 1) := by decide +kernel
theorem dX7_readList_73 : decode cX7_readList 73 = .ok (.bipush 65, 2) := by decide +kernel
theorem dX7_readList_75 : decode cX7_readList 75 = .ok (.isub, 1) := by decide +kernel
theorem dX7_readList_76 : decode cX7_readList 76 = .ok (.iastore, 1) := by decide +kernel
theorem dX7_readList_77 : decode cX7_readList 77 = .ok (.aload_n 0, 1) := by decide +kernel
theorem dX7_readList_78 : decode cX7_readList 78 = .ok (.dup, 1) := by decide +kernel
theorem dX7_readList_79 : decode cX7_readList 79 = .ok (.getfield 139, 3) := by decide +kernel
theorem dX7_readList_82 : decode cX7_readList 82 = .ok (.iconst 1, 1) := by decide +kernel
theorem dX7_readList_83 : decode cX7_readList 83 = .ok (.iadd, 1) := by decide +kernel
theorem dX7_readList_84 : decode cX7_readList 84 = .ok (.putfield 139, 3) := by decide +kernel
theorem dX7_readList_87 : decode cX7_readList 87 = .ok (.goto 15, 3) := by decide +kernel
theorem dX7_readList_90 : decode cX7_readList 90 = .ok (.iload_n 2, 1) := by decide +kernel
theorem dX7_readList_91 : decode cX7_readList 91 = .ok (.bipush 32, 2) := by decide +kernel
theorem dX7_readList_93 : decode cX7_readList 93 = .ok (.if_icmp .eq 9, 3) := by decide +kernel
theorem dX7_readList_96 : decode cX7_readList 96 = .ok (.aload_n 0, 1) := by decide +kernel
theorem dX7_readList_97 : decode cX7_readList 97 = .ok (.iconst 1, 1) := by decide +kernel
theorem dX7_readList_98 : decode cX7_readList 98 = .ok (.iload_n 1, 1) := by decide +kernel
theorem dX7_readList_99 : decode cX7_readList 99 = .ok (.invokevirtual 136, 3) := by decide +kernel
theorem dX7_readList_102 : decode cX7_readList 102 = .ok (.iinc 1 1, 3) := by decide +kernel
theorem dX7_readList_105 : decode cX7_readList 105 = .ok (.goto (-90), 3) := by decide +kernel
theorem dX7_readList_108 : decode cX7_readList 108 = .ok (.return_, 1) := by decide +kernel
theorem dX7_hasFault_0 : decode cX7_hasFault 0 = .ok (.aload_n 0, 1) := by decide +kernel
theorem dX7_hasFault_1 : decode cX7_hasFault 1 = .ok (.getfield 130, 3) := by decide +kernel
theorem dX7_hasFault_4 : decode cX7_hasFault 4 = .ok (.bipush (-9), 2) := by decide +kernel
theorem dX7_hasFault_6 : decode cX7_hasFault 6 = .ok (.if_icmp .eq 19, 3) := by decide +kernel
theorem dX7_hasFault_9 : decode cX7_hasFault 9 = .ok (.aload_n 0, 1) := by decide +kernel
theorem dX7_hasFault_10 : decode cX7_hasFault 10 = .ok (.aload_n 0, 1) := by decide +kernel
theorem dX7_hasFault_11 : decode cX7_hasFault 11 = .ok (.getfield 130, 3) := by decide +kernel
theorem dX7_hasFault_14 : decode cX7_hasFault 14 = .ok (.putfield 22, 3) := by decide +kernel
theorem dX7_hasFault_17 : decode cX7_hasFault 17 = .ok (.aload_n 0, 1) := by decide +kernel
theorem dX7_hasFault_18 : decode cX7_hasFault 18 = .ok (.aload_n 0, 1) := by decide +kernel
theorem dX7_hasFault_19 : decode cX7_hasFault 19 = .ok (.getfield 133, 3) := by decide +kernel
theorem dX7_hasFault_22 : decode cX7_hasFault 22 = .ok (.putfield 26, 3) := by decide +kernel
theorem dX7_hasFault_25 : decode cX7_hasFault 25 = .ok (.aload_n 0, 1) := by decide +kernel
theorem dX7_hasFault_26 : decode cX7_hasFault 26 = .ok (.getfield 130, 3) := by decide +kernel
theorem dX7_hasFault_29 : decode cX7_hasFault 29 = .ok (.bipush (-9), 2) := by decide +kernel
theorem dX7_hasFault_31 : decode cX7_hasFault 31 = .ok (.if_icmp .eq 7, 3) := by decide +kernel
theorem dX7_hasFault_34 : decode cX7_hasFault 34 = .ok (.iconst 1, 1) := by decide +kernel
theorem dX7_hasFault_35 : decode cX7_hasFault 35 = .ok (.goto 4, 3) := by decide +kernel
theorem dX7_hasFault_38 : decode cX7_hasFault 38 = .ok (.iconst 0, 1) := by decide +kernel
theorem dX7_hasFault_39 : decode cX7_hasFault 39 = .ok (.ireturn, 1) := by decide +kernel
theorem dX7_arrive_0 : decode cX7_arrive 0 = .ok (.aload_n 0, 1) := by decide +kernel
theorem dX7_arrive_1 : decode cX7_arrive 1 = .ok (.iload_n 1, 1) := by decide +kernel
theorem dX7_arrive_2 : decode cX7_arrive 2 = .ok (.invokevirtual 89, 3) := by decide +kernel
theorem dX7_arrive_5 : decode cX7_arrive 5 = .ok (.ifCond .ne 5, 3) := by decide +kernel
theorem dX7_arrive_8 : decode cX7_arrive 8 = .ok (.iconst (-1), 1) := by decide +kernel
theorem dX7_arrive_9 : decode cX7_arrive 9 = .ok (.ireturn, 1) := by decide +kernel
theorem dX7_arrive_10 : decode cX7_arrive 10 = .ok (.aload_n 0, 1) := by decide +kernel
theorem dX7_arrive_11 : decode cX7_arrive 11 = .ok (.invokevirtual 148, 3) := by decide +kernel
theorem dX7_arrive_14 : decode cX7_arrive 14 = .ok (.aload_n 0, 1) := by decide +kernel
theorem dX7_arrive_15 : decode cX7_arrive 15 = .ok (.invokevirtual 151, 3) := by decide +kernel
theorem dX7_arrive_18 : decode cX7_arrive 18 = .ok (.ifCond .eq 6, 3) := by decide +kernel
theorem dX7_arrive_21 : decode cX7_arrive 21 = .ok (.bipush (-2), 2) := by decide +kernel
theorem dX7_arrive_23 : decode cX7_arrive 23 = .ok (.ireturn, 1) := by decide +kernel
theorem dX7_arrive_24 : decode cX7_arrive 24 = .ok (.aload_n 0, 1) := by decide +kernel
theorem dX7_arrive_25 : decode cX7_arrive 25 = .ok (.iload_n 1, 1) := by decide +kernel
theorem dX7_arrive_26 : decode cX7_arrive 26 = .ok (.aload_n 0, 1) := by decide +kernel
theorem dX7_arrive_27 : decode cX7_arrive 27 = .ok (.iload_n 1, 1) := by decide +kernel
theorem dX7_arrive_28 : decode cX7_arrive 28 = .ok (.iconst 0, 1) := by decide +kernel
theorem dX7_arrive_29 : decode cX7_arrive 29 = .ok (.invokevirtual 63, 3) := by decide +kernel
theorem dX7_arrive_32 : decode cX7_arrive 32 = .ok (.invokevirtual 81, 3) := by decide +kernel
theorem dX7_arrive_35 : decode cX7_arrive 35 = .ok (.iconst 0, 1) := by decide +kernel
theorem dX7_arrive_36 : decode cX7_arrive 36 = .ok (.istore_n 2, 1) := by decide +kernel
theorem dX7_arrive_37 : decode cX7_arrive 37 = .ok (.iload_n 2, 1) := by decide +kernel
theorem dX7_arrive_38 : decode cX7_arrive 38 = .ok (.aload_n 0, 1) := by decide +kernel
theorem dX7_arrive_39 : decode cX7_arrive 39 = .ok (.getfield 139, 3) := by decide +kernel
theorem dX7_arrive_42 : decode cX7_arrive 42 = .ok (.if_icmp .ge 19, 3) := by decide +kernel
theorem dX7_arrive_45 : decode cX7_arrive 45 = .ok (.aload_n 0, 1) := by decide +kernel
theorem dX7_arrive_46 : decode cX7_arrive 46 = .ok (.aload_n 0, 1) := by decide +kernel
theorem dX7_arrive_47 : decode cX7_arrive 47 = .ok (.getfield 38, 3) := by decide +kernel
theorem dX7_arrive_50 : decode cX7_arrive 50 = .ok (.iload_n 2, 1) := by decide +kernel
theorem dX7_arrive_51 : decode cX7_arrive 51 = .ok (.iaload, 1) := by decide +kernel
theorem dX7_arrive_52 : decode cX7_arrive 52 = .ok (.invokevirtual 73, 3) := by decide +kernel
theorem dX7_arrive_55 : decode cX7_arrive 55 = .ok (.iinc 2 1, 3) := by decide +kernel
theorem dX7_arrive_58 : decode cX7_arrive 58 = .ok (.goto (-21), 3) := by decide +kernel
theorem dX7_arrive_61 : decode cX7_arrive 61 = .ok (.aload_n 0, 1) := by decide +kernel
theorem dX7_arrive_62 : decode cX7_arrive 62 = .ok (.invokevirtual 85, 3) := by decide +kernel
theorem dX7_arrive_65 : decode cX7_arrive 65 = .ok (.ifCond .ne 6, 3) := by decide +kernel
theorem dX7_arrive_68 : decode cX7_arrive 68 = .ok (.bipush (-2), 2) := by decide +kernel
theorem dX7_arrive_70 : decode cX7_arrive 70 = .ok (.ireturn, 1) := by decide +kernel
theorem dX7_arrive_71 : decode cX7_arrive 71 = .ok (.aload_n 0, 1) := by decide +kernel
theorem dX7_arrive_72 : decode cX7_arrive 72 = .ok (.iload_n 1, 1) := by decide +kernel
theorem dX7_arrive_73 : decode cX7_arrive 73 = .ok (.iconst 0, 1) := by decide +kernel
theorem dX7_arrive_74 : decode cX7_arrive 74 = .ok (.invokevirtual 63, 3) := by decide +kernel
theorem dX7_arrive_77 : decode cX7_arrive 77 = .ok (.aload_n 0, 1) := by decide +kernel
theorem dX7_arrive_78 : decode cX7_arrive 78 = .ok (.getfield 139, 3) := by decide +kernel
theorem dX7_arrive_81 : decode cX7_arrive 81 = .ok (.iadd, 1) := by decide +kernel
theorem dX7_arrive_82 : decode cX7_arrive 82 = .ok (.aload_n 0, 1) := by decide +kernel
theorem dX7_arrive_83 : decode cX7_arrive 83 = .ok (.getfield 7, 3) := by decide +kernel
theorem dX7_arrive_86 : decode cX7_arrive 86 = .ok (.iconst 5, 1) := by decide +kernel
theorem dX7_arrive_87 : decode cX7_arrive 87 = .ok (.iaload, 1) := by decide +kernel
theorem dX7_arrive_88 : decode cX7_arrive 88 = .ok (.if_icmp .le 6, 3) := by decide +kernel
theorem dX7_arrive_91 : decode cX7_arrive 91 = .ok (.bipush (-3), 2) := by decide +kernel
theorem dX7_arrive_93 : decode cX7_arrive 93 = .ok (.ireturn, 1) := by decide +kernel
theorem dX7_arrive_94 : decode cX7_arrive 94 = .ok (.aload_n 0, 1) := by decide +kernel
theorem dX7_arrive_95 : decode cX7_arrive 95 = .ok (.invokevirtual 107, 3) := by decide +kernel
theorem dX7_arrive_98 : decode cX7_arrive 98 = .ok (.iconst 0, 1) := by decide +kernel
theorem dX7_arrive_99 : decode cX7_arrive 99 = .ok (.istore_n 2, 1) := by decide +kernel
theorem dX7_arrive_100 : decode cX7_arrive 100 = .ok (.iload_n 2, 1) := by decide +kernel
theorem dX7_arrive_101 : decode cX7_arrive 101 = .ok (.aload_n 0, 1) := by decide +kernel
theorem dX7_arrive_102 : decode cX7_arrive 102 = .ok (.getfield 139, 3) := by decide +kernel
theorem dX7_arrive_105 : decode cX7_arrive 105 = .ok (.if_icmp .ge 93, 3) := by decide +kernel
theorem dX7_arrive_108 : decode cX7_arrive 108 = .ok (.iconst 3, 1) := by decide +kernel
theorem dX7_arrive_109 : decode cX7_arrive 109 = .ok (.iconst 3, 1) := by decide +kernel
theorem dX7_arrive_110 : decode cX7_arrive 110 = .ok (.aload_n 0, 1) := by decide +kernel
theorem dX7_arrive_111 : decode cX7_arrive 111 = .ok (.iload_n 1, 1) := by decide +kernel
theorem dX7_arrive_112 : decode cX7_arrive 112 = .ok (.iconst 0, 1) := by decide +kernel
theorem dX7_arrive_113 : decode cX7_arrive 113 = .ok (.invokevirtual 63, 3) := by decide +kernel
theorem dX7_arrive_116 : decode cX7_arrive 116 = .ok (.imul, 1) := by decide +kernel
theorem dX7_arrive_117 : decode cX7_arrive 117 = .ok (.iadd, 1) := by decide +kernel
theorem dX7_arrive_118 : decode cX7_arrive 118 = .ok (.istore_n 3, 1) := by decide +kernel
theorem dX7_arrive_119 : decode cX7_arrive 119 = .ok (.aload_n 0, 1) := by decide +kernel
theorem dX7_arrive_120 : decode cX7_arrive 120 = .ok (.iload_n 1, 1) := by decide +kernel
theorem dX7_arrive_121 : decode cX7_arrive 121 = .ok (.iload_n 3, 1) := by decide +kernel
theorem dX7_arrive_122 : decode cX7_arrive 122 = .ok (.aload_n 0, 1) := by decide +kernel
theorem dX7_arrive_123 : decode cX7_arrive 123 = .ok (.getfield 7, 3) := by decide +kernel
theorem dX7_arrive_126 : decode cX7_arrive 126 = .ok (.bipush 7, 2) := by decide +kernel
theorem dX7_arrive_128 : decode cX7_arrive 128 = .ok (.iaload, 1) := by decide +kernel
theorem dX7_arrive_129 : decode cX7_arrive 129 = .ok (.invokevirtual 93, 3) := by decide +kernel
theorem dX7_arrive_132 : decode cX7_arrive 132 = .ok (.aload_n 0, 1) := by decide +kernel
theorem dX7_arrive_133 : decode cX7_arrive 133 = .ok (.iload_n 1, 1) := by decide +kernel
theorem dX7_arrive_134 : decode cX7_arrive 134 = .ok (.iload_n 3, 1) := by decide +kernel
theorem dX7_arrive_135 : decode cX7_arrive 135 = .ok (.iconst 1, 1) := by decide +kernel
theorem dX7_arrive_136 : decode cX7_arrive 136 = .ok (.iadd, 1) := by decide +kernel
theorem dX7_arrive_137 : decode cX7_arrive 137 = .ok (.aload_n 0, 1) := by decide +kernel
theorem dX7_arrive_138 : decode cX7_arrive 138 = .ok (.getfield 35, 3) := by decide +kernel
theorem dX7_arrive_141 : decode cX7_arrive 141 = .ok (.iload_n 2, 1) := by decide +kernel
theorem dX7_arrive_142 : decode cX7_arrive 142 = .ok (.iaload, 1) := by decide +kernel
theorem dX7_arrive_143 : decode cX7_arrive 143 = .ok (.invokevirtual 93, 3) := by decide +kernel
theorem dX7_arrive_146 : decode cX7_arrive 146 = .ok (.aload_n 0, 1) := by decide +kernel
theorem dX7_arrive_147 : decode cX7_arrive 147 = .ok (.iload_n 1, 1) := by decide +kernel
theorem dX7_arrive_148 : decode cX7_arrive 148 = .ok (.iload_n 3, 1) := by decide +kernel
theorem dX7_arrive_149 : decode cX7_arrive 149 = .ok (.iconst 2, 1) := by decide +kernel
theorem dX7_arrive_150 : decode cX7_arrive 150 = .ok (.iadd, 1) := by decide +kernel
theorem dX7_arrive_151 : decode cX7_arrive 151 = .ok (.aload_n 0, 1) := by decide +kernel
theorem dX7_arrive_152 : decode cX7_arrive 152 = .ok (.getfield 38, 3) := by decide +kernel
theorem dX7_arrive_155 : decode cX7_arrive 155 = .ok (.iload_n 2, 1) := by decide +kernel
theorem dX7_arrive_156 : decode cX7_arrive 156 = .ok (.iaload, 1) := by decide +kernel
theorem dX7_arrive_157 : decode cX7_arrive 157 = .ok (.invokevirtual 93, 3) := by decide +kernel
theorem dX7_arrive_160 : decode cX7_arrive 160 = .ok (.aload_n 0, 1) := by decide +kernel
theorem dX7_arrive_161 : decode cX7_arrive 161 = .ok (.iload_n 1, 1) := by decide +kernel
theorem dX7_arrive_162 : decode cX7_arrive 162 = .ok (.iconst 0, 1) := by decide +kernel
theorem dX7_arrive_163 : decode cX7_arrive 163 = .ok (.aload_n 0, 1) := by decide +kernel
theorem dX7_arrive_164 : decode cX7_arrive 164 = .ok (.iload_n 1, 1) := by decide +kernel
theorem dX7_arrive_165 : decode cX7_arrive 165 = .ok (.iconst 0, 1) := by decide +kernel
theorem dX7_arrive_166 : decode cX7_arrive 166 = .ok (.invokevirtual 63, 3) := by decide +kernel
theorem dX7_arrive_169 : decode cX7_arrive 169 = .ok (.iconst 1, 1) := by decide +kernel
theorem dX7_arrive_170 : decode cX7_arrive 170 = .ok (.iadd, 1) := by decide +kernel
theorem dX7_arrive_171 : decode cX7_arrive 171 = .ok (.invokevirtual 93, 3) := by decide +kernel
theorem dX7_arrive_174 : decode cX7_arrive 174 = .ok (.aload_n 0, 1) := by decide +kernel
theorem dX7_arrive_175 : decode cX7_arrive 175 = .ok (.iload_n 1, 1) := by decide +kernel
theorem dX7_arrive_176 : decode cX7_arrive 176 = .ok (.iconst 1, 1) := by decide +kernel
theorem dX7_arrive_177 : decode cX7_arrive 177 = .ok (.iconst 0, 1) := by decide +kernel
theorem dX7_arrive_178 : decode cX7_arrive 178 = .ok (.invokevirtual 93, 3) := by decide +kernel
theorem dX7_arrive_181 : decode cX7_arrive 181 = .ok (.aload_n 0, 1) := by decide +kernel
theorem dX7_arrive_182 : decode cX7_arrive 182 = .ok (.getfield 7, 3) := by decide +kernel
theorem dX7_arrive_185 : decode cX7_arrive 185 = .ok (.bipush 7, 2) := by decide +kernel
theorem dX7_arrive_187 : decode cX7_arrive 187 = .ok (.dup2, 1) := by decide +kernel
theorem dX7_arrive_188 : decode cX7_arrive 188 = .ok (.iaload, 1) := by decide +kernel
theorem dX7_arrive_189 : decode cX7_arrive 189 = .ok (.iconst 1, 1) := by decide +kernel
theorem dX7_arrive_190 : decode cX7_arrive 190 = .ok (.iadd, 1) := by decide +kernel
theorem dX7_arrive_191 : decode cX7_arrive 191 = .ok (.iastore, 1) := by decide +kernel
theorem dX7_arrive_192 : decode cX7_arrive 192 = .ok (.iinc 2 1, 3) := by decide +kernel
theorem dX7_arrive_195 : decode cX7_arrive 195 = .ok (.goto (-95), 3) := by decide +kernel
theorem dX7_arrive_198 : decode cX7_arrive 198 = .ok (.aload_n 0, 1) := by decide +kernel
theorem dX7_arrive_199 : decode cX7_arrive 199 = .ok (.iload_n 1, 1) := by decide +kernel
theorem dX7_arrive_200 : decode cX7_arrive 200 = .ok (.iconst 0, 1) := by decide +kernel
theorem dX7_arrive_201 : decode cX7_arrive 201 = .ok (.invokevirtual 63, 3) := by decide +kernel
theorem dX7_arrive_204 : decode cX7_arrive 204 = .ok (.ireturn, 1) := by decide +kernel
theorem dX7_list_0 : decode cX7_list 0 = .ok (.aload_n 0, 1) := by decide +kernel
theorem dX7_list_1 : decode cX7_list 1 = .ok (.invokevirtual 154, 3) := by decide +kernel
theorem dX7_list_4 : decode cX7_list 4 = .ok (.aload_n 0, 1) := by decide +kernel
theorem dX7_list_5 : decode cX7_list 5 = .ok (.invokevirtual 151, 3) := by decide +kernel
theorem dX7_list_8 : decode cX7_list 8 = .ok (.ifCond .eq 6, 3) := by decide +kernel
theorem dX7_list_11 : decode cX7_list 11 = .ok (.bipush (-2), 2) := by decide +kernel
theorem dX7_list_13 : decode cX7_list 13 = .ok (.ireturn, 1) := by decide +kernel
theorem dX7_list_14 : decode cX7_list 14 = .ok (.aload_n 0, 1) := by decide +kernel
theorem dX7_list_15 : decode cX7_list 15 = .ok (.invokevirtual 107, 3) := by decide +kernel
theorem dX7_list_18 : decode cX7_list 18 = .ok (.aload_n 0, 1) := by decide +kernel
theorem dX7_list_19 : decode cX7_list 19 = .ok (.getfield 7, 3) := by decide +kernel
theorem dX7_list_22 : decode cX7_list 22 = .ok (.bipush 12, 2) := by decide +kernel
theorem dX7_list_24 : decode cX7_list 24 = .ok (.aload_n 0, 1) := by decide +kernel
theorem dX7_list_25 : decode cX7_list 25 = .ok (.getfield 139, 3) := by decide +kernel
theorem dX7_list_28 : decode cX7_list 28 = .ok (.iastore, 1) := by decide +kernel
theorem dX7_list_29 : decode cX7_list 29 = .ok (.iconst 0, 1) := by decide +kernel
theorem dX7_list_30 : decode cX7_list 30 = .ok (.istore_n 1, 1) := by decide +kernel
theorem dX7_list_31 : decode cX7_list 31 = .ok (.iload_n 1, 1) := by decide +kernel
theorem dX7_list_32 : decode cX7_list 32 = .ok (.aload_n 0, 1) := by decide +kernel
theorem dX7_list_33 : decode cX7_list 33 = .ok (.getfield 139, 3) := by decide +kernel
theorem dX7_list_36 : decode cX7_list 36 = .ok (.if_icmp .ge 24, 3) := by decide +kernel
theorem dX7_list_39 : decode cX7_list 39 = .ok (.aload_n 0, 1) := by decide +kernel
theorem dX7_list_40 : decode cX7_list 40 = .ok (.getfield 7, 3) := by decide +kernel
theorem dX7_list_43 : decode cX7_list 43 = .ok (.bipush 13, 2) := by decide +kernel
theorem dX7_list_45 : decode cX7_list 45 = .ok (.iload_n 1, 1) := by decide +kernel
theorem dX7_list_46 : decode cX7_list 46 = .ok (.iadd, 1) := by decide +kernel
theorem dX7_list_47 : decode cX7_list 47 = .ok (.aload_n 0, 1) := by decide +kernel
theorem dX7_list_48 : decode cX7_list 48 = .ok (.getfield 41, 3) := by decide +kernel
theorem dX7_list_51 : decode cX7_list 51 = .ok (.iload_n 1, 1) := by decide +kernel
theorem dX7_list_52 : decode cX7_list 52 = .ok (.iaload, 1) := by decide +kernel
theorem dX7_list_53 : decode cX7_list 53 = .ok (.iastore, 1) := by decide +kernel
theorem dX7_list_54 : decode cX7_list 54 = .ok (.iinc 1 1, 3) := by decide +kernel
theorem dX7_list_57 : decode cX7_list 57 = .ok (.goto (-26), 3) := by decide +kernel
theorem dX7_list_60 : decode cX7_list 60 = .ok (.aload_n 0, 1) := by decide +kernel
theorem dX7_list_61 : decode cX7_list 61 = .ok (.getfield 139, 3) := by decide +kernel
theorem dX7_list_64 : decode cX7_list 64 = .ok (.ireturn, 1) := by decide +kernel
theorem dX7_write_0 : decode cX7_write 0 = .ok (.iload_n 1, 1) := by decide +kernel
theorem dX7_write_1 : decode cX7_write 1 = .ok (.bipush 32, 2) := by decide +kernel
theorem dX7_write_3 : decode cX7_write 3 = .ok (.bipush 126, 2) := by decide +kernel
theorem dX7_write_5 : decode cX7_write 5 = .ok (.invokestatic 59, 3) := by decide +kernel
theorem dX7_write_8 : decode cX7_write 8 = .ok (.ifCond .ne 5, 3) := by decide +kernel
theorem dX7_write_11 : decode cX7_write 11 = .ok (.iconst (-1), 1) := by decide +kernel
theorem dX7_write_12 : decode cX7_write 12 = .ok (.ireturn, 1) := by decide +kernel
theorem dX7_write_13 : decode cX7_write 13 = .ok (.aload_n 0, 1) := by decide +kernel
theorem dX7_write_14 : decode cX7_write 14 = .ok (.getfield 142, 3) := by decide +kernel
theorem dX7_write_17 : decode cX7_write 17 = .ok (.bipush 60, 2) := by decide +kernel
theorem dX7_write_19 : decode cX7_write 19 = .ok (.if_icmp .ne 6, 3) := by decide +kernel
theorem dX7_write_22 : decode cX7_write 22 = .ok (.bipush (-3), 2) := by decide +kernel
theorem dX7_write_24 : decode cX7_write 24 = .ok (.ireturn, 1) := by decide +kernel
theorem dX7_write_25 : decode cX7_write 25 = .ok (.aload_n 0, 1) := by decide +kernel
theorem dX7_write_26 : decode cX7_write 26 = .ok (.getfield 19, 3) := by decide +kernel
theorem dX7_write_29 : decode cX7_write 29 = .ok (.aload_n 0, 1) := by decide +kernel
theorem dX7_write_30 : decode cX7_write 30 = .ok (.getfield 142, 3) := by decide +kernel
theorem dX7_write_33 : decode cX7_write 33 = .ok (.iload_n 1, 1) := by decide +kernel
theorem dX7_write_34 : decode cX7_write 34 = .ok (.iastore, 1) := by decide +kernel
theorem dX7_write_35 : decode cX7_write 35 = .ok (.aload_n 0, 1) := by decide +kernel
theorem dX7_write_36 : decode cX7_write 36 = .ok (.dup, 1) := by decide +kernel
theorem dX7_write_37 : decode cX7_write 37 = .ok (.getfield 142, 3) := by decide +kernel
theorem dX7_write_40 : decode cX7_write 40 = .ok (.iconst 1, 1) := by decide +kernel
theorem dX7_write_41 : decode cX7_write 41 = .ok (.iadd, 1) := by decide +kernel
theorem dX7_write_42 : decode cX7_write 42 = .ok (.putfield 142, 3) := by decide +kernel
theorem dX7_write_45 : decode cX7_write 45 = .ok (.aload_n 0, 1) := by decide +kernel
theorem dX7_write_46 : decode cX7_write 46 = .ok (.getfield 142, 3) := by decide +kernel
theorem dX7_write_49 : decode cX7_write 49 = .ok (.ireturn, 1) := by decide +kernel
theorem dX7_wipe_0 : decode cX7_wipe 0 = .ok (.aload_n 0, 1) := by decide +kernel
theorem dX7_wipe_1 : decode cX7_wipe 1 = .ok (.getfield 142, 3) := by decide +kernel
theorem dX7_wipe_4 : decode cX7_wipe 4 = .ok (.istore_n 1, 1) := by decide +kernel
theorem dX7_wipe_5 : decode cX7_wipe 5 = .ok (.aload_n 0, 1) := by decide +kernel
theorem dX7_wipe_6 : decode cX7_wipe 6 = .ok (.iconst 0, 1) := by decide +kernel
theorem dX7_wipe_7 : decode cX7_wipe 7 = .ok (.putfield 142, 3) := by decide +kernel
theorem dX7_wipe_10 : decode cX7_wipe 10 = .ok (.iload_n 1, 1) := by decide +kernel
theorem dX7_wipe_11 : decode cX7_wipe 11 = .ok (.ireturn, 1) := by decide +kernel
theorem dX7_fault_0 : decode cX7_fault 0 = .ok (.iload_n 1, 1) := by decide +kernel
theorem dX7_fault_1 : decode cX7_fault 1 = .ok (.ifCond .ne 10, 3) := by decide +kernel
theorem dX7_fault_4 : decode cX7_fault 4 = .ok (.aload_n 0, 1) := by decide +kernel
theorem dX7_fault_5 : decode cX7_fault 5 = .ok (.getfield 22, 3) := by decide +kernel
theorem dX7_fault_8 : decode cX7_fault 8 = .ok (.goto 16, 3) := by decide +kernel
theorem dX7_fault_11 : decode cX7_fault 11 = .ok (.iload_n 1, 1) := by decide +kernel
theorem dX7_fault_12 : decode cX7_fault 12 = .ok (.iconst 1, 1) := by decide +kernel
theorem dX7_fault_13 : decode cX7_fault 13 = .ok (.if_icmp .ne 10, 3) := by decide +kernel
theorem dX7_fault_16 : decode cX7_fault 16 = .ok (.aload_n 0, 1) := by decide +kernel
theorem dX7_fault_17 : decode cX7_fault 17 = .ok (.getfield 26, 3) := by decide +kernel
theorem dX7_fault_20 : decode cX7_fault 20 = .ok (.goto 4, 3) := by decide +kernel
theorem dX7_fault_23 : decode cX7_fault 23 = .ok (.iconst (-1), 1) := by decide +kernel
theorem dX7_fault_24 : decode cX7_fault 24 = .ok (.ireturn, 1) := by decide +kernel
theorem dX7_madeUp_0 : decode cX7_madeUp 0 = .ok (.aload_n 0, 1) := by decide +kernel
theorem dX7_madeUp_1 : decode cX7_madeUp 1 = .ok (.getfield 7, 3) := by decide +kernel
theorem dX7_madeUp_4 : decode cX7_madeUp 4 = .ok (.bipush 12, 2) := by decide +kernel
theorem dX7_madeUp_6 : decode cX7_madeUp 6 = .ok (.iaload, 1) := by decide +kernel
theorem dX7_madeUp_7 : decode cX7_madeUp 7 = .ok (.ifCond .ne 6, 3) := by decide +kernel
theorem dX7_madeUp_10 : decode cX7_madeUp 10 = .ok (.bipush (-9), 2) := by decide +kernel
theorem dX7_madeUp_12 : decode cX7_madeUp 12 = .ok (.ireturn, 1) := by decide +kernel
theorem dX7_madeUp_13 : decode cX7_madeUp 13 = .ok (.bipush (-9), 2) := by decide +kernel
theorem dX7_madeUp_15 : decode cX7_madeUp 15 = .ok (.istore_n 1, 1) := by decide +kernel
theorem dX7_madeUp_16 : decode cX7_madeUp 16 = .ok (.iconst 0, 1) := by decide +kernel
theorem dX7_madeUp_17 : decode cX7_madeUp 17 = .ok (.istore_n 2, 1) := by decide +kernel
theorem dX7_madeUp_18 : decode cX7_madeUp 18 = .ok (.iload_n 2, 1) := by decide +kernel
theorem dX7_madeUp_19 : decode cX7_madeUp 19 = .ok (.aload_n 0, 1) := by decide +kernel
theorem dX7_madeUp_20 : decode cX7_madeUp 20 = .ok (.getfield 7, 3) := by decide +kernel
theorem dX7_madeUp_23 : decode cX7_madeUp 23 = .ok (.iconst 4, 1) := by decide +kernel
theorem dX7_madeUp_24 : decode cX7_madeUp 24 = .ok (.iaload, 1) := by decide +kernel
theorem dX7_madeUp_25 : decode cX7_madeUp 25 = .ok (.if_icmp .ge 47, 3) := by decide +kernel
theorem dX7_madeUp_28 : decode cX7_madeUp 28 = .ok (.aload_n 0, 1) := by decide +kernel
theorem dX7_madeUp_29 : decode cX7_madeUp 29 = .ok (.iload_n 2, 1) := by decide +kernel
theorem dX7_madeUp_30 : decode cX7_madeUp 30 = .ok (.aload_n 0, 1) := by decide +kernel
theorem dX7_madeUp_31 : decode cX7_madeUp 31 = .ok (.getfield 7, 3) := by decide +kernel
theorem dX7_madeUp_34 : decode cX7_madeUp 34 = .ok (.bipush 13, 2) := by decide +kernel
theorem dX7_madeUp_36 : decode cX7_madeUp 36 = .ok (.iaload, 1) := by decide +kernel
theorem dX7_madeUp_37 : decode cX7_madeUp 37 = .ok (.invokevirtual 117, 3) := by decide +kernel
theorem dX7_madeUp_40 : decode cX7_madeUp 40 = .ok (.istore_n 3, 1) := by decide +kernel
theorem dX7_madeUp_41 : decode cX7_madeUp 41 = .ok (.iload_n 3, 1) := by decide +kernel
theorem dX7_madeUp_42 : decode cX7_madeUp 42 = .ok (.ifCond .le 24, 3) := by decide +kernel
theorem dX7_madeUp_45 : decode cX7_madeUp 45 = .ok (.iload_n 1, 1) := by decide +kernel
theorem dX7_madeUp_46 : decode cX7_madeUp 46 = .ok (.bipush (-9), 2) := by decide +kernel
theorem dX7_madeUp_48 : decode cX7_madeUp 48 = .ok (.if_icmp .ne 13, 3) := by decide +kernel
theorem dX7_madeUp_51 : decode cX7_madeUp 51 = .ok (.iload_n 3, 1) := by decide +kernel
theorem dX7_madeUp_52 : decode cX7_madeUp 52 = .ok (.aload_n 0, 1) := by decide +kernel
theorem dX7_madeUp_53 : decode cX7_madeUp 53 = .ok (.iload_n 2, 1) := by decide +kernel
theorem dX7_madeUp_54 : decode cX7_madeUp 54 = .ok (.iconst 0, 1) := by decide +kernel
theorem dX7_madeUp_55 : decode cX7_madeUp 55 = .ok (.invokevirtual 63, 3) := by decide +kernel
theorem dX7_madeUp_58 : decode cX7_madeUp 58 = .ok (.if_icmp .ge 6, 3) := by decide +kernel
theorem dX7_madeUp_61 : decode cX7_madeUp 61 = .ok (.bipush (-9), 2) := by decide +kernel
theorem dX7_madeUp_63 : decode cX7_madeUp 63 = .ok (.ireturn, 1) := by decide +kernel
theorem dX7_madeUp_64 : decode cX7_madeUp 64 = .ok (.iload_n 2, 1) := by decide +kernel
theorem dX7_madeUp_65 : decode cX7_madeUp 65 = .ok (.istore_n 1, 1) := by decide +kernel
theorem dX7_madeUp_66 : decode cX7_madeUp 66 = .ok (.iinc 2 1, 3) := by decide +kernel
theorem dX7_madeUp_69 : decode cX7_madeUp 69 = .ok (.goto (-51), 3) := by decide +kernel
theorem dX7_madeUp_72 : decode cX7_madeUp 72 = .ok (.iload_n 1, 1) := by decide +kernel
theorem dX7_madeUp_73 : decode cX7_madeUp 73 = .ok (.ireturn, 1) := by decide +kernel
theorem dX7_spread_0 : decode cX7_spread 0 = .ok (.iconst 0, 1) := by decide +kernel
theorem dX7_spread_1 : decode cX7_spread 1 = .ok (.istore_n 1, 1) := by decide +kernel
theorem dX7_spread_2 : decode cX7_spread 2 = .ok (.iconst 0, 1) := by decide +kernel
theorem dX7_spread_3 : decode cX7_spread 3 = .ok (.istore_n 2, 1) := by decide +kernel
theorem dX7_spread_4 : decode cX7_spread 4 = .ok (.iload_n 2, 1) := by decide +kernel
theorem dX7_spread_5 : decode cX7_spread 5 = .ok (.aload_n 0, 1) := by decide +kernel
theorem dX7_spread_6 : decode cX7_spread 6 = .ok (.getfield 7, 3) := by decide +kernel
theorem dX7_spread_9 : decode cX7_spread 9 = .ok (.iconst 4, 1) := by decide +kernel
theorem dX7_spread_10 : decode cX7_spread 10 = .ok (.iaload, 1) := by decide +kernel
theorem dX7_spread_11 : decode cX7_spread 11 = .ok (.if_icmp .ge 32, 3) := by decide +kernel
theorem dX7_spread_14 : decode cX7_spread 14 = .ok (.iload_n 1, 1) := by decide +kernel
theorem dX7_spread_15 : decode cX7_spread 15 = .ok (.aload_n 0, 1) := by decide +kernel
theorem dX7_spread_16 : decode cX7_spread 16 = .ok (.iload_n 2, 1) := by decide +kernel
theorem dX7_spread_17 : decode cX7_spread 17 = .ok (.aload_n 0, 1) := by decide +kernel
theorem dX7_spread_18 : decode cX7_spread 18 = .ok (.getfield 7, 3) := by decide +kernel
theorem dX7_spread_21 : decode cX7_spread 21 = .ok (.bipush 13, 2) := by decide +kernel
theorem dX7_spread_23 : decode cX7_spread 23 = .ok (.iaload, 1) := by decide +kernel
theorem dX7_spread_24 : decode cX7_spread 24 = .ok (.invokevirtual 117, 3) := by decide +kernel
theorem dX7_spread_27 : decode cX7_spread 27 = .ok (.ifCond .le 7, 3) := by decide +kernel
theorem dX7_spread_30 : decode cX7_spread 30 = .ok (.iconst 1, 1) := by decide +kernel
theorem dX7_spread_31 : decode cX7_spread 31 = .ok (.goto 4, 3) := by decide +kernel
theorem dX7_spread_34 : decode cX7_spread 34 = .ok (.iconst 0, 1) := by decide +kernel
theorem dX7_spread_35 : decode cX7_spread 35 = .ok (.iadd, 1) := by decide +kernel
theorem dX7_spread_36 : decode cX7_spread 36 = .ok (.istore_n 1, 1) := by decide +kernel
theorem dX7_spread_37 : decode cX7_spread 37 = .ok (.iinc 2 1, 3) := by decide +kernel
theorem dX7_spread_40 : decode cX7_spread 40 = .ok (.goto (-36), 3) := by decide +kernel
theorem dX7_spread_43 : decode cX7_spread 43 = .ok (.iload_n 1, 1) := by decide +kernel
theorem dX7_spread_44 : decode cX7_spread 44 = .ok (.ireturn, 1) := by decide +kernel
theorem dX7_hold_0 : decode cX7_hold 0 = .ok (.iconst 0, 1) := by decide +kernel
theorem dX7_hold_1 : decode cX7_hold 1 = .ok (.istore_n 2, 1) := by decide +kernel
theorem dX7_hold_2 : decode cX7_hold 2 = .ok (.iload_n 2, 1) := by decide +kernel
theorem dX7_hold_3 : decode cX7_hold 3 = .ok (.sipush 131, 3) := by decide +kernel
theorem dX7_hold_6 : decode cX7_hold 6 = .ok (.if_icmp .ge 27, 3) := by decide +kernel
theorem dX7_hold_9 : decode cX7_hold 9 = .ok (.aload_n 0, 1) := by decide +kernel
theorem dX7_hold_10 : decode cX7_hold 10 = .ok (.getfield 44, 3) := by decide +kernel
theorem dX7_hold_13 : decode cX7_hold 13 = .ok (.sipush 131, 3) := by decide +kernel
theorem dX7_hold_16 : decode cX7_hold 16 = .ok (.iload_n 1, 1) := by decide +kernel
theorem dX7_hold_17 : decode cX7_hold 17 = .ok (.imul, 1) := by decide +kernel
theorem dX7_hold_18 : decode cX7_hold 18 = .ok (.iload_n 2, 1) := by decide +kernel
theorem dX7_hold_19 : decode cX7_hold 19 = .ok (.iadd, 1) := by decide +kernel
theorem dX7_hold_20 : decode cX7_hold 20 = .ok (.aload_n 0, 1) := by decide +kernel
theorem dX7_hold_21 : decode cX7_hold 21 = .ok (.getfield 7, 3) := by decide +kernel
theorem dX7_hold_24 : decode cX7_hold 24 = .ok (.iload_n 2, 1) := by decide +kernel
theorem dX7_hold_25 : decode cX7_hold 25 = .ok (.iaload, 1) := by decide +kernel
theorem dX7_hold_26 : decode cX7_hold 26 = .ok (.iastore, 1) := by decide +kernel
theorem dX7_hold_27 : decode cX7_hold 27 = .ok (.iinc 2 1, 3) := by decide +kernel
theorem dX7_hold_30 : decode cX7_hold 30 = .ok (.goto (-28), 3) := by decide +kernel
theorem dX7_hold_33 : decode cX7_hold 33 = .ok (.return_, 1) := by decide +kernel
theorem dX7_release_0 : decode cX7_release 0 = .ok (.iconst 0, 1) := by decide +kernel
theorem dX7_release_1 : decode cX7_release 1 = .ok (.istore_n 2, 1) := by decide +kernel
theorem dX7_release_2 : decode cX7_release 2 = .ok (.iload_n 2, 1) := by decide +kernel
theorem dX7_release_3 : decode cX7_release 3 = .ok (.sipush 131, 3) := by decide +kernel
theorem dX7_release_6 : decode cX7_release 6 = .ok (.if_icmp .ge 27, 3) := by decide +kernel
theorem dX7_release_9 : decode cX7_release 9 = .ok (.aload_n 0, 1) := by decide +kernel
theorem dX7_release_10 : decode cX7_release 10 = .ok (.getfield 7, 3) := by decide +kernel
theorem dX7_release_13 : decode cX7_release 13 = .ok (.iload_n 2, 1) := by decide +kernel
theorem dX7_release_14 : decode cX7_release 14 = .ok (.aload_n 0, 1) := by decide +kernel
theorem dX7_release_15 : decode cX7_release 15 = .ok (.getfield 44, 3) := by decide +kernel
theorem dX7_release_18 : decode cX7_release 18 = .ok (.sipush 131, 3) := by decide +kernel
theorem dX7_release_21 : decode cX7_release 21 = .ok (.iload_n 1, 1) := by decide +kernel
theorem dX7_release_22 : decode cX7_release 22 = .ok (.imul, 1) := by decide +kernel
theorem dX7_release_23 : decode cX7_release 23 = .ok (.iload_n 2, 1) := by decide +kernel
theorem dX7_release_24 : decode cX7_release 24 = .ok (.iadd, 1) := by decide +kernel
theorem dX7_release_25 : decode cX7_release 25 = .ok (.iaload, 1) := by decide +kernel
theorem dX7_release_26 : decode cX7_release 26 = .ok (.iastore, 1) := by decide +kernel
theorem dX7_release_27 : decode cX7_release 27 = .ok (.iinc 2 1, 3) := by decide +kernel
theorem dX7_release_30 : decode cX7_release 30 = .ok (.goto (-28), 3) := by decide +kernel
theorem dX7_release_33 : decode cX7_release 33 = .ok (.return_, 1) := by decide +kernel
theorem dX7_note_0 : decode cX7_note 0 = .ok (.aload_n 0, 1) := by decide +kernel
theorem dX7_note_1 : decode cX7_note 1 = .ok (.getfield 157, 3) := by decide +kernel
theorem dX7_note_4 : decode cX7_note 4 = .ok (.bipush (-9), 2) := by decide +kernel
theorem dX7_note_6 : decode cX7_note 6 = .ok (.if_icmp .eq 27, 3) := by decide +kernel
theorem dX7_note_9 : decode cX7_note 9 = .ok (.iload_n 2, 1) := by decide +kernel
theorem dX7_note_10 : decode cX7_note 10 = .ok (.aload_n 0, 1) := by decide +kernel
theorem dX7_note_11 : decode cX7_note 11 = .ok (.getfield 160, 3) := by decide +kernel
theorem dX7_note_14 : decode cX7_note 14 = .ok (.if_icmp .lt 19, 3) := by decide +kernel
theorem dX7_note_17 : decode cX7_note 17 = .ok (.iload_n 2, 1) := by decide +kernel
theorem dX7_note_18 : decode cX7_note 18 = .ok (.aload_n 0, 1) := by decide +kernel
theorem dX7_note_19 : decode cX7_note 19 = .ok (.getfield 160, 3) := by decide +kernel
theorem dX7_note_22 : decode cX7_note 22 = .ok (.if_icmp .ne 15, 3) := by decide +kernel
theorem dX7_note_25 : decode cX7_note 25 = .ok (.iload_n 1, 1) := by decide +kernel
theorem dX7_note_26 : decode cX7_note 26 = .ok (.aload_n 0, 1) := by decide +kernel
theorem dX7_note_27 : decode cX7_note 27 = .ok (.getfield 157, 3) := by decide +kernel
theorem dX7_note_30 : decode cX7_note 30 = .ok (.if_icmp .ge 7, 3) := by decide +kernel
theorem dX7_note_33 : decode cX7_note 33 = .ok (.iconst 1, 1) := by decide +kernel
theorem dX7_note_34 : decode cX7_note 34 = .ok (.goto 4, 3) := by decide +kernel
theorem dX7_note_37 : decode cX7_note 37 = .ok (.iconst 0, 1) := by decide +kernel
theorem dX7_note_38 : decode cX7_note 38 = .ok (.istore_n 3, 1) := by decide +kernel
theorem dX7_note_39 : decode cX7_note 39 = .ok (.iload_n 3, 1) := by decide +kernel
theorem dX7_note_40 : decode cX7_note 40 = .ok (.ifCond .eq 52, 3) := by decide +kernel
theorem dX7_note_43 : decode cX7_note 43 = .ok (.aload_n 0, 1) := by decide +kernel
theorem dX7_note_44 : decode cX7_note 44 = .ok (.invokevirtual 163, 3) := by decide +kernel
theorem dX7_note_47 : decode cX7_note 47 = .ok (.bipush (-9), 2) := by decide +kernel
theorem dX7_note_49 : decode cX7_note 49 = .ok (.if_icmp .eq 43, 3) := by decide +kernel
theorem dX7_note_52 : decode cX7_note 52 = .ok (.aload_n 0, 1) := by decide +kernel
theorem dX7_note_53 : decode cX7_note 53 = .ok (.iload_n 1, 1) := by decide +kernel
theorem dX7_note_54 : decode cX7_note 54 = .ok (.putfield 157, 3) := by decide +kernel
theorem dX7_note_57 : decode cX7_note 57 = .ok (.aload_n 0, 1) := by decide +kernel
theorem dX7_note_58 : decode cX7_note 58 = .ok (.iload_n 2, 1) := by decide +kernel
theorem dX7_note_59 : decode cX7_note 59 = .ok (.putfield 160, 3) := by decide +kernel
theorem dX7_note_62 : decode cX7_note 62 = .ok (.iconst 0, 1) := by decide +kernel
theorem dX7_note_63 : decode cX7_note 63 = .ok (.istore 4, 2) := by decide +kernel
theorem dX7_note_65 : decode cX7_note 65 = .ok (.iload 4, 2) := by decide +kernel
theorem dX7_note_67 : decode cX7_note 67 = .ok (.bipush 9, 2) := by decide +kernel
theorem dX7_note_69 : decode cX7_note 69 = .ok (.if_icmp .ge 23, 3) := by decide +kernel
theorem dX7_note_72 : decode cX7_note 72 = .ok (.aload_n 0, 1) := by decide +kernel
theorem dX7_note_73 : decode cX7_note 73 = .ok (.getfield 50, 3) := by decide +kernel
theorem dX7_note_76 : decode cX7_note 76 = .ok (.iload 4, 2) := by decide +kernel
theorem dX7_note_78 : decode cX7_note 78 = .ok (.aload_n 0, 1) := by decide +kernel
theorem dX7_note_79 : decode cX7_note 79 = .ok (.getfield 47, 3) := by decide +kernel
theorem dX7_note_82 : decode cX7_note 82 = .ok (.iload 4, 2) := by decide +kernel
theorem dX7_note_84 : decode cX7_note 84 = .ok (.iaload, 1) := by decide +kernel
theorem dX7_note_85 : decode cX7_note 85 = .ok (.iastore, 1) := by decide +kernel
theorem dX7_note_86 : decode cX7_note 86 = .ok (.iinc 4 1, 3) := by decide +kernel
theorem dX7_note_89 : decode cX7_note 89 = .ok (.goto (-24), 3) := by decide +kernel
theorem dX7_note_92 : decode cX7_note 92 = .ok (.return_, 1) := by decide +kernel
theorem dX7_tryMove_0 : decode cX7_tryMove 0 = .ok (.aload_n 0, 1) := by decide +kernel
theorem dX7_tryMove_1 : decode cX7_tryMove 1 = .ok (.aload_n 0, 1) := by decide +kernel
theorem dX7_tryMove_2 : decode cX7_tryMove 2 = .ok (.getfield 47, 3) := by decide +kernel
theorem dX7_tryMove_5 : decode cX7_tryMove 5 = .ok (.iconst 3, 1) := by decide +kernel
theorem dX7_tryMove_6 : decode cX7_tryMove 6 = .ok (.iload_n 1, 1) := by decide +kernel
theorem dX7_tryMove_7 : decode cX7_tryMove 7 = .ok (.imul, 1) := by decide +kernel
theorem dX7_tryMove_8 : decode cX7_tryMove 8 = .ok (.iaload, 1) := by decide +kernel
theorem dX7_tryMove_9 : decode cX7_tryMove 9 = .ok (.aload_n 0, 1) := by decide +kernel
theorem dX7_tryMove_10 : decode cX7_tryMove 10 = .ok (.getfield 47, 3) := by decide +kernel
theorem dX7_tryMove_13 : decode cX7_tryMove 13 = .ok (.iconst 3, 1) := by decide +kernel
theorem dX7_tryMove_14 : decode cX7_tryMove 14 = .ok (.iload_n 1, 1) := by decide +kernel
theorem dX7_tryMove_15 : decode cX7_tryMove 15 = .ok (.imul, 1) := by decide +kernel
theorem dX7_tryMove_16 : decode cX7_tryMove 16 = .ok (.iconst 1, 1) := by decide +kernel
theorem dX7_tryMove_17 : decode cX7_tryMove 17 = .ok (.iadd, 1) := by decide +kernel
theorem dX7_tryMove_18 : decode cX7_tryMove 18 = .ok (.iaload, 1) := by decide +kernel
theorem dX7_tryMove_19 : decode cX7_tryMove 19 = .ok (.aload_n 0, 1) := by decide +kernel
theorem dX7_tryMove_20 : decode cX7_tryMove 20 = .ok (.getfield 47, 3) := by decide +kernel
theorem dX7_tryMove_23 : decode cX7_tryMove 23 = .ok (.iconst 3, 1) := by decide +kernel
theorem dX7_tryMove_24 : decode cX7_tryMove 24 = .ok (.iload_n 1, 1) := by decide +kernel
theorem dX7_tryMove_25 : decode cX7_tryMove 25 = .ok (.imul, 1) := by decide +kernel
theorem dX7_tryMove_26 : decode cX7_tryMove 26 = .ok (.iconst 2, 1) := by decide +kernel
theorem dX7_tryMove_27 : decode cX7_tryMove 27 = .ok (.iadd, 1) := by decide +kernel
theorem dX7_tryMove_28 : decode cX7_tryMove 28 = .ok (.iaload, 1) := by decide +kernel
theorem dX7_tryMove_29 : decode cX7_tryMove 29 = .ok (.invokevirtual 100, 3) := by decide +kernel
theorem dX7_tryMove_32 : decode cX7_tryMove 32 = .ok (.istore_n 3, 1) := by decide +kernel
theorem dX7_tryMove_33 : decode cX7_tryMove 33 = .ok (.iload_n 3, 1) := by decide +kernel
theorem dX7_tryMove_34 : decode cX7_tryMove 34 = .ok (.ifCond .lt 22, 3) := by decide +kernel
theorem dX7_tryMove_37 : decode cX7_tryMove 37 = .ok (.aload_n 0, 1) := by decide +kernel
theorem dX7_tryMove_38 : decode cX7_tryMove 38 = .ok (.getfield 157, 3) := by decide +kernel
theorem dX7_tryMove_41 : decode cX7_tryMove 41 = .ok (.bipush (-9), 2) := by decide +kernel
theorem dX7_tryMove_43 : decode cX7_tryMove 43 = .ok (.if_icmp .eq 16, 3) := by decide +kernel
theorem dX7_tryMove_46 : decode cX7_tryMove 46 = .ok (.iload_n 2, 1) := by decide +kernel
theorem dX7_tryMove_47 : decode cX7_tryMove 47 = .ok (.iload_n 3, 1) := by decide +kernel
theorem dX7_tryMove_48 : decode cX7_tryMove 48 = .ok (.iadd, 1) := by decide +kernel
theorem dX7_tryMove_49 : decode cX7_tryMove 49 = .ok (.aload_n 0, 1) := by decide +kernel
theorem dX7_tryMove_50 : decode cX7_tryMove 50 = .ok (.getfield 160, 3) := by decide +kernel
theorem dX7_tryMove_53 : decode cX7_tryMove 53 = .ok (.if_icmp .le 6, 3) := by decide +kernel
theorem dX7_tryMove_56 : decode cX7_tryMove 56 = .ok (.bipush (-9), 2) := by decide +kernel
theorem dX7_tryMove_58 : decode cX7_tryMove 58 = .ok (.ireturn, 1) := by decide +kernel
theorem dX7_tryMove_59 : decode cX7_tryMove 59 = .ok (.aload_n 0, 1) := by decide +kernel
theorem dX7_tryMove_60 : decode cX7_tryMove 60 = .ok (.aload_n 0, 1) := by decide +kernel
theorem dX7_tryMove_61 : decode cX7_tryMove 61 = .ok (.getfield 47, 3) := by decide +kernel
theorem dX7_tryMove_64 : decode cX7_tryMove 64 = .ok (.iconst 3, 1) := by decide +kernel
theorem dX7_tryMove_65 : decode cX7_tryMove 65 = .ok (.iload_n 1, 1) := by decide +kernel
theorem dX7_tryMove_66 : decode cX7_tryMove 66 = .ok (.imul, 1) := by decide +kernel
theorem dX7_tryMove_67 : decode cX7_tryMove 67 = .ok (.iaload, 1) := by decide +kernel
theorem dX7_tryMove_68 : decode cX7_tryMove 68 = .ok (.aload_n 0, 1) := by decide +kernel
theorem dX7_tryMove_69 : decode cX7_tryMove 69 = .ok (.getfield 47, 3) := by decide +kernel
theorem dX7_tryMove_72 : decode cX7_tryMove 72 = .ok (.iconst 3, 1) := by decide +kernel
theorem dX7_tryMove_73 : decode cX7_tryMove 73 = .ok (.iload_n 1, 1) := by decide +kernel
theorem dX7_tryMove_74 : decode cX7_tryMove 74 = .ok (.imul, 1) := by decide +kernel
theorem dX7_tryMove_75 : decode cX7_tryMove 75 = .ok (.iconst 1, 1) := by decide +kernel
theorem dX7_tryMove_76 : decode cX7_tryMove 76 = .ok (.iadd, 1) := by decide +kernel
theorem dX7_tryMove_77 : decode cX7_tryMove 77 = .ok (.iaload, 1) := by decide +kernel
theorem dX7_tryMove_78 : decode cX7_tryMove 78 = .ok (.aload_n 0, 1) := by decide +kernel
theorem dX7_tryMove_79 : decode cX7_tryMove 79 = .ok (.getfield 47, 3) := by decide +kernel
theorem dX7_tryMove_82 : decode cX7_tryMove 82 = .ok (.iconst 3, 1) := by decide +kernel
theorem dX7_tryMove_83 : decode cX7_tryMove 83 = .ok (.iload_n 1, 1) := by decide +kernel
theorem dX7_tryMove_84 : decode cX7_tryMove 84 = .ok (.imul, 1) := by decide +kernel
theorem dX7_tryMove_85 : decode cX7_tryMove 85 = .ok (.iconst 2, 1) := by decide +kernel
theorem dX7_tryMove_86 : decode cX7_tryMove 86 = .ok (.iadd, 1) := by decide +kernel
theorem dX7_tryMove_87 : decode cX7_tryMove 87 = .ok (.iaload, 1) := by decide +kernel
theorem dX7_tryMove_88 : decode cX7_tryMove 88 = .ok (.iload_n 3, 1) := by decide +kernel
theorem dX7_tryMove_89 : decode cX7_tryMove 89 = .ok (.invokevirtual 110, 3) := by decide +kernel
theorem dX7_tryMove_92 : decode cX7_tryMove 92 = .ok (.iload_n 3, 1) := by decide +kernel
theorem dX7_tryMove_93 : decode cX7_tryMove 93 = .ok (.ireturn, 1) := by decide +kernel
theorem dX7_next_0 : decode cX7_next 0 = .ok (.iconst 3, 1) := by decide +kernel
theorem dX7_next_1 : decode cX7_next 1 = .ok (.iload_n 1, 1) := by decide +kernel
theorem dX7_next_2 : decode cX7_next 2 = .ok (.imul, 1) := by decide +kernel
theorem dX7_next_3 : decode cX7_next 3 = .ok (.istore_n 2, 1) := by decide +kernel
theorem dX7_next_4 : decode cX7_next 4 = .ok (.aload_n 0, 1) := by decide +kernel
theorem dX7_next_5 : decode cX7_next 5 = .ok (.getfield 47, 3) := by decide +kernel
theorem dX7_next_8 : decode cX7_next 8 = .ok (.iload_n 2, 1) := by decide +kernel
theorem dX7_next_9 : decode cX7_next 9 = .ok (.iconst 2, 1) := by decide +kernel
theorem dX7_next_10 : decode cX7_next 10 = .ok (.iadd, 1) := by decide +kernel
theorem dX7_next_11 : decode cX7_next 11 = .ok (.dup2, 1) := by decide +kernel
theorem dX7_next_12 : decode cX7_next 12 = .ok (.iaload, 1) := by decide +kernel
theorem dX7_next_13 : decode cX7_next 13 = .ok (.iconst 1, 1) := by decide +kernel
theorem dX7_next_14 : decode cX7_next 14 = .ok (.iadd, 1) := by decide +kernel
theorem dX7_next_15 : decode cX7_next 15 = .ok (.iastore, 1) := by decide +kernel
theorem dX7_next_16 : decode cX7_next 16 = .ok (.aload_n 0, 1) := by decide +kernel
theorem dX7_next_17 : decode cX7_next 17 = .ok (.getfield 47, 3) := by decide +kernel
theorem dX7_next_20 : decode cX7_next 20 = .ok (.iload_n 2, 1) := by decide +kernel
theorem dX7_next_21 : decode cX7_next 21 = .ok (.iconst 2, 1) := by decide +kernel
theorem dX7_next_22 : decode cX7_next 22 = .ok (.iadd, 1) := by decide +kernel
theorem dX7_next_23 : decode cX7_next 23 = .ok (.iaload, 1) := by decide +kernel
theorem dX7_next_24 : decode cX7_next 24 = .ok (.aload_n 0, 1) := by decide +kernel
theorem dX7_next_25 : decode cX7_next 25 = .ok (.aload_n 0, 1) := by decide +kernel
theorem dX7_next_26 : decode cX7_next 26 = .ok (.getfield 47, 3) := by decide +kernel
theorem dX7_next_29 : decode cX7_next 29 = .ok (.iload_n 2, 1) := by decide +kernel
theorem dX7_next_30 : decode cX7_next 30 = .ok (.iaload, 1) := by decide +kernel
theorem dX7_next_31 : decode cX7_next 31 = .ok (.iconst 0, 1) := by decide +kernel
