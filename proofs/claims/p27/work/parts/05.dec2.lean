theorem dX6_set_46 : decode cX6_set 46 = .ok (.getfield 10, 3) := by decide +kernel
theorem dX6_set_49 : decode cX6_set 49 = .ok (.getfield 72, 3) := by decide +kernel
theorem dX6_set_52 : decode cX6_set 52 = .ok (.iload_n 1, 1) := by decide +kernel
theorem dX6_set_53 : decode cX6_set 53 = .ok (.iload_n 2, 1) := by decide +kernel
theorem dX6_set_54 : decode cX6_set 54 = .ok (.iastore, 1) := by decide +kernel
theorem dX6_set_55 : decode cX6_set 55 = .ok (.iload_n 3, 1) := by decide +kernel
theorem dX6_set_56 : decode cX6_set 56 = .ok (.ireturn, 1) := by decide +kernel
theorem dX6_arrive_0 : decode cX6_arrive 0 = .ok (.aload_n 0, 1) := by decide +kernel
theorem dX6_arrive_1 : decode cX6_arrive 1 = .ok (.getfield 10, 3) := by decide +kernel
theorem dX6_arrive_4 : decode cX6_arrive 4 = .ok (.iload_n 1, 1) := by decide +kernel
theorem dX6_arrive_5 : decode cX6_arrive 5 = .ok (.invokevirtual 76, 3) := by decide +kernel
theorem dX6_arrive_8 : decode cX6_arrive 8 = .ok (.ifCond .ne 5, 3) := by decide +kernel
theorem dX6_arrive_11 : decode cX6_arrive 11 = .ok (.iconst (-1), 1) := by decide +kernel
theorem dX6_arrive_12 : decode cX6_arrive 12 = .ok (.ireturn, 1) := by decide +kernel
theorem dX6_arrive_13 : decode cX6_arrive 13 = .ok (.aload_n 0, 1) := by decide +kernel
theorem dX6_arrive_14 : decode cX6_arrive 14 = .ok (.getfield 30, 3) := by decide +kernel
theorem dX6_arrive_17 : decode cX6_arrive 17 = .ok (.invokevirtual 79, 3) := by decide +kernel
theorem dX6_arrive_20 : decode cX6_arrive 20 = .ok (.ifCond .eq 18, 3) := by decide +kernel
theorem dX6_arrive_23 : decode cX6_arrive 23 = .ok (.aload_n 0, 1) := by decide +kernel
theorem dX6_arrive_24 : decode cX6_arrive 24 = .ok (.getfield 10, 3) := by decide +kernel
theorem dX6_arrive_27 : decode cX6_arrive 27 = .ok (.iload_n 1, 1) := by decide +kernel
theorem dX6_arrive_28 : decode cX6_arrive 28 = .ok (.aload_n 0, 1) := by decide +kernel
theorem dX6_arrive_29 : decode cX6_arrive 29 = .ok (.getfield 30, 3) := by decide +kernel
theorem dX6_arrive_32 : decode cX6_arrive 32 = .ok (.invokevirtual 83, 3) := by decide +kernel
theorem dX6_arrive_35 : decode cX6_arrive 35 = .ok (.ifCond .ne 6, 3) := by decide +kernel
theorem dX6_arrive_38 : decode cX6_arrive 38 = .ok (.bipush (-2), 2) := by decide +kernel
theorem dX6_arrive_40 : decode cX6_arrive 40 = .ok (.ireturn, 1) := by decide +kernel
theorem dX6_arrive_41 : decode cX6_arrive 41 = .ok (.aload_n 0, 1) := by decide +kernel
theorem dX6_arrive_42 : decode cX6_arrive 42 = .ok (.getfield 10, 3) := by decide +kernel
theorem dX6_arrive_45 : decode cX6_arrive 45 = .ok (.getfield 87, 3) := by decide +kernel
theorem dX6_arrive_48 : decode cX6_arrive 48 = .ok (.iload_n 1, 1) := by decide +kernel
theorem dX6_arrive_49 : decode cX6_arrive 49 = .ok (.iaload, 1) := by decide +kernel
theorem dX6_arrive_50 : decode cX6_arrive 50 = .ok (.aload_n 0, 1) := by decide +kernel
theorem dX6_arrive_51 : decode cX6_arrive 51 = .ok (.getfield 30, 3) := by decide +kernel
theorem dX6_arrive_54 : decode cX6_arrive 54 = .ok (.getfield 90, 3) := by decide +kernel
theorem dX6_arrive_57 : decode cX6_arrive 57 = .ok (.iadd, 1) := by decide +kernel
theorem dX6_arrive_58 : decode cX6_arrive 58 = .ok (.aload_n 0, 1) := by decide +kernel
theorem dX6_arrive_59 : decode cX6_arrive 59 = .ok (.getfield 10, 3) := by decide +kernel
theorem dX6_arrive_62 : decode cX6_arrive 62 = .ok (.getfield 93, 3) := by decide +kernel
theorem dX6_arrive_65 : decode cX6_arrive 65 = .ok (.if_icmp .le 6, 3) := by decide +kernel
theorem dX6_arrive_68 : decode cX6_arrive 68 = .ok (.bipush (-3), 2) := by decide +kernel
theorem dX6_arrive_70 : decode cX6_arrive 70 = .ok (.ireturn, 1) := by decide +kernel
theorem dX6_arrive_71 : decode cX6_arrive 71 = .ok (.aload_n 0, 1) := by decide +kernel
theorem dX6_arrive_72 : decode cX6_arrive 72 = .ok (.getfield 19, 3) := by decide +kernel
theorem dX6_arrive_75 : decode cX6_arrive 75 = .ok (.aload_n 0, 1) := by decide +kernel
theorem dX6_arrive_76 : decode cX6_arrive 76 = .ok (.getfield 10, 3) := by decide +kernel
theorem dX6_arrive_79 : decode cX6_arrive 79 = .ok (.invokevirtual 53, 3) := by decide +kernel
theorem dX6_arrive_82 : decode cX6_arrive 82 = .ok (.aload_n 0, 1) := by decide +kernel
theorem dX6_arrive_83 : decode cX6_arrive 83 = .ok (.getfield 10, 3) := by decide +kernel
theorem dX6_arrive_86 : decode cX6_arrive 86 = .ok (.iload_n 1, 1) := by decide +kernel
theorem dX6_arrive_87 : decode cX6_arrive 87 = .ok (.aload_n 0, 1) := by decide +kernel
theorem dX6_arrive_88 : decode cX6_arrive 88 = .ok (.getfield 30, 3) := by decide +kernel
theorem dX6_arrive_91 : decode cX6_arrive 91 = .ok (.invokevirtual 96, 3) := by decide +kernel
theorem dX6_arrive_94 : decode cX6_arrive 94 = .ok (.aload_n 0, 1) := by decide +kernel
theorem dX6_arrive_95 : decode cX6_arrive 95 = .ok (.getfield 10, 3) := by decide +kernel
theorem dX6_arrive_98 : decode cX6_arrive 98 = .ok (.getfield 87, 3) := by decide +kernel
theorem dX6_arrive_101 : decode cX6_arrive 101 = .ok (.iload_n 1, 1) := by decide +kernel
theorem dX6_arrive_102 : decode cX6_arrive 102 = .ok (.iaload, 1) := by decide +kernel
theorem dX6_arrive_103 : decode cX6_arrive 103 = .ok (.ireturn, 1) := by decide +kernel
theorem dX6_list_0 : decode cX6_list 0 = .ok (.aload_n 0, 1) := by decide +kernel
theorem dX6_list_1 : decode cX6_list 1 = .ok (.getfield 30, 3) := by decide +kernel
theorem dX6_list_4 : decode cX6_list 4 = .ok (.invokevirtual 100, 3) := by decide +kernel
theorem dX6_list_7 : decode cX6_list 7 = .ok (.ifCond .ne 6, 3) := by decide +kernel
theorem dX6_list_10 : decode cX6_list 10 = .ok (.bipush (-2), 2) := by decide +kernel
theorem dX6_list_12 : decode cX6_list 12 = .ok (.ireturn, 1) := by decide +kernel
theorem dX6_list_13 : decode cX6_list 13 = .ok (.aload_n 0, 1) := by decide +kernel
theorem dX6_list_14 : decode cX6_list 14 = .ok (.getfield 19, 3) := by decide +kernel
theorem dX6_list_17 : decode cX6_list 17 = .ok (.aload_n 0, 1) := by decide +kernel
theorem dX6_list_18 : decode cX6_list 18 = .ok (.getfield 10, 3) := by decide +kernel
theorem dX6_list_21 : decode cX6_list 21 = .ok (.invokevirtual 53, 3) := by decide +kernel
theorem dX6_list_24 : decode cX6_list 24 = .ok (.aload_n 0, 1) := by decide +kernel
theorem dX6_list_25 : decode cX6_list 25 = .ok (.getfield 10, 3) := by decide +kernel
theorem dX6_list_28 : decode cX6_list 28 = .ok (.aload_n 0, 1) := by decide +kernel
theorem dX6_list_29 : decode cX6_list 29 = .ok (.getfield 30, 3) := by decide +kernel
theorem dX6_list_32 : decode cX6_list 32 = .ok (.invokevirtual 103, 3) := by decide +kernel
theorem dX6_list_35 : decode cX6_list 35 = .ok (.aload_n 0, 1) := by decide +kernel
theorem dX6_list_36 : decode cX6_list 36 = .ok (.getfield 10, 3) := by decide +kernel
theorem dX6_list_39 : decode cX6_list 39 = .ok (.getfield 107, 3) := by decide +kernel
theorem dX6_list_42 : decode cX6_list 42 = .ok (.ireturn, 1) := by decide +kernel
theorem dX6_move_0 : decode cX6_move 0 = .ok (.aload_n 0, 1) := by decide +kernel
theorem dX6_move_1 : decode cX6_move 1 = .ok (.getfield 10, 3) := by decide +kernel
theorem dX6_move_4 : decode cX6_move 4 = .ok (.iload_n 1, 1) := by decide +kernel
theorem dX6_move_5 : decode cX6_move 5 = .ok (.iload_n 2, 1) := by decide +kernel
theorem dX6_move_6 : decode cX6_move 6 = .ok (.iload_n 3, 1) := by decide +kernel
theorem dX6_move_7 : decode cX6_move 7 = .ok (.invokevirtual 110, 3) := by decide +kernel
theorem dX6_move_10 : decode cX6_move 10 = .ok (.istore 4, 2) := by decide +kernel
theorem dX6_move_12 : decode cX6_move 12 = .ok (.iload 4, 2) := by decide +kernel
theorem dX6_move_14 : decode cX6_move 14 = .ok (.ifCond .ge 6, 3) := by decide +kernel
theorem dX6_move_17 : decode cX6_move 17 = .ok (.iload 4, 2) := by decide +kernel
theorem dX6_move_19 : decode cX6_move 19 = .ok (.ireturn, 1) := by decide +kernel
theorem dX6_move_20 : decode cX6_move 20 = .ok (.aload_n 0, 1) := by decide +kernel
theorem dX6_move_21 : decode cX6_move 21 = .ok (.getfield 19, 3) := by decide +kernel
theorem dX6_move_24 : decode cX6_move 24 = .ok (.aload_n 0, 1) := by decide +kernel
theorem dX6_move_25 : decode cX6_move 25 = .ok (.getfield 10, 3) := by decide +kernel
theorem dX6_move_28 : decode cX6_move 28 = .ok (.invokevirtual 53, 3) := by decide +kernel
theorem dX6_move_31 : decode cX6_move 31 = .ok (.aload_n 0, 1) := by decide +kernel
theorem dX6_move_32 : decode cX6_move 32 = .ok (.getfield 10, 3) := by decide +kernel
theorem dX6_move_35 : decode cX6_move 35 = .ok (.iload_n 1, 1) := by decide +kernel
theorem dX6_move_36 : decode cX6_move 36 = .ok (.iload_n 2, 1) := by decide +kernel
theorem dX6_move_37 : decode cX6_move 37 = .ok (.iload_n 3, 1) := by decide +kernel
theorem dX6_move_38 : decode cX6_move 38 = .ok (.invokevirtual 114, 3) := by decide +kernel
theorem dX6_move_41 : decode cX6_move 41 = .ok (.ireturn, 1) := by decide +kernel
theorem dX6_test_0 : decode cX6_test 0 = .ok (.aload_n 0, 1) := by decide +kernel
theorem dX6_test_1 : decode cX6_test 1 = .ok (.getfield 10, 3) := by decide +kernel
theorem dX6_test_4 : decode cX6_test 4 = .ok (.iload_n 1, 1) := by decide +kernel
theorem dX6_test_5 : decode cX6_test 5 = .ok (.invokevirtual 76, 3) := by decide +kernel
theorem dX6_test_8 : decode cX6_test 8 = .ok (.ifCond .ne 5, 3) := by decide +kernel
theorem dX6_test_11 : decode cX6_test 11 = .ok (.iconst (-1), 1) := by decide +kernel
theorem dX6_test_12 : decode cX6_test 12 = .ok (.ireturn, 1) := by decide +kernel
theorem dX6_test_13 : decode cX6_test 13 = .ok (.aload_n 0, 1) := by decide +kernel
theorem dX6_test_14 : decode cX6_test 14 = .ok (.getfield 10, 3) := by decide +kernel
theorem dX6_test_17 : decode cX6_test 17 = .ok (.getfield 87, 3) := by decide +kernel
theorem dX6_test_20 : decode cX6_test 20 = .ok (.iload_n 1, 1) := by decide +kernel
theorem dX6_test_21 : decode cX6_test 21 = .ok (.iaload, 1) := by decide +kernel
theorem dX6_test_22 : decode cX6_test 22 = .ok (.ifCond .ne 6, 3) := by decide +kernel
theorem dX6_test_25 : decode cX6_test 25 = .ok (.bipush (-2), 2) := by decide +kernel
theorem dX6_test_27 : decode cX6_test 27 = .ok (.ireturn, 1) := by decide +kernel
theorem dX6_test_28 : decode cX6_test 28 = .ok (.aload_n 0, 1) := by decide +kernel
theorem dX6_test_29 : decode cX6_test 29 = .ok (.getfield 19, 3) := by decide +kernel
theorem dX6_test_32 : decode cX6_test 32 = .ok (.aload_n 0, 1) := by decide +kernel
theorem dX6_test_33 : decode cX6_test 33 = .ok (.getfield 10, 3) := by decide +kernel
theorem dX6_test_36 : decode cX6_test 36 = .ok (.invokevirtual 53, 3) := by decide +kernel
theorem dX6_test_39 : decode cX6_test 39 = .ok (.aload_n 0, 1) := by decide +kernel
theorem dX6_test_40 : decode cX6_test 40 = .ok (.getfield 10, 3) := by decide +kernel
theorem dX6_test_43 : decode cX6_test 43 = .ok (.iload_n 1, 1) := by decide +kernel
theorem dX6_test_44 : decode cX6_test 44 = .ok (.invokevirtual 117, 3) := by decide +kernel
theorem dX6_test_47 : decode cX6_test 47 = .ok (.ireturn, 1) := by decide +kernel
theorem dX6_pause_0 : decode cX6_pause 0 = .ok (.iload_n 1, 1) := by decide +kernel
theorem dX6_pause_1 : decode cX6_pause 1 = .ok (.iconst 1, 1) := by decide +kernel
theorem dX6_pause_2 : decode cX6_pause 2 = .ok (.sipush 1000, 3) := by decide +kernel
theorem dX6_pause_5 : decode cX6_pause 5 = .ok (.invokestatic 45, 3) := by decide +kernel
theorem dX6_pause_8 : decode cX6_pause 8 = .ok (.ifCond .ne 5, 3) := by decide +kernel
theorem dX6_pause_11 : decode cX6_pause 11 = .ok (.iconst (-1), 1) := by decide +kernel
theorem dX6_pause_12 : decode cX6_pause 12 = .ok (.ireturn, 1) := by decide +kernel
theorem dX6_pause_13 : decode cX6_pause 13 = .ok (.aload_n 0, 1) := by decide +kernel
theorem dX6_pause_14 : decode cX6_pause 14 = .ok (.getfield 19, 3) := by decide +kernel
theorem dX6_pause_17 : decode cX6_pause 17 = .ok (.aload_n 0, 1) := by decide +kernel
theorem dX6_pause_18 : decode cX6_pause 18 = .ok (.getfield 10, 3) := by decide +kernel
theorem dX6_pause_21 : decode cX6_pause 21 = .ok (.invokevirtual 53, 3) := by decide +kernel
theorem dX6_pause_24 : decode cX6_pause 24 = .ok (.aload_n 0, 1) := by decide +kernel
theorem dX6_pause_25 : decode cX6_pause 25 = .ok (.getfield 10, 3) := by decide +kernel
theorem dX6_pause_28 : decode cX6_pause 28 = .ok (.dup, 1) := by decide +kernel
theorem dX6_pause_29 : decode cX6_pause 29 = .ok (.getfield 120, 3) := by decide +kernel
theorem dX6_pause_32 : decode cX6_pause 32 = .ok (.iload_n 1, 1) := by decide +kernel
theorem dX6_pause_33 : decode cX6_pause 33 = .ok (.iadd, 1) := by decide +kernel
theorem dX6_pause_34 : decode cX6_pause 34 = .ok (.putfield 120, 3) := by decide +kernel
theorem dX6_pause_37 : decode cX6_pause 37 = .ok (.aload_n 0, 1) := by decide +kernel
theorem dX6_pause_38 : decode cX6_pause 38 = .ok (.getfield 10, 3) := by decide +kernel
theorem dX6_pause_41 : decode cX6_pause 41 = .ok (.getfield 120, 3) := by decide +kernel
theorem dX6_pause_44 : decode cX6_pause 44 = .ok (.ireturn, 1) := by decide +kernel
theorem dX6_depart_0 : decode cX6_depart 0 = .ok (.aload_n 0, 1) := by decide +kernel
theorem dX6_depart_1 : decode cX6_depart 1 = .ok (.getfield 10, 3) := by decide +kernel
theorem dX6_depart_4 : decode cX6_depart 4 = .ok (.iload_n 1, 1) := by decide +kernel
theorem dX6_depart_5 : decode cX6_depart 5 = .ok (.invokevirtual 76, 3) := by decide +kernel
theorem dX6_depart_8 : decode cX6_depart 8 = .ok (.ifCond .ne 5, 3) := by decide +kernel
theorem dX6_depart_11 : decode cX6_depart 11 = .ok (.iconst (-1), 1) := by decide +kernel
theorem dX6_depart_12 : decode cX6_depart 12 = .ok (.ireturn, 1) := by decide +kernel
theorem dX6_depart_13 : decode cX6_depart 13 = .ok (.aload_n 0, 1) := by decide +kernel
theorem dX6_depart_14 : decode cX6_depart 14 = .ok (.getfield 10, 3) := by decide +kernel
theorem dX6_depart_17 : decode cX6_depart 17 = .ok (.iload_n 1, 1) := by decide +kernel
theorem dX6_depart_18 : decode cX6_depart 18 = .ok (.invokevirtual 123, 3) := by decide +kernel
theorem dX6_depart_21 : decode cX6_depart 21 = .ok (.istore_n 2, 1) := by decide +kernel
theorem dX6_depart_22 : decode cX6_depart 22 = .ok (.iload_n 2, 1) := by decide +kernel
theorem dX6_depart_23 : decode cX6_depart 23 = .ok (.ifCond .eq 11, 3) := by decide +kernel
theorem dX6_depart_26 : decode cX6_depart 26 = .ok (.aload_n 0, 1) := by decide +kernel
theorem dX6_depart_27 : decode cX6_depart 27 = .ok (.iload_n 2, 1) := by decide +kernel
theorem dX6_depart_28 : decode cX6_depart 28 = .ok (.putfield 41, 3) := by decide +kernel
theorem dX6_depart_31 : decode cX6_depart 31 = .ok (.bipush (-2), 2) := by decide +kernel
theorem dX6_depart_33 : decode cX6_depart 33 = .ok (.ireturn, 1) := by decide +kernel
theorem dX6_depart_34 : decode cX6_depart 34 = .ok (.aload_n 0, 1) := by decide +kernel
theorem dX6_depart_35 : decode cX6_depart 35 = .ok (.getfield 19, 3) := by decide +kernel
theorem dX6_depart_38 : decode cX6_depart 38 = .ok (.aload_n 0, 1) := by decide +kernel
theorem dX6_depart_39 : decode cX6_depart 39 = .ok (.getfield 10, 3) := by decide +kernel
theorem dX6_depart_42 : decode cX6_depart 42 = .ok (.invokevirtual 53, 3) := by decide +kernel
theorem dX6_depart_45 : decode cX6_depart 45 = .ok (.aload_n 0, 1) := by decide +kernel
theorem dX6_depart_46 : decode cX6_depart 46 = .ok (.getfield 10, 3) := by decide +kernel
theorem dX6_depart_49 : decode cX6_depart 49 = .ok (.iload_n 1, 1) := by decide +kernel
theorem dX6_depart_50 : decode cX6_depart 50 = .ok (.invokevirtual 126, 3) := by decide +kernel
theorem dX6_depart_53 : decode cX6_depart 53 = .ok (.ireturn, 1) := by decide +kernel
theorem dX6_makeUp_0 : decode cX6_makeUp 0 = .ok (.iload_n 1, 1) := by decide +kernel
theorem dX6_makeUp_1 : decode cX6_makeUp 1 = .ok (.iconst 0, 1) := by decide +kernel
theorem dX6_makeUp_2 : decode cX6_makeUp 2 = .ok (.iconst 3, 1) := by decide +kernel
theorem dX6_makeUp_3 : decode cX6_makeUp 3 = .ok (.invokestatic 45, 3) := by decide +kernel
theorem dX6_makeUp_6 : decode cX6_makeUp 6 = .ok (.ifCond .ne 5, 3) := by decide +kernel
theorem dX6_makeUp_9 : decode cX6_makeUp 9 = .ok (.iconst (-1), 1) := by decide +kernel
theorem dX6_makeUp_10 : decode cX6_makeUp 10 = .ok (.ireturn, 1) := by decide +kernel
theorem dX6_makeUp_11 : decode cX6_makeUp 11 = .ok (.aload_n 0, 1) := by decide +kernel
theorem dX6_makeUp_12 : decode cX6_makeUp 12 = .ok (.getfield 37, 3) := by decide +kernel
theorem dX6_makeUp_15 : decode cX6_makeUp 15 = .ok (.aload_n 0, 1) := by decide +kernel
theorem dX6_makeUp_16 : decode cX6_makeUp 16 = .ok (.getfield 10, 3) := by decide +kernel
theorem dX6_makeUp_19 : decode cX6_makeUp 19 = .ok (.iload_n 1, 1) := by decide +kernel
theorem dX6_makeUp_20 : decode cX6_makeUp 20 = .ok (.invokevirtual 129, 3) := by decide +kernel
theorem dX6_makeUp_23 : decode cX6_makeUp 23 = .ok (.ifCond .ne 6, 3) := by decide +kernel
theorem dX6_makeUp_26 : decode cX6_makeUp 26 = .ok (.bipush (-2), 2) := by decide +kernel
theorem dX6_makeUp_28 : decode cX6_makeUp 28 = .ok (.ireturn, 1) := by decide +kernel
theorem dX6_makeUp_29 : decode cX6_makeUp 29 = .ok (.aload_n 0, 1) := by decide +kernel
theorem dX6_makeUp_30 : decode cX6_makeUp 30 = .ok (.getfield 19, 3) := by decide +kernel
theorem dX6_makeUp_33 : decode cX6_makeUp 33 = .ok (.aload_n 0, 1) := by decide +kernel
theorem dX6_makeUp_34 : decode cX6_makeUp 34 = .ok (.getfield 10, 3) := by decide +kernel
theorem dX6_makeUp_37 : decode cX6_makeUp 37 = .ok (.invokevirtual 53, 3) := by decide +kernel
theorem dX6_makeUp_40 : decode cX6_makeUp 40 = .ok (.aload_n 0, 1) := by decide +kernel
theorem dX6_makeUp_41 : decode cX6_makeUp 41 = .ok (.getfield 37, 3) := by decide +kernel
theorem dX6_makeUp_44 : decode cX6_makeUp 44 = .ok (.getfield 133, 3) := by decide +kernel
theorem dX6_makeUp_47 : decode cX6_makeUp 47 = .ok (.astore_n 2, 1) := by decide +kernel
theorem dX6_makeUp_48 : decode cX6_makeUp 48 = .ok (.iconst 0, 1) := by decide +kernel
theorem dX6_makeUp_49 : decode cX6_makeUp 49 = .ok (.istore_n 3, 1) := by decide +kernel
theorem dX6_makeUp_50 : decode cX6_makeUp 50 = .ok (.iconst 0, 1) := by decide +kernel
theorem dX6_makeUp_51 : decode cX6_makeUp 51 = .ok (.istore 4, 2) := by decide +kernel
theorem dX6_makeUp_53 : decode cX6_makeUp 53 = .ok (.iload 4, 2) := by decide +kernel
theorem dX6_makeUp_55 : decode cX6_makeUp 55 = .ok (.aload_n 2, 1) := by decide +kernel
theorem dX6_makeUp_56 : decode cX6_makeUp 56 = .ok (.getfield 137, 3) := by decide +kernel
theorem dX6_makeUp_59 : decode cX6_makeUp 59 = .ok (.if_icmp .ge 40, 3) := by decide +kernel
theorem dX6_makeUp_62 : decode cX6_makeUp 62 = .ok (.iload_n 3, 1) := by decide +kernel
theorem dX6_makeUp_63 : decode cX6_makeUp 63 = .ok (.aload_n 0, 1) := by decide +kernel
theorem dX6_makeUp_64 : decode cX6_makeUp 64 = .ok (.getfield 10, 3) := by decide +kernel
theorem dX6_makeUp_67 : decode cX6_makeUp 67 = .ok (.aload_n 2, 1) := by decide +kernel
theorem dX6_makeUp_68 : decode cX6_makeUp 68 = .ok (.getfield 142, 3) := by decide +kernel
theorem dX6_makeUp_71 : decode cX6_makeUp 71 = .ok (.iload 4, 2) := by decide +kernel
theorem dX6_makeUp_73 : decode cX6_makeUp 73 = .ok (.iaload, 1) := by decide +kernel
theorem dX6_makeUp_74 : decode cX6_makeUp 74 = .ok (.aload_n 2, 1) := by decide +kernel
theorem dX6_makeUp_75 : decode cX6_makeUp 75 = .ok (.getfield 145, 3) := by decide +kernel
theorem dX6_makeUp_78 : decode cX6_makeUp 78 = .ok (.iload 4, 2) := by decide +kernel
theorem dX6_makeUp_80 : decode cX6_makeUp 80 = .ok (.iaload, 1) := by decide +kernel
theorem dX6_makeUp_81 : decode cX6_makeUp 81 = .ok (.aload_n 2, 1) := by decide +kernel
theorem dX6_makeUp_82 : decode cX6_makeUp 82 = .ok (.getfield 148, 3) := by decide +kernel
theorem dX6_makeUp_85 : decode cX6_makeUp 85 = .ok (.iload 4, 2) := by decide +kernel
theorem dX6_makeUp_87 : decode cX6_makeUp 87 = .ok (.iaload, 1) := by decide +kernel
theorem dX6_makeUp_88 : decode cX6_makeUp 88 = .ok (.invokevirtual 114, 3) := by decide +kernel
theorem dX6_makeUp_91 : decode cX6_makeUp 91 = .ok (.iadd, 1) := by decide +kernel
theorem dX6_makeUp_92 : decode cX6_makeUp 92 = .ok (.istore_n 3, 1) := by decide +kernel
theorem dX6_makeUp_93 : decode cX6_makeUp 93 = .ok (.iinc 4 1, 3) := by decide +kernel
theorem dX6_makeUp_96 : decode cX6_makeUp 96 = .ok (.goto (-43), 3) := by decide +kernel
theorem dX6_makeUp_99 : decode cX6_makeUp 99 = .ok (.iload_n 3, 1) := by decide +kernel
theorem dX6_makeUp_100 : decode cX6_makeUp 100 = .ok (.ireturn, 1) := by decide +kernel
theorem dX6_undo_0 : decode cX6_undo 0 = .ok (.aload_n 0, 1) := by decide +kernel
theorem dX6_undo_1 : decode cX6_undo 1 = .ok (.getfield 19, 3) := by decide +kernel
theorem dX6_undo_4 : decode cX6_undo 4 = .ok (.aload_n 0, 1) := by decide +kernel
theorem dX6_undo_5 : decode cX6_undo 5 = .ok (.getfield 10, 3) := by decide +kernel
theorem dX6_undo_8 : decode cX6_undo 8 = .ok (.invokevirtual 151, 3) := by decide +kernel
theorem dX6_undo_11 : decode cX6_undo 11 = .ok (.ifCond .eq 13, 3) := by decide +kernel
theorem dX6_undo_14 : decode cX6_undo 14 = .ok (.aload_n 0, 1) := by decide +kernel
theorem dX6_undo_15 : decode cX6_undo 15 = .ok (.getfield 19, 3) := by decide +kernel
theorem dX6_undo_18 : decode cX6_undo 18 = .ok (.getfield 155, 3) := by decide +kernel
theorem dX6_undo_21 : decode cX6_undo 21 = .ok (.goto 5, 3) := by decide +kernel
theorem dX6_undo_24 : decode cX6_undo 24 = .ok (.bipush (-2), 2) := by decide +kernel
theorem dX6_undo_26 : decode cX6_undo 26 = .ok (.ireturn, 1) := by decide +kernel
theorem dX6_write_0 : decode cX6_write 0 = .ok (.iload_n 1, 1) := by decide +kernel
theorem dX6_write_1 : decode cX6_write 1 = .ok (.bipush 32, 2) := by decide +kernel
theorem dX6_write_3 : decode cX6_write 3 = .ok (.bipush 126, 2) := by decide +kernel
theorem dX6_write_5 : decode cX6_write 5 = .ok (.invokestatic 45, 3) := by decide +kernel
theorem dX6_write_8 : decode cX6_write 8 = .ok (.ifCond .ne 5, 3) := by decide +kernel
theorem dX6_write_11 : decode cX6_write 11 = .ok (.iconst (-1), 1) := by decide +kernel
theorem dX6_write_12 : decode cX6_write 12 = .ok (.ireturn, 1) := by decide +kernel
theorem dX6_write_13 : decode cX6_write 13 = .ok (.aload_n 0, 1) := by decide +kernel
theorem dX6_write_14 : decode cX6_write 14 = .ok (.getfield 30, 3) := by decide +kernel
theorem dX6_write_17 : decode cX6_write 17 = .ok (.getfield 158, 3) := by decide +kernel
theorem dX6_write_20 : decode cX6_write 20 = .ok (.bipush 60, 2) := by decide +kernel
theorem dX6_write_22 : decode cX6_write 22 = .ok (.if_icmp .lt 6, 3) := by decide +kernel
theorem dX6_write_25 : decode cX6_write 25 = .ok (.bipush (-3), 2) := by decide +kernel
theorem dX6_write_27 : decode cX6_write 27 = .ok (.ireturn, 1) := by decide +kernel
theorem dX6_write_28 : decode cX6_write 28 = .ok (.aload_n 0, 1) := by decide +kernel
theorem dX6_write_29 : decode cX6_write 29 = .ok (.getfield 30, 3) := by decide +kernel
theorem dX6_write_32 : decode cX6_write 32 = .ok (.iload_n 1, 1) := by decide +kernel
theorem dX6_write_33 : decode cX6_write 33 = .ok (.invokevirtual 160, 3) := by decide +kernel
theorem dX6_write_36 : decode cX6_write 36 = .ok (.aload_n 0, 1) := by decide +kernel
theorem dX6_write_37 : decode cX6_write 37 = .ok (.getfield 30, 3) := by decide +kernel
theorem dX6_write_40 : decode cX6_write 40 = .ok (.getfield 158, 3) := by decide +kernel
theorem dX6_write_43 : decode cX6_write 43 = .ok (.ireturn, 1) := by decide +kernel
theorem dX6_wipe_0 : decode cX6_wipe 0 = .ok (.aload_n 0, 1) := by decide +kernel
theorem dX6_wipe_1 : decode cX6_wipe 1 = .ok (.getfield 30, 3) := by decide +kernel
theorem dX6_wipe_4 : decode cX6_wipe 4 = .ok (.getfield 158, 3) := by decide +kernel
theorem dX6_wipe_7 : decode cX6_wipe 7 = .ok (.istore_n 1, 1) := by decide +kernel
theorem dX6_wipe_8 : decode cX6_wipe 8 = .ok (.aload_n 0, 1) := by decide +kernel
theorem dX6_wipe_9 : decode cX6_wipe 9 = .ok (.getfield 30, 3) := by decide +kernel
theorem dX6_wipe_12 : decode cX6_wipe 12 = .ok (.iconst 0, 1) := by decide +kernel
theorem dX6_wipe_13 : decode cX6_wipe 13 = .ok (.putfield 158, 3) := by decide +kernel
theorem dX6_wipe_16 : decode cX6_wipe 16 = .ok (.iload_n 1, 1) := by decide +kernel
theorem dX6_wipe_17 : decode cX6_wipe 17 = .ok (.ireturn, 1) := by decide +kernel
theorem dX6_told_0 : decode cX6_told 0 = .ok (.iload_n 1, 1) := by decide +kernel
theorem dX6_told_1 : decode cX6_told 1 = .ok (.tableswitch 192 0 14 #[75, 83, 91, 99, 107, 115, 123, 131, 139, 147, 155, 163, 168, 176, 184], 75) := by decide +kernel
theorem dX6_told_76 : decode cX6_told 76 = .ok (.aload_n 0, 1) := by decide +kernel
theorem dX6_told_77 : decode cX6_told 77 = .ok (.getfield 10, 3) := by decide +kernel
theorem dX6_told_80 : decode cX6_told 80 = .ok (.getfield 170, 3) := by decide +kernel
theorem dX6_told_83 : decode cX6_told 83 = .ok (.ireturn, 1) := by decide +kernel
theorem dX6_told_84 : decode cX6_told 84 = .ok (.aload_n 0, 1) := by decide +kernel
theorem dX6_told_85 : decode cX6_told 85 = .ok (.getfield 10, 3) := by decide +kernel
theorem dX6_told_88 : decode cX6_told 88 = .ok (.getfield 93, 3) := by decide +kernel
theorem dX6_told_91 : decode cX6_told 91 = .ok (.ireturn, 1) := by decide +kernel
theorem dX6_told_92 : decode cX6_told 92 = .ok (.aload_n 0, 1) := by decide +kernel
theorem dX6_told_93 : decode cX6_told 93 = .ok (.getfield 10, 3) := by decide +kernel
theorem dX6_told_96 : decode cX6_told 96 = .ok (.getfield 120, 3) := by decide +kernel
theorem dX6_told_99 : decode cX6_told 99 = .ok (.ireturn, 1) := by decide +kernel
theorem dX6_told_100 : decode cX6_told 100 = .ok (.aload_n 0, 1) := by decide +kernel
theorem dX6_told_101 : decode cX6_told 101 = .ok (.getfield 10, 3) := by decide +kernel
theorem dX6_told_104 : decode cX6_told 104 = .ok (.invokevirtual 49, 3) := by decide +kernel
theorem dX6_told_107 : decode cX6_told 107 = .ok (.ireturn, 1) := by decide +kernel
theorem dX6_told_108 : decode cX6_told 108 = .ok (.aload_n 0, 1) := by decide +kernel
theorem dX6_told_109 : decode cX6_told 109 = .ok (.getfield 10, 3) := by decide +kernel
theorem dX6_told_112 : decode cX6_told 112 = .ok (.getfield 107, 3) := by decide +kernel
theorem dX6_told_115 : decode cX6_told 115 = .ok (.ireturn, 1) := by decide +kernel
theorem dX6_told_116 : decode cX6_told 116 = .ok (.aload_n 0, 1) := by decide +kernel
theorem dX6_told_117 : decode cX6_told 117 = .ok (.getfield 10, 3) := by decide +kernel
theorem dX6_told_120 : decode cX6_told 120 = .ok (.invokevirtual 173, 3) := by decide +kernel
theorem dX6_told_123 : decode cX6_told 123 = .ok (.ireturn, 1) := by decide +kernel
theorem dX6_told_124 : decode cX6_told 124 = .ok (.aload_n 0, 1) := by decide +kernel
theorem dX6_told_125 : decode cX6_told 125 = .ok (.getfield 10, 3) := by decide +kernel
theorem dX6_told_128 : decode cX6_told 128 = .ok (.getfield 176, 3) := by decide +kernel
theorem dX6_told_131 : decode cX6_told 131 = .ok (.ireturn, 1) := by decide +kernel
theorem dX6_told_132 : decode cX6_told 132 = .ok (.aload_n 0, 1) := by decide +kernel
theorem dX6_told_133 : decode cX6_told 133 = .ok (.getfield 10, 3) := by decide +kernel
theorem dX6_told_136 : decode cX6_told 136 = .ok (.getfield 177, 3) := by decide +kernel
theorem dX6_told_139 : decode cX6_told 139 = .ok (.ireturn, 1) := by decide +kernel
theorem dX6_told_140 : decode cX6_told 140 = .ok (.aload_n 0, 1) := by decide +kernel
theorem dX6_told_141 : decode cX6_told 141 = .ok (.getfield 10, 3) := by decide +kernel
theorem dX6_told_144 : decode cX6_told 144 = .ok (.getfield 180, 3) := by decide +kernel
theorem dX6_told_147 : decode cX6_told 147 = .ok (.ireturn, 1) := by decide +kernel
theorem dX6_told_148 : decode cX6_told 148 = .ok (.aload_n 0, 1) := by decide +kernel
theorem dX6_told_149 : decode cX6_told 149 = .ok (.getfield 10, 3) := by decide +kernel
theorem dX6_told_152 : decode cX6_told 152 = .ok (.getfield 183, 3) := by decide +kernel
theorem dX6_told_155 : decode cX6_told 155 = .ok (.ireturn, 1) := by decide +kernel
theorem dX6_told_156 : decode cX6_told 156 = .ok (.aload_n 0, 1) := by decide +kernel
theorem dX6_told_157 : decode cX6_told 157 = .ok (.getfield 10, 3) := by decide +kernel
theorem dX6_told_160 : decode cX6_told 160 = .ok (.getfield 186, 3) := by decide +kernel
theorem dX6_told_163 : decode cX6_told 163 = .ok (.ireturn, 1) := by decide +kernel
theorem dX6_told_164 : decode cX6_told 164 = .ok (.aload_n 0, 1) := by decide +kernel
theorem dX6_told_165 : decode cX6_told 165 = .ok (.getfield 41, 3) := by decide +kernel
theorem dX6_told_168 : decode cX6_told 168 = .ok (.ireturn, 1) := by decide +kernel
theorem dX6_told_169 : decode cX6_told 169 = .ok (.aload_n 0, 1) := by decide +kernel
theorem dX6_told_170 : decode cX6_told 170 = .ok (.getfield 10, 3) := by decide +kernel
theorem dX6_told_173 : decode cX6_told 173 = .ok (.invokevirtual 189, 3) := by decide +kernel
theorem dX6_told_176 : decode cX6_told 176 = .ok (.ireturn, 1) := by decide +kernel
theorem dX6_told_177 : decode cX6_told 177 = .ok (.aload_n 0, 1) := by decide +kernel
theorem dX6_told_178 : decode cX6_told 178 = .ok (.getfield 30, 3) := by decide +kernel
theorem dX6_told_181 : decode cX6_told 181 = .ok (.getfield 158, 3) := by decide +kernel
theorem dX6_told_184 : decode cX6_told 184 = .ok (.ireturn, 1) := by decide +kernel
theorem dX6_told_185 : decode cX6_told 185 = .ok (.aload_n 0, 1) := by decide +kernel
theorem dX6_told_186 : decode cX6_told 186 = .ok (.getfield 19, 3) := by decide +kernel
theorem dX6_told_189 : decode cX6_told 189 = .ok (.getfield 155, 3) := by decide +kernel
theorem dX6_told_192 : decode cX6_told 192 = .ok (.ireturn, 1) := by decide +kernel
theorem dX6_told_193 : decode cX6_told 193 = .ok (.iconst (-1), 1) := by decide +kernel
theorem dX6_told_194 : decode cX6_told 194 = .ok (.ireturn, 1) := by decide +kernel
theorem dX6_setting_0 : decode cX6_setting 0 = .ok (.iload_n 1, 1) := by decide +kernel
theorem dX6_setting_1 : decode cX6_setting 1 = .ok (.invokestatic 61, 3) := by decide +kernel
theorem dX6_setting_4 : decode cX6_setting 4 = .ok (.ifCond .eq 15, 3) := by decide +kernel
theorem dX6_setting_7 : decode cX6_setting 7 = .ok (.aload_n 0, 1) := by decide +kernel
theorem dX6_setting_8 : decode cX6_setting 8 = .ok (.getfield 10, 3) := by decide +kernel
theorem dX6_setting_11 : decode cX6_setting 11 = .ok (.getfield 72, 3) := by decide +kernel
theorem dX6_setting_14 : decode cX6_setting 14 = .ok (.iload_n 1, 1) := by decide +kernel
theorem dX6_setting_15 : decode cX6_setting 15 = .ok (.iaload, 1) := by decide +kernel
theorem dX6_setting_16 : decode cX6_setting 16 = .ok (.goto 4, 3) := by decide +kernel
theorem dX6_setting_19 : decode cX6_setting 19 = .ok (.iconst (-1), 1) := by decide +kernel
theorem dX6_setting_20 : decode cX6_setting 20 = .ok (.ireturn, 1) := by decide +kernel
theorem dX6_track_0 : decode cX6_track 0 = .ok (.aload_n 0, 1) := by decide +kernel
theorem dX6_track_1 : decode cX6_track 1 = .ok (.getfield 10, 3) := by decide +kernel
theorem dX6_track_4 : decode cX6_track 4 = .ok (.iload_n 1, 1) := by decide +kernel
theorem dX6_track_5 : decode cX6_track 5 = .ok (.invokevirtual 76, 3) := by decide +kernel
theorem dX6_track_8 : decode cX6_track 8 = .ok (.ifCond .ne 5, 3) := by decide +kernel
theorem dX6_track_11 : decode cX6_track 11 = .ok (.iconst (-1), 1) := by decide +kernel
theorem dX6_track_12 : decode cX6_track 12 = .ok (.ireturn, 1) := by decide +kernel
theorem dX6_track_13 : decode cX6_track 13 = .ok (.iload_n 2, 1) := by decide +kernel
theorem dX6_track_14 : decode cX6_track 14 = .ok (.tableswitch 88 0 4 #[34, 44, 61, 70, 79], 34) := by decide +kernel
theorem dX6_track_48 : decode cX6_track 48 = .ok (.aload_n 0, 1) := by decide +kernel
theorem dX6_track_49 : decode cX6_track 49 = .ok (.getfield 10, 3) := by decide +kernel
theorem dX6_track_52 : decode cX6_track 52 = .ok (.getfield 87, 3) := by decide +kernel
theorem dX6_track_55 : decode cX6_track 55 = .ok (.iload_n 1, 1) := by decide +kernel
theorem dX6_track_56 : decode cX6_track 56 = .ok (.iaload, 1) := by decide +kernel
theorem dX6_track_57 : decode cX6_track 57 = .ok (.ireturn, 1) := by decide +kernel
theorem dX6_track_58 : decode cX6_track 58 = .ok (.aload_n 0, 1) := by decide +kernel
theorem dX6_track_59 : decode cX6_track 59 = .ok (.getfield 10, 3) := by decide +kernel
theorem dX6_track_62 : decode cX6_track 62 = .ok (.iload_n 1, 1) := by decide +kernel
theorem dX6_track_63 : decode cX6_track 63 = .ok (.invokevirtual 192, 3) := by decide +kernel
theorem dX6_track_66 : decode cX6_track 66 = .ok (.ifCond .eq 7, 3) := by decide +kernel
theorem dX6_track_69 : decode cX6_track 69 = .ok (.iconst 1, 1) := by decide +kernel
theorem dX6_track_70 : decode cX6_track 70 = .ok (.goto 4, 3) := by decide +kernel
theorem dX6_track_73 : decode cX6_track 73 = .ok (.iconst 0, 1) := by decide +kernel
theorem dX6_track_74 : decode cX6_track 74 = .ok (.ireturn, 1) := by decide +kernel
theorem dX6_track_75 : decode cX6_track 75 = .ok (.aload_n 0, 1) := by decide +kernel
theorem dX6_track_76 : decode cX6_track 76 = .ok (.getfield 10, 3) := by decide +kernel
theorem dX6_track_79 : decode cX6_track 79 = .ok (.iload_n 1, 1) := by decide +kernel
theorem dX6_track_80 : decode cX6_track 80 = .ok (.invokevirtual 195, 3) := by decide +kernel
theorem dX6_track_83 : decode cX6_track 83 = .ok (.ireturn, 1) := by decide +kernel
theorem dX6_track_84 : decode cX6_track 84 = .ok (.aload_n 0, 1) := by decide +kernel
theorem dX6_track_85 : decode cX6_track 85 = .ok (.getfield 10, 3) := by decide +kernel
theorem dX6_track_88 : decode cX6_track 88 = .ok (.iload_n 1, 1) := by decide +kernel
theorem dX6_track_89 : decode cX6_track 89 = .ok (.invokevirtual 198, 3) := by decide +kernel
theorem dX6_track_92 : decode cX6_track 92 = .ok (.ireturn, 1) := by decide +kernel
theorem dX6_track_93 : decode cX6_track 93 = .ok (.aload_n 0, 1) := by decide +kernel
theorem dX6_track_94 : decode cX6_track 94 = .ok (.getfield 10, 3) := by decide +kernel
theorem dX6_track_97 : decode cX6_track 97 = .ok (.iload_n 1, 1) := by decide +kernel
theorem dX6_track_98 : decode cX6_track 98 = .ok (.invokevirtual 123, 3) := by decide +kernel
theorem dX6_track_101 : decode cX6_track 101 = .ok (.ireturn, 1) := by decide +kernel
theorem dX6_track_102 : decode cX6_track 102 = .ok (.iconst (-1), 1) := by decide +kernel
theorem dX6_track_103 : decode cX6_track 103 = .ok (.ireturn, 1) := by decide +kernel
theorem dX6_wagon_0 : decode cX6_wagon 0 = .ok (.aload_n 0, 1) := by decide +kernel
theorem dX6_wagon_1 : decode cX6_wagon 1 = .ok (.getfield 10, 3) := by decide +kernel
theorem dX6_wagon_4 : decode cX6_wagon 4 = .ok (.iload_n 1, 1) := by decide +kernel
theorem dX6_wagon_5 : decode cX6_wagon 5 = .ok (.invokevirtual 76, 3) := by decide +kernel
theorem dX6_wagon_8 : decode cX6_wagon 8 = .ok (.ifCond .eq 16, 3) := by decide +kernel
theorem dX6_wagon_11 : decode cX6_wagon 11 = .ok (.iload_n 2, 1) := by decide +kernel
theorem dX6_wagon_12 : decode cX6_wagon 12 = .ok (.ifCond .lt 12, 3) := by decide +kernel
theorem dX6_wagon_15 : decode cX6_wagon 15 = .ok (.iload_n 3, 1) := by decide +kernel
theorem dX6_wagon_16 : decode cX6_wagon 16 = .ok (.iconst 0, 1) := by decide +kernel
theorem dX6_wagon_17 : decode cX6_wagon 17 = .ok (.iconst 2, 1) := by decide +kernel
theorem dX6_wagon_18 : decode cX6_wagon 18 = .ok (.invokestatic 45, 3) := by decide +kernel
theorem dX6_wagon_21 : decode cX6_wagon 21 = .ok (.ifCond .ne 5, 3) := by decide +kernel
theorem dX6_wagon_24 : decode cX6_wagon 24 = .ok (.iconst (-1), 1) := by decide +kernel
theorem dX6_wagon_25 : decode cX6_wagon 25 = .ok (.ireturn, 1) := by decide +kernel
theorem dX6_wagon_26 : decode cX6_wagon 26 = .ok (.iload_n 2, 1) := by decide +kernel
theorem dX6_wagon_27 : decode cX6_wagon 27 = .ok (.aload_n 0, 1) := by decide +kernel
theorem dX6_wagon_28 : decode cX6_wagon 28 = .ok (.getfield 10, 3) := by decide +kernel
theorem dX6_wagon_31 : decode cX6_wagon 31 = .ok (.getfield 87, 3) := by decide +kernel
theorem dX6_wagon_34 : decode cX6_wagon 34 = .ok (.iload_n 1, 1) := by decide +kernel
theorem dX6_wagon_35 : decode cX6_wagon 35 = .ok (.iaload, 1) := by decide +kernel
theorem dX6_wagon_36 : decode cX6_wagon 36 = .ok (.if_icmp .lt 6, 3) := by decide +kernel
theorem dX6_wagon_39 : decode cX6_wagon 39 = .ok (.bipush (-9), 2) := by decide +kernel
theorem dX6_wagon_41 : decode cX6_wagon 41 = .ok (.ireturn, 1) := by decide +kernel
theorem dX6_wagon_42 : decode cX6_wagon 42 = .ok (.aload_n 0, 1) := by decide +kernel
theorem dX6_wagon_43 : decode cX6_wagon 43 = .ok (.getfield 10, 3) := by decide +kernel
theorem dX6_wagon_46 : decode cX6_wagon 46 = .ok (.iload_n 1, 1) := by decide +kernel
theorem dX6_wagon_47 : decode cX6_wagon 47 = .ok (.iload_n 2, 1) := by decide +kernel
theorem dX6_wagon_48 : decode cX6_wagon 48 = .ok (.invokevirtual 201, 3) := by decide +kernel
theorem dX6_wagon_51 : decode cX6_wagon 51 = .ok (.istore 4, 2) := by decide +kernel
theorem dX6_wagon_53 : decode cX6_wagon 53 = .ok (.iload_n 3, 1) := by decide +kernel
theorem dX6_wagon_54 : decode cX6_wagon 54 = .ok (.lookupswitch 38 #[(0, 26), (1, 32)], 26) := by decide +kernel
theorem dX6_wagon_80 : decode cX6_wagon 80 = .ok (.iload 4, 2) := by decide +kernel
theorem dX6_wagon_82 : decode cX6_wagon 82 = .ok (.invokestatic 205, 3) := by decide +kernel
theorem dX6_wagon_85 : decode cX6_wagon 85 = .ok (.ireturn, 1) := by decide +kernel
theorem dX6_wagon_86 : decode cX6_wagon 86 = .ok (.iload 4, 2) := by decide +kernel
theorem dX6_wagon_88 : decode cX6_wagon 88 = .ok (.invokestatic 208, 3) := by decide +kernel
theorem dX6_wagon_91 : decode cX6_wagon 91 = .ok (.ireturn, 1) := by decide +kernel
theorem dX6_wagon_92 : decode cX6_wagon 92 = .ok (.iload 4, 2) := by decide +kernel
theorem dX6_wagon_94 : decode cX6_wagon 94 = .ok (.invokestatic 211, 3) := by decide +kernel
theorem dX6_wagon_97 : decode cX6_wagon 97 = .ok (.ireturn, 1) := by decide +kernel
theorem dX6_train_0 : decode cX6_train 0 = .ok (.iload_n 1, 1) := by decide +kernel
theorem dX6_train_1 : decode cX6_train 1 = .ok (.ifCond .ge 5, 3) := by decide +kernel
theorem dX6_train_4 : decode cX6_train 4 = .ok (.iconst (-1), 1) := by decide +kernel
theorem dX6_train_5 : decode cX6_train 5 = .ok (.ireturn, 1) := by decide +kernel
theorem dX6_train_6 : decode cX6_train 6 = .ok (.iload_n 1, 1) := by decide +kernel
theorem dX6_train_7 : decode cX6_train 7 = .ok (.aload_n 0, 1) := by decide +kernel
theorem dX6_train_8 : decode cX6_train 8 = .ok (.getfield 10, 3) := by decide +kernel
theorem dX6_train_11 : decode cX6_train 11 = .ok (.getfield 107, 3) := by decide +kernel
theorem dX6_train_14 : decode cX6_train 14 = .ok (.if_icmp .ge 15, 3) := by decide +kernel
theorem dX6_train_17 : decode cX6_train 17 = .ok (.aload_n 0, 1) := by decide +kernel
theorem dX6_train_18 : decode cX6_train 18 = .ok (.getfield 10, 3) := by decide +kernel
theorem dX6_train_21 : decode cX6_train 21 = .ok (.getfield 214, 3) := by decide +kernel
theorem dX6_train_24 : decode cX6_train 24 = .ok (.iload_n 1, 1) := by decide +kernel
theorem dX6_train_25 : decode cX6_train 25 = .ok (.iaload, 1) := by decide +kernel
theorem dX6_train_26 : decode cX6_train 26 = .ok (.goto 5, 3) := by decide +kernel
theorem dX6_train_29 : decode cX6_train 29 = .ok (.bipush (-9), 2) := by decide +kernel
theorem dX6_train_31 : decode cX6_train 31 = .ok (.ireturn, 1) := by decide +kernel
theorem dX6_find_0 : decode cX6_find 0 = .ok (.iload_n 1, 1) := by decide +kernel
theorem dX6_find_1 : decode cX6_find 1 = .ok (.ifCond .lt 12, 3) := by decide +kernel
theorem dX6_find_4 : decode cX6_find 4 = .ok (.iload_n 2, 1) := by decide +kernel
theorem dX6_find_5 : decode cX6_find 5 = .ok (.iconst 0, 1) := by decide +kernel
theorem dX6_find_6 : decode cX6_find 6 = .ok (.iconst 1, 1) := by decide +kernel
theorem dX6_find_7 : decode cX6_find 7 = .ok (.invokestatic 45, 3) := by decide +kernel
theorem dX6_find_10 : decode cX6_find 10 = .ok (.ifCond .ne 5, 3) := by decide +kernel
theorem dX6_find_13 : decode cX6_find 13 = .ok (.iconst (-1), 1) := by decide +kernel
theorem dX6_find_14 : decode cX6_find 14 = .ok (.ireturn, 1) := by decide +kernel
theorem dX6_find_15 : decode cX6_find 15 = .ok (.aload_n 0, 1) := by decide +kernel
theorem dX6_find_16 : decode cX6_find 16 = .ok (.getfield 10, 3) := by decide +kernel
theorem dX6_find_19 : decode cX6_find 19 = .ok (.iload_n 1, 1) := by decide +kernel
theorem dX6_find_20 : decode cX6_find 20 = .ok (.invokevirtual 217, 3) := by decide +kernel
theorem dX6_find_23 : decode cX6_find 23 = .ok (.istore_n 3, 1) := by decide +kernel
theorem dX6_find_24 : decode cX6_find 24 = .ok (.iload_n 3, 1) := by decide +kernel
theorem dX6_find_25 : decode cX6_find 25 = .ok (.bipush (-9), 2) := by decide +kernel
theorem dX6_find_27 : decode cX6_find 27 = .ok (.if_icmp .ne 6, 3) := by decide +kernel
theorem dX6_find_30 : decode cX6_find 30 = .ok (.bipush (-9), 2) := by decide +kernel
theorem dX6_find_32 : decode cX6_find 32 = .ok (.ireturn, 1) := by decide +kernel
theorem dX6_find_33 : decode cX6_find 33 = .ok (.iload_n 2, 1) := by decide +kernel
theorem dX6_find_34 : decode cX6_find 34 = .ok (.ifCond .ne 10, 3) := by decide +kernel
theorem dX6_find_37 : decode cX6_find 37 = .ok (.iload_n 3, 1) := by decide +kernel
theorem dX6_find_38 : decode cX6_find 38 = .ok (.bipush 8, 2) := by decide +kernel
theorem dX6_find_40 : decode cX6_find 40 = .ok (.idiv, 1) := by decide +kernel
theorem dX6_find_41 : decode cX6_find 41 = .ok (.goto 7, 3) := by decide +kernel
theorem dX6_find_44 : decode cX6_find 44 = .ok (.iload_n 3, 1) := by decide +kernel
theorem dX6_find_45 : decode cX6_find 45 = .ok (.bipush 8, 2) := by decide +kernel
theorem dX6_find_47 : decode cX6_find 47 = .ok (.irem, 1) := by decide +kernel
theorem dX6_find_48 : decode cX6_find 48 = .ok (.ireturn, 1) := by decide +kernel
theorem dX6_mean_0 : decode cX6_mean 0 = .ok (.aload_n 0, 1) := by decide +kernel
theorem dX6_mean_1 : decode cX6_mean 1 = .ok (.getfield 10, 3) := by decide +kernel
theorem dX6_mean_4 : decode cX6_mean 4 = .ok (.getfield 176, 3) := by decide +kernel
theorem dX6_mean_7 : decode cX6_mean 7 = .ok (.ifCond .ne 7, 3) := by decide +kernel
theorem dX6_mean_10 : decode cX6_mean 10 = .ok (.fconst 0, 1) := by decide +kernel
theorem dX6_mean_11 : decode cX6_mean 11 = .ok (.goto 20, 3) := by decide +kernel
theorem dX6_mean_14 : decode cX6_mean 14 = .ok (.aload_n 0, 1) := by decide +kernel
theorem dX6_mean_15 : decode cX6_mean 15 = .ok (.getfield 10, 3) := by decide +kernel
theorem dX6_mean_18 : decode cX6_mean 18 = .ok (.getfield 177, 3) := by decide +kernel
theorem dX6_mean_21 : decode cX6_mean 21 = .ok (.i2f, 1) := by decide +kernel
theorem dX6_mean_22 : decode cX6_mean 22 = .ok (.aload_n 0, 1) := by decide +kernel
theorem dX6_mean_23 : decode cX6_mean 23 = .ok (.getfield 10, 3) := by decide +kernel
theorem dX6_mean_26 : decode cX6_mean 26 = .ok (.getfield 176, 3) := by decide +kernel
theorem dX6_mean_29 : decode cX6_mean 29 = .ok (.i2f, 1) := by decide +kernel
theorem dX6_mean_30 : decode cX6_mean 30 = .ok (.fdiv, 1) := by decide +kernel
theorem dX6_mean_31 : decode cX6_mean 31 = .ok (.freturn, 1) := by decide +kernel
theorem dX6_cost_0 : decode cX6_cost 0 = .ok (.aload_n 0, 1) := by decide +kernel
theorem dX6_cost_1 : decode cX6_cost 1 = .ok (.getfield 10, 3) := by decide +kernel
theorem dX6_cost_4 : decode cX6_cost 4 = .ok (.iload_n 1, 1) := by decide +kernel
theorem dX6_cost_5 : decode cX6_cost 5 = .ok (.iload_n 2, 1) := by decide +kernel
theorem dX6_cost_6 : decode cX6_cost 6 = .ok (.iload_n 3, 1) := by decide +kernel
theorem dX6_cost_7 : decode cX6_cost 7 = .ok (.invokevirtual 110, 3) := by decide +kernel
theorem dX6_cost_10 : decode cX6_cost 10 = .ok (.ireturn, 1) := by decide +kernel
theorem dX6_cheapest_0 : decode cX6_cheapest 0 = .ok (.iload_n 1, 1) := by decide +kernel
theorem dX6_cheapest_1 : decode cX6_cheapest 1 = .ok (.iconst 0, 1) := by decide +kernel
theorem dX6_cheapest_2 : decode cX6_cheapest 2 = .ok (.iconst 3, 1) := by decide +kernel
theorem dX6_cheapest_3 : decode cX6_cheapest 3 = .ok (.invokestatic 45, 3) := by decide +kernel
theorem dX6_cheapest_6 : decode cX6_cheapest 6 = .ok (.ifCond .eq 12, 3) := by decide +kernel
theorem dX6_cheapest_9 : decode cX6_cheapest 9 = .ok (.iload_n 2, 1) := by decide +kernel
theorem dX6_cheapest_10 : decode cX6_cheapest 10 = .ok (.iconst 0, 1) := by decide +kernel
theorem dX6_cheapest_11 : decode cX6_cheapest 11 = .ok (.iconst 4, 1) := by decide +kernel
theorem dX6_cheapest_12 : decode cX6_cheapest 12 = .ok (.invokestatic 45, 3) := by decide +kernel
theorem dX6_cheapest_15 : decode cX6_cheapest 15 = .ok (.ifCond .ne 5, 3) := by decide +kernel
theorem dX6_cheapest_18 : decode cX6_cheapest 18 = .ok (.iconst (-1), 1) := by decide +kernel
theorem dX6_cheapest_19 : decode cX6_cheapest 19 = .ok (.ireturn, 1) := by decide +kernel
theorem dX6_cheapest_20 : decode cX6_cheapest 20 = .ok (.aload_n 0, 1) := by decide +kernel
theorem dX6_cheapest_21 : decode cX6_cheapest 21 = .ok (.getfield 37, 3) := by decide +kernel
theorem dX6_cheapest_24 : decode cX6_cheapest 24 = .ok (.aload_n 0, 1) := by decide +kernel
theorem dX6_cheapest_25 : decode cX6_cheapest 25 = .ok (.getfield 10, 3) := by decide +kernel
theorem dX6_cheapest_28 : decode cX6_cheapest 28 = .ok (.iload_n 1, 1) := by decide +kernel
theorem dX6_cheapest_29 : decode cX6_cheapest 29 = .ok (.invokevirtual 129, 3) := by decide +kernel
theorem dX6_cheapest_32 : decode cX6_cheapest 32 = .ok (.ifCond .ne 6, 3) := by decide +kernel
theorem dX6_cheapest_35 : decode cX6_cheapest 35 = .ok (.bipush (-9), 2) := by decide +kernel
theorem dX6_cheapest_37 : decode cX6_cheapest 37 = .ok (.ireturn, 1) := by decide +kernel
theorem dX6_cheapest_38 : decode cX6_cheapest 38 = .ok (.aload_n 0, 1) := by decide +kernel
theorem dX6_cheapest_39 : decode cX6_cheapest 39 = .ok (.getfield 37, 3) := by decide +kernel
theorem dX6_cheapest_42 : decode cX6_cheapest 42 = .ok (.getfield 133, 3) := by decide +kernel
theorem dX6_cheapest_45 : decode cX6_cheapest 45 = .ok (.astore_n 3, 1) := by decide +kernel
theorem dX6_cheapest_46 : decode cX6_cheapest 46 = .ok (.iload_n 2, 1) := by decide +kernel
theorem dX6_cheapest_47 : decode cX6_cheapest 47 = .ok (.iconst 2, 1) := by decide +kernel
theorem dX6_cheapest_48 : decode cX6_cheapest 48 = .ok (.if_icmp .lt 13, 3) := by decide +kernel
theorem dX6_cheapest_51 : decode cX6_cheapest 51 = .ok (.aload_n 3, 1) := by decide +kernel
theorem dX6_cheapest_52 : decode cX6_cheapest 52 = .ok (.getfield 137, 3) := by decide +kernel
theorem dX6_cheapest_55 : decode cX6_cheapest 55 = .ok (.ifCond .ne 6, 3) := by decide +kernel
theorem dX6_cheapest_58 : decode cX6_cheapest 58 = .ok (.bipush (-9), 2) := by decide +kernel
theorem dX6_cheapest_60 : decode cX6_cheapest 60 = .ok (.ireturn, 1) := by decide +kernel
theorem dX6_cheapest_61 : decode cX6_cheapest 61 = .ok (.iload_n 2, 1) := by decide +kernel
theorem dX6_cheapest_62 : decode cX6_cheapest 62 = .ok (.tableswitch 54 0 3 #[30, 35, 40, 47], 30) := by decide +kernel
theorem dX6_cheapest_92 : decode cX6_cheapest 92 = .ok (.aload_n 3, 1) := by decide +kernel
theorem dX6_cheapest_93 : decode cX6_cheapest 93 = .ok (.getfield 220, 3) := by decide +kernel
theorem dX6_cheapest_96 : decode cX6_cheapest 96 = .ok (.ireturn, 1) := by decide +kernel
theorem dX6_cheapest_97 : decode cX6_cheapest 97 = .ok (.aload_n 3, 1) := by decide +kernel
theorem dX6_cheapest_98 : decode cX6_cheapest 98 = .ok (.getfield 137, 3) := by decide +kernel
theorem dX6_cheapest_101 : decode cX6_cheapest 101 = .ok (.ireturn, 1) := by decide +kernel
theorem dX6_cheapest_102 : decode cX6_cheapest 102 = .ok (.aload_n 3, 1) := by decide +kernel
theorem dX6_cheapest_103 : decode cX6_cheapest 103 = .ok (.getfield 142, 3) := by decide +kernel
theorem dX6_cheapest_106 : decode cX6_cheapest 106 = .ok (.iconst 0, 1) := by decide +kernel
theorem dX6_cheapest_107 : decode cX6_cheapest 107 = .ok (.iaload, 1) := by decide +kernel
theorem dX6_cheapest_108 : decode cX6_cheapest 108 = .ok (.ireturn, 1) := by decide +kernel
theorem dX6_cheapest_109 : decode cX6_cheapest 109 = .ok (.aload_n 3, 1) := by decide +kernel
theorem dX6_cheapest_110 : decode cX6_cheapest 110 = .ok (.getfield 145, 3) := by decide +kernel
theorem dX6_cheapest_113 : decode cX6_cheapest 113 = .ok (.iconst 0, 1) := by decide +kernel
theorem dX6_cheapest_114 : decode cX6_cheapest 114 = .ok (.iaload, 1) := by decide +kernel
theorem dX6_cheapest_115 : decode cX6_cheapest 115 = .ok (.ireturn, 1) := by decide +kernel
theorem dX6_cheapest_116 : decode cX6_cheapest 116 = .ok (.aload_n 3, 1) := by decide +kernel
theorem dX6_cheapest_117 : decode cX6_cheapest 117 = .ok (.getfield 148, 3) := by decide +kernel
theorem dX6_cheapest_120 : decode cX6_cheapest 120 = .ok (.iconst 0, 1) := by decide +kernel
theorem dX6_cheapest_121 : decode cX6_cheapest 121 = .ok (.iaload, 1) := by decide +kernel
theorem dX6_cheapest_122 : decode cX6_cheapest 122 = .ok (.ireturn, 1) := by decide +kernel
theorem dX6_keep_0 : decode cX6_keep 0 = .ok (.iload_n 1, 1) := by decide +kernel
theorem dX6_keep_1 : decode cX6_keep 1 = .ok (.iconst 0, 1) := by decide +kernel
theorem dX6_keep_2 : decode cX6_keep 2 = .ok (.iconst 1, 1) := by decide +kernel
theorem dX6_keep_3 : decode cX6_keep 3 = .ok (.invokestatic 45, 3) := by decide +kernel
theorem dX6_keep_6 : decode cX6_keep 6 = .ok (.ifCond .ne 5, 3) := by decide +kernel
theorem dX6_keep_9 : decode cX6_keep 9 = .ok (.iconst (-1), 1) := by decide +kernel
theorem dX6_keep_10 : decode cX6_keep 10 = .ok (.ireturn, 1) := by decide +kernel
theorem dX6_keep_11 : decode cX6_keep 11 = .ok (.aload_n 0, 1) := by decide +kernel
theorem dX6_keep_12 : decode cX6_keep 12 = .ok (.getfield 23, 3) := by decide +kernel
theorem dX6_keep_15 : decode cX6_keep 15 = .ok (.iload_n 1, 1) := by decide +kernel
theorem dX6_keep_16 : decode cX6_keep 16 = .ok (.aaload, 1) := by decide +kernel
theorem dX6_keep_17 : decode cX6_keep 17 = .ok (.ifnonnull 16, 3) := by decide +kernel
theorem dX6_keep_20 : decode cX6_keep 20 = .ok (.aload_n 0, 1) := by decide +kernel
theorem dX6_keep_21 : decode cX6_keep 21 = .ok (.getfield 23, 3) := by decide +kernel
theorem dX6_keep_24 : decode cX6_keep 24 = .ok (.iload_n 1, 1) := by decide +kernel
theorem dX6_keep_25 : decode cX6_keep 25 = .ok (.new 7, 3) := by decide +kernel
theorem dX6_keep_28 : decode cX6_keep 28 = .ok (.dup, 1) := by decide +kernel
theorem dX6_keep_29 : decode cX6_keep 29 = .ok (.invokespecial 9, 3) := by decide +kernel
theorem dX6_keep_32 : decode cX6_keep 32 = .ok (.aastore, 1) := by decide +kernel
theorem dX6_keep_33 : decode cX6_keep 33 = .ok (.aload_n 0, 1) := by decide +kernel
theorem dX6_keep_34 : decode cX6_keep 34 = .ok (.getfield 23, 3) := by decide +kernel
theorem dX6_keep_37 : decode cX6_keep 37 = .ok (.iload_n 1, 1) := by decide +kernel
theorem dX6_keep_38 : decode cX6_keep 38 = .ok (.aaload, 1) := by decide +kernel
theorem dX6_keep_39 : decode cX6_keep 39 = .ok (.aload_n 0, 1) := by decide +kernel
theorem dX6_keep_40 : decode cX6_keep 40 = .ok (.getfield 10, 3) := by decide +kernel
theorem dX6_keep_43 : decode cX6_keep 43 = .ok (.invokevirtual 223, 3) := by decide +kernel
theorem dX6_keep_46 : decode cX6_keep 46 = .ok (.aload_n 0, 1) := by decide +kernel
theorem dX6_keep_47 : decode cX6_keep 47 = .ok (.getfield 10, 3) := by decide +kernel
theorem dX6_keep_50 : decode cX6_keep 50 = .ok (.invokevirtual 49, 3) := by decide +kernel
theorem dX6_keep_53 : decode cX6_keep 53 = .ok (.ireturn, 1) := by decide +kernel
theorem dX6_back_0 : decode cX6_back 0 = .ok (.iload_n 1, 1) := by decide +kernel
theorem dX6_back_1 : decode cX6_back 1 = .ok (.iconst 0, 1) := by decide +kernel
theorem dX6_back_2 : decode cX6_back 2 = .ok (.iconst 1, 1) := by decide +kernel
theorem dX6_back_3 : decode cX6_back 3 = .ok (.invokestatic 45, 3) := by decide +kernel
theorem dX6_back_6 : decode cX6_back 6 = .ok (.ifCond .ne 5, 3) := by decide +kernel
theorem dX6_back_9 : decode cX6_back 9 = .ok (.iconst (-1), 1) := by decide +kernel
theorem dX6_back_10 : decode cX6_back 10 = .ok (.ireturn, 1) := by decide +kernel
theorem dX6_back_11 : decode cX6_back 11 = .ok (.aload_n 0, 1) := by decide +kernel
theorem dX6_back_12 : decode cX6_back 12 = .ok (.getfield 23, 3) := by decide +kernel
theorem dX6_back_15 : decode cX6_back 15 = .ok (.iload_n 1, 1) := by decide +kernel
theorem dX6_back_16 : decode cX6_back 16 = .ok (.aaload, 1) := by decide +kernel
theorem dX6_back_17 : decode cX6_back 17 = .ok (.ifnonnull 6, 3) := by decide +kernel
theorem dX6_back_20 : decode cX6_back 20 = .ok (.bipush (-2), 2) := by decide +kernel
theorem dX6_back_22 : decode cX6_back 22 = .ok (.ireturn, 1) := by decide +kernel
theorem dX6_back_23 : decode cX6_back 23 = .ok (.aload_n 0, 1) := by decide +kernel
theorem dX6_back_24 : decode cX6_back 24 = .ok (.getfield 19, 3) := by decide +kernel
theorem dX6_back_27 : decode cX6_back 27 = .ok (.aload_n 0, 1) := by decide +kernel
theorem dX6_back_28 : decode cX6_back 28 = .ok (.getfield 10, 3) := by decide +kernel
theorem dX6_back_31 : decode cX6_back 31 = .ok (.invokevirtual 53, 3) := by decide +kernel
theorem dX6_back_34 : decode cX6_back 34 = .ok (.aload_n 0, 1) := by decide +kernel
theorem dX6_back_35 : decode cX6_back 35 = .ok (.getfield 10, 3) := by decide +kernel
theorem dX6_back_38 : decode cX6_back 38 = .ok (.aload_n 0, 1) := by decide +kernel
theorem dX6_back_39 : decode cX6_back 39 = .ok (.getfield 23, 3) := by decide +kernel
theorem dX6_back_42 : decode cX6_back 42 = .ok (.iload_n 1, 1) := by decide +kernel
theorem dX6_back_43 : decode cX6_back 43 = .ok (.aaload, 1) := by decide +kernel
theorem dX6_back_44 : decode cX6_back 44 = .ok (.invokevirtual 223, 3) := by decide +kernel
theorem dX6_back_47 : decode cX6_back 47 = .ok (.aload_n 0, 1) := by decide +kernel
theorem dX6_back_48 : decode cX6_back 48 = .ok (.getfield 10, 3) := by decide +kernel
theorem dX6_back_51 : decode cX6_back 51 = .ok (.invokevirtual 49, 3) := by decide +kernel
theorem dX6_back_54 : decode cX6_back 54 = .ok (.ireturn, 1) := by decide +kernel
theorem dX6_within_0 : decode cX6_within 0 = .ok (.iload_n 0, 1) := by decide +kernel
theorem dX6_within_1 : decode cX6_within 1 = .ok (.iload_n 1, 1) := by decide +kernel
theorem dX6_within_2 : decode cX6_within 2 = .ok (.if_icmp .lt 12, 3) := by decide +kernel
theorem dX6_within_5 : decode cX6_within 5 = .ok (.iload_n 0, 1) := by decide +kernel
theorem dX6_within_6 : decode cX6_within 6 = .ok (.iload_n 2, 1) := by decide +kernel
theorem dX6_within_7 : decode cX6_within 7 = .ok (.if_icmp .gt 7, 3) := by decide +kernel
theorem dX6_within_10 : decode cX6_within 10 = .ok (.iconst 1, 1) := by decide +kernel
theorem dX6_within_11 : decode cX6_within 11 = .ok (.goto 4, 3) := by decide +kernel
theorem dX6_within_14 : decode cX6_within 14 = .ok (.iconst 0, 1) := by decide +kernel
theorem dX6_within_15 : decode cX6_within 15 = .ok (.ireturn, 1) := by decide +kernel
theorem dX6_isSetting_0 : decode cX6_isSetting 0 = .ok (.iload_n 0, 1) := by decide +kernel
theorem dX6_isSetting_1 : decode cX6_isSetting 1 = .ok (.iconst 0, 1) := by decide +kernel
theorem dX6_isSetting_2 : decode cX6_isSetting 2 = .ok (.iconst 3, 1) := by decide +kernel
theorem dX6_isSetting_3 : decode cX6_isSetting 3 = .ok (.invokestatic 45, 3) := by decide +kernel
theorem dX6_isSetting_6 : decode cX6_isSetting 6 = .ok (.ireturn, 1) := by decide +kernel
theorem dX6_leastOf_0 : decode cX6_leastOf 0 = .ok (.iload_n 0, 1) := by decide +kernel
theorem dX6_leastOf_1 : decode cX6_leastOf 1 = .ok (.lookupswitch 32 #[(1, 27), (2, 30)], 27) := by decide +kernel
theorem dX6_leastOf_28 : decode cX6_leastOf 28 = .ok (.bipush 10, 2) := by decide +kernel
theorem dX6_leastOf_30 : decode cX6_leastOf 30 = .ok (.ireturn, 1) := by decide +kernel
theorem dX6_leastOf_31 : decode cX6_leastOf 31 = .ok (.iconst 1, 1) := by decide +kernel
theorem dX6_leastOf_32 : decode cX6_leastOf 32 = .ok (.ireturn, 1) := by decide +kernel
theorem dX6_leastOf_33 : decode cX6_leastOf 33 = .ok (.iconst 0, 1) := by decide +kernel
theorem dX6_leastOf_34 : decode cX6_leastOf 34 = .ok (.ireturn, 1) := by decide +kernel
theorem dX6_greatestOf_0 : decode cX6_greatestOf 0 = .ok (.iload_n 0, 1) := by decide +kernel
theorem dX6_greatestOf_1 : decode cX6_greatestOf 1 = .ok (.tableswitch 36 0 2 #[27, 29, 33], 27) := by decide +kernel
theorem dX6_greatestOf_28 : decode cX6_greatestOf 28 = .ok (.iconst 3, 1) := by decide +kernel
theorem dX6_greatestOf_29 : decode cX6_greatestOf 29 = .ok (.ireturn, 1) := by decide +kernel
theorem dX6_greatestOf_30 : decode cX6_greatestOf 30 = .ok (.sipush 600, 3) := by decide +kernel
theorem dX6_greatestOf_33 : decode cX6_greatestOf 33 = .ok (.ireturn, 1) := by decide +kernel
theorem dX6_greatestOf_34 : decode cX6_greatestOf 34 = .ok (.bipush 20, 2) := by decide +kernel
theorem dX6_greatestOf_36 : decode cX6_greatestOf 36 = .ok (.ireturn, 1) := by decide +kernel
theorem dX6_greatestOf_37 : decode cX6_greatestOf 37 = .ok (.bipush 30, 2) := by decide +kernel
theorem dX6_greatestOf_39 : decode cX6_greatestOf 39 = .ok (.ireturn, 1) := by decide +kernel
theorem dX6_wagonOf_0 : decode cX6_wagonOf 0 = .ok (.iload_n 0, 1) := by decide +kernel
theorem dX6_wagonOf_1 : decode cX6_wagonOf 1 = .ok (.bipush 6, 2) := by decide +kernel
theorem dX6_wagonOf_3 : decode cX6_wagonOf 3 = .ok (.imul, 1) := by decide +kernel
theorem dX6_wagonOf_4 : decode cX6_wagonOf 4 = .ok (.iload_n 1, 1) := by decide +kernel
theorem dX6_wagonOf_5 : decode cX6_wagonOf 5 = .ok (.iadd, 1) := by decide +kernel
theorem dX6_wagonOf_6 : decode cX6_wagonOf 6 = .ok (.iconst 3, 1) := by decide +kernel
theorem dX6_wagonOf_7 : decode cX6_wagonOf 7 = .ok (.imul, 1) := by decide +kernel
theorem dX6_wagonOf_8 : decode cX6_wagonOf 8 = .ok (.iload_n 2, 1) := by decide +kernel
theorem dX6_wagonOf_9 : decode cX6_wagonOf 9 = .ok (.iadd, 1) := by decide +kernel
theorem dX6_wagonOf_10 : decode cX6_wagonOf 10 = .ok (.ireturn, 1) := by decide +kernel
theorem dX6_numberOf_0 : decode cX6_numberOf 0 = .ok (.iload_n 0, 1) := by decide +kernel
theorem dX6_numberOf_1 : decode cX6_numberOf 1 = .ok (.bipush 18, 2) := by decide +kernel
theorem dX6_numberOf_3 : decode cX6_numberOf 3 = .ok (.idiv, 1) := by decide +kernel
theorem dX6_numberOf_4 : decode cX6_numberOf 4 = .ok (.ireturn, 1) := by decide +kernel
theorem dX6_destinationOf_0 : decode cX6_destinationOf 0 = .ok (.iload_n 0, 1) := by decide +kernel
theorem dX6_destinationOf_1 : decode cX6_destinationOf 1 = .ok (.iconst 3, 1) := by decide +kernel
theorem dX6_destinationOf_2 : decode cX6_destinationOf 2 = .ok (.idiv, 1) := by decide +kernel
theorem dX6_destinationOf_3 : decode cX6_destinationOf 3 = .ok (.bipush 6, 2) := by decide +kernel
theorem dX6_destinationOf_5 : decode cX6_destinationOf 5 = .ok (.irem, 1) := by decide +kernel
theorem dX6_destinationOf_6 : decode cX6_destinationOf 6 = .ok (.ireturn, 1) := by decide +kernel
theorem dX6_kindOf_0 : decode cX6_kindOf 0 = .ok (.iload_n 0, 1) := by decide +kernel
theorem dX6_kindOf_1 : decode cX6_kindOf 1 = .ok (.iconst 3, 1) := by decide +kernel
theorem dX6_kindOf_2 : decode cX6_kindOf 2 = .ok (.irem, 1) := by decide +kernel
theorem dX6_kindOf_3 : decode cX6_kindOf 3 = .ok (.ireturn, 1) := by decide +kernel
theorem dJ9_abs_0f7a4_0 : decode cJ9_abs_0f7a4 0 = .ok (.iload_n 0, 1) := by decide +kernel
theorem dJ9_abs_0f7a4_1 : decode cJ9_abs_0f7a4 1 = .ok (.ifCond .ge 8, 3) := by decide +kernel
theorem dJ9_abs_0f7a4_4 : decode cJ9_abs_0f7a4 4 = .ok (.iload_n 0, 1) := by decide +kernel
theorem dJ9_abs_0f7a4_5 : decode cJ9_abs_0f7a4 5 = .ok (.ineg, 1) := by decide +kernel
theorem dJ9_abs_0f7a4_6 : decode cJ9_abs_0f7a4 6 = .ok (.goto 4, 3) := by decide +kernel
theorem dJ9_abs_0f7a4_9 : decode cJ9_abs_0f7a4 9 = .ok (.iload_n 0, 1) := by decide +kernel
theorem dJ9_abs_0f7a4_10 : decode cJ9_abs_0f7a4 10 = .ok (.ireturn, 1) := by decide +kernel
theorem dJ9_max_7cf53_0 : decode cJ9_max_7cf53 0 = .ok (.iload_n 0, 1) := by decide +kernel
theorem dJ9_max_7cf53_1 : decode cJ9_max_7cf53 1 = .ok (.iload_n 1, 1) := by decide +kernel
theorem dJ9_max_7cf53_2 : decode cJ9_max_7cf53 2 = .ok (.if_icmp .lt 7, 3) := by decide +kernel
theorem dJ9_max_7cf53_5 : decode cJ9_max_7cf53 5 = .ok (.iload_n 0, 1) := by decide +kernel
theorem dJ9_max_7cf53_6 : decode cJ9_max_7cf53 6 = .ok (.goto 4, 3) := by decide +kernel
theorem dJ9_max_7cf53_9 : decode cJ9_max_7cf53 9 = .ok (.iload_n 1, 1) := by decide +kernel
theorem dJ9_max_7cf53_10 : decode cJ9_max_7cf53 10 = .ok (.ireturn, 1) := by decide +kernel
theorem dJ9_min_7cf53_0 : decode cJ9_min_7cf53 0 = .ok (.iload_n 0, 1) := by decide +kernel
theorem dJ9_min_7cf53_1 : decode cJ9_min_7cf53 1 = .ok (.iload_n 1, 1) := by decide +kernel
theorem dJ9_min_7cf53_2 : decode cJ9_min_7cf53 2 = .ok (.if_icmp .gt 7, 3) := by decide +kernel
theorem dJ9_min_7cf53_5 : decode cJ9_min_7cf53 5 = .ok (.iload_n 0, 1) := by decide +kernel
theorem dJ9_min_7cf53_6 : decode cJ9_min_7cf53 6 = .ok (.goto 4, 3) := by decide +kernel
theorem dJ9_min_7cf53_9 : decode cJ9_min_7cf53 9 = .ok (.iload_n 1, 1) := by decide +kernel
theorem dJ9_min_7cf53_10 : decode cJ9_min_7cf53 10 = .ok (.ireturn, 1) := by decide +kernel
theorem dJ7_fill_53178_0 : decode cJ7_fill_53178 0 = .ok (.iconst 0, 1) := by decide +kernel
theorem dJ7_fill_53178_1 : decode cJ7_fill_53178 1 = .ok (.istore_n 2, 1) := by decide +kernel
theorem dJ7_fill_53178_2 : decode cJ7_fill_53178 2 = .ok (.aload_n 0, 1) := by decide +kernel
theorem dJ7_fill_53178_3 : decode cJ7_fill_53178 3 = .ok (.arraylength, 1) := by decide +kernel
theorem dJ7_fill_53178_4 : decode cJ7_fill_53178 4 = .ok (.istore_n 3, 1) := by decide +kernel
theorem dJ7_fill_53178_5 : decode cJ7_fill_53178 5 = .ok (.iload_n 2, 1) := by decide +kernel
theorem dJ7_fill_53178_6 : decode cJ7_fill_53178 6 = .ok (.iload_n 3, 1) := by decide +kernel
theorem dJ7_fill_53178_7 : decode cJ7_fill_53178 7 = .ok (.if_icmp .ge 13, 3) := by decide +kernel
theorem dJ7_fill_53178_10 : decode cJ7_fill_53178 10 = .ok (.aload_n 0, 1) := by decide +kernel
theorem dJ7_fill_53178_11 : decode cJ7_fill_53178 11 = .ok (.iload_n 2, 1) := by decide +kernel
theorem dJ7_fill_53178_12 : decode cJ7_fill_53178 12 = .ok (.iload_n 1, 1) := by decide +kernel
theorem dJ7_fill_53178_13 : decode cJ7_fill_53178 13 = .ok (.iastore, 1) := by decide +kernel
theorem dJ7_fill_53178_14 : decode cJ7_fill_53178 14 = .ok (.iinc 2 1, 3) := by decide +kernel
theorem dJ7_fill_53178_17 : decode cJ7_fill_53178 17 = .ok (.goto (-12), 3) := by decide +kernel
theorem dJ7_fill_53178_20 : decode cJ7_fill_53178 20 = .ok (.return_, 1) := by decide +kernel
theorem dL_cell_0 : decode cL_cell 0 = .ok (.iload_n 1, 1) := by decide +kernel
theorem dL_cell_1 : decode cL_cell 1 = .ok (.aload_n 0, 1) := by decide +kernel
theorem dL_cell_2 : decode cL_cell 2 = .ok (.arraylength, 1) := by decide +kernel
theorem dL_cell_3 : decode cL_cell 3 = .ok (.if_icmp .ge 9, 3) := by decide +kernel
theorem dL_cell_6 : decode cL_cell 6 = .ok (.aload_n 0, 1) := by decide +kernel
theorem dL_cell_7 : decode cL_cell 7 = .ok (.iload_n 1, 1) := by decide +kernel
theorem dL_cell_8 : decode cL_cell 8 = .ok (.iaload, 1) := by decide +kernel
theorem dL_cell_9 : decode cL_cell 9 = .ok (.goto 9, 3) := by decide +kernel
theorem dL_cell_12 : decode cL_cell 12 = .ok (.ldc 7, 2) := by decide +kernel
theorem dL_cell_14 : decode cL_cell 14 = .ok (.iload_n 1, 1) := by decide +kernel
theorem dL_cell_15 : decode cL_cell 15 = .ok (.iconst 1, 1) := by decide +kernel
theorem dL_cell_16 : decode cL_cell 16 = .ok (.iadd, 1) := by decide +kernel
theorem dL_cell_17 : decode cL_cell 17 = .ok (.imul, 1) := by decide +kernel
theorem dL_cell_18 : decode cL_cell 18 = .ok (.ireturn, 1) := by decide +kernel
theorem dL_low_0 : decode cL_low 0 = .ok (.iload_n 0, 1) := by decide +kernel
theorem dL_low_1 : decode cL_low 1 = .ok (.ldc 8, 2) := by decide +kernel
theorem dL_low_3 : decode cL_low 3 = .ok (.iand, 1) := by decide +kernel
theorem dL_low_4 : decode cL_low 4 = .ok (.iload_n 1, 1) := by decide +kernel
theorem dL_low_5 : decode cL_low 5 = .ok (.irem, 1) := by decide +kernel
theorem dL_low_6 : decode cL_low 6 = .ok (.ireturn, 1) := by decide +kernel
theorem dL_arrive_0 : decode cL_arrive 0 = .ok (.aload_n 0, 1) := by decide +kernel
theorem dL_arrive_1 : decode cL_arrive 1 = .ok (.invokevirtual 9, 3) := by decide +kernel
theorem dL_arrive_4 : decode cL_arrive 4 = .ok (.istore_n 3, 1) := by decide +kernel
theorem dL_arrive_5 : decode cL_arrive 5 = .ok (.iconst 1, 1) := by decide +kernel
theorem dL_arrive_6 : decode cL_arrive 6 = .ok (.iload_n 1, 1) := by decide +kernel
theorem dL_arrive_7 : decode cL_arrive 7 = .ok (.iconst 3, 1) := by decide +kernel
theorem dL_arrive_8 : decode cL_arrive 8 = .ok (.invokestatic 15, 3) := by decide +kernel
theorem dL_arrive_11 : decode cL_arrive 11 = .ok (.iadd, 1) := by decide +kernel
theorem dL_arrive_12 : decode cL_arrive 12 = .ok (.istore 4, 2) := by decide +kernel
theorem dL_arrive_14 : decode cL_arrive 14 = .ok (.iconst 0, 1) := by decide +kernel
theorem dL_arrive_15 : decode cL_arrive 15 = .ok (.istore 5, 2) := by decide +kernel
theorem dL_arrive_17 : decode cL_arrive 17 = .ok (.iload 5, 2) := by decide +kernel
theorem dL_arrive_19 : decode cL_arrive 19 = .ok (.iload 4, 2) := by decide +kernel
theorem dL_arrive_21 : decode cL_arrive 21 = .ok (.if_icmp .ge 112, 3) := by decide +kernel
theorem dL_arrive_24 : decode cL_arrive 24 = .ok (.iload_n 2, 1) := by decide +kernel
theorem dL_arrive_25 : decode cL_arrive 25 = .ok (.iconst 2, 1) := by decide +kernel
theorem dL_arrive_26 : decode cL_arrive 26 = .ok (.iload 5, 2) := by decide +kernel
theorem dL_arrive_28 : decode cL_arrive 28 = .ok (.imul, 1) := by decide +kernel
theorem dL_arrive_29 : decode cL_arrive 29 = .ok (.ishr, 1) := by decide +kernel
theorem dL_arrive_30 : decode cL_arrive 30 = .ok (.iconst 3, 1) := by decide +kernel
theorem dL_arrive_31 : decode cL_arrive 31 = .ok (.invokestatic 15, 3) := by decide +kernel
theorem dL_arrive_34 : decode cL_arrive 34 = .ok (.ifCond .ne 21, 3) := by decide +kernel
theorem dL_arrive_37 : decode cL_arrive 37 = .ok (.aload_n 0, 1) := by decide +kernel
theorem dL_arrive_38 : decode cL_arrive 38 = .ok (.bipush 49, 2) := by decide +kernel
theorem dL_arrive_40 : decode cL_arrive 40 = .ok (.iload_n 2, 1) := by decide +kernel
theorem dL_arrive_41 : decode cL_arrive 41 = .ok (.iload 5, 2) := by decide +kernel
theorem dL_arrive_43 : decode cL_arrive 43 = .ok (.ishr, 1) := by decide +kernel
theorem dL_arrive_44 : decode cL_arrive 44 = .ok (.iconst 2, 1) := by decide +kernel
theorem dL_arrive_45 : decode cL_arrive 45 = .ok (.invokestatic 15, 3) := by decide +kernel
theorem dL_arrive_48 : decode cL_arrive 48 = .ok (.iadd, 1) := by decide +kernel
theorem dL_arrive_49 : decode cL_arrive 49 = .ok (.invokevirtual 21, 3) := by decide +kernel
theorem dL_arrive_52 : decode cL_arrive 52 = .ok (.goto 4, 3) := by decide +kernel
theorem dL_arrive_55 : decode cL_arrive 55 = .ok (.iload_n 3, 1) := by decide +kernel
theorem dL_arrive_56 : decode cL_arrive 56 = .ok (.istore_n 3, 1) := by decide +kernel
theorem dL_arrive_57 : decode cL_arrive 57 = .ok (.aload_n 0, 1) := by decide +kernel
theorem dL_arrive_58 : decode cL_arrive 58 = .ok (.bipush 65, 2) := by decide +kernel
theorem dL_arrive_60 : decode cL_arrive 60 = .ok (.iload_n 1, 1) := by decide +kernel
theorem dL_arrive_61 : decode cL_arrive 61 = .ok (.iconst 2, 1) := by decide +kernel
theorem dL_arrive_62 : decode cL_arrive 62 = .ok (.iconst 2, 1) := by decide +kernel
theorem dL_arrive_63 : decode cL_arrive 63 = .ok (.iload 5, 2) := by decide +kernel
theorem dL_arrive_65 : decode cL_arrive 65 = .ok (.imul, 1) := by decide +kernel
theorem dL_arrive_66 : decode cL_arrive 66 = .ok (.iadd, 1) := by decide +kernel
theorem dL_arrive_67 : decode cL_arrive 67 = .ok (.ishr, 1) := by decide +kernel
theorem dL_arrive_68 : decode cL_arrive 68 = .ok (.iconst 3, 1) := by decide +kernel
theorem dL_arrive_69 : decode cL_arrive 69 = .ok (.invokestatic 15, 3) := by decide +kernel
theorem dL_arrive_72 : decode cL_arrive 72 = .ok (.iadd, 1) := by decide +kernel
theorem dL_arrive_73 : decode cL_arrive 73 = .ok (.invokevirtual 21, 3) := by decide +kernel
theorem dL_arrive_76 : decode cL_arrive 76 = .ok (.istore_n 3, 1) := by decide +kernel
theorem dL_arrive_77 : decode cL_arrive 77 = .ok (.iload_n 2, 1) := by decide +kernel
theorem dL_arrive_78 : decode cL_arrive 78 = .ok (.iconst 3, 1) := by decide +kernel
theorem dL_arrive_79 : decode cL_arrive 79 = .ok (.iload 5, 2) := by decide +kernel
theorem dL_arrive_81 : decode cL_arrive 81 = .ok (.imul, 1) := by decide +kernel
theorem dL_arrive_82 : decode cL_arrive 82 = .ok (.ishr, 1) := by decide +kernel
theorem dL_arrive_83 : decode cL_arrive 83 = .ok (.iconst 4, 1) := by decide +kernel
theorem dL_arrive_84 : decode cL_arrive 84 = .ok (.invokestatic 15, 3) := by decide +kernel
theorem dL_arrive_87 : decode cL_arrive 87 = .ok (.ifCond .ne 31, 3) := by decide +kernel
theorem dL_arrive_90 : decode cL_arrive 90 = .ok (.aload_n 0, 1) := by decide +kernel
theorem dL_arrive_91 : decode cL_arrive 91 = .ok (.iload_n 1, 1) := by decide +kernel
theorem dL_arrive_92 : decode cL_arrive 92 = .ok (.bipush 9, 2) := by decide +kernel
theorem dL_arrive_94 : decode cL_arrive 94 = .ok (.iload 5, 2) := by decide +kernel
theorem dL_arrive_96 : decode cL_arrive 96 = .ok (.iadd, 1) := by decide +kernel
theorem dL_arrive_97 : decode cL_arrive 97 = .ok (.ishr, 1) := by decide +kernel
theorem dL_arrive_98 : decode cL_arrive 98 = .ok (.iconst 2, 1) := by decide +kernel
theorem dL_arrive_99 : decode cL_arrive 99 = .ok (.invokestatic 15, 3) := by decide +kernel
theorem dL_arrive_102 : decode cL_arrive 102 = .ok (.ifCond .ne 8, 3) := by decide +kernel
theorem dL_arrive_105 : decode cL_arrive 105 = .ok (.bipush 102, 2) := by decide +kernel
theorem dL_arrive_107 : decode cL_arrive 107 = .ok (.goto 5, 3) := by decide +kernel
theorem dL_arrive_110 : decode cL_arrive 110 = .ok (.bipush 120, 2) := by decide +kernel
theorem dL_arrive_112 : decode cL_arrive 112 = .ok (.invokevirtual 21, 3) := by decide +kernel
theorem dL_arrive_115 : decode cL_arrive 115 = .ok (.goto 4, 3) := by decide +kernel
theorem dL_arrive_118 : decode cL_arrive 118 = .ok (.iload_n 3, 1) := by decide +kernel
theorem dL_arrive_119 : decode cL_arrive 119 = .ok (.istore_n 3, 1) := by decide +kernel
theorem dL_arrive_120 : decode cL_arrive 120 = .ok (.aload_n 0, 1) := by decide +kernel
theorem dL_arrive_121 : decode cL_arrive 121 = .ok (.bipush 32, 2) := by decide +kernel
theorem dL_arrive_123 : decode cL_arrive 123 = .ok (.invokevirtual 21, 3) := by decide +kernel
theorem dL_arrive_126 : decode cL_arrive 126 = .ok (.istore_n 3, 1) := by decide +kernel
theorem dL_arrive_127 : decode cL_arrive 127 = .ok (.iinc 5 1, 3) := by decide +kernel
theorem dL_arrive_130 : decode cL_arrive 130 = .ok (.goto (-113), 3) := by decide +kernel
theorem dL_arrive_133 : decode cL_arrive 133 = .ok (.aload_n 0, 1) := by decide +kernel
theorem dL_arrive_134 : decode cL_arrive 134 = .ok (.iload_n 1, 1) := by decide +kernel
theorem dL_arrive_135 : decode cL_arrive 135 = .ok (.bipush 14, 2) := by decide +kernel
theorem dL_arrive_137 : decode cL_arrive 137 = .ok (.ishr, 1) := by decide +kernel
theorem dL_arrive_138 : decode cL_arrive 138 = .ok (.aload_n 0, 1) := by decide +kernel
theorem dL_arrive_139 : decode cL_arrive 139 = .ok (.iconst 0, 1) := by decide +kernel
theorem dL_arrive_140 : decode cL_arrive 140 = .ok (.invokevirtual 25, 3) := by decide +kernel
theorem dL_arrive_143 : decode cL_arrive 143 = .ok (.invokestatic 15, 3) := by decide +kernel
theorem dL_arrive_146 : decode cL_arrive 146 = .ok (.invokevirtual 28, 3) := by decide +kernel
theorem dL_arrive_149 : decode cL_arrive 149 = .ok (.ireturn, 1) := by decide +kernel
theorem dL_list_0 : decode cL_list 0 = .ok (.aload_n 0, 1) := by decide +kernel
theorem dL_list_1 : decode cL_list 1 = .ok (.invokevirtual 9, 3) := by decide +kernel
theorem dL_list_4 : decode cL_list 4 = .ok (.istore_n 2, 1) := by decide +kernel
theorem dL_list_5 : decode cL_list 5 = .ok (.iconst 0, 1) := by decide +kernel
theorem dL_list_6 : decode cL_list 6 = .ok (.istore_n 3, 1) := by decide +kernel
theorem dL_list_7 : decode cL_list 7 = .ok (.iload_n 3, 1) := by decide +kernel
theorem dL_list_8 : decode cL_list 8 = .ok (.iload_n 1, 1) := by decide +kernel
theorem dL_list_9 : decode cL_list 9 = .ok (.bipush 7, 2) := by decide +kernel
theorem dL_list_11 : decode cL_list 11 = .ok (.invokestatic 15, 3) := by decide +kernel
theorem dL_list_14 : decode cL_list 14 = .ok (.if_icmp .ge 28, 3) := by decide +kernel
theorem dL_list_17 : decode cL_list 17 = .ok (.aload_n 0, 1) := by decide +kernel
theorem dL_list_18 : decode cL_list 18 = .ok (.bipush 65, 2) := by decide +kernel
theorem dL_list_20 : decode cL_list 20 = .ok (.iload_n 1, 1) := by decide +kernel
theorem dL_list_21 : decode cL_list 21 = .ok (.iconst 3, 1) := by decide +kernel
theorem dL_list_22 : decode cL_list 22 = .ok (.iconst 2, 1) := by decide +kernel
theorem dL_list_23 : decode cL_list 23 = .ok (.iload_n 3, 1) := by decide +kernel
theorem dL_list_24 : decode cL_list 24 = .ok (.imul, 1) := by decide +kernel
theorem dL_list_25 : decode cL_list 25 = .ok (.iadd, 1) := by decide +kernel
theorem dL_list_26 : decode cL_list 26 = .ok (.ishr, 1) := by decide +kernel
theorem dL_list_27 : decode cL_list 27 = .ok (.iconst 3, 1) := by decide +kernel
theorem dL_list_28 : decode cL_list 28 = .ok (.invokestatic 15, 3) := by decide +kernel
theorem dL_list_31 : decode cL_list 31 = .ok (.iadd, 1) := by decide +kernel
theorem dL_list_32 : decode cL_list 32 = .ok (.invokevirtual 21, 3) := by decide +kernel
theorem dL_list_35 : decode cL_list 35 = .ok (.istore_n 2, 1) := by decide +kernel
theorem dL_list_36 : decode cL_list 36 = .ok (.iinc 3 1, 3) := by decide +kernel
theorem dL_list_39 : decode cL_list 39 = .ok (.goto (-32), 3) := by decide +kernel
theorem dL_list_42 : decode cL_list 42 = .ok (.aload_n 0, 1) := by decide +kernel
theorem dL_list_43 : decode cL_list 43 = .ok (.invokevirtual 31, 3) := by decide +kernel
theorem dL_list_46 : decode cL_list 46 = .ok (.ireturn, 1) := by decide +kernel
theorem dL_change_0 : decode cL_change 0 = .ok (.aload_n 0, 1) := by decide +kernel
theorem dL_change_1 : decode cL_change 1 = .ok (.iconst 0, 1) := by decide +kernel
theorem dL_change_2 : decode cL_change 2 = .ok (.invokevirtual 25, 3) := by decide +kernel
theorem dL_change_5 : decode cL_change 5 = .ok (.istore_n 3, 1) := by decide +kernel
theorem dL_change_6 : decode cL_change 6 = .ok (.iload_n 1, 1) := by decide +kernel
theorem dL_change_7 : decode cL_change 7 = .ok (.iconst 5, 1) := by decide +kernel
theorem dL_change_8 : decode cL_change 8 = .ok (.ishr, 1) := by decide +kernel
theorem dL_change_9 : decode cL_change 9 = .ok (.iload_n 3, 1) := by decide +kernel
theorem dL_change_10 : decode cL_change 10 = .ok (.invokestatic 15, 3) := by decide +kernel
theorem dL_change_13 : decode cL_change 13 = .ok (.istore 4, 2) := by decide +kernel
theorem dL_change_15 : decode cL_change 15 = .ok (.iload_n 1, 1) := by decide +kernel
theorem dL_change_16 : decode cL_change 16 = .ok (.bipush 22, 2) := by decide +kernel
theorem dL_change_18 : decode cL_change 18 = .ok (.invokestatic 15, 3) := by decide +kernel
theorem dL_change_21 : decode cL_change 21 = .ok (.tableswitch 279 0 17 #[87, 133, 177, 189, 189, 195, 195, 195, 195, 202, 202, 209, 223, 223, 230, 230, 240, 245], 87) := by decide +kernel
theorem dL_change_108 : decode cL_change 108 = .ok (.iload_n 2, 1) := by decide +kernel
theorem dL_change_109 : decode cL_change 109 = .ok (.bipush 6, 2) := by decide +kernel
theorem dL_change_111 : decode cL_change 111 = .ok (.invokestatic 15, 3) := by decide +kernel
theorem dL_change_114 : decode cL_change 114 = .ok (.ifCond .ne 29, 3) := by decide +kernel
theorem dL_change_117 : decode cL_change 117 = .ok (.aload_n 0, 1) := by decide +kernel
theorem dL_change_118 : decode cL_change 118 = .ok (.iconst 2, 1) := by decide +kernel
theorem dL_change_119 : decode cL_change 119 = .ok (.iload_n 2, 1) := by decide +kernel
theorem dL_change_120 : decode cL_change 120 = .ok (.iconst 3, 1) := by decide +kernel
theorem dL_change_121 : decode cL_change 121 = .ok (.ishr, 1) := by decide +kernel
theorem dL_change_122 : decode cL_change 122 = .ok (.iconst 3, 1) := by decide +kernel
theorem dL_change_123 : decode cL_change 123 = .ok (.invokestatic 15, 3) := by decide +kernel
theorem dL_change_126 : decode cL_change 126 = .ok (.iadd, 1) := by decide +kernel
theorem dL_change_127 : decode cL_change 127 = .ok (.iconst 1, 1) := by decide +kernel
theorem dL_change_128 : decode cL_change 128 = .ok (.iload_n 2, 1) := by decide +kernel
theorem dL_change_129 : decode cL_change 129 = .ok (.iconst 5, 1) := by decide +kernel
theorem dL_change_130 : decode cL_change 130 = .ok (.ishr, 1) := by decide +kernel
theorem dL_change_131 : decode cL_change 131 = .ok (.bipush 8, 2) := by decide +kernel
theorem dL_change_133 : decode cL_change 133 = .ok (.invokestatic 15, 3) := by decide +kernel
theorem dL_change_136 : decode cL_change 136 = .ok (.iadd, 1) := by decide +kernel
theorem dL_change_137 : decode cL_change 137 = .ok (.invokevirtual 34, 3) := by decide +kernel
theorem dL_change_140 : decode cL_change 140 = .ok (.goto 13, 3) := by decide +kernel
theorem dL_change_143 : decode cL_change 143 = .ok (.aload_n 0, 1) := by decide +kernel
theorem dL_change_144 : decode cL_change 144 = .ok (.iconst 0, 1) := by decide +kernel
theorem dL_change_145 : decode cL_change 145 = .ok (.iload_n 2, 1) := by decide +kernel
theorem dL_change_146 : decode cL_change 146 = .ok (.iconst 4, 1) := by decide +kernel
theorem dL_change_147 : decode cL_change 147 = .ok (.invokestatic 15, 3) := by decide +kernel
theorem dL_change_150 : decode cL_change 150 = .ok (.invokevirtual 37, 3) := by decide +kernel
theorem dL_change_153 : decode cL_change 153 = .ok (.ireturn, 1) := by decide +kernel
theorem dL_change_154 : decode cL_change 154 = .ok (.iload_n 2, 1) := by decide +kernel
theorem dL_change_155 : decode cL_change 155 = .ok (.iconst 2, 1) := by decide +kernel
theorem dL_change_156 : decode cL_change 156 = .ok (.invokestatic 15, 3) := by decide +kernel
theorem dL_change_159 : decode cL_change 159 = .ok (.ifCond .ne 23, 3) := by decide +kernel
theorem dL_change_162 : decode cL_change 162 = .ok (.aload_n 0, 1) := by decide +kernel
theorem dL_change_163 : decode cL_change 163 = .ok (.iconst 1, 1) := by decide +kernel
theorem dL_change_164 : decode cL_change 164 = .ok (.bipush 10, 2) := by decide +kernel
theorem dL_change_166 : decode cL_change 166 = .ok (.iload_n 2, 1) := by decide +kernel
theorem dL_change_167 : decode cL_change 167 = .ok (.iconst 1, 1) := by decide +kernel
theorem dL_change_168 : decode cL_change 168 = .ok (.ishr, 1) := by decide +kernel
theorem dL_change_169 : decode cL_change 169 = .ok (.sipush 591, 3) := by decide +kernel
theorem dL_change_172 : decode cL_change 172 = .ok (.invokestatic 15, 3) := by decide +kernel
theorem dL_change_175 : decode cL_change 175 = .ok (.iadd, 1) := by decide +kernel
theorem dL_change_176 : decode cL_change 176 = .ok (.invokevirtual 37, 3) := by decide +kernel
theorem dL_change_179 : decode cL_change 179 = .ok (.goto 18, 3) := by decide +kernel
theorem dL_change_182 : decode cL_change 182 = .ok (.aload_n 0, 1) := by decide +kernel
theorem dL_change_183 : decode cL_change 183 = .ok (.iconst 2, 1) := by decide +kernel
theorem dL_change_184 : decode cL_change 184 = .ok (.iconst 1, 1) := by decide +kernel
theorem dL_change_185 : decode cL_change 185 = .ok (.iload_n 2, 1) := by decide +kernel
theorem dL_change_186 : decode cL_change 186 = .ok (.iconst 1, 1) := by decide +kernel
theorem dL_change_187 : decode cL_change 187 = .ok (.ishr, 1) := by decide +kernel
theorem dL_change_188 : decode cL_change 188 = .ok (.bipush 20, 2) := by decide +kernel
