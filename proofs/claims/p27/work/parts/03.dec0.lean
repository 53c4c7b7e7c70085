theorem dX0_init_0 : decode cX0_init 0 = .ok (.aload_n 0, 1) := by decide +kernel
theorem dX0_init_1 : decode cX0_init 1 = .ok (.invokespecial 3, 3) := by decide +kernel
theorem dX0_init_4 : decode cX0_init 4 = .ok (.return_, 1) := by decide +kernel
theorem dX0_start_0 : decode cX0_start 0 = .ok (.aload_n 0, 1) := by decide +kernel
theorem dX0_start_1 : decode cX0_start 1 = .ok (.bipush 99, 2) := by decide +kernel
theorem dX0_start_3 : decode cX0_start 3 = .ok (.putfield 11, 3) := by decide +kernel
theorem dX0_start_6 : decode cX0_start 6 = .ok (.aload_n 0, 1) := by decide +kernel
theorem dX0_start_7 : decode cX0_start 7 = .ok (.iconst 0, 1) := by decide +kernel
theorem dX0_start_8 : decode cX0_start 8 = .ok (.putfield 15, 3) := by decide +kernel
theorem dX0_start_11 : decode cX0_start 11 = .ok (.aload_n 0, 1) := by decide +kernel
theorem dX0_start_12 : decode cX0_start 12 = .ok (.iconst 0, 1) := by decide +kernel
theorem dX0_start_13 : decode cX0_start 13 = .ok (.putfield 18, 3) := by decide +kernel
theorem dX0_start_16 : decode cX0_start 16 = .ok (.return_, 1) := by decide +kernel
theorem dX0_pass_0 : decode cX0_pass 0 = .ok (.iload_n 1, 1) := by decide +kernel
theorem dX0_pass_1 : decode cX0_pass 1 = .ok (.ifCond .ne 14, 3) := by decide +kernel
theorem dX0_pass_4 : decode cX0_pass 4 = .ok (.aload_n 0, 1) := by decide +kernel
theorem dX0_pass_5 : decode cX0_pass 5 = .ok (.dup, 1) := by decide +kernel
theorem dX0_pass_6 : decode cX0_pass 6 = .ok (.getfield 18, 3) := by decide +kernel
theorem dX0_pass_9 : decode cX0_pass 9 = .ok (.iconst 1, 1) := by decide +kernel
theorem dX0_pass_10 : decode cX0_pass 10 = .ok (.iadd, 1) := by decide +kernel
theorem dX0_pass_11 : decode cX0_pass 11 = .ok (.putfield 18, 3) := by decide +kernel
theorem dX0_pass_14 : decode cX0_pass 14 = .ok (.return_, 1) := by decide +kernel
theorem dX0_pass_15 : decode cX0_pass 15 = .ok (.aload_n 0, 1) := by decide +kernel
theorem dX0_pass_16 : decode cX0_pass 16 = .ok (.getfield 15, 3) := by decide +kernel
theorem dX0_pass_19 : decode cX0_pass 19 = .ok (.ifCond .eq 26, 3) := by decide +kernel
theorem dX0_pass_22 : decode cX0_pass 22 = .ok (.aload_n 0, 1) := by decide +kernel
theorem dX0_pass_23 : decode cX0_pass 23 = .ok (.getfield 15, 3) := by decide +kernel
theorem dX0_pass_26 : decode cX0_pass 26 = .ok (.iload_n 1, 1) := by decide +kernel
theorem dX0_pass_27 : decode cX0_pass 27 = .ok (.if_icmp .eq 18, 3) := by decide +kernel
theorem dX0_pass_30 : decode cX0_pass 30 = .ok (.aload_n 0, 1) := by decide +kernel
theorem dX0_pass_31 : decode cX0_pass 31 = .ok (.aload_n 0, 1) := by decide +kernel
theorem dX0_pass_32 : decode cX0_pass 32 = .ok (.getfield 11, 3) := by decide +kernel
theorem dX0_pass_35 : decode cX0_pass 35 = .ok (.aload_n 0, 1) := by decide +kernel
theorem dX0_pass_36 : decode cX0_pass 36 = .ok (.getfield 18, 3) := by decide +kernel
theorem dX0_pass_39 : decode cX0_pass 39 = .ok (.invokestatic 21, 3) := by decide +kernel
theorem dX0_pass_42 : decode cX0_pass 42 = .ok (.putfield 11, 3) := by decide +kernel
theorem dX0_pass_45 : decode cX0_pass 45 = .ok (.aload_n 0, 1) := by decide +kernel
theorem dX0_pass_46 : decode cX0_pass 46 = .ok (.iload_n 1, 1) := by decide +kernel
theorem dX0_pass_47 : decode cX0_pass 47 = .ok (.putfield 15, 3) := by decide +kernel
theorem dX0_pass_50 : decode cX0_pass 50 = .ok (.aload_n 0, 1) := by decide +kernel
theorem dX0_pass_51 : decode cX0_pass 51 = .ok (.iconst 0, 1) := by decide +kernel
theorem dX0_pass_52 : decode cX0_pass 52 = .ok (.putfield 18, 3) := by decide +kernel
theorem dX0_pass_55 : decode cX0_pass 55 = .ok (.return_, 1) := by decide +kernel
theorem dX1_init_0 : decode cX1_init 0 = .ok (.aload_n 0, 1) := by decide +kernel
theorem dX1_init_1 : decode cX1_init 1 = .ok (.invokespecial 3, 3) := by decide +kernel
theorem dX1_init_4 : decode cX1_init 4 = .ok (.aload_n 0, 1) := by decide +kernel
theorem dX1_init_5 : decode cX1_init 5 = .ok (.bipush 8, 2) := by decide +kernel
theorem dX1_init_7 : decode cX1_init 7 = .ok (.anewarray 9, 3) := by decide +kernel
theorem dX1_init_10 : decode cX1_init 10 = .ok (.putfield 11, 3) := by decide +kernel
theorem dX1_init_13 : decode cX1_init 13 = .ok (.return_, 1) := by decide +kernel
theorem dX1_add_0 : decode cX1_add 0 = .ok (.aload_n 0, 1) := by decide +kernel
theorem dX1_add_1 : decode cX1_add 1 = .ok (.getfield 11, 3) := by decide +kernel
theorem dX1_add_4 : decode cX1_add 4 = .ok (.aload_n 0, 1) := by decide +kernel
theorem dX1_add_5 : decode cX1_add 5 = .ok (.getfield 17, 3) := by decide +kernel
theorem dX1_add_8 : decode cX1_add 8 = .ok (.aaload, 1) := by decide +kernel
theorem dX1_add_9 : decode cX1_add 9 = .ok (.ifnonnull 19, 3) := by decide +kernel
theorem dX1_add_12 : decode cX1_add 12 = .ok (.aload_n 0, 1) := by decide +kernel
theorem dX1_add_13 : decode cX1_add 13 = .ok (.getfield 11, 3) := by decide +kernel
theorem dX1_add_16 : decode cX1_add 16 = .ok (.aload_n 0, 1) := by decide +kernel
theorem dX1_add_17 : decode cX1_add 17 = .ok (.getfield 17, 3) := by decide +kernel
theorem dX1_add_20 : decode cX1_add 20 = .ok (.new 9, 3) := by decide +kernel
theorem dX1_add_23 : decode cX1_add 23 = .ok (.dup, 1) := by decide +kernel
theorem dX1_add_24 : decode cX1_add 24 = .ok (.invokespecial 21, 3) := by decide +kernel
theorem dX1_add_27 : decode cX1_add 27 = .ok (.aastore, 1) := by decide +kernel
theorem dX1_add_28 : decode cX1_add 28 = .ok (.aload_n 0, 1) := by decide +kernel
theorem dX1_add_29 : decode cX1_add 29 = .ok (.getfield 11, 3) := by decide +kernel
theorem dX1_add_32 : decode cX1_add 32 = .ok (.aload_n 0, 1) := by decide +kernel
theorem dX1_add_33 : decode cX1_add 33 = .ok (.getfield 17, 3) := by decide +kernel
theorem dX1_add_36 : decode cX1_add 36 = .ok (.aaload, 1) := by decide +kernel
theorem dX1_add_37 : decode cX1_add 37 = .ok (.aload_n 1, 1) := by decide +kernel
theorem dX1_add_38 : decode cX1_add 38 = .ok (.invokevirtual 22, 3) := by decide +kernel
theorem dX1_add_41 : decode cX1_add 41 = .ok (.aload_n 0, 1) := by decide +kernel
theorem dX1_add_42 : decode cX1_add 42 = .ok (.aload_n 0, 1) := by decide +kernel
theorem dX1_add_43 : decode cX1_add 43 = .ok (.getfield 17, 3) := by decide +kernel
theorem dX1_add_46 : decode cX1_add 46 = .ok (.iconst 1, 1) := by decide +kernel
theorem dX1_add_47 : decode cX1_add 47 = .ok (.iadd, 1) := by decide +kernel
theorem dX1_add_48 : decode cX1_add 48 = .ok (.bipush 8, 2) := by decide +kernel
theorem dX1_add_50 : decode cX1_add 50 = .ok (.irem, 1) := by decide +kernel
theorem dX1_add_51 : decode cX1_add 51 = .ok (.putfield 17, 3) := by decide +kernel
theorem dX1_add_54 : decode cX1_add 54 = .ok (.aload_n 0, 1) := by decide +kernel
theorem dX1_add_55 : decode cX1_add 55 = .ok (.aload_n 0, 1) := by decide +kernel
theorem dX1_add_56 : decode cX1_add 56 = .ok (.getfield 26, 3) := by decide +kernel
theorem dX1_add_59 : decode cX1_add 59 = .ok (.iconst 1, 1) := by decide +kernel
theorem dX1_add_60 : decode cX1_add 60 = .ok (.iadd, 1) := by decide +kernel
theorem dX1_add_61 : decode cX1_add 61 = .ok (.bipush 8, 2) := by decide +kernel
theorem dX1_add_63 : decode cX1_add 63 = .ok (.invokestatic 29, 3) := by decide +kernel
theorem dX1_add_66 : decode cX1_add 66 = .ok (.putfield 26, 3) := by decide +kernel
theorem dX1_add_69 : decode cX1_add 69 = .ok (.return_, 1) := by decide +kernel
theorem dX1_restore_0 : decode cX1_restore 0 = .ok (.aload_n 0, 1) := by decide +kernel
theorem dX1_restore_1 : decode cX1_restore 1 = .ok (.getfield 17, 3) := by decide +kernel
theorem dX1_restore_4 : decode cX1_restore 4 = .ok (.bipush 8, 2) := by decide +kernel
theorem dX1_restore_6 : decode cX1_restore 6 = .ok (.iadd, 1) := by decide +kernel
theorem dX1_restore_7 : decode cX1_restore 7 = .ok (.iconst 1, 1) := by decide +kernel
theorem dX1_restore_8 : decode cX1_restore 8 = .ok (.isub, 1) := by decide +kernel
theorem dX1_restore_9 : decode cX1_restore 9 = .ok (.bipush 8, 2) := by decide +kernel
theorem dX1_restore_11 : decode cX1_restore 11 = .ok (.irem, 1) := by decide +kernel
theorem dX1_restore_12 : decode cX1_restore 12 = .ok (.istore_n 2, 1) := by decide +kernel
theorem dX1_restore_13 : decode cX1_restore 13 = .ok (.aload_n 0, 1) := by decide +kernel
theorem dX1_restore_14 : decode cX1_restore 14 = .ok (.getfield 26, 3) := by decide +kernel
theorem dX1_restore_17 : decode cX1_restore 17 = .ok (.ifCond .eq 12, 3) := by decide +kernel
theorem dX1_restore_20 : decode cX1_restore 20 = .ok (.aload_n 0, 1) := by decide +kernel
theorem dX1_restore_21 : decode cX1_restore 21 = .ok (.getfield 11, 3) := by decide +kernel
theorem dX1_restore_24 : decode cX1_restore 24 = .ok (.iload_n 2, 1) := by decide +kernel
theorem dX1_restore_25 : decode cX1_restore 25 = .ok (.aaload, 1) := by decide +kernel
theorem dX1_restore_26 : decode cX1_restore 26 = .ok (.ifnonnull 5, 3) := by decide +kernel
theorem dX1_restore_29 : decode cX1_restore 29 = .ok (.iconst 0, 1) := by decide +kernel
theorem dX1_restore_30 : decode cX1_restore 30 = .ok (.ireturn, 1) := by decide +kernel
theorem dX1_restore_31 : decode cX1_restore 31 = .ok (.aload_n 1, 1) := by decide +kernel
theorem dX1_restore_32 : decode cX1_restore 32 = .ok (.aload_n 0, 1) := by decide +kernel
theorem dX1_restore_33 : decode cX1_restore 33 = .ok (.getfield 11, 3) := by decide +kernel
theorem dX1_restore_36 : decode cX1_restore 36 = .ok (.iload_n 2, 1) := by decide +kernel
theorem dX1_restore_37 : decode cX1_restore 37 = .ok (.aaload, 1) := by decide +kernel
theorem dX1_restore_38 : decode cX1_restore 38 = .ok (.invokevirtual 22, 3) := by decide +kernel
theorem dX1_restore_41 : decode cX1_restore 41 = .ok (.aload_n 0, 1) := by decide +kernel
theorem dX1_restore_42 : decode cX1_restore 42 = .ok (.iload_n 2, 1) := by decide +kernel
theorem dX1_restore_43 : decode cX1_restore 43 = .ok (.putfield 17, 3) := by decide +kernel
theorem dX1_restore_46 : decode cX1_restore 46 = .ok (.aload_n 0, 1) := by decide +kernel
theorem dX1_restore_47 : decode cX1_restore 47 = .ok (.dup, 1) := by decide +kernel
theorem dX1_restore_48 : decode cX1_restore 48 = .ok (.getfield 26, 3) := by decide +kernel
theorem dX1_restore_51 : decode cX1_restore 51 = .ok (.iconst 1, 1) := by decide +kernel
theorem dX1_restore_52 : decode cX1_restore 52 = .ok (.isub, 1) := by decide +kernel
theorem dX1_restore_53 : decode cX1_restore 53 = .ok (.putfield 26, 3) := by decide +kernel
theorem dX1_restore_56 : decode cX1_restore 56 = .ok (.iconst 1, 1) := by decide +kernel
theorem dX1_restore_57 : decode cX1_restore 57 = .ok (.ireturn, 1) := by decide +kernel
theorem dX2_init_0 : decode cX2_init 0 = .ok (.aload_n 0, 1) := by decide +kernel
theorem dX2_init_1 : decode cX2_init 1 = .ok (.invokespecial 3, 3) := by decide +kernel
theorem dX2_init_4 : decode cX2_init 4 = .ok (.aload_n 0, 1) := by decide +kernel
theorem dX2_init_5 : decode cX2_init 5 = .ok (.iconst 3, 1) := by decide +kernel
theorem dX2_init_6 : decode cX2_init 6 = .ok (.newarray .int, 2) := by decide +kernel
theorem dX2_init_8 : decode cX2_init 8 = .ok (.putfield 9, 3) := by decide +kernel
theorem dX2_init_11 : decode cX2_init 11 = .ok (.aload_n 0, 1) := by decide +kernel
theorem dX2_init_12 : decode cX2_init 12 = .ok (.iconst 3, 1) := by decide +kernel
theorem dX2_init_13 : decode cX2_init 13 = .ok (.newarray .int, 2) := by decide +kernel
theorem dX2_init_15 : decode cX2_init 15 = .ok (.putfield 15, 3) := by decide +kernel
theorem dX2_init_18 : decode cX2_init 18 = .ok (.aload_n 0, 1) := by decide +kernel
theorem dX2_init_19 : decode cX2_init 19 = .ok (.iconst 3, 1) := by decide +kernel
theorem dX2_init_20 : decode cX2_init 20 = .ok (.newarray .int, 2) := by decide +kernel
theorem dX2_init_22 : decode cX2_init 22 = .ok (.putfield 18, 3) := by decide +kernel
theorem dX2_init_25 : decode cX2_init 25 = .ok (.return_, 1) := by decide +kernel
theorem dX2_clear_0 : decode cX2_clear 0 = .ok (.aload_n 0, 1) := by decide +kernel
theorem dX2_clear_1 : decode cX2_clear 1 = .ok (.iconst 0, 1) := by decide +kernel
theorem dX2_clear_2 : decode cX2_clear 2 = .ok (.putfield 21, 3) := by decide +kernel
theorem dX2_clear_5 : decode cX2_clear 5 = .ok (.aload_n 0, 1) := by decide +kernel
theorem dX2_clear_6 : decode cX2_clear 6 = .ok (.iconst 0, 1) := by decide +kernel
theorem dX2_clear_7 : decode cX2_clear 7 = .ok (.putfield 25, 3) := by decide +kernel
theorem dX2_clear_10 : decode cX2_clear 10 = .ok (.return_, 1) := by decide +kernel
theorem dX2_addLast_0 : decode cX2_addLast 0 = .ok (.aload_n 0, 1) := by decide +kernel
theorem dX2_addLast_1 : decode cX2_addLast 1 = .ok (.getfield 9, 3) := by decide +kernel
theorem dX2_addLast_4 : decode cX2_addLast 4 = .ok (.aload_n 0, 1) := by decide +kernel
theorem dX2_addLast_5 : decode cX2_addLast 5 = .ok (.getfield 21, 3) := by decide +kernel
theorem dX2_addLast_8 : decode cX2_addLast 8 = .ok (.iload_n 1, 1) := by decide +kernel
theorem dX2_addLast_9 : decode cX2_addLast 9 = .ok (.iastore, 1) := by decide +kernel
theorem dX2_addLast_10 : decode cX2_addLast 10 = .ok (.aload_n 0, 1) := by decide +kernel
theorem dX2_addLast_11 : decode cX2_addLast 11 = .ok (.getfield 15, 3) := by decide +kernel
theorem dX2_addLast_14 : decode cX2_addLast 14 = .ok (.aload_n 0, 1) := by decide +kernel
theorem dX2_addLast_15 : decode cX2_addLast 15 = .ok (.getfield 21, 3) := by decide +kernel
theorem dX2_addLast_18 : decode cX2_addLast 18 = .ok (.iload_n 2, 1) := by decide +kernel
theorem dX2_addLast_19 : decode cX2_addLast 19 = .ok (.iastore, 1) := by decide +kernel
theorem dX2_addLast_20 : decode cX2_addLast 20 = .ok (.aload_n 0, 1) := by decide +kernel
theorem dX2_addLast_21 : decode cX2_addLast 21 = .ok (.getfield 18, 3) := by decide +kernel
theorem dX2_addLast_24 : decode cX2_addLast 24 = .ok (.aload_n 0, 1) := by decide +kernel
theorem dX2_addLast_25 : decode cX2_addLast 25 = .ok (.getfield 21, 3) := by decide +kernel
theorem dX2_addLast_28 : decode cX2_addLast 28 = .ok (.iload_n 3, 1) := by decide +kernel
theorem dX2_addLast_29 : decode cX2_addLast 29 = .ok (.iastore, 1) := by decide +kernel
theorem dX2_addLast_30 : decode cX2_addLast 30 = .ok (.aload_n 0, 1) := by decide +kernel
theorem dX2_addLast_31 : decode cX2_addLast 31 = .ok (.dup, 1) := by decide +kernel
theorem dX2_addLast_32 : decode cX2_addLast 32 = .ok (.getfield 21, 3) := by decide +kernel
theorem dX2_addLast_35 : decode cX2_addLast 35 = .ok (.iconst 1, 1) := by decide +kernel
theorem dX2_addLast_36 : decode cX2_addLast 36 = .ok (.iadd, 1) := by decide +kernel
theorem dX2_addLast_37 : decode cX2_addLast 37 = .ok (.putfield 21, 3) := by decide +kernel
theorem dX2_addLast_40 : decode cX2_addLast 40 = .ok (.aload_n 0, 1) := by decide +kernel
theorem dX2_addLast_41 : decode cX2_addLast 41 = .ok (.dup, 1) := by decide +kernel
theorem dX2_addLast_42 : decode cX2_addLast 42 = .ok (.getfield 25, 3) := by decide +kernel
theorem dX2_addLast_45 : decode cX2_addLast 45 = .ok (.iload 4, 2) := by decide +kernel
theorem dX2_addLast_47 : decode cX2_addLast 47 = .ok (.iadd, 1) := by decide +kernel
theorem dX2_addLast_48 : decode cX2_addLast 48 = .ok (.putfield 25, 3) := by decide +kernel
theorem dX2_addLast_51 : decode cX2_addLast 51 = .ok (.return_, 1) := by decide +kernel
theorem dX2_dropLast_0 : decode cX2_dropLast 0 = .ok (.aload_n 0, 1) := by decide +kernel
theorem dX2_dropLast_1 : decode cX2_dropLast 1 = .ok (.dup, 1) := by decide +kernel
theorem dX2_dropLast_2 : decode cX2_dropLast 2 = .ok (.getfield 21, 3) := by decide +kernel
theorem dX2_dropLast_5 : decode cX2_dropLast 5 = .ok (.iconst 1, 1) := by decide +kernel
theorem dX2_dropLast_6 : decode cX2_dropLast 6 = .ok (.isub, 1) := by decide +kernel
theorem dX2_dropLast_7 : decode cX2_dropLast 7 = .ok (.putfield 21, 3) := by decide +kernel
theorem dX2_dropLast_10 : decode cX2_dropLast 10 = .ok (.aload_n 0, 1) := by decide +kernel
theorem dX2_dropLast_11 : decode cX2_dropLast 11 = .ok (.dup, 1) := by decide +kernel
theorem dX2_dropLast_12 : decode cX2_dropLast 12 = .ok (.getfield 25, 3) := by decide +kernel
theorem dX2_dropLast_15 : decode cX2_dropLast 15 = .ok (.iload_n 1, 1) := by decide +kernel
theorem dX2_dropLast_16 : decode cX2_dropLast 16 = .ok (.isub, 1) := by decide +kernel
theorem dX2_dropLast_17 : decode cX2_dropLast 17 = .ok (.putfield 25, 3) := by decide +kernel
theorem dX2_dropLast_20 : decode cX2_dropLast 20 = .ok (.return_, 1) := by decide +kernel
theorem dX2_isCheaperThan_0 : decode cX2_isCheaperThan 0 = .ok (.aload_n 0, 1) := by decide +kernel
theorem dX2_isCheaperThan_1 : decode cX2_isCheaperThan 1 = .ok (.getfield 25, 3) := by decide +kernel
theorem dX2_isCheaperThan_4 : decode cX2_isCheaperThan 4 = .ok (.aload_n 1, 1) := by decide +kernel
theorem dX2_isCheaperThan_5 : decode cX2_isCheaperThan 5 = .ok (.getfield 25, 3) := by decide +kernel
theorem dX2_isCheaperThan_8 : decode cX2_isCheaperThan 8 = .ok (.if_icmp .lt 25, 3) := by decide +kernel
theorem dX2_isCheaperThan_11 : decode cX2_isCheaperThan 11 = .ok (.aload_n 0, 1) := by decide +kernel
theorem dX2_isCheaperThan_12 : decode cX2_isCheaperThan 12 = .ok (.getfield 25, 3) := by decide +kernel
theorem dX2_isCheaperThan_15 : decode cX2_isCheaperThan 15 = .ok (.aload_n 1, 1) := by decide +kernel
theorem dX2_isCheaperThan_16 : decode cX2_isCheaperThan 16 = .ok (.getfield 25, 3) := by decide +kernel
theorem dX2_isCheaperThan_19 : decode cX2_isCheaperThan 19 = .ok (.if_icmp .ne 18, 3) := by decide +kernel
theorem dX2_isCheaperThan_22 : decode cX2_isCheaperThan 22 = .ok (.aload_n 0, 1) := by decide +kernel
theorem dX2_isCheaperThan_23 : decode cX2_isCheaperThan 23 = .ok (.getfield 21, 3) := by decide +kernel
theorem dX2_isCheaperThan_26 : decode cX2_isCheaperThan 26 = .ok (.aload_n 1, 1) := by decide +kernel
theorem dX2_isCheaperThan_27 : decode cX2_isCheaperThan 27 = .ok (.getfield 21, 3) := by decide +kernel
theorem dX2_isCheaperThan_30 : decode cX2_isCheaperThan 30 = .ok (.if_icmp .ge 7, 3) := by decide +kernel
theorem dX2_isCheaperThan_33 : decode cX2_isCheaperThan 33 = .ok (.iconst 1, 1) := by decide +kernel
theorem dX2_isCheaperThan_34 : decode cX2_isCheaperThan 34 = .ok (.goto 4, 3) := by decide +kernel
theorem dX2_isCheaperThan_37 : decode cX2_isCheaperThan 37 = .ok (.iconst 0, 1) := by decide +kernel
theorem dX2_isCheaperThan_38 : decode cX2_isCheaperThan 38 = .ok (.ireturn, 1) := by decide +kernel
theorem dX2_copyFrom_0 : decode cX2_copyFrom 0 = .ok (.aload_n 0, 1) := by decide +kernel
theorem dX2_copyFrom_1 : decode cX2_copyFrom 1 = .ok (.aload_n 1, 1) := by decide +kernel
theorem dX2_copyFrom_2 : decode cX2_copyFrom 2 = .ok (.getfield 21, 3) := by decide +kernel
theorem dX2_copyFrom_5 : decode cX2_copyFrom 5 = .ok (.putfield 21, 3) := by decide +kernel
theorem dX2_copyFrom_8 : decode cX2_copyFrom 8 = .ok (.aload_n 0, 1) := by decide +kernel
theorem dX2_copyFrom_9 : decode cX2_copyFrom 9 = .ok (.aload_n 1, 1) := by decide +kernel
theorem dX2_copyFrom_10 : decode cX2_copyFrom 10 = .ok (.getfield 25, 3) := by decide +kernel
theorem dX2_copyFrom_13 : decode cX2_copyFrom 13 = .ok (.putfield 25, 3) := by decide +kernel
theorem dX2_copyFrom_16 : decode cX2_copyFrom 16 = .ok (.aload_n 1, 1) := by decide +kernel
theorem dX2_copyFrom_17 : decode cX2_copyFrom 17 = .ok (.getfield 9, 3) := by decide +kernel
theorem dX2_copyFrom_20 : decode cX2_copyFrom 20 = .ok (.iconst 0, 1) := by decide +kernel
theorem dX2_copyFrom_21 : decode cX2_copyFrom 21 = .ok (.aload_n 0, 1) := by decide +kernel
theorem dX2_copyFrom_22 : decode cX2_copyFrom 22 = .ok (.getfield 9, 3) := by decide +kernel
theorem dX2_copyFrom_25 : decode cX2_copyFrom 25 = .ok (.iconst 0, 1) := by decide +kernel
theorem dX2_copyFrom_26 : decode cX2_copyFrom 26 = .ok (.iconst 3, 1) := by decide +kernel
theorem dX2_copyFrom_27 : decode cX2_copyFrom 27 = .ok (.invokestatic 28, 3) := by decide +kernel
theorem dX2_copyFrom_30 : decode cX2_copyFrom 30 = .ok (.aload_n 1, 1) := by decide +kernel
theorem dX2_copyFrom_31 : decode cX2_copyFrom 31 = .ok (.getfield 15, 3) := by decide +kernel
theorem dX2_copyFrom_34 : decode cX2_copyFrom 34 = .ok (.iconst 0, 1) := by decide +kernel
theorem dX2_copyFrom_35 : decode cX2_copyFrom 35 = .ok (.aload_n 0, 1) := by decide +kernel
theorem dX2_copyFrom_36 : decode cX2_copyFrom 36 = .ok (.getfield 15, 3) := by decide +kernel
theorem dX2_copyFrom_39 : decode cX2_copyFrom 39 = .ok (.iconst 0, 1) := by decide +kernel
theorem dX2_copyFrom_40 : decode cX2_copyFrom 40 = .ok (.iconst 3, 1) := by decide +kernel
theorem dX2_copyFrom_41 : decode cX2_copyFrom 41 = .ok (.invokestatic 28, 3) := by decide +kernel
theorem dX2_copyFrom_44 : decode cX2_copyFrom 44 = .ok (.aload_n 1, 1) := by decide +kernel
theorem dX2_copyFrom_45 : decode cX2_copyFrom 45 = .ok (.getfield 18, 3) := by decide +kernel
theorem dX2_copyFrom_48 : decode cX2_copyFrom 48 = .ok (.iconst 0, 1) := by decide +kernel
theorem dX2_copyFrom_49 : decode cX2_copyFrom 49 = .ok (.aload_n 0, 1) := by decide +kernel
theorem dX2_copyFrom_50 : decode cX2_copyFrom 50 = .ok (.getfield 18, 3) := by decide +kernel
theorem dX2_copyFrom_53 : decode cX2_copyFrom 53 = .ok (.iconst 0, 1) := by decide +kernel
theorem dX2_copyFrom_54 : decode cX2_copyFrom 54 = .ok (.iconst 3, 1) := by decide +kernel
theorem dX2_copyFrom_55 : decode cX2_copyFrom 55 = .ok (.invokestatic 28, 3) := by decide +kernel
theorem dX2_copyFrom_58 : decode cX2_copyFrom 58 = .ok (.return_, 1) := by decide +kernel
theorem dX3_init_0 : decode cX3_init 0 = .ok (.aload_n 0, 1) := by decide +kernel
theorem dX3_init_1 : decode cX3_init 1 = .ok (.invokespecial 3, 3) := by decide +kernel
theorem dX3_init_4 : decode cX3_init 4 = .ok (.aload_n 0, 1) := by decide +kernel
theorem dX3_init_5 : decode cX3_init 5 = .ok (.new 9, 3) := by decide +kernel
theorem dX3_init_8 : decode cX3_init 8 = .ok (.dup, 1) := by decide +kernel
theorem dX3_init_9 : decode cX3_init 9 = .ok (.invokespecial 11, 3) := by decide +kernel
theorem dX3_init_12 : decode cX3_init 12 = .ok (.putfield 12, 3) := by decide +kernel
theorem dX3_init_15 : decode cX3_init 15 = .ok (.aload_n 0, 1) := by decide +kernel
theorem dX3_init_16 : decode cX3_init 16 = .ok (.new 18, 3) := by decide +kernel
theorem dX3_init_19 : decode cX3_init 19 = .ok (.dup, 1) := by decide +kernel
theorem dX3_init_20 : decode cX3_init 20 = .ok (.invokespecial 20, 3) := by decide +kernel
theorem dX3_init_23 : decode cX3_init 23 = .ok (.putfield 21, 3) := by decide +kernel
theorem dX3_init_26 : decode cX3_init 26 = .ok (.aload_n 0, 1) := by decide +kernel
theorem dX3_init_27 : decode cX3_init 27 = .ok (.new 9, 3) := by decide +kernel
theorem dX3_init_30 : decode cX3_init 30 = .ok (.dup, 1) := by decide +kernel
theorem dX3_init_31 : decode cX3_init 31 = .ok (.invokespecial 11, 3) := by decide +kernel
theorem dX3_init_34 : decode cX3_init 34 = .ok (.putfield 25, 3) := by decide +kernel
theorem dX3_init_37 : decode cX3_init 37 = .ok (.aload_n 0, 1) := by decide +kernel
theorem dX3_init_38 : decode cX3_init 38 = .ok (.iconst 4, 1) := by decide +kernel
theorem dX3_init_39 : decode cX3_init 39 = .ok (.newarray .int, 2) := by decide +kernel
theorem dX3_init_41 : decode cX3_init 41 = .ok (.putfield 28, 3) := by decide +kernel
theorem dX3_init_44 : decode cX3_init 44 = .ok (.aload_n 0, 1) := by decide +kernel
theorem dX3_init_45 : decode cX3_init 45 = .ok (.iconst 4, 1) := by decide +kernel
theorem dX3_init_46 : decode cX3_init 46 = .ok (.newarray .int, 2) := by decide +kernel
theorem dX3_init_48 : decode cX3_init 48 = .ok (.putfield 32, 3) := by decide +kernel
theorem dX3_init_51 : decode cX3_init 51 = .ok (.aload_n 0, 1) := by decide +kernel
theorem dX3_init_52 : decode cX3_init 52 = .ok (.iconst 4, 1) := by decide +kernel
theorem dX3_init_53 : decode cX3_init 53 = .ok (.newarray .int, 2) := by decide +kernel
theorem dX3_init_55 : decode cX3_init 55 = .ok (.putfield 35, 3) := by decide +kernel
theorem dX3_init_58 : decode cX3_init 58 = .ok (.return_, 1) := by decide +kernel
theorem dX3_succeeds_0 : decode cX3_succeeds 0 = .ok (.aload_n 0, 1) := by decide +kernel
theorem dX3_succeeds_1 : decode cX3_succeeds 1 = .ok (.iconst 0, 1) := by decide +kernel
theorem dX3_succeeds_2 : decode cX3_succeeds 2 = .ok (.putfield 38, 3) := by decide +kernel
theorem dX3_succeeds_5 : decode cX3_succeeds 5 = .ok (.aload_n 0, 1) := by decide +kernel
theorem dX3_succeeds_6 : decode cX3_succeeds 6 = .ok (.getfield 12, 3) := by decide +kernel
theorem dX3_succeeds_9 : decode cX3_succeeds 9 = .ok (.invokevirtual 42, 3) := by decide +kernel
theorem dX3_succeeds_12 : decode cX3_succeeds 12 = .ok (.aload_n 0, 1) := by decide +kernel
theorem dX3_succeeds_13 : decode cX3_succeeds 13 = .ok (.getfield 25, 3) := by decide +kernel
theorem dX3_succeeds_16 : decode cX3_succeeds 16 = .ok (.invokevirtual 42, 3) := by decide +kernel
theorem dX3_succeeds_19 : decode cX3_succeeds 19 = .ok (.aload_n 1, 1) := by decide +kernel
theorem dX3_succeeds_20 : decode cX3_succeeds 20 = .ok (.getfield 45, 3) := by decide +kernel
theorem dX3_succeeds_23 : decode cX3_succeeds 23 = .ok (.ifCond .ne 5, 3) := by decide +kernel
theorem dX3_succeeds_26 : decode cX3_succeeds 26 = .ok (.iconst 0, 1) := by decide +kernel
theorem dX3_succeeds_27 : decode cX3_succeeds 27 = .ok (.ireturn, 1) := by decide +kernel
theorem dX3_succeeds_28 : decode cX3_succeeds 28 = .ok (.aload_n 1, 1) := by decide +kernel
theorem dX3_succeeds_29 : decode cX3_succeeds 29 = .ok (.invokevirtual 49, 3) := by decide +kernel
theorem dX3_succeeds_32 : decode cX3_succeeds 32 = .ok (.istore_n 3, 1) := by decide +kernel
theorem dX3_succeeds_33 : decode cX3_succeeds 33 = .ok (.iload_n 3, 1) := by decide +kernel
theorem dX3_succeeds_34 : decode cX3_succeeds 34 = .ok (.ifCond .eq 11, 3) := by decide +kernel
theorem dX3_succeeds_37 : decode cX3_succeeds 37 = .ok (.iload_n 3, 1) := by decide +kernel
theorem dX3_succeeds_38 : decode cX3_succeeds 38 = .ok (.aload_n 1, 1) := by decide +kernel
theorem dX3_succeeds_39 : decode cX3_succeeds 39 = .ok (.getfield 53, 3) := by decide +kernel
theorem dX3_succeeds_42 : decode cX3_succeeds 42 = .ok (.if_icmp .le 5, 3) := by decide +kernel
theorem dX3_succeeds_45 : decode cX3_succeeds 45 = .ok (.iconst 0, 1) := by decide +kernel
theorem dX3_succeeds_46 : decode cX3_succeeds 46 = .ok (.ireturn, 1) := by decide +kernel
theorem dX3_succeeds_47 : decode cX3_succeeds 47 = .ok (.aload_n 0, 1) := by decide +kernel
theorem dX3_succeeds_48 : decode cX3_succeeds 48 = .ok (.getfield 21, 3) := by decide +kernel
theorem dX3_succeeds_51 : decode cX3_succeeds 51 = .ok (.aload_n 1, 1) := by decide +kernel
theorem dX3_succeeds_52 : decode cX3_succeeds 52 = .ok (.invokevirtual 56, 3) := by decide +kernel
theorem dX3_succeeds_55 : decode cX3_succeeds 55 = .ok (.aload_n 0, 1) := by decide +kernel
theorem dX3_succeeds_56 : decode cX3_succeeds 56 = .ok (.iload_n 2, 1) := by decide +kernel
theorem dX3_succeeds_57 : decode cX3_succeeds 57 = .ok (.iconst 3, 1) := by decide +kernel
theorem dX3_succeeds_58 : decode cX3_succeeds 58 = .ok (.invokestatic 60, 3) := by decide +kernel
theorem dX3_succeeds_61 : decode cX3_succeeds 61 = .ok (.invokevirtual 66, 3) := by decide +kernel
theorem dX3_succeeds_64 : decode cX3_succeeds 64 = .ok (.aload_n 0, 1) := by decide +kernel
theorem dX3_succeeds_65 : decode cX3_succeeds 65 = .ok (.getfield 38, 3) := by decide +kernel
theorem dX3_succeeds_68 : decode cX3_succeeds 68 = .ok (.ireturn, 1) := by decide +kernel
theorem dX3_seek_0 : decode cX3_seek 0 = .ok (.aload_n 0, 1) := by decide +kernel
theorem dX3_seek_1 : decode cX3_seek 1 = .ok (.getfield 21, 3) := by decide +kernel
theorem dX3_seek_4 : decode cX3_seek 4 = .ok (.invokevirtual 70, 3) := by decide +kernel
theorem dX3_seek_7 : decode cX3_seek 7 = .ok (.bipush (-9), 2) := by decide +kernel
theorem dX3_seek_9 : decode cX3_seek 9 = .ok (.if_icmp .eq 8, 3) := by decide +kernel
theorem dX3_seek_12 : decode cX3_seek 12 = .ok (.aload_n 0, 1) := by decide +kernel
theorem dX3_seek_13 : decode cX3_seek 13 = .ok (.invokevirtual 73, 3) := by decide +kernel
theorem dX3_seek_16 : decode cX3_seek 16 = .ok (.return_, 1) := by decide +kernel
theorem dX3_seek_17 : decode cX3_seek 17 = .ok (.aload_n 0, 1) := by decide +kernel
theorem dX3_seek_18 : decode cX3_seek 18 = .ok (.invokevirtual 76, 3) := by decide +kernel
theorem dX3_seek_21 : decode cX3_seek 21 = .ok (.istore_n 2, 1) := by decide +kernel
theorem dX3_seek_22 : decode cX3_seek 22 = .ok (.iload_n 1, 1) := by decide +kernel
theorem dX3_seek_23 : decode cX3_seek 23 = .ok (.ifCond .le 16, 3) := by decide +kernel
theorem dX3_seek_26 : decode cX3_seek 26 = .ok (.iload_n 2, 1) := by decide +kernel
theorem dX3_seek_27 : decode cX3_seek 27 = .ok (.iload_n 1, 1) := by decide +kernel
theorem dX3_seek_28 : decode cX3_seek 28 = .ok (.if_icmp .gt 11, 3) := by decide +kernel
theorem dX3_seek_31 : decode cX3_seek 31 = .ok (.aload_n 0, 1) := by decide +kernel
theorem dX3_seek_32 : decode cX3_seek 32 = .ok (.iload_n 2, 1) := by decide +kernel
theorem dX3_seek_33 : decode cX3_seek 33 = .ok (.invokevirtual 79, 3) := by decide +kernel
theorem dX3_seek_36 : decode cX3_seek 36 = .ok (.ifCond .eq 4, 3) := by decide +kernel
theorem dX3_seek_39 : decode cX3_seek 39 = .ok (.return_, 1) := by decide +kernel
theorem dX3_seek_40 : decode cX3_seek 40 = .ok (.iconst 0, 1) := by decide +kernel
theorem dX3_seek_41 : decode cX3_seek 41 = .ok (.istore_n 3, 1) := by decide +kernel
theorem dX3_seek_42 : decode cX3_seek 42 = .ok (.iload_n 3, 1) := by decide +kernel
theorem dX3_seek_43 : decode cX3_seek 43 = .ok (.aload_n 0, 1) := by decide +kernel
theorem dX3_seek_44 : decode cX3_seek 44 = .ok (.getfield 21, 3) := by decide +kernel
theorem dX3_seek_47 : decode cX3_seek 47 = .ok (.getfield 83, 3) := by decide +kernel
theorem dX3_seek_50 : decode cX3_seek 50 = .ok (.if_icmp .ge 88, 3) := by decide +kernel
theorem dX3_seek_53 : decode cX3_seek 53 = .ok (.aload_n 0, 1) := by decide +kernel
theorem dX3_seek_54 : decode cX3_seek 54 = .ok (.getfield 21, 3) := by decide +kernel
theorem dX3_seek_57 : decode cX3_seek 57 = .ok (.getfield 86, 3) := by decide +kernel
theorem dX3_seek_60 : decode cX3_seek 60 = .ok (.iload_n 3, 1) := by decide +kernel
theorem dX3_seek_61 : decode cX3_seek 61 = .ok (.iaload, 1) := by decide +kernel
theorem dX3_seek_62 : decode cX3_seek 62 = .ok (.istore 4, 2) := by decide +kernel
theorem dX3_seek_64 : decode cX3_seek 64 = .ok (.iconst 0, 1) := by decide +kernel
theorem dX3_seek_65 : decode cX3_seek 65 = .ok (.istore 5, 2) := by decide +kernel
theorem dX3_seek_67 : decode cX3_seek 67 = .ok (.iload 5, 2) := by decide +kernel
theorem dX3_seek_69 : decode cX3_seek 69 = .ok (.aload_n 0, 1) := by decide +kernel
theorem dX3_seek_70 : decode cX3_seek 70 = .ok (.getfield 21, 3) := by decide +kernel
theorem dX3_seek_73 : decode cX3_seek 73 = .ok (.getfield 83, 3) := by decide +kernel
theorem dX3_seek_76 : decode cX3_seek 76 = .ok (.if_icmp .ge 56, 3) := by decide +kernel
theorem dX3_seek_79 : decode cX3_seek 79 = .ok (.iconst 1, 1) := by decide +kernel
theorem dX3_seek_80 : decode cX3_seek 80 = .ok (.istore 6, 2) := by decide +kernel
theorem dX3_seek_82 : decode cX3_seek 82 = .ok (.iload 6, 2) := by decide +kernel
theorem dX3_seek_84 : decode cX3_seek 84 = .ok (.iload 4, 2) := by decide +kernel
theorem dX3_seek_86 : decode cX3_seek 86 = .ok (.if_icmp .gt 40, 3) := by decide +kernel
theorem dX3_seek_89 : decode cX3_seek 89 = .ok (.aload_n 0, 1) := by decide +kernel
theorem dX3_seek_90 : decode cX3_seek 90 = .ok (.getfield 21, 3) := by decide +kernel
theorem dX3_seek_93 : decode cX3_seek 93 = .ok (.iload_n 3, 1) := by decide +kernel
theorem dX3_seek_94 : decode cX3_seek 94 = .ok (.iload 5, 2) := by decide +kernel
theorem dX3_seek_96 : decode cX3_seek 96 = .ok (.iload 6, 2) := by decide +kernel
theorem dX3_seek_98 : decode cX3_seek 98 = .ok (.invokevirtual 89, 3) := by decide +kernel
theorem dX3_seek_101 : decode cX3_seek 101 = .ok (.istore 7, 2) := by decide +kernel
theorem dX3_seek_103 : decode cX3_seek 103 = .ok (.iload 7, 2) := by decide +kernel
theorem dX3_seek_105 : decode cX3_seek 105 = .ok (.ifCond .lt 15, 3) := by decide +kernel
theorem dX3_seek_108 : decode cX3_seek 108 = .ok (.aload_n 0, 1) := by decide +kernel
theorem dX3_seek_109 : decode cX3_seek 109 = .ok (.iload_n 3, 1) := by decide +kernel
theorem dX3_seek_110 : decode cX3_seek 110 = .ok (.iload 5, 2) := by decide +kernel
theorem dX3_seek_112 : decode cX3_seek 112 = .ok (.iload 6, 2) := by decide +kernel
theorem dX3_seek_114 : decode cX3_seek 114 = .ok (.iload 7, 2) := by decide +kernel
theorem dX3_seek_116 : decode cX3_seek 116 = .ok (.iload_n 1, 1) := by decide +kernel
theorem dX3_seek_117 : decode cX3_seek 117 = .ok (.invokevirtual 93, 3) := by decide +kernel
theorem dX3_seek_120 : decode cX3_seek 120 = .ok (.iinc 6 1, 3) := by decide +kernel
theorem dX3_seek_123 : decode cX3_seek 123 = .ok (.goto (-41), 3) := by decide +kernel
theorem dX3_seek_126 : decode cX3_seek 126 = .ok (.iinc 5 1, 3) := by decide +kernel
theorem dX3_seek_129 : decode cX3_seek 129 = .ok (.goto (-62), 3) := by decide +kernel
theorem dX3_seek_132 : decode cX3_seek 132 = .ok (.iinc 3 1, 3) := by decide +kernel
theorem dX3_seek_135 : decode cX3_seek 135 = .ok (.goto (-93), 3) := by decide +kernel
theorem dX3_seek_138 : decode cX3_seek 138 = .ok (.return_, 1) := by decide +kernel
theorem dX3_seekBehindMove_0 : decode cX3_seekBehindMove 0 = .ok (.aload_n 0, 1) := by decide +kernel
theorem dX3_seekBehindMove_1 : decode cX3_seekBehindMove 1 = .ok (.getfield 21, 3) := by decide +kernel
theorem dX3_seekBehindMove_4 : decode cX3_seekBehindMove 4 = .ok (.iload_n 1, 1) := by decide +kernel
theorem dX3_seekBehindMove_5 : decode cX3_seekBehindMove 5 = .ok (.iload_n 2, 1) := by decide +kernel
theorem dX3_seekBehindMove_6 : decode cX3_seekBehindMove 6 = .ok (.iload_n 3, 1) := by decide +kernel
theorem dX3_seekBehindMove_7 : decode cX3_seekBehindMove 7 = .ok (.invokevirtual 97, 3) := by decide +kernel
theorem dX3_seekBehindMove_10 : decode cX3_seekBehindMove 10 = .ok (.aload_n 0, 1) := by decide +kernel
theorem dX3_seekBehindMove_11 : decode cX3_seekBehindMove 11 = .ok (.getfield 25, 3) := by decide +kernel
theorem dX3_seekBehindMove_14 : decode cX3_seekBehindMove 14 = .ok (.iload_n 1, 1) := by decide +kernel
theorem dX3_seekBehindMove_15 : decode cX3_seekBehindMove 15 = .ok (.iload_n 2, 1) := by decide +kernel
theorem dX3_seekBehindMove_16 : decode cX3_seekBehindMove 16 = .ok (.iload_n 3, 1) := by decide +kernel
theorem dX3_seekBehindMove_17 : decode cX3_seekBehindMove 17 = .ok (.iload 4, 2) := by decide +kernel
theorem dX3_seekBehindMove_19 : decode cX3_seekBehindMove 19 = .ok (.invokevirtual 101, 3) := by decide +kernel
theorem dX3_seekBehindMove_22 : decode cX3_seekBehindMove 22 = .ok (.aload_n 0, 1) := by decide +kernel
theorem dX3_seekBehindMove_23 : decode cX3_seekBehindMove 23 = .ok (.iload 5, 2) := by decide +kernel
theorem dX3_seekBehindMove_25 : decode cX3_seekBehindMove 25 = .ok (.iconst 1, 1) := by decide +kernel
theorem dX3_seekBehindMove_26 : decode cX3_seekBehindMove 26 = .ok (.isub, 1) := by decide +kernel
theorem dX3_seekBehindMove_27 : decode cX3_seekBehindMove 27 = .ok (.invokevirtual 66, 3) := by decide +kernel
theorem dX3_seekBehindMove_30 : decode cX3_seekBehindMove 30 = .ok (.aload_n 0, 1) := by decide +kernel
theorem dX3_seekBehindMove_31 : decode cX3_seekBehindMove 31 = .ok (.getfield 25, 3) := by decide +kernel
theorem dX3_seekBehindMove_34 : decode cX3_seekBehindMove 34 = .ok (.iload 4, 2) := by decide +kernel
theorem dX3_seekBehindMove_36 : decode cX3_seekBehindMove 36 = .ok (.invokevirtual 105, 3) := by decide +kernel
theorem dX3_seekBehindMove_39 : decode cX3_seekBehindMove 39 = .ok (.aload_n 0, 1) := by decide +kernel
theorem dX3_seekBehindMove_40 : decode cX3_seekBehindMove 40 = .ok (.getfield 21, 3) := by decide +kernel
theorem dX3_seekBehindMove_43 : decode cX3_seekBehindMove 43 = .ok (.iload_n 2, 1) := by decide +kernel
theorem dX3_seekBehindMove_44 : decode cX3_seekBehindMove 44 = .ok (.iload_n 1, 1) := by decide +kernel
theorem dX3_seekBehindMove_45 : decode cX3_seekBehindMove 45 = .ok (.iload_n 3, 1) := by decide +kernel
theorem dX3_seekBehindMove_46 : decode cX3_seekBehindMove 46 = .ok (.invokevirtual 97, 3) := by decide +kernel
theorem dX3_seekBehindMove_49 : decode cX3_seekBehindMove 49 = .ok (.return_, 1) := by decide +kernel
theorem dX3_keepIfCheaper_0 : decode cX3_keepIfCheaper 0 = .ok (.aload_n 0, 1) := by decide +kernel
theorem dX3_keepIfCheaper_1 : decode cX3_keepIfCheaper 1 = .ok (.getfield 38, 3) := by decide +kernel
theorem dX3_keepIfCheaper_4 : decode cX3_keepIfCheaper 4 = .ok (.ifCond .eq 17, 3) := by decide +kernel
theorem dX3_keepIfCheaper_7 : decode cX3_keepIfCheaper 7 = .ok (.aload_n 0, 1) := by decide +kernel
theorem dX3_keepIfCheaper_8 : decode cX3_keepIfCheaper 8 = .ok (.getfield 25, 3) := by decide +kernel
theorem dX3_keepIfCheaper_11 : decode cX3_keepIfCheaper 11 = .ok (.aload_n 0, 1) := by decide +kernel
theorem dX3_keepIfCheaper_12 : decode cX3_keepIfCheaper 12 = .ok (.getfield 12, 3) := by decide +kernel
theorem dX3_keepIfCheaper_15 : decode cX3_keepIfCheaper 15 = .ok (.invokevirtual 108, 3) := by decide +kernel
theorem dX3_keepIfCheaper_18 : decode cX3_keepIfCheaper 18 = .ok (.ifCond .eq 19, 3) := by decide +kernel
theorem dX3_keepIfCheaper_21 : decode cX3_keepIfCheaper 21 = .ok (.aload_n 0, 1) := by decide +kernel
theorem dX3_keepIfCheaper_22 : decode cX3_keepIfCheaper 22 = .ok (.getfield 12, 3) := by decide +kernel
theorem dX3_keepIfCheaper_25 : decode cX3_keepIfCheaper 25 = .ok (.aload_n 0, 1) := by decide +kernel
theorem dX3_keepIfCheaper_26 : decode cX3_keepIfCheaper 26 = .ok (.getfield 25, 3) := by decide +kernel
theorem dX3_keepIfCheaper_29 : decode cX3_keepIfCheaper 29 = .ok (.invokevirtual 112, 3) := by decide +kernel
theorem dX3_keepIfCheaper_32 : decode cX3_keepIfCheaper 32 = .ok (.aload_n 0, 1) := by decide +kernel
theorem dX3_keepIfCheaper_33 : decode cX3_keepIfCheaper 33 = .ok (.iconst 1, 1) := by decide +kernel
theorem dX3_keepIfCheaper_34 : decode cX3_keepIfCheaper 34 = .ok (.putfield 38, 3) := by decide +kernel
theorem dX3_keepIfCheaper_37 : decode cX3_keepIfCheaper 37 = .ok (.return_, 1) := by decide +kernel
theorem dX3_isTooDear_0 : decode cX3_isTooDear 0 = .ok (.aload_n 0, 1) := by decide +kernel
theorem dX3_isTooDear_1 : decode cX3_isTooDear 1 = .ok (.getfield 21, 3) := by decide +kernel
theorem dX3_isTooDear_4 : decode cX3_isTooDear 4 = .ok (.getfield 115, 3) := by decide +kernel
theorem dX3_isTooDear_7 : decode cX3_isTooDear 7 = .ok (.iconst 2, 1) := by decide +kernel
theorem dX3_isTooDear_8 : decode cX3_isTooDear 8 = .ok (.iaload, 1) := by decide +kernel
theorem dX3_isTooDear_9 : decode cX3_isTooDear 9 = .ok (.iconst 1, 1) := by decide +kernel
theorem dX3_isTooDear_10 : decode cX3_isTooDear 10 = .ok (.iadd, 1) := by decide +kernel
theorem dX3_isTooDear_11 : decode cX3_isTooDear 11 = .ok (.iconst 2, 1) := by decide +kernel
theorem dX3_isTooDear_12 : decode cX3_isTooDear 12 = .ok (.iadd, 1) := by decide +kernel
theorem dX3_isTooDear_13 : decode cX3_isTooDear 13 = .ok (.istore_n 2, 1) := by decide +kernel
theorem dX3_isTooDear_14 : decode cX3_isTooDear 14 = .ok (.aload_n 0, 1) := by decide +kernel
theorem dX3_isTooDear_15 : decode cX3_isTooDear 15 = .ok (.getfield 38, 3) := by decide +kernel
theorem dX3_isTooDear_18 : decode cX3_isTooDear 18 = .ok (.ifCond .eq 28, 3) := by decide +kernel
theorem dX3_isTooDear_21 : decode cX3_isTooDear 21 = .ok (.aload_n 0, 1) := by decide +kernel
theorem dX3_isTooDear_22 : decode cX3_isTooDear 22 = .ok (.getfield 25, 3) := by decide +kernel
theorem dX3_isTooDear_25 : decode cX3_isTooDear 25 = .ok (.getfield 118, 3) := by decide +kernel
theorem dX3_isTooDear_28 : decode cX3_isTooDear 28 = .ok (.iload_n 1, 1) := by decide +kernel
theorem dX3_isTooDear_29 : decode cX3_isTooDear 29 = .ok (.iload_n 2, 1) := by decide +kernel
theorem dX3_isTooDear_30 : decode cX3_isTooDear 30 = .ok (.imul, 1) := by decide +kernel
theorem dX3_isTooDear_31 : decode cX3_isTooDear 31 = .ok (.iadd, 1) := by decide +kernel
theorem dX3_isTooDear_32 : decode cX3_isTooDear 32 = .ok (.aload_n 0, 1) := by decide +kernel
theorem dX3_isTooDear_33 : decode cX3_isTooDear 33 = .ok (.getfield 12, 3) := by decide +kernel
theorem dX3_isTooDear_36 : decode cX3_isTooDear 36 = .ok (.getfield 118, 3) := by decide +kernel
theorem dX3_isTooDear_39 : decode cX3_isTooDear 39 = .ok (.if_icmp .le 7, 3) := by decide +kernel
theorem dX3_isTooDear_42 : decode cX3_isTooDear 42 = .ok (.iconst 1, 1) := by decide +kernel
theorem dX3_isTooDear_43 : decode cX3_isTooDear 43 = .ok (.goto 4, 3) := by decide +kernel
theorem dX3_isTooDear_46 : decode cX3_isTooDear 46 = .ok (.iconst 0, 1) := by decide +kernel
theorem dX3_isTooDear_47 : decode cX3_isTooDear 47 = .ok (.ireturn, 1) := by decide +kernel
theorem dX3_movesNeeded_0 : decode cX3_movesNeeded 0 = .ok (.iconst 0, 1) := by decide +kernel
theorem dX3_movesNeeded_1 : decode cX3_movesNeeded 1 = .ok (.istore_n 1, 1) := by decide +kernel
theorem dX3_movesNeeded_2 : decode cX3_movesNeeded 2 = .ok (.iload_n 1, 1) := by decide +kernel
theorem dX3_movesNeeded_3 : decode cX3_movesNeeded 3 = .ok (.aload_n 0, 1) := by decide +kernel
theorem dX3_movesNeeded_4 : decode cX3_movesNeeded 4 = .ok (.getfield 21, 3) := by decide +kernel
theorem dX3_movesNeeded_7 : decode cX3_movesNeeded 7 = .ok (.getfield 83, 3) := by decide +kernel
theorem dX3_movesNeeded_10 : decode cX3_movesNeeded 10 = .ok (.if_icmp .ge 14, 3) := by decide +kernel
theorem dX3_movesNeeded_13 : decode cX3_movesNeeded 13 = .ok (.aload_n 0, 1) := by decide +kernel
theorem dX3_movesNeeded_14 : decode cX3_movesNeeded 14 = .ok (.iload_n 1, 1) := by decide +kernel
theorem dX3_movesNeeded_15 : decode cX3_movesNeeded 15 = .ok (.invokevirtual 121, 3) := by decide +kernel
theorem dX3_movesNeeded_18 : decode cX3_movesNeeded 18 = .ok (.iinc 1 1, 3) := by decide +kernel
theorem dX3_movesNeeded_21 : decode cX3_movesNeeded 21 = .ok (.goto (-19), 3) := by decide +kernel
theorem dX3_movesNeeded_24 : decode cX3_movesNeeded 24 = .ok (.aload_n 0, 1) := by decide +kernel
theorem dX3_movesNeeded_25 : decode cX3_movesNeeded 25 = .ok (.iconst 0, 1) := by decide +kernel
theorem dX3_movesNeeded_26 : decode cX3_movesNeeded 26 = .ok (.invokevirtual 124, 3) := by decide +kernel
theorem dX3_movesNeeded_29 : decode cX3_movesNeeded 29 = .ok (.istore_n 1, 1) := by decide +kernel
theorem dX3_movesNeeded_30 : decode cX3_movesNeeded 30 = .ok (.iconst 1, 1) := by decide +kernel
theorem dX3_movesNeeded_31 : decode cX3_movesNeeded 31 = .ok (.istore_n 2, 1) := by decide +kernel
theorem dX3_movesNeeded_32 : decode cX3_movesNeeded 32 = .ok (.iload_n 2, 1) := by decide +kernel
theorem dX3_movesNeeded_33 : decode cX3_movesNeeded 33 = .ok (.aload_n 0, 1) := by decide +kernel
theorem dX3_movesNeeded_34 : decode cX3_movesNeeded 34 = .ok (.getfield 21, 3) := by decide +kernel
theorem dX3_movesNeeded_37 : decode cX3_movesNeeded 37 = .ok (.getfield 83, 3) := by decide +kernel
theorem dX3_movesNeeded_40 : decode cX3_movesNeeded 40 = .ok (.if_icmp .ge 19, 3) := by decide +kernel
theorem dX3_movesNeeded_43 : decode cX3_movesNeeded 43 = .ok (.iload_n 1, 1) := by decide +kernel
theorem dX3_movesNeeded_44 : decode cX3_movesNeeded 44 = .ok (.aload_n 0, 1) := by decide +kernel
theorem dX3_movesNeeded_45 : decode cX3_movesNeeded 45 = .ok (.iload_n 2, 1) := by decide +kernel
theorem dX3_movesNeeded_46 : decode cX3_movesNeeded 46 = .ok (.invokevirtual 124, 3) := by decide +kernel
theorem dX3_movesNeeded_49 : decode cX3_movesNeeded 49 = .ok (.invokestatic 60, 3) := by decide +kernel
theorem dX3_movesNeeded_52 : decode cX3_movesNeeded 52 = .ok (.istore_n 1, 1) := by decide +kernel
theorem dX3_movesNeeded_53 : decode cX3_movesNeeded 53 = .ok (.iinc 2 1, 3) := by decide +kernel
theorem dX3_movesNeeded_56 : decode cX3_movesNeeded 56 = .ok (.goto (-24), 3) := by decide +kernel
theorem dX3_movesNeeded_59 : decode cX3_movesNeeded 59 = .ok (.iload_n 1, 1) := by decide +kernel
theorem dX3_movesNeeded_60 : decode cX3_movesNeeded 60 = .ok (.ireturn, 1) := by decide +kernel
theorem dX3_countWanted_0 : decode cX3_countWanted 0 = .ok (.iconst 0, 1) := by decide +kernel
theorem dX3_countWanted_1 : decode cX3_countWanted 1 = .ok (.istore_n 2, 1) := by decide +kernel
theorem dX3_countWanted_2 : decode cX3_countWanted 2 = .ok (.iconst 0, 1) := by decide +kernel
theorem dX3_countWanted_3 : decode cX3_countWanted 3 = .ok (.istore_n 3, 1) := by decide +kernel
theorem dX3_countWanted_4 : decode cX3_countWanted 4 = .ok (.iconst 0, 1) := by decide +kernel
theorem dX3_countWanted_5 : decode cX3_countWanted 5 = .ok (.istore 4, 2) := by decide +kernel
theorem dX3_countWanted_7 : decode cX3_countWanted 7 = .ok (.iconst 0, 1) := by decide +kernel
theorem dX3_countWanted_8 : decode cX3_countWanted 8 = .ok (.istore 5, 2) := by decide +kernel
theorem dX3_countWanted_10 : decode cX3_countWanted 10 = .ok (.iload 5, 2) := by decide +kernel
theorem dX3_countWanted_12 : decode cX3_countWanted 12 = .ok (.aload_n 0, 1) := by decide +kernel
theorem dX3_countWanted_13 : decode cX3_countWanted 13 = .ok (.getfield 21, 3) := by decide +kernel
theorem dX3_countWanted_16 : decode cX3_countWanted 16 = .ok (.getfield 86, 3) := by decide +kernel
theorem dX3_countWanted_19 : decode cX3_countWanted 19 = .ok (.iload_n 1, 1) := by decide +kernel
theorem dX3_countWanted_20 : decode cX3_countWanted 20 = .ok (.iaload, 1) := by decide +kernel
theorem dX3_countWanted_21 : decode cX3_countWanted 21 = .ok (.if_icmp .ge 43, 3) := by decide +kernel
theorem dX3_countWanted_24 : decode cX3_countWanted 24 = .ok (.aload_n 0, 1) := by decide +kernel
theorem dX3_countWanted_25 : decode cX3_countWanted 25 = .ok (.getfield 21, 3) := by decide +kernel
theorem dX3_countWanted_28 : decode cX3_countWanted 28 = .ok (.iload_n 1, 1) := by decide +kernel
theorem dX3_countWanted_29 : decode cX3_countWanted 29 = .ok (.iload 5, 2) := by decide +kernel
theorem dX3_countWanted_31 : decode cX3_countWanted 31 = .ok (.invokevirtual 128, 3) := by decide +kernel
theorem dX3_countWanted_34 : decode cX3_countWanted 34 = .ok (.ifCond .eq 21, 3) := by decide +kernel
theorem dX3_countWanted_37 : decode cX3_countWanted 37 = .ok (.iinc 2 1, 3) := by decide +kernel
theorem dX3_countWanted_40 : decode cX3_countWanted 40 = .ok (.iinc 4 1, 3) := by decide +kernel
theorem dX3_countWanted_43 : decode cX3_countWanted 43 = .ok (.iload_n 3, 1) := by decide +kernel
theorem dX3_countWanted_44 : decode cX3_countWanted 44 = .ok (.iload 5, 2) := by decide +kernel
theorem dX3_countWanted_46 : decode cX3_countWanted 46 = .ok (.if_icmp .ne 12, 3) := by decide +kernel
theorem dX3_countWanted_49 : decode cX3_countWanted 49 = .ok (.iinc 3 1, 3) := by decide +kernel
theorem dX3_countWanted_52 : decode cX3_countWanted 52 = .ok (.goto 6, 3) := by decide +kernel
theorem dX3_countWanted_55 : decode cX3_countWanted 55 = .ok (.iconst 0, 1) := by decide +kernel
theorem dX3_countWanted_56 : decode cX3_countWanted 56 = .ok (.istore 4, 2) := by decide +kernel
theorem dX3_countWanted_58 : decode cX3_countWanted 58 = .ok (.iinc 5 1, 3) := by decide +kernel
theorem dX3_countWanted_61 : decode cX3_countWanted 61 = .ok (.goto (-51), 3) := by decide +kernel
theorem dX3_countWanted_64 : decode cX3_countWanted 64 = .ok (.aload_n 0, 1) := by decide +kernel
theorem dX3_countWanted_65 : decode cX3_countWanted 65 = .ok (.getfield 28, 3) := by decide +kernel
theorem dX3_countWanted_68 : decode cX3_countWanted 68 = .ok (.iload_n 1, 1) := by decide +kernel
theorem dX3_countWanted_69 : decode cX3_countWanted 69 = .ok (.iload_n 2, 1) := by decide +kernel
theorem dX3_countWanted_70 : decode cX3_countWanted 70 = .ok (.iastore, 1) := by decide +kernel
theorem dX3_countWanted_71 : decode cX3_countWanted 71 = .ok (.aload_n 0, 1) := by decide +kernel
theorem dX3_countWanted_72 : decode cX3_countWanted 72 = .ok (.getfield 32, 3) := by decide +kernel
theorem dX3_countWanted_75 : decode cX3_countWanted 75 = .ok (.iload_n 1, 1) := by decide +kernel
theorem dX3_countWanted_76 : decode cX3_countWanted 76 = .ok (.iload_n 3, 1) := by decide +kernel
theorem dX3_countWanted_77 : decode cX3_countWanted 77 = .ok (.iastore, 1) := by decide +kernel
theorem dX3_countWanted_78 : decode cX3_countWanted 78 = .ok (.aload_n 0, 1) := by decide +kernel
theorem dX3_countWanted_79 : decode cX3_countWanted 79 = .ok (.getfield 35, 3) := by decide +kernel
theorem dX3_countWanted_82 : decode cX3_countWanted 82 = .ok (.iload_n 1, 1) := by decide +kernel
theorem dX3_countWanted_83 : decode cX3_countWanted 83 = .ok (.iload 4, 2) := by decide +kernel
theorem dX3_countWanted_85 : decode cX3_countWanted 85 = .ok (.iastore, 1) := by decide +kernel
theorem dX3_countWanted_86 : decode cX3_countWanted 86 = .ok (.return_, 1) := by decide +kernel
theorem dX3_movesNeededFor_0 : decode cX3_movesNeededFor 0 = .ok (.aload_n 0, 1) := by decide +kernel
theorem dX3_movesNeededFor_1 : decode cX3_movesNeededFor 1 = .ok (.getfield 32, 3) := by decide +kernel
theorem dX3_movesNeededFor_4 : decode cX3_movesNeededFor 4 = .ok (.iload_n 1, 1) := by decide +kernel
theorem dX3_movesNeededFor_5 : decode cX3_movesNeededFor 5 = .ok (.iaload, 1) := by decide +kernel
theorem dX3_movesNeededFor_6 : decode cX3_movesNeededFor 6 = .ok (.aload_n 0, 1) := by decide +kernel
theorem dX3_movesNeededFor_7 : decode cX3_movesNeededFor 7 = .ok (.getfield 21, 3) := by decide +kernel
theorem dX3_movesNeededFor_10 : decode cX3_movesNeededFor 10 = .ok (.getfield 86, 3) := by decide +kernel
theorem dX3_movesNeededFor_13 : decode cX3_movesNeededFor 13 = .ok (.iload_n 1, 1) := by decide +kernel
theorem dX3_movesNeededFor_14 : decode cX3_movesNeededFor 14 = .ok (.iaload, 1) := by decide +kernel
theorem dX3_movesNeededFor_15 : decode cX3_movesNeededFor 15 = .ok (.if_icmp .ge 7, 3) := by decide +kernel
theorem dX3_movesNeededFor_18 : decode cX3_movesNeededFor 18 = .ok (.iconst 1, 1) := by decide +kernel
theorem dX3_movesNeededFor_19 : decode cX3_movesNeededFor 19 = .ok (.goto 4, 3) := by decide +kernel
theorem dX3_movesNeededFor_22 : decode cX3_movesNeededFor 22 = .ok (.iconst 0, 1) := by decide +kernel
theorem dX3_movesNeededFor_23 : decode cX3_movesNeededFor 23 = .ok (.istore_n 2, 1) := by decide +kernel
theorem dX3_movesNeededFor_24 : decode cX3_movesNeededFor 24 = .ok (.aload_n 0, 1) := by decide +kernel
theorem dX3_movesNeededFor_25 : decode cX3_movesNeededFor 25 = .ok (.getfield 32, 3) := by decide +kernel
theorem dX3_movesNeededFor_28 : decode cX3_movesNeededFor 28 = .ok (.iload_n 1, 1) := by decide +kernel
theorem dX3_movesNeededFor_29 : decode cX3_movesNeededFor 29 = .ok (.iaload, 1) := by decide +kernel
theorem dX3_movesNeededFor_30 : decode cX3_movesNeededFor 30 = .ok (.aload_n 0, 1) := by decide +kernel
theorem dX3_movesNeededFor_31 : decode cX3_movesNeededFor 31 = .ok (.getfield 28, 3) := by decide +kernel
theorem dX3_movesNeededFor_34 : decode cX3_movesNeededFor 34 = .ok (.iload_n 1, 1) := by decide +kernel
theorem dX3_movesNeededFor_35 : decode cX3_movesNeededFor 35 = .ok (.iaload, 1) := by decide +kernel
theorem dX3_movesNeededFor_36 : decode cX3_movesNeededFor 36 = .ok (.if_icmp .ge 7, 3) := by decide +kernel
theorem dX3_movesNeededFor_39 : decode cX3_movesNeededFor 39 = .ok (.iconst 1, 1) := by decide +kernel
theorem dX3_movesNeededFor_40 : decode cX3_movesNeededFor 40 = .ok (.goto 4, 3) := by decide +kernel
theorem dX3_movesNeededFor_43 : decode cX3_movesNeededFor 43 = .ok (.iconst 0, 1) := by decide +kernel
theorem dX3_movesNeededFor_44 : decode cX3_movesNeededFor 44 = .ok (.istore_n 3, 1) := by decide +kernel
theorem dX3_movesNeededFor_45 : decode cX3_movesNeededFor 45 = .ok (.iconst 0, 1) := by decide +kernel
theorem dX3_movesNeededFor_46 : decode cX3_movesNeededFor 46 = .ok (.istore 4, 2) := by decide +kernel
theorem dX3_movesNeededFor_48 : decode cX3_movesNeededFor 48 = .ok (.iload 4, 2) := by decide +kernel
theorem dX3_movesNeededFor_50 : decode cX3_movesNeededFor 50 = .ok (.aload_n 0, 1) := by decide +kernel
theorem dX3_movesNeededFor_51 : decode cX3_movesNeededFor 51 = .ok (.getfield 21, 3) := by decide +kernel
theorem dX3_movesNeededFor_54 : decode cX3_movesNeededFor 54 = .ok (.getfield 83, 3) := by decide +kernel
theorem dX3_movesNeededFor_57 : decode cX3_movesNeededFor 57 = .ok (.if_icmp .ge 55, 3) := by decide +kernel
theorem dX3_movesNeededFor_60 : decode cX3_movesNeededFor 60 = .ok (.iload 4, 2) := by decide +kernel
theorem dX3_movesNeededFor_62 : decode cX3_movesNeededFor 62 = .ok (.iload_n 1, 1) := by decide +kernel
theorem dX3_movesNeededFor_63 : decode cX3_movesNeededFor 63 = .ok (.if_icmp .eq 43, 3) := by decide +kernel
theorem dX3_movesNeededFor_66 : decode cX3_movesNeededFor 66 = .ok (.aload_n 0, 1) := by decide +kernel
theorem dX3_movesNeededFor_67 : decode cX3_movesNeededFor 67 = .ok (.getfield 28, 3) := by decide +kernel
theorem dX3_movesNeededFor_70 : decode cX3_movesNeededFor 70 = .ok (.iload 4, 2) := by decide +kernel
theorem dX3_movesNeededFor_72 : decode cX3_movesNeededFor 72 = .ok (.iaload, 1) := by decide +kernel
theorem dX3_movesNeededFor_73 : decode cX3_movesNeededFor 73 = .ok (.ifCond .le 33, 3) := by decide +kernel
theorem dX3_movesNeededFor_76 : decode cX3_movesNeededFor 76 = .ok (.iinc 2 1, 3) := by decide +kernel
theorem dX3_movesNeededFor_79 : decode cX3_movesNeededFor 79 = .ok (.iload_n 3, 1) := by decide +kernel
theorem dX3_movesNeededFor_80 : decode cX3_movesNeededFor 80 = .ok (.ifCond .ne 20, 3) := by decide +kernel
theorem dX3_movesNeededFor_83 : decode cX3_movesNeededFor 83 = .ok (.aload_n 0, 1) := by decide +kernel
theorem dX3_movesNeededFor_84 : decode cX3_movesNeededFor 84 = .ok (.getfield 35, 3) := by decide +kernel
theorem dX3_movesNeededFor_87 : decode cX3_movesNeededFor 87 = .ok (.iload 4, 2) := by decide +kernel
theorem dX3_movesNeededFor_89 : decode cX3_movesNeededFor 89 = .ok (.iaload, 1) := by decide +kernel
theorem dX3_movesNeededFor_90 : decode cX3_movesNeededFor 90 = .ok (.aload_n 0, 1) := by decide +kernel
theorem dX3_movesNeededFor_91 : decode cX3_movesNeededFor 91 = .ok (.getfield 28, 3) := by decide +kernel
theorem dX3_movesNeededFor_94 : decode cX3_movesNeededFor 94 = .ok (.iload 4, 2) := by decide +kernel
theorem dX3_movesNeededFor_96 : decode cX3_movesNeededFor 96 = .ok (.iaload, 1) := by decide +kernel
theorem dX3_movesNeededFor_97 : decode cX3_movesNeededFor 97 = .ok (.if_icmp .ge 7, 3) := by decide +kernel
theorem dX3_movesNeededFor_100 : decode cX3_movesNeededFor 100 = .ok (.iconst 1, 1) := by decide +kernel
theorem dX3_movesNeededFor_101 : decode cX3_movesNeededFor 101 = .ok (.goto 4, 3) := by decide +kernel
theorem dX3_movesNeededFor_104 : decode cX3_movesNeededFor 104 = .ok (.iconst 0, 1) := by decide +kernel
theorem dX3_movesNeededFor_105 : decode cX3_movesNeededFor 105 = .ok (.istore_n 3, 1) := by decide +kernel
theorem dX3_movesNeededFor_106 : decode cX3_movesNeededFor 106 = .ok (.iinc 4 1, 3) := by decide +kernel
theorem dX3_movesNeededFor_109 : decode cX3_movesNeededFor 109 = .ok (.goto (-61), 3) := by decide +kernel
theorem dX3_movesNeededFor_112 : decode cX3_movesNeededFor 112 = .ok (.iload_n 3, 1) := by decide +kernel
theorem dX3_movesNeededFor_113 : decode cX3_movesNeededFor 113 = .ok (.ifCond .eq 9, 3) := by decide +kernel
theorem dX3_movesNeededFor_116 : decode cX3_movesNeededFor 116 = .ok (.iload_n 2, 1) := by decide +kernel
theorem dX3_movesNeededFor_117 : decode cX3_movesNeededFor 117 = .ok (.iconst 1, 1) := by decide +kernel
theorem dX3_movesNeededFor_118 : decode cX3_movesNeededFor 118 = .ok (.iadd, 1) := by decide +kernel
theorem dX3_movesNeededFor_119 : decode cX3_movesNeededFor 119 = .ok (.goto 4, 3) := by decide +kernel
theorem dX3_movesNeededFor_122 : decode cX3_movesNeededFor 122 = .ok (.iload_n 2, 1) := by decide +kernel
theorem dX3_movesNeededFor_123 : decode cX3_movesNeededFor 123 = .ok (.ireturn, 1) := by decide +kernel
theorem dX4_init_0 : decode cX4_init 0 = .ok (.aload_n 0, 1) := by decide +kernel
theorem dX4_init_1 : decode cX4_init 1 = .ok (.invokespecial 3, 3) := by decide +kernel
theorem dX4_init_4 : decode cX4_init 4 = .ok (.aload_n 0, 1) := by decide +kernel
theorem dX4_init_5 : decode cX4_init 5 = .ok (.bipush 60, 2) := by decide +kernel
theorem dX4_init_7 : decode cX4_init 7 = .ok (.newarray .int, 2) := by decide +kernel
theorem dX4_init_9 : decode cX4_init 9 = .ok (.putfield 9, 3) := by decide +kernel
theorem dX4_init_12 : decode cX4_init 12 = .ok (.aload_n 0, 1) := by decide +kernel
theorem dX4_init_13 : decode cX4_init 13 = .ok (.bipush 10, 2) := by decide +kernel
theorem dX4_init_15 : decode cX4_init 15 = .ok (.newarray .int, 2) := by decide +kernel
theorem dX4_init_17 : decode cX4_init 17 = .ok (.putfield 15, 3) := by decide +kernel
theorem dX4_init_20 : decode cX4_init 20 = .ok (.aload_n 0, 1) := by decide +kernel
theorem dX4_init_21 : decode cX4_init 21 = .ok (.bipush (-9), 2) := by decide +kernel
theorem dX4_init_23 : decode cX4_init 23 = .ok (.putfield 18, 3) := by decide +kernel
theorem dX4_init_26 : decode cX4_init 26 = .ok (.aload_n 0, 1) := by decide +kernel
theorem dX4_init_27 : decode cX4_init 27 = .ok (.bipush (-9), 2) := by decide +kernel
theorem dX4_init_29 : decode cX4_init 29 = .ok (.putfield 22, 3) := by decide +kernel
theorem dX4_init_32 : decode cX4_init 32 = .ok (.return_, 1) := by decide +kernel
theorem dX4_append_0 : decode cX4_append 0 = .ok (.aload_n 0, 1) := by decide +kernel
theorem dX4_append_1 : decode cX4_append 1 = .ok (.getfield 9, 3) := by decide +kernel
theorem dX4_append_4 : decode cX4_append 4 = .ok (.aload_n 0, 1) := by decide +kernel
theorem dX4_append_5 : decode cX4_append 5 = .ok (.getfield 25, 3) := by decide +kernel
theorem dX4_append_8 : decode cX4_append 8 = .ok (.iload_n 1, 1) := by decide +kernel
theorem dX4_append_9 : decode cX4_append 9 = .ok (.iastore, 1) := by decide +kernel
theorem dX4_append_10 : decode cX4_append 10 = .ok (.aload_n 0, 1) := by decide +kernel
theorem dX4_append_11 : decode cX4_append 11 = .ok (.dup, 1) := by decide +kernel
theorem dX4_append_12 : decode cX4_append 12 = .ok (.getfield 25, 3) := by decide +kernel
theorem dX4_append_15 : decode cX4_append 15 = .ok (.iconst 1, 1) := by decide +kernel
theorem dX4_append_16 : decode cX4_append 16 = .ok (.iadd, 1) := by decide +kernel
theorem dX4_append_17 : decode cX4_append 17 = .ok (.putfield 25, 3) := by decide +kernel
theorem dX4_append_20 : decode cX4_append 20 = .ok (.return_, 1) := by decide +kernel
theorem dX4_readWagons_0 : decode cX4_readWagons 0 = .ok (.aload_n 0, 1) := by decide +kernel
theorem dX4_readWagons_1 : decode cX4_readWagons 1 = .ok (.iconst 0, 1) := by decide +kernel
theorem dX4_readWagons_2 : decode cX4_readWagons 2 = .ok (.putfield 28, 3) := by decide +kernel
theorem dX4_readWagons_5 : decode cX4_readWagons 5 = .ok (.iconst 0, 1) := by decide +kernel
theorem dX4_readWagons_6 : decode cX4_readWagons 6 = .ok (.istore_n 1, 1) := by decide +kernel
theorem dX4_readWagons_7 : decode cX4_readWagons 7 = .ok (.iconst 1, 1) := by decide +kernel
theorem dX4_readWagons_8 : decode cX4_readWagons 8 = .ok (.istore_n 2, 1) := by decide +kernel
theorem dX4_readWagons_9 : decode cX4_readWagons 9 = .ok (.iconst 0, 1) := by decide +kernel
theorem dX4_readWagons_10 : decode cX4_readWagons 10 = .ok (.istore_n 3, 1) := by decide +kernel
theorem dX4_readWagons_11 : decode cX4_readWagons 11 = .ok (.iconst 0, 1) := by decide +kernel
theorem dX4_readWagons_12 : decode cX4_readWagons 12 = .ok (.istore 4, 2) := by decide +kernel
theorem dX4_readWagons_14 : decode cX4_readWagons 14 = .ok (.iload 4, 2) := by decide +kernel
theorem dX4_readWagons_16 : decode cX4_readWagons 16 = .ok (.aload_n 0, 1) := by decide +kernel
theorem dX4_readWagons_17 : decode cX4_readWagons 17 = .ok (.getfield 25, 3) := by decide +kernel
theorem dX4_readWagons_20 : decode cX4_readWagons 20 = .ok (.if_icmp .ge 190, 3) := by decide +kernel
theorem dX4_readWagons_23 : decode cX4_readWagons 23 = .ok (.aload_n 0, 1) := by decide +kernel
theorem dX4_readWagons_24 : decode cX4_readWagons 24 = .ok (.getfield 9, 3) := by decide +kernel
theorem dX4_readWagons_27 : decode cX4_readWagons 27 = .ok (.iload 4, 2) := by decide +kernel
theorem dX4_readWagons_29 : decode cX4_readWagons 29 = .ok (.iaload, 1) := by decide +kernel
theorem dX4_readWagons_30 : decode cX4_readWagons 30 = .ok (.istore 5, 2) := by decide +kernel
theorem dX4_readWagons_32 : decode cX4_readWagons 32 = .ok (.iload 5, 2) := by decide +kernel
theorem dX4_readWagons_34 : decode cX4_readWagons 34 = .ok (.bipush 32, 2) := by decide +kernel
theorem dX4_readWagons_36 : decode cX4_readWagons 36 = .ok (.if_icmp .ne 15, 3) := by decide +kernel
theorem dX4_readWagons_39 : decode cX4_readWagons 39 = .ok (.iload_n 1, 1) := by decide +kernel
theorem dX4_readWagons_40 : decode cX4_readWagons 40 = .ok (.iconst 1, 1) := by decide +kernel
theorem dX4_readWagons_41 : decode cX4_readWagons 41 = .ok (.if_icmp .eq 10, 3) := by decide +kernel
theorem dX4_readWagons_44 : decode cX4_readWagons 44 = .ok (.iconst 0, 1) := by decide +kernel
theorem dX4_readWagons_45 : decode cX4_readWagons 45 = .ok (.istore_n 1, 1) := by decide +kernel
theorem dX4_readWagons_46 : decode cX4_readWagons 46 = .ok (.iconst 1, 1) := by decide +kernel
theorem dX4_readWagons_47 : decode cX4_readWagons 47 = .ok (.istore_n 2, 1) := by decide +kernel
theorem dX4_readWagons_48 : decode cX4_readWagons 48 = .ok (.goto 156, 3) := by decide +kernel
theorem dX4_readWagons_51 : decode cX4_readWagons 51 = .ok (.iload 5, 2) := by decide +kernel
theorem dX4_readWagons_53 : decode cX4_readWagons 53 = .ok (.bipush 49, 2) := by decide +kernel
theorem dX4_readWagons_55 : decode cX4_readWagons 55 = .ok (.bipush 56, 2) := by decide +kernel
theorem dX4_readWagons_57 : decode cX4_readWagons 57 = .ok (.invokestatic 31, 3) := by decide +kernel
theorem dX4_readWagons_60 : decode cX4_readWagons 60 = .ok (.ifCond .eq 18, 3) := by decide +kernel
theorem dX4_readWagons_63 : decode cX4_readWagons 63 = .ok (.iload_n 1, 1) := by decide +kernel
theorem dX4_readWagons_64 : decode cX4_readWagons 64 = .ok (.ifCond .ne 14, 3) := by decide +kernel
theorem dX4_readWagons_67 : decode cX4_readWagons 67 = .ok (.iconst 1, 1) := by decide +kernel
theorem dX4_readWagons_68 : decode cX4_readWagons 68 = .ok (.istore_n 1, 1) := by decide +kernel
theorem dX4_readWagons_69 : decode cX4_readWagons 69 = .ok (.iload 5, 2) := by decide +kernel
theorem dX4_readWagons_71 : decode cX4_readWagons 71 = .ok (.bipush 48, 2) := by decide +kernel
theorem dX4_readWagons_73 : decode cX4_readWagons 73 = .ok (.isub, 1) := by decide +kernel
theorem dX4_readWagons_74 : decode cX4_readWagons 74 = .ok (.istore_n 2, 1) := by decide +kernel
theorem dX4_readWagons_75 : decode cX4_readWagons 75 = .ok (.goto 129, 3) := by decide +kernel
theorem dX4_readWagons_78 : decode cX4_readWagons 78 = .ok (.iload 5, 2) := by decide +kernel
theorem dX4_readWagons_80 : decode cX4_readWagons 80 = .ok (.bipush 65, 2) := by decide +kernel
theorem dX4_readWagons_82 : decode cX4_readWagons 82 = .ok (.bipush 70, 2) := by decide +kernel
theorem dX4_readWagons_84 : decode cX4_readWagons 84 = .ok (.invokestatic 31, 3) := by decide +kernel
theorem dX4_readWagons_87 : decode cX4_readWagons 87 = .ok (.ifCond .eq 63, 3) := by decide +kernel
theorem dX4_readWagons_90 : decode cX4_readWagons 90 = .ok (.iload_n 1, 1) := by decide +kernel
theorem dX4_readWagons_91 : decode cX4_readWagons 91 = .ok (.ifCond .eq 8, 3) := by decide +kernel
theorem dX4_readWagons_94 : decode cX4_readWagons 94 = .ok (.iload_n 1, 1) := by decide +kernel
theorem dX4_readWagons_95 : decode cX4_readWagons 95 = .ok (.iconst 1, 1) := by decide +kernel
theorem dX4_readWagons_96 : decode cX4_readWagons 96 = .ok (.if_icmp .ne 54, 3) := by decide +kernel
theorem dX4_readWagons_99 : decode cX4_readWagons 99 = .ok (.aload_n 0, 1) := by decide +kernel
theorem dX4_readWagons_100 : decode cX4_readWagons 100 = .ok (.getfield 28, 3) := by decide +kernel
theorem dX4_readWagons_103 : decode cX4_readWagons 103 = .ok (.iload_n 2, 1) := by decide +kernel
theorem dX4_readWagons_104 : decode cX4_readWagons 104 = .ok (.iadd, 1) := by decide +kernel
theorem dX4_readWagons_105 : decode cX4_readWagons 105 = .ok (.bipush 8, 2) := by decide +kernel
theorem dX4_readWagons_107 : decode cX4_readWagons 107 = .ok (.if_icmp .le 11, 3) := by decide +kernel
theorem dX4_readWagons_110 : decode cX4_readWagons 110 = .ok (.aload_n 0, 1) := by decide +kernel
theorem dX4_readWagons_111 : decode cX4_readWagons 111 = .ok (.iconst 3, 1) := by decide +kernel
theorem dX4_readWagons_112 : decode cX4_readWagons 112 = .ok (.iload 4, 2) := by decide +kernel
theorem dX4_readWagons_114 : decode cX4_readWagons 114 = .ok (.invokevirtual 35, 3) := by decide +kernel
theorem dX4_readWagons_117 : decode cX4_readWagons 117 = .ok (.ireturn, 1) := by decide +kernel
theorem dX4_readWagons_118 : decode cX4_readWagons 118 = .ok (.iconst 2, 1) := by decide +kernel
theorem dX4_readWagons_119 : decode cX4_readWagons 119 = .ok (.istore_n 1, 1) := by decide +kernel
theorem dX4_readWagons_120 : decode cX4_readWagons 120 = .ok (.iload 5, 2) := by decide +kernel
theorem dX4_readWagons_122 : decode cX4_readWagons 122 = .ok (.bipush 65, 2) := by decide +kernel
theorem dX4_readWagons_124 : decode cX4_readWagons 124 = .ok (.isub, 1) := by decide +kernel
theorem dX4_readWagons_125 : decode cX4_readWagons 125 = .ok (.istore_n 3, 1) := by decide +kernel
theorem dX4_readWagons_126 : decode cX4_readWagons 126 = .ok (.aload_n 0, 1) := by decide +kernel
theorem dX4_readWagons_127 : decode cX4_readWagons 127 = .ok (.dup, 1) := by decide +kernel
theorem dX4_readWagons_128 : decode cX4_readWagons 128 = .ok (.getfield 28, 3) := by decide +kernel
theorem dX4_readWagons_131 : decode cX4_readWagons 131 = .ok (.iload_n 2, 1) := by decide +kernel
theorem dX4_readWagons_132 : decode cX4_readWagons 132 = .ok (.iadd, 1) := by decide +kernel
theorem dX4_readWagons_133 : decode cX4_readWagons 133 = .ok (.putfield 28, 3) := by decide +kernel
theorem dX4_readWagons_136 : decode cX4_readWagons 136 = .ok (.aload_n 0, 1) := by decide +kernel
theorem dX4_readWagons_137 : decode cX4_readWagons 137 = .ok (.iload_n 2, 1) := by decide +kernel
theorem dX4_readWagons_138 : decode cX4_readWagons 138 = .ok (.iconst 0, 1) := by decide +kernel
theorem dX4_readWagons_139 : decode cX4_readWagons 139 = .ok (.iload_n 3, 1) := by decide +kernel
theorem dX4_readWagons_140 : decode cX4_readWagons 140 = .ok (.iconst 0, 1) := by decide +kernel
theorem dX4_readWagons_141 : decode cX4_readWagons 141 = .ok (.invokestatic 39, 3) := by decide +kernel
theorem dX4_readWagons_144 : decode cX4_readWagons 144 = .ok (.invokevirtual 43, 3) := by decide +kernel
theorem dX4_readWagons_147 : decode cX4_readWagons 147 = .ok (.goto 57, 3) := by decide +kernel
theorem dX4_readWagons_150 : decode cX4_readWagons 150 = .ok (.iload 5, 2) := by decide +kernel
theorem dX4_readWagons_152 : decode cX4_readWagons 152 = .ok (.bipush 102, 2) := by decide +kernel
theorem dX4_readWagons_154 : decode cX4_readWagons 154 = .ok (.if_icmp .eq 10, 3) := by decide +kernel
theorem dX4_readWagons_157 : decode cX4_readWagons 157 = .ok (.iload 5, 2) := by decide +kernel
theorem dX4_readWagons_159 : decode cX4_readWagons 159 = .ok (.bipush 120, 2) := by decide +kernel
theorem dX4_readWagons_161 : decode cX4_readWagons 161 = .ok (.if_icmp .ne 35, 3) := by decide +kernel
theorem dX4_readWagons_164 : decode cX4_readWagons 164 = .ok (.iload_n 1, 1) := by decide +kernel
theorem dX4_readWagons_165 : decode cX4_readWagons 165 = .ok (.iconst 2, 1) := by decide +kernel
theorem dX4_readWagons_166 : decode cX4_readWagons 166 = .ok (.if_icmp .ne 30, 3) := by decide +kernel
theorem dX4_readWagons_169 : decode cX4_readWagons 169 = .ok (.iconst 3, 1) := by decide +kernel
theorem dX4_readWagons_170 : decode cX4_readWagons 170 = .ok (.istore_n 1, 1) := by decide +kernel
theorem dX4_readWagons_171 : decode cX4_readWagons 171 = .ok (.aload_n 0, 1) := by decide +kernel
theorem dX4_readWagons_172 : decode cX4_readWagons 172 = .ok (.iload_n 2, 1) := by decide +kernel
theorem dX4_readWagons_173 : decode cX4_readWagons 173 = .ok (.iconst 0, 1) := by decide +kernel
theorem dX4_readWagons_174 : decode cX4_readWagons 174 = .ok (.iload_n 3, 1) := by decide +kernel
theorem dX4_readWagons_175 : decode cX4_readWagons 175 = .ok (.iload 5, 2) := by decide +kernel
theorem dX4_readWagons_177 : decode cX4_readWagons 177 = .ok (.bipush 102, 2) := by decide +kernel
theorem dX4_readWagons_179 : decode cX4_readWagons 179 = .ok (.if_icmp .ne 7, 3) := by decide +kernel
theorem dX4_readWagons_182 : decode cX4_readWagons 182 = .ok (.iconst 1, 1) := by decide +kernel
theorem dX4_readWagons_183 : decode cX4_readWagons 183 = .ok (.goto 4, 3) := by decide +kernel
theorem dX4_readWagons_186 : decode cX4_readWagons 186 = .ok (.iconst 2, 1) := by decide +kernel
theorem dX4_readWagons_187 : decode cX4_readWagons 187 = .ok (.invokestatic 39, 3) := by decide +kernel
theorem dX4_readWagons_190 : decode cX4_readWagons 190 = .ok (.invokevirtual 43, 3) := by decide +kernel
theorem dX4_readWagons_193 : decode cX4_readWagons 193 = .ok (.goto 11, 3) := by decide +kernel
theorem dX4_readWagons_196 : decode cX4_readWagons 196 = .ok (.aload_n 0, 1) := by decide +kernel
theorem dX4_readWagons_197 : decode cX4_readWagons 197 = .ok (.iconst 1, 1) := by decide +kernel
theorem dX4_readWagons_198 : decode cX4_readWagons 198 = .ok (.iload 4, 2) := by decide +kernel
theorem dX4_readWagons_200 : decode cX4_readWagons 200 = .ok (.invokevirtual 35, 3) := by decide +kernel
theorem dX4_readWagons_203 : decode cX4_readWagons 203 = .ok (.ireturn, 1) := by decide +kernel
theorem dX4_readWagons_204 : decode cX4_readWagons 204 = .ok (.iinc 4 1, 3) := by decide +kernel
theorem dX4_readWagons_207 : decode cX4_readWagons 207 = .ok (.goto (-193), 3) := by decide +kernel
theorem dX4_readWagons_210 : decode cX4_readWagons 210 = .ok (.iload_n 1, 1) := by decide +kernel
theorem dX4_readWagons_211 : decode cX4_readWagons 211 = .ok (.iconst 1, 1) := by decide +kernel
theorem dX4_readWagons_212 : decode cX4_readWagons 212 = .ok (.if_icmp .ne 15, 3) := by decide +kernel
theorem dX4_readWagons_215 : decode cX4_readWagons 215 = .ok (.aload_n 0, 1) := by decide +kernel
theorem dX4_readWagons_216 : decode cX4_readWagons 216 = .ok (.iconst 2, 1) := by decide +kernel
theorem dX4_readWagons_217 : decode cX4_readWagons 217 = .ok (.aload_n 0, 1) := by decide +kernel
theorem dX4_readWagons_218 : decode cX4_readWagons 218 = .ok (.getfield 25, 3) := by decide +kernel
theorem dX4_readWagons_221 : decode cX4_readWagons 221 = .ok (.invokevirtual 35, 3) := by decide +kernel
theorem dX4_readWagons_224 : decode cX4_readWagons 224 = .ok (.ifCond .eq 7, 3) := by decide +kernel
theorem dX4_readWagons_227 : decode cX4_readWagons 227 = .ok (.iconst 1, 1) := by decide +kernel
theorem dX4_readWagons_228 : decode cX4_readWagons 228 = .ok (.goto 4, 3) := by decide +kernel
theorem dX4_readWagons_231 : decode cX4_readWagons 231 = .ok (.iconst 0, 1) := by decide +kernel
theorem dX4_readWagons_232 : decode cX4_readWagons 232 = .ok (.ireturn, 1) := by decide +kernel
theorem dX4_fillLatest_0 : decode cX4_fillLatest 0 = .ok (.aload_n 0, 1) := by decide +kernel
theorem dX4_fillLatest_1 : decode cX4_fillLatest 1 = .ok (.getfield 28, 3) := by decide +kernel
theorem dX4_fillLatest_4 : decode cX4_fillLatest 4 = .ok (.iload_n 1, 1) := by decide +kernel
theorem dX4_fillLatest_5 : decode cX4_fillLatest 5 = .ok (.isub, 1) := by decide +kernel
theorem dX4_fillLatest_6 : decode cX4_fillLatest 6 = .ok (.istore_n 3, 1) := by decide +kernel
theorem dX4_fillLatest_7 : decode cX4_fillLatest 7 = .ok (.iload_n 3, 1) := by decide +kernel
theorem dX4_fillLatest_8 : decode cX4_fillLatest 8 = .ok (.aload_n 0, 1) := by decide +kernel
theorem dX4_fillLatest_9 : decode cX4_fillLatest 9 = .ok (.getfield 28, 3) := by decide +kernel
theorem dX4_fillLatest_12 : decode cX4_fillLatest 12 = .ok (.if_icmp .ge 16, 3) := by decide +kernel
theorem dX4_fillLatest_15 : decode cX4_fillLatest 15 = .ok (.aload_n 0, 1) := by decide +kernel
theorem dX4_fillLatest_16 : decode cX4_fillLatest 16 = .ok (.getfield 15, 3) := by decide +kernel
theorem dX4_fillLatest_19 : decode cX4_fillLatest 19 = .ok (.iload_n 3, 1) := by decide +kernel
theorem dX4_fillLatest_20 : decode cX4_fillLatest 20 = .ok (.iload_n 2, 1) := by decide +kernel
theorem dX4_fillLatest_21 : decode cX4_fillLatest 21 = .ok (.iastore, 1) := by decide +kernel
theorem dX4_fillLatest_22 : decode cX4_fillLatest 22 = .ok (.iinc 3 1, 3) := by decide +kernel
theorem dX4_fillLatest_25 : decode cX4_fillLatest 25 = .ok (.goto (-18), 3) := by decide +kernel
theorem dX4_fillLatest_28 : decode cX4_fillLatest 28 = .ok (.return_, 1) := by decide +kernel
theorem dX4_readTrains_0 : decode cX4_readTrains 0 = .ok (.aload_n 0, 1) := by decide +kernel
theorem dX4_readTrains_1 : decode cX4_readTrains 1 = .ok (.iconst 0, 1) := by decide +kernel
theorem dX4_readTrains_2 : decode cX4_readTrains 2 = .ok (.putfield 28, 3) := by decide +kernel
theorem dX4_readTrains_5 : decode cX4_readTrains 5 = .ok (.iconst 0, 1) := by decide +kernel
theorem dX4_readTrains_6 : decode cX4_readTrains 6 = .ok (.istore_n 1, 1) := by decide +kernel
theorem dX4_readTrains_7 : decode cX4_readTrains 7 = .ok (.iload_n 1, 1) := by decide +kernel
theorem dX4_readTrains_8 : decode cX4_readTrains 8 = .ok (.aload_n 0, 1) := by decide +kernel
theorem dX4_readTrains_9 : decode cX4_readTrains 9 = .ok (.getfield 25, 3) := by decide +kernel
theorem dX4_readTrains_12 : decode cX4_readTrains 12 = .ok (.if_icmp .ge 82, 3) := by decide +kernel
theorem dX4_readTrains_15 : decode cX4_readTrains 15 = .ok (.aload_n 0, 1) := by decide +kernel
theorem dX4_readTrains_16 : decode cX4_readTrains 16 = .ok (.getfield 9, 3) := by decide +kernel
theorem dX4_readTrains_19 : decode cX4_readTrains 19 = .ok (.iload_n 1, 1) := by decide +kernel
theorem dX4_readTrains_20 : decode cX4_readTrains 20 = .ok (.iaload, 1) := by decide +kernel
theorem dX4_readTrains_21 : decode cX4_readTrains 21 = .ok (.istore_n 2, 1) := by decide +kernel
theorem dX4_readTrains_22 : decode cX4_readTrains 22 = .ok (.iload_n 2, 1) := by decide +kernel
theorem dX4_readTrains_23 : decode cX4_readTrains 23 = .ok (.bipush 32, 2) := by decide +kernel
theorem dX4_readTrains_25 : decode cX4_readTrains 25 = .ok (.if_icmp .ne 6, 3) := by decide +kernel
theorem dX4_readTrains_28 : decode cX4_readTrains 28 = .ok (.goto 60, 3) := by decide +kernel
theorem dX4_readTrains_31 : decode cX4_readTrains 31 = .ok (.iload_n 2, 1) := by decide +kernel
theorem dX4_readTrains_32 : decode cX4_readTrains 32 = .ok (.bipush 65, 2) := by decide +kernel
theorem dX4_readTrains_34 : decode cX4_readTrains 34 = .ok (.bipush 70, 2) := by decide +kernel
theorem dX4_readTrains_36 : decode cX4_readTrains 36 = .ok (.invokestatic 31, 3) := by decide +kernel
theorem dX4_readTrains_39 : decode cX4_readTrains 39 = .ok (.ifCond .ne 10, 3) := by decide +kernel
theorem dX4_readTrains_42 : decode cX4_readTrains 42 = .ok (.aload_n 0, 1) := by decide +kernel
theorem dX4_readTrains_43 : decode cX4_readTrains 43 = .ok (.iconst 1, 1) := by decide +kernel
theorem dX4_readTrains_44 : decode cX4_readTrains 44 = .ok (.iload_n 1, 1) := by decide +kernel
theorem dX4_readTrains_45 : decode cX4_readTrains 45 = .ok (.invokevirtual 35, 3) := by decide +kernel
theorem dX4_readTrains_48 : decode cX4_readTrains 48 = .ok (.ireturn, 1) := by decide +kernel
theorem dX4_readTrains_49 : decode cX4_readTrains 49 = .ok (.aload_n 0, 1) := by decide +kernel
theorem dX4_readTrains_50 : decode cX4_readTrains 50 = .ok (.getfield 28, 3) := by decide +kernel
theorem dX4_readTrains_53 : decode cX4_readTrains 53 = .ok (.bipush 10, 2) := by decide +kernel
theorem dX4_readTrains_55 : decode cX4_readTrains 55 = .ok (.if_icmp .lt 10, 3) := by decide +kernel
theorem dX4_readTrains_58 : decode cX4_readTrains 58 = .ok (.aload_n 0, 1) := by decide +kernel
theorem dX4_readTrains_59 : decode cX4_readTrains 59 = .ok (.iconst 4, 1) := by decide +kernel
theorem dX4_readTrains_60 : decode cX4_readTrains 60 = .ok (.iload_n 1, 1) := by decide +kernel
theorem dX4_readTrains_61 : decode cX4_readTrains 61 = .ok (.invokevirtual 35, 3) := by decide +kernel
theorem dX4_readTrains_64 : decode cX4_readTrains 64 = .ok (.ireturn, 1) := by decide +kernel
theorem dX4_readTrains_65 : decode cX4_readTrains 65 = .ok (.aload_n 0, 1) := by decide +kernel
theorem dX4_readTrains_66 : decode cX4_readTrains 66 = .ok (.getfield 15, 3) := by decide +kernel
theorem dX4_readTrains_69 : decode cX4_readTrains 69 = .ok (.aload_n 0, 1) := by decide +kernel
theorem dX4_readTrains_70 : decode cX4_readTrains 70 = .ok (.getfield 28, 3) := by decide +kernel
theorem dX4_readTrains_73 : decode cX4_readTrains 73 = .ok (.iload_n 2, 1) := by decide +kernel
theorem dX4_readTrains_74 : decode cX4_readTrains 74 = .ok (.bipush 65, 2) := by decide +kernel
theorem dX4_readTrains_76 : decode cX4_readTrains 76 = .ok (.isub, 1) := by decide +kernel
theorem dX4_readTrains_77 : decode cX4_readTrains 77 = .ok (.iastore, 1) := by decide +kernel
theorem dX4_readTrains_78 : decode cX4_readTrains 78 = .ok (.aload_n 0, 1) := by decide +kernel
theorem dX4_readTrains_79 : decode cX4_readTrains 79 = .ok (.dup, 1) := by decide +kernel
theorem dX4_readTrains_80 : decode cX4_readTrains 80 = .ok (.getfield 28, 3) := by decide +kernel
theorem dX4_readTrains_83 : decode cX4_readTrains 83 = .ok (.iconst 1, 1) := by decide +kernel
theorem dX4_readTrains_84 : decode cX4_readTrains 84 = .ok (.iadd, 1) := by decide +kernel
theorem dX4_readTrains_85 : decode cX4_readTrains 85 = .ok (.putfield 28, 3) := by decide +kernel
theorem dX4_readTrains_88 : decode cX4_readTrains 88 = .ok (.iinc 1 1, 3) := by decide +kernel
theorem dX4_readTrains_91 : decode cX4_readTrains 91 = .ok (.goto (-84), 3) := by decide +kernel
theorem dX4_readTrains_94 : decode cX4_readTrains 94 = .ok (.iconst 1, 1) := by decide +kernel
theorem dX4_readTrains_95 : decode cX4_readTrains 95 = .ok (.ireturn, 1) := by decide +kernel
theorem dX4_foundFault_0 : decode cX4_foundFault 0 = .ok (.aload_n 0, 1) := by decide +kernel
theorem dX4_foundFault_1 : decode cX4_foundFault 1 = .ok (.iload_n 1, 1) := by decide +kernel
theorem dX4_foundFault_2 : decode cX4_foundFault 2 = .ok (.putfield 18, 3) := by decide +kernel
theorem dX4_foundFault_5 : decode cX4_foundFault 5 = .ok (.aload_n 0, 1) := by decide +kernel
theorem dX4_foundFault_6 : decode cX4_foundFault 6 = .ok (.iload_n 2, 1) := by decide +kernel
theorem dX4_foundFault_7 : decode cX4_foundFault 7 = .ok (.putfield 22, 3) := by decide +kernel
theorem dX4_foundFault_10 : decode cX4_foundFault 10 = .ok (.iconst 0, 1) := by decide +kernel
theorem dX4_foundFault_11 : decode cX4_foundFault 11 = .ok (.ireturn, 1) := by decide +kernel
theorem dX5_init_0 : decode cX5_init 0 = .ok (.aload_n 0, 1) := by decide +kernel
theorem dX5_init_1 : decode cX5_init 1 = .ok (.invokespecial 3, 3) := by decide +kernel
theorem dX5_init_4 : decode cX5_init 4 = .ok (.aload_n 0, 1) := by decide +kernel
theorem dX5_init_5 : decode cX5_init 5 = .ok (.iconst 3, 1) := by decide +kernel
theorem dX5_init_6 : decode cX5_init 6 = .ok (.putfield 9, 3) := by decide +kernel
theorem dX5_init_9 : decode cX5_init 9 = .ok (.aload_n 0, 1) := by decide +kernel
theorem dX5_init_10 : decode cX5_init 10 = .ok (.bipush 6, 2) := by decide +kernel
theorem dX5_init_12 : decode cX5_init 12 = .ok (.putfield 15, 3) := by decide +kernel
theorem dX5_init_15 : decode cX5_init 15 = .ok (.aload_n 0, 1) := by decide +kernel
theorem dX5_init_16 : decode cX5_init 16 = .ok (.iconst 4, 1) := by decide +kernel
theorem dX5_init_17 : decode cX5_init 17 = .ok (.newarray .int, 2) := by decide +kernel
theorem dX5_init_19 : decode cX5_init 19 = .ok (.dup, 1) := by decide +kernel
theorem dX5_init_20 : decode cX5_init 20 = .ok (.iconst 0, 1) := by decide +kernel
theorem dX5_init_21 : decode cX5_init 21 = .ok (.iconst 1, 1) := by decide +kernel
theorem dX5_init_22 : decode cX5_init 22 = .ok (.iastore, 1) := by decide +kernel
theorem dX5_init_23 : decode cX5_init 23 = .ok (.dup, 1) := by decide +kernel
theorem dX5_init_24 : decode cX5_init 24 = .ok (.iconst 1, 1) := by decide +kernel
theorem dX5_init_25 : decode cX5_init 25 = .ok (.bipush 120, 2) := by decide +kernel
theorem dX5_init_27 : decode cX5_init 27 = .ok (.iastore, 1) := by decide +kernel
theorem dX5_init_28 : decode cX5_init 28 = .ok (.dup, 1) := by decide +kernel
theorem dX5_init_29 : decode cX5_init 29 = .ok (.iconst 2, 1) := by decide +kernel
theorem dX5_init_30 : decode cX5_init 30 = .ok (.iconst 4, 1) := by decide +kernel
theorem dX5_init_31 : decode cX5_init 31 = .ok (.iastore, 1) := by decide +kernel
theorem dX5_init_32 : decode cX5_init 32 = .ok (.dup, 1) := by decide +kernel
theorem dX5_init_33 : decode cX5_init 33 = .ok (.iconst 3, 1) := by decide +kernel
theorem dX5_init_34 : decode cX5_init 34 = .ok (.iconst 5, 1) := by decide +kernel
theorem dX5_init_35 : decode cX5_init 35 = .ok (.iastore, 1) := by decide +kernel
theorem dX5_init_36 : decode cX5_init 36 = .ok (.putfield 18, 3) := by decide +kernel
theorem dX5_init_39 : decode cX5_init 39 = .ok (.aload_n 0, 1) := by decide +kernel
theorem dX5_init_40 : decode cX5_init 40 = .ok (.bipush 10, 2) := by decide +kernel
theorem dX5_init_42 : decode cX5_init 42 = .ok (.newarray .int, 2) := by decide +kernel
theorem dX5_init_44 : decode cX5_init 44 = .ok (.putfield 22, 3) := by decide +kernel
theorem dX5_init_47 : decode cX5_init 47 = .ok (.aload_n 0, 1) := by decide +kernel
theorem dX5_init_48 : decode cX5_init 48 = .ok (.iconst 4, 1) := by decide +kernel
theorem dX5_init_49 : decode cX5_init 49 = .ok (.newarray .int, 2) := by decide +kernel
theorem dX5_init_51 : decode cX5_init 51 = .ok (.putfield 25, 3) := by decide +kernel
theorem dX5_init_54 : decode cX5_init 54 = .ok (.aload_n 0, 1) := by decide +kernel
theorem dX5_init_55 : decode cX5_init 55 = .ok (.iconst 4, 1) := by decide +kernel
theorem dX5_init_56 : decode cX5_init 56 = .ok (.newarray .int, 2) := by decide +kernel
theorem dX5_init_58 : decode cX5_init 58 = .ok (.dup, 1) := by decide +kernel
theorem dX5_init_59 : decode cX5_init 59 = .ok (.iconst 0, 1) := by decide +kernel
theorem dX5_init_60 : decode cX5_init 60 = .ok (.iconst (-1), 1) := by decide +kernel
theorem dX5_init_61 : decode cX5_init 61 = .ok (.iastore, 1) := by decide +kernel
theorem dX5_init_62 : decode cX5_init 62 = .ok (.dup, 1) := by decide +kernel
theorem dX5_init_63 : decode cX5_init 63 = .ok (.iconst 1, 1) := by decide +kernel
theorem dX5_init_64 : decode cX5_init 64 = .ok (.iconst (-1), 1) := by decide +kernel
theorem dX5_init_65 : decode cX5_init 65 = .ok (.iastore, 1) := by decide +kernel
theorem dX5_init_66 : decode cX5_init 66 = .ok (.dup, 1) := by decide +kernel
theorem dX5_init_67 : decode cX5_init 67 = .ok (.iconst 2, 1) := by decide +kernel
theorem dX5_init_68 : decode cX5_init 68 = .ok (.iconst (-1), 1) := by decide +kernel
theorem dX5_init_69 : decode cX5_init 69 = .ok (.iastore, 1) := by decide +kernel
theorem dX5_init_70 : decode cX5_init 70 = .ok (.dup, 1) := by decide +kernel
theorem dX5_init_71 : decode cX5_init 71 = .ok (.iconst 3, 1) := by decide +kernel
theorem dX5_init_72 : decode cX5_init 72 = .ok (.iconst (-1), 1) := by decide +kernel
theorem dX5_init_73 : decode cX5_init 73 = .ok (.iastore, 1) := by decide +kernel
theorem dX5_init_74 : decode cX5_init 74 = .ok (.putfield 28, 3) := by decide +kernel
theorem dX5_init_77 : decode cX5_init 77 = .ok (.aload_n 0, 1) := by decide +kernel
theorem dX5_init_78 : decode cX5_init 78 = .ok (.bipush 32, 2) := by decide +kernel
theorem dX5_init_80 : decode cX5_init 80 = .ok (.newarray .int, 2) := by decide +kernel
theorem dX5_init_82 : decode cX5_init 82 = .ok (.putfield 31, 3) := by decide +kernel
theorem dX5_init_85 : decode cX5_init 85 = .ok (.aload_n 0, 1) := by decide +kernel
theorem dX5_init_86 : decode cX5_init 86 = .ok (.new 34, 3) := by decide +kernel
theorem dX5_init_89 : decode cX5_init 89 = .ok (.dup, 1) := by decide +kernel
theorem dX5_init_90 : decode cX5_init 90 = .ok (.invokespecial 36, 3) := by decide +kernel
theorem dX5_init_93 : decode cX5_init 93 = .ok (.putfield 37, 3) := by decide +kernel
theorem dX5_init_96 : decode cX5_init 96 = .ok (.return_, 1) := by decide +kernel
theorem dX5_copyFrom_0 : decode cX5_copyFrom 0 = .ok (.aload_n 0, 1) := by decide +kernel
theorem dX5_copyFrom_1 : decode cX5_copyFrom 1 = .ok (.aload_n 1, 1) := by decide +kernel
theorem dX5_copyFrom_2 : decode cX5_copyFrom 2 = .ok (.getfield 9, 3) := by decide +kernel
theorem dX5_copyFrom_5 : decode cX5_copyFrom 5 = .ok (.putfield 9, 3) := by decide +kernel
