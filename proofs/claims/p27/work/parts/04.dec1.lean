theorem dX5_copyFrom_8 : decode cX5_copyFrom 8 = .ok (.aload_n 0, 1) := by decide +kernel
theorem dX5_copyFrom_9 : decode cX5_copyFrom 9 = .ok (.aload_n 1, 1) := by decide +kernel
theorem dX5_copyFrom_10 : decode cX5_copyFrom 10 = .ok (.getfield 15, 3) := by decide +kernel
theorem dX5_copyFrom_13 : decode cX5_copyFrom 13 = .ok (.putfield 15, 3) := by decide +kernel
theorem dX5_copyFrom_16 : decode cX5_copyFrom 16 = .ok (.aload_n 0, 1) := by decide +kernel
theorem dX5_copyFrom_17 : decode cX5_copyFrom 17 = .ok (.aload_n 1, 1) := by decide +kernel
theorem dX5_copyFrom_18 : decode cX5_copyFrom 18 = .ok (.getfield 41, 3) := by decide +kernel
theorem dX5_copyFrom_21 : decode cX5_copyFrom 21 = .ok (.putfield 41, 3) := by decide +kernel
theorem dX5_copyFrom_24 : decode cX5_copyFrom 24 = .ok (.aload_n 0, 1) := by decide +kernel
theorem dX5_copyFrom_25 : decode cX5_copyFrom 25 = .ok (.aload_n 1, 1) := by decide +kernel
theorem dX5_copyFrom_26 : decode cX5_copyFrom 26 = .ok (.getfield 44, 3) := by decide +kernel
theorem dX5_copyFrom_29 : decode cX5_copyFrom 29 = .ok (.putfield 44, 3) := by decide +kernel
theorem dX5_copyFrom_32 : decode cX5_copyFrom 32 = .ok (.aload_n 0, 1) := by decide +kernel
theorem dX5_copyFrom_33 : decode cX5_copyFrom 33 = .ok (.aload_n 1, 1) := by decide +kernel
theorem dX5_copyFrom_34 : decode cX5_copyFrom 34 = .ok (.getfield 47, 3) := by decide +kernel
theorem dX5_copyFrom_37 : decode cX5_copyFrom 37 = .ok (.putfield 47, 3) := by decide +kernel
theorem dX5_copyFrom_40 : decode cX5_copyFrom 40 = .ok (.aload_n 0, 1) := by decide +kernel
theorem dX5_copyFrom_41 : decode cX5_copyFrom 41 = .ok (.aload_n 1, 1) := by decide +kernel
theorem dX5_copyFrom_42 : decode cX5_copyFrom 42 = .ok (.getfield 50, 3) := by decide +kernel
theorem dX5_copyFrom_45 : decode cX5_copyFrom 45 = .ok (.putfield 50, 3) := by decide +kernel
theorem dX5_copyFrom_48 : decode cX5_copyFrom 48 = .ok (.aload_n 0, 1) := by decide +kernel
theorem dX5_copyFrom_49 : decode cX5_copyFrom 49 = .ok (.aload_n 1, 1) := by decide +kernel
theorem dX5_copyFrom_50 : decode cX5_copyFrom 50 = .ok (.getfield 53, 3) := by decide +kernel
theorem dX5_copyFrom_53 : decode cX5_copyFrom 53 = .ok (.putfield 53, 3) := by decide +kernel
theorem dX5_copyFrom_56 : decode cX5_copyFrom 56 = .ok (.aload_n 0, 1) := by decide +kernel
theorem dX5_copyFrom_57 : decode cX5_copyFrom 57 = .ok (.aload_n 1, 1) := by decide +kernel
theorem dX5_copyFrom_58 : decode cX5_copyFrom 58 = .ok (.getfield 56, 3) := by decide +kernel
theorem dX5_copyFrom_61 : decode cX5_copyFrom 61 = .ok (.putfield 56, 3) := by decide +kernel
theorem dX5_copyFrom_64 : decode cX5_copyFrom 64 = .ok (.aload_n 0, 1) := by decide +kernel
theorem dX5_copyFrom_65 : decode cX5_copyFrom 65 = .ok (.aload_n 1, 1) := by decide +kernel
theorem dX5_copyFrom_66 : decode cX5_copyFrom 66 = .ok (.getfield 59, 3) := by decide +kernel
theorem dX5_copyFrom_69 : decode cX5_copyFrom 69 = .ok (.putfield 59, 3) := by decide +kernel
theorem dX5_copyFrom_72 : decode cX5_copyFrom 72 = .ok (.aload_n 1, 1) := by decide +kernel
theorem dX5_copyFrom_73 : decode cX5_copyFrom 73 = .ok (.getfield 18, 3) := by decide +kernel
theorem dX5_copyFrom_76 : decode cX5_copyFrom 76 = .ok (.iconst 0, 1) := by decide +kernel
theorem dX5_copyFrom_77 : decode cX5_copyFrom 77 = .ok (.aload_n 0, 1) := by decide +kernel
theorem dX5_copyFrom_78 : decode cX5_copyFrom 78 = .ok (.getfield 18, 3) := by decide +kernel
theorem dX5_copyFrom_81 : decode cX5_copyFrom 81 = .ok (.iconst 0, 1) := by decide +kernel
theorem dX5_copyFrom_82 : decode cX5_copyFrom 82 = .ok (.aload_n 0, 1) := by decide +kernel
theorem dX5_copyFrom_83 : decode cX5_copyFrom 83 = .ok (.getfield 18, 3) := by decide +kernel
theorem dX5_copyFrom_86 : decode cX5_copyFrom 86 = .ok (.arraylength, 1) := by decide +kernel
theorem dX5_copyFrom_87 : decode cX5_copyFrom 87 = .ok (.invokestatic 62, 3) := by decide +kernel
theorem dX5_copyFrom_90 : decode cX5_copyFrom 90 = .ok (.aload_n 1, 1) := by decide +kernel
theorem dX5_copyFrom_91 : decode cX5_copyFrom 91 = .ok (.getfield 22, 3) := by decide +kernel
theorem dX5_copyFrom_94 : decode cX5_copyFrom 94 = .ok (.iconst 0, 1) := by decide +kernel
theorem dX5_copyFrom_95 : decode cX5_copyFrom 95 = .ok (.aload_n 0, 1) := by decide +kernel
theorem dX5_copyFrom_96 : decode cX5_copyFrom 96 = .ok (.getfield 22, 3) := by decide +kernel
theorem dX5_copyFrom_99 : decode cX5_copyFrom 99 = .ok (.iconst 0, 1) := by decide +kernel
theorem dX5_copyFrom_100 : decode cX5_copyFrom 100 = .ok (.aload_n 0, 1) := by decide +kernel
theorem dX5_copyFrom_101 : decode cX5_copyFrom 101 = .ok (.getfield 22, 3) := by decide +kernel
theorem dX5_copyFrom_104 : decode cX5_copyFrom 104 = .ok (.arraylength, 1) := by decide +kernel
theorem dX5_copyFrom_105 : decode cX5_copyFrom 105 = .ok (.invokestatic 62, 3) := by decide +kernel
theorem dX5_copyFrom_108 : decode cX5_copyFrom 108 = .ok (.aload_n 1, 1) := by decide +kernel
theorem dX5_copyFrom_109 : decode cX5_copyFrom 109 = .ok (.getfield 25, 3) := by decide +kernel
theorem dX5_copyFrom_112 : decode cX5_copyFrom 112 = .ok (.iconst 0, 1) := by decide +kernel
theorem dX5_copyFrom_113 : decode cX5_copyFrom 113 = .ok (.aload_n 0, 1) := by decide +kernel
theorem dX5_copyFrom_114 : decode cX5_copyFrom 114 = .ok (.getfield 25, 3) := by decide +kernel
theorem dX5_copyFrom_117 : decode cX5_copyFrom 117 = .ok (.iconst 0, 1) := by decide +kernel
theorem dX5_copyFrom_118 : decode cX5_copyFrom 118 = .ok (.aload_n 0, 1) := by decide +kernel
theorem dX5_copyFrom_119 : decode cX5_copyFrom 119 = .ok (.getfield 25, 3) := by decide +kernel
theorem dX5_copyFrom_122 : decode cX5_copyFrom 122 = .ok (.arraylength, 1) := by decide +kernel
theorem dX5_copyFrom_123 : decode cX5_copyFrom 123 = .ok (.invokestatic 62, 3) := by decide +kernel
theorem dX5_copyFrom_126 : decode cX5_copyFrom 126 = .ok (.aload_n 1, 1) := by decide +kernel
theorem dX5_copyFrom_127 : decode cX5_copyFrom 127 = .ok (.getfield 28, 3) := by decide +kernel
theorem dX5_copyFrom_130 : decode cX5_copyFrom 130 = .ok (.iconst 0, 1) := by decide +kernel
theorem dX5_copyFrom_131 : decode cX5_copyFrom 131 = .ok (.aload_n 0, 1) := by decide +kernel
theorem dX5_copyFrom_132 : decode cX5_copyFrom 132 = .ok (.getfield 28, 3) := by decide +kernel
theorem dX5_copyFrom_135 : decode cX5_copyFrom 135 = .ok (.iconst 0, 1) := by decide +kernel
theorem dX5_copyFrom_136 : decode cX5_copyFrom 136 = .ok (.aload_n 0, 1) := by decide +kernel
theorem dX5_copyFrom_137 : decode cX5_copyFrom 137 = .ok (.getfield 28, 3) := by decide +kernel
theorem dX5_copyFrom_140 : decode cX5_copyFrom 140 = .ok (.arraylength, 1) := by decide +kernel
theorem dX5_copyFrom_141 : decode cX5_copyFrom 141 = .ok (.invokestatic 62, 3) := by decide +kernel
theorem dX5_copyFrom_144 : decode cX5_copyFrom 144 = .ok (.aload_n 1, 1) := by decide +kernel
theorem dX5_copyFrom_145 : decode cX5_copyFrom 145 = .ok (.getfield 31, 3) := by decide +kernel
theorem dX5_copyFrom_148 : decode cX5_copyFrom 148 = .ok (.iconst 0, 1) := by decide +kernel
theorem dX5_copyFrom_149 : decode cX5_copyFrom 149 = .ok (.aload_n 0, 1) := by decide +kernel
theorem dX5_copyFrom_150 : decode cX5_copyFrom 150 = .ok (.getfield 31, 3) := by decide +kernel
theorem dX5_copyFrom_153 : decode cX5_copyFrom 153 = .ok (.iconst 0, 1) := by decide +kernel
theorem dX5_copyFrom_154 : decode cX5_copyFrom 154 = .ok (.aload_n 0, 1) := by decide +kernel
theorem dX5_copyFrom_155 : decode cX5_copyFrom 155 = .ok (.getfield 31, 3) := by decide +kernel
theorem dX5_copyFrom_158 : decode cX5_copyFrom 158 = .ok (.arraylength, 1) := by decide +kernel
theorem dX5_copyFrom_159 : decode cX5_copyFrom 159 = .ok (.invokestatic 62, 3) := by decide +kernel
theorem dX5_copyFrom_162 : decode cX5_copyFrom 162 = .ok (.return_, 1) := by decide +kernel
theorem dX5_restart_0 : decode cX5_restart 0 = .ok (.aload_n 0, 1) := by decide +kernel
theorem dX5_restart_1 : decode cX5_restart 1 = .ok (.iload_n 1, 1) := by decide +kernel
theorem dX5_restart_2 : decode cX5_restart 2 = .ok (.putfield 9, 3) := by decide +kernel
theorem dX5_restart_5 : decode cX5_restart 5 = .ok (.aload_n 0, 1) := by decide +kernel
theorem dX5_restart_6 : decode cX5_restart 6 = .ok (.iload_n 2, 1) := by decide +kernel
theorem dX5_restart_7 : decode cX5_restart 7 = .ok (.putfield 15, 3) := by decide +kernel
theorem dX5_restart_10 : decode cX5_restart 10 = .ok (.aload_n 0, 1) := by decide +kernel
theorem dX5_restart_11 : decode cX5_restart 11 = .ok (.iconst 0, 1) := by decide +kernel
theorem dX5_restart_12 : decode cX5_restart 12 = .ok (.putfield 41, 3) := by decide +kernel
theorem dX5_restart_15 : decode cX5_restart 15 = .ok (.aload_n 0, 1) := by decide +kernel
theorem dX5_restart_16 : decode cX5_restart 16 = .ok (.iconst 0, 1) := by decide +kernel
theorem dX5_restart_17 : decode cX5_restart 17 = .ok (.putfield 44, 3) := by decide +kernel
theorem dX5_restart_20 : decode cX5_restart 20 = .ok (.aload_n 0, 1) := by decide +kernel
theorem dX5_restart_21 : decode cX5_restart 21 = .ok (.iconst 0, 1) := by decide +kernel
theorem dX5_restart_22 : decode cX5_restart 22 = .ok (.putfield 47, 3) := by decide +kernel
theorem dX5_restart_25 : decode cX5_restart 25 = .ok (.aload_n 0, 1) := by decide +kernel
theorem dX5_restart_26 : decode cX5_restart 26 = .ok (.iconst 0, 1) := by decide +kernel
theorem dX5_restart_27 : decode cX5_restart 27 = .ok (.putfield 50, 3) := by decide +kernel
theorem dX5_restart_30 : decode cX5_restart 30 = .ok (.aload_n 0, 1) := by decide +kernel
theorem dX5_restart_31 : decode cX5_restart 31 = .ok (.iconst 0, 1) := by decide +kernel
theorem dX5_restart_32 : decode cX5_restart 32 = .ok (.putfield 53, 3) := by decide +kernel
theorem dX5_restart_35 : decode cX5_restart 35 = .ok (.aload_n 0, 1) := by decide +kernel
theorem dX5_restart_36 : decode cX5_restart 36 = .ok (.iconst 0, 1) := by decide +kernel
theorem dX5_restart_37 : decode cX5_restart 37 = .ok (.putfield 56, 3) := by decide +kernel
theorem dX5_restart_40 : decode cX5_restart 40 = .ok (.aload_n 0, 1) := by decide +kernel
theorem dX5_restart_41 : decode cX5_restart 41 = .ok (.iconst 0, 1) := by decide +kernel
theorem dX5_restart_42 : decode cX5_restart 42 = .ok (.putfield 59, 3) := by decide +kernel
theorem dX5_restart_45 : decode cX5_restart 45 = .ok (.aload_n 0, 1) := by decide +kernel
theorem dX5_restart_46 : decode cX5_restart 46 = .ok (.getfield 25, 3) := by decide +kernel
theorem dX5_restart_49 : decode cX5_restart 49 = .ok (.iconst 0, 1) := by decide +kernel
theorem dX5_restart_50 : decode cX5_restart 50 = .ok (.invokestatic 68, 3) := by decide +kernel
theorem dX5_restart_53 : decode cX5_restart 53 = .ok (.aload_n 0, 1) := by decide +kernel
theorem dX5_restart_54 : decode cX5_restart 54 = .ok (.getfield 28, 3) := by decide +kernel
theorem dX5_restart_57 : decode cX5_restart 57 = .ok (.iconst (-1), 1) := by decide +kernel
theorem dX5_restart_58 : decode cX5_restart 58 = .ok (.invokestatic 68, 3) := by decide +kernel
theorem dX5_restart_61 : decode cX5_restart 61 = .ok (.return_, 1) := by decide +kernel
theorem dX5_hasTrack_0 : decode cX5_hasTrack 0 = .ok (.iload_n 1, 1) := by decide +kernel
theorem dX5_hasTrack_1 : decode cX5_hasTrack 1 = .ok (.iconst 0, 1) := by decide +kernel
theorem dX5_hasTrack_2 : decode cX5_hasTrack 2 = .ok (.aload_n 0, 1) := by decide +kernel
theorem dX5_hasTrack_3 : decode cX5_hasTrack 3 = .ok (.getfield 9, 3) := by decide +kernel
theorem dX5_hasTrack_6 : decode cX5_hasTrack 6 = .ok (.iconst 1, 1) := by decide +kernel
theorem dX5_hasTrack_7 : decode cX5_hasTrack 7 = .ok (.isub, 1) := by decide +kernel
theorem dX5_hasTrack_8 : decode cX5_hasTrack 8 = .ok (.invokestatic 74, 3) := by decide +kernel
theorem dX5_hasTrack_11 : decode cX5_hasTrack 11 = .ok (.ireturn, 1) := by decide +kernel
theorem dX5_wagonAt_0 : decode cX5_wagonAt 0 = .ok (.aload_n 0, 1) := by decide +kernel
theorem dX5_wagonAt_1 : decode cX5_wagonAt 1 = .ok (.getfield 31, 3) := by decide +kernel
theorem dX5_wagonAt_4 : decode cX5_wagonAt 4 = .ok (.iload_n 1, 1) := by decide +kernel
theorem dX5_wagonAt_5 : decode cX5_wagonAt 5 = .ok (.bipush 8, 2) := by decide +kernel
theorem dX5_wagonAt_7 : decode cX5_wagonAt 7 = .ok (.imul, 1) := by decide +kernel
theorem dX5_wagonAt_8 : decode cX5_wagonAt 8 = .ok (.iload_n 2, 1) := by decide +kernel
theorem dX5_wagonAt_9 : decode cX5_wagonAt 9 = .ok (.iadd, 1) := by decide +kernel
theorem dX5_wagonAt_10 : decode cX5_wagonAt 10 = .ok (.iaload, 1) := by decide +kernel
theorem dX5_wagonAt_11 : decode cX5_wagonAt 11 = .ok (.ireturn, 1) := by decide +kernel
theorem dX5_wagonsInYard_0 : decode cX5_wagonsInYard 0 = .ok (.iconst 0, 1) := by decide +kernel
theorem dX5_wagonsInYard_1 : decode cX5_wagonsInYard 1 = .ok (.istore_n 1, 1) := by decide +kernel
theorem dX5_wagonsInYard_2 : decode cX5_wagonsInYard 2 = .ok (.iconst 0, 1) := by decide +kernel
theorem dX5_wagonsInYard_3 : decode cX5_wagonsInYard 3 = .ok (.istore_n 2, 1) := by decide +kernel
theorem dX5_wagonsInYard_4 : decode cX5_wagonsInYard 4 = .ok (.iload_n 2, 1) := by decide +kernel
theorem dX5_wagonsInYard_5 : decode cX5_wagonsInYard 5 = .ok (.aload_n 0, 1) := by decide +kernel
theorem dX5_wagonsInYard_6 : decode cX5_wagonsInYard 6 = .ok (.getfield 9, 3) := by decide +kernel
theorem dX5_wagonsInYard_9 : decode cX5_wagonsInYard 9 = .ok (.if_icmp .ge 18, 3) := by decide +kernel
theorem dX5_wagonsInYard_12 : decode cX5_wagonsInYard 12 = .ok (.iload_n 1, 1) := by decide +kernel
theorem dX5_wagonsInYard_13 : decode cX5_wagonsInYard 13 = .ok (.aload_n 0, 1) := by decide +kernel
theorem dX5_wagonsInYard_14 : decode cX5_wagonsInYard 14 = .ok (.getfield 25, 3) := by decide +kernel
theorem dX5_wagonsInYard_17 : decode cX5_wagonsInYard 17 = .ok (.iload_n 2, 1) := by decide +kernel
theorem dX5_wagonsInYard_18 : decode cX5_wagonsInYard 18 = .ok (.iaload, 1) := by decide +kernel
theorem dX5_wagonsInYard_19 : decode cX5_wagonsInYard 19 = .ok (.iadd, 1) := by decide +kernel
theorem dX5_wagonsInYard_20 : decode cX5_wagonsInYard 20 = .ok (.istore_n 1, 1) := by decide +kernel
theorem dX5_wagonsInYard_21 : decode cX5_wagonsInYard 21 = .ok (.iinc 2 1, 3) := by decide +kernel
theorem dX5_wagonsInYard_24 : decode cX5_wagonsInYard 24 = .ok (.goto (-20), 3) := by decide +kernel
theorem dX5_wagonsInYard_27 : decode cX5_wagonsInYard 27 = .ok (.iload_n 1, 1) := by decide +kernel
theorem dX5_wagonsInYard_28 : decode cX5_wagonsInYard 28 = .ok (.ireturn, 1) := by decide +kernel
theorem dX5_spotOf_0 : decode cX5_spotOf 0 = .ok (.iconst 0, 1) := by decide +kernel
theorem dX5_spotOf_1 : decode cX5_spotOf 1 = .ok (.istore_n 2, 1) := by decide +kernel
theorem dX5_spotOf_2 : decode cX5_spotOf 2 = .ok (.iload_n 2, 1) := by decide +kernel
theorem dX5_spotOf_3 : decode cX5_spotOf 3 = .ok (.aload_n 0, 1) := by decide +kernel
theorem dX5_spotOf_4 : decode cX5_spotOf 4 = .ok (.getfield 9, 3) := by decide +kernel
theorem dX5_spotOf_7 : decode cX5_spotOf 7 = .ok (.if_icmp .ge 47, 3) := by decide +kernel
theorem dX5_spotOf_10 : decode cX5_spotOf 10 = .ok (.iconst 0, 1) := by decide +kernel
theorem dX5_spotOf_11 : decode cX5_spotOf 11 = .ok (.istore_n 3, 1) := by decide +kernel
theorem dX5_spotOf_12 : decode cX5_spotOf 12 = .ok (.iload_n 3, 1) := by decide +kernel
theorem dX5_spotOf_13 : decode cX5_spotOf 13 = .ok (.aload_n 0, 1) := by decide +kernel
theorem dX5_spotOf_14 : decode cX5_spotOf 14 = .ok (.getfield 25, 3) := by decide +kernel
theorem dX5_spotOf_17 : decode cX5_spotOf 17 = .ok (.iload_n 2, 1) := by decide +kernel
theorem dX5_spotOf_18 : decode cX5_spotOf 18 = .ok (.iaload, 1) := by decide +kernel
theorem dX5_spotOf_19 : decode cX5_spotOf 19 = .ok (.if_icmp .ge 29, 3) := by decide +kernel
theorem dX5_spotOf_22 : decode cX5_spotOf 22 = .ok (.aload_n 0, 1) := by decide +kernel
theorem dX5_spotOf_23 : decode cX5_spotOf 23 = .ok (.iload_n 2, 1) := by decide +kernel
theorem dX5_spotOf_24 : decode cX5_spotOf 24 = .ok (.iload_n 3, 1) := by decide +kernel
theorem dX5_spotOf_25 : decode cX5_spotOf 25 = .ok (.invokevirtual 78, 3) := by decide +kernel
theorem dX5_spotOf_28 : decode cX5_spotOf 28 = .ok (.invokestatic 82, 3) := by decide +kernel
theorem dX5_spotOf_31 : decode cX5_spotOf 31 = .ok (.iload_n 1, 1) := by decide +kernel
theorem dX5_spotOf_32 : decode cX5_spotOf 32 = .ok (.if_icmp .ne 10, 3) := by decide +kernel
theorem dX5_spotOf_35 : decode cX5_spotOf 35 = .ok (.iload_n 2, 1) := by decide +kernel
theorem dX5_spotOf_36 : decode cX5_spotOf 36 = .ok (.bipush 8, 2) := by decide +kernel
theorem dX5_spotOf_38 : decode cX5_spotOf 38 = .ok (.imul, 1) := by decide +kernel
theorem dX5_spotOf_39 : decode cX5_spotOf 39 = .ok (.iload_n 3, 1) := by decide +kernel
theorem dX5_spotOf_40 : decode cX5_spotOf 40 = .ok (.iadd, 1) := by decide +kernel
theorem dX5_spotOf_41 : decode cX5_spotOf 41 = .ok (.ireturn, 1) := by decide +kernel
theorem dX5_spotOf_42 : decode cX5_spotOf 42 = .ok (.iinc 3 1, 3) := by decide +kernel
theorem dX5_spotOf_45 : decode cX5_spotOf 45 = .ok (.goto (-33), 3) := by decide +kernel
theorem dX5_spotOf_48 : decode cX5_spotOf 48 = .ok (.iinc 2 1, 3) := by decide +kernel
theorem dX5_spotOf_51 : decode cX5_spotOf 51 = .ok (.goto (-49), 3) := by decide +kernel
theorem dX5_spotOf_54 : decode cX5_spotOf 54 = .ok (.bipush (-9), 2) := by decide +kernel
theorem dX5_spotOf_56 : decode cX5_spotOf 56 = .ok (.ireturn, 1) := by decide +kernel
theorem dX5_takeIn_0 : decode cX5_takeIn 0 = .ok (.iconst 0, 1) := by decide +kernel
theorem dX5_takeIn_1 : decode cX5_takeIn 1 = .ok (.istore_n 3, 1) := by decide +kernel
theorem dX5_takeIn_2 : decode cX5_takeIn 2 = .ok (.iload_n 3, 1) := by decide +kernel
theorem dX5_takeIn_3 : decode cX5_takeIn 3 = .ok (.aload_n 2, 1) := by decide +kernel
theorem dX5_takeIn_4 : decode cX5_takeIn 4 = .ok (.getfield 86, 3) := by decide +kernel
theorem dX5_takeIn_7 : decode cX5_takeIn 7 = .ok (.if_icmp .ge 77, 3) := by decide +kernel
theorem dX5_takeIn_10 : decode cX5_takeIn 10 = .ok (.aload_n 2, 1) := by decide +kernel
theorem dX5_takeIn_11 : decode cX5_takeIn 11 = .ok (.getfield 91, 3) := by decide +kernel
theorem dX5_takeIn_14 : decode cX5_takeIn 14 = .ok (.iload_n 3, 1) := by decide +kernel
theorem dX5_takeIn_15 : decode cX5_takeIn 15 = .ok (.iaload, 1) := by decide +kernel
theorem dX5_takeIn_16 : decode cX5_takeIn 16 = .ok (.istore 4, 2) := by decide +kernel
theorem dX5_takeIn_18 : decode cX5_takeIn 18 = .ok (.aload_n 0, 1) := by decide +kernel
theorem dX5_takeIn_19 : decode cX5_takeIn 19 = .ok (.getfield 31, 3) := by decide +kernel
theorem dX5_takeIn_22 : decode cX5_takeIn 22 = .ok (.iload_n 1, 1) := by decide +kernel
theorem dX5_takeIn_23 : decode cX5_takeIn 23 = .ok (.bipush 8, 2) := by decide +kernel
theorem dX5_takeIn_25 : decode cX5_takeIn 25 = .ok (.imul, 1) := by decide +kernel
theorem dX5_takeIn_26 : decode cX5_takeIn 26 = .ok (.aload_n 0, 1) := by decide +kernel
theorem dX5_takeIn_27 : decode cX5_takeIn 27 = .ok (.getfield 25, 3) := by decide +kernel
theorem dX5_takeIn_30 : decode cX5_takeIn 30 = .ok (.iload_n 1, 1) := by decide +kernel
theorem dX5_takeIn_31 : decode cX5_takeIn 31 = .ok (.iaload, 1) := by decide +kernel
theorem dX5_takeIn_32 : decode cX5_takeIn 32 = .ok (.iadd, 1) := by decide +kernel
theorem dX5_takeIn_33 : decode cX5_takeIn 33 = .ok (.aload_n 0, 1) := by decide +kernel
theorem dX5_takeIn_34 : decode cX5_takeIn 34 = .ok (.getfield 56, 3) := by decide +kernel
theorem dX5_takeIn_37 : decode cX5_takeIn 37 = .ok (.iload 4, 2) := by decide +kernel
theorem dX5_takeIn_39 : decode cX5_takeIn 39 = .ok (.invokestatic 94, 3) := by decide +kernel
theorem dX5_takeIn_42 : decode cX5_takeIn 42 = .ok (.iload 4, 2) := by decide +kernel
theorem dX5_takeIn_44 : decode cX5_takeIn 44 = .ok (.invokestatic 97, 3) := by decide +kernel
theorem dX5_takeIn_47 : decode cX5_takeIn 47 = .ok (.invokestatic 100, 3) := by decide +kernel
theorem dX5_takeIn_50 : decode cX5_takeIn 50 = .ok (.iastore, 1) := by decide +kernel
theorem dX5_takeIn_51 : decode cX5_takeIn 51 = .ok (.aload_n 0, 1) := by decide +kernel
theorem dX5_takeIn_52 : decode cX5_takeIn 52 = .ok (.dup, 1) := by decide +kernel
theorem dX5_takeIn_53 : decode cX5_takeIn 53 = .ok (.getfield 56, 3) := by decide +kernel
theorem dX5_takeIn_56 : decode cX5_takeIn 56 = .ok (.iconst 1, 1) := by decide +kernel
theorem dX5_takeIn_57 : decode cX5_takeIn 57 = .ok (.iadd, 1) := by decide +kernel
theorem dX5_takeIn_58 : decode cX5_takeIn 58 = .ok (.putfield 56, 3) := by decide +kernel
theorem dX5_takeIn_61 : decode cX5_takeIn 61 = .ok (.aload_n 0, 1) := by decide +kernel
theorem dX5_takeIn_62 : decode cX5_takeIn 62 = .ok (.getfield 25, 3) := by decide +kernel
theorem dX5_takeIn_65 : decode cX5_takeIn 65 = .ok (.iload_n 1, 1) := by decide +kernel
theorem dX5_takeIn_66 : decode cX5_takeIn 66 = .ok (.dup2, 1) := by decide +kernel
theorem dX5_takeIn_67 : decode cX5_takeIn 67 = .ok (.iaload, 1) := by decide +kernel
theorem dX5_takeIn_68 : decode cX5_takeIn 68 = .ok (.iconst 1, 1) := by decide +kernel
theorem dX5_takeIn_69 : decode cX5_takeIn 69 = .ok (.iadd, 1) := by decide +kernel
theorem dX5_takeIn_70 : decode cX5_takeIn 70 = .ok (.iastore, 1) := by decide +kernel
theorem dX5_takeIn_71 : decode cX5_takeIn 71 = .ok (.aload_n 0, 1) := by decide +kernel
theorem dX5_takeIn_72 : decode cX5_takeIn 72 = .ok (.getfield 28, 3) := by decide +kernel
theorem dX5_takeIn_75 : decode cX5_takeIn 75 = .ok (.iload_n 1, 1) := by decide +kernel
theorem dX5_takeIn_76 : decode cX5_takeIn 76 = .ok (.iconst (-1), 1) := by decide +kernel
theorem dX5_takeIn_77 : decode cX5_takeIn 77 = .ok (.iastore, 1) := by decide +kernel
theorem dX5_takeIn_78 : decode cX5_takeIn 78 = .ok (.iinc 3 1, 3) := by decide +kernel
theorem dX5_takeIn_81 : decode cX5_takeIn 81 = .ok (.goto (-79), 3) := by decide +kernel
theorem dX5_takeIn_84 : decode cX5_takeIn 84 = .ok (.return_, 1) := by decide +kernel
theorem dX5_takeTrains_0 : decode cX5_takeTrains 0 = .ok (.aload_n 0, 1) := by decide +kernel
theorem dX5_takeTrains_1 : decode cX5_takeTrains 1 = .ok (.aload_n 1, 1) := by decide +kernel
theorem dX5_takeTrains_2 : decode cX5_takeTrains 2 = .ok (.getfield 86, 3) := by decide +kernel
theorem dX5_takeTrains_5 : decode cX5_takeTrains 5 = .ok (.putfield 59, 3) := by decide +kernel
theorem dX5_takeTrains_8 : decode cX5_takeTrains 8 = .ok (.aload_n 1, 1) := by decide +kernel
theorem dX5_takeTrains_9 : decode cX5_takeTrains 9 = .ok (.getfield 91, 3) := by decide +kernel
theorem dX5_takeTrains_12 : decode cX5_takeTrains 12 = .ok (.iconst 0, 1) := by decide +kernel
theorem dX5_takeTrains_13 : decode cX5_takeTrains 13 = .ok (.aload_n 0, 1) := by decide +kernel
theorem dX5_takeTrains_14 : decode cX5_takeTrains 14 = .ok (.getfield 22, 3) := by decide +kernel
theorem dX5_takeTrains_17 : decode cX5_takeTrains 17 = .ok (.iconst 0, 1) := by decide +kernel
theorem dX5_takeTrains_18 : decode cX5_takeTrains 18 = .ok (.aload_n 0, 1) := by decide +kernel
theorem dX5_takeTrains_19 : decode cX5_takeTrains 19 = .ok (.getfield 59, 3) := by decide +kernel
theorem dX5_takeTrains_22 : decode cX5_takeTrains 22 = .ok (.invokestatic 62, 3) := by decide +kernel
theorem dX5_takeTrains_25 : decode cX5_takeTrains 25 = .ok (.return_, 1) := by decide +kernel
theorem dX5_isSafe_0 : decode cX5_isSafe 0 = .ok (.aload_n 0, 1) := by decide +kernel
theorem dX5_isSafe_1 : decode cX5_isSafe 1 = .ok (.getfield 37, 3) := by decide +kernel
theorem dX5_isSafe_4 : decode cX5_isSafe 4 = .ok (.invokevirtual 104, 3) := by decide +kernel
theorem dX5_isSafe_7 : decode cX5_isSafe 7 = .ok (.aload_n 0, 1) := by decide +kernel
theorem dX5_isSafe_8 : decode cX5_isSafe 8 = .ok (.iload_n 1, 1) := by decide +kernel
theorem dX5_isSafe_9 : decode cX5_isSafe 9 = .ok (.iconst 0, 1) := by decide +kernel
theorem dX5_isSafe_10 : decode cX5_isSafe 10 = .ok (.aload_n 0, 1) := by decide +kernel
theorem dX5_isSafe_11 : decode cX5_isSafe 11 = .ok (.getfield 25, 3) := by decide +kernel
theorem dX5_isSafe_14 : decode cX5_isSafe 14 = .ok (.iload_n 1, 1) := by decide +kernel
theorem dX5_isSafe_15 : decode cX5_isSafe 15 = .ok (.iaload, 1) := by decide +kernel
theorem dX5_isSafe_16 : decode cX5_isSafe 16 = .ok (.invokevirtual 107, 3) := by decide +kernel
theorem dX5_isSafe_19 : decode cX5_isSafe 19 = .ok (.aload_n 0, 1) := by decide +kernel
theorem dX5_isSafe_20 : decode cX5_isSafe 20 = .ok (.getfield 37, 3) := by decide +kernel
theorem dX5_isSafe_23 : decode cX5_isSafe 23 = .ok (.getfield 111, 3) := by decide +kernel
theorem dX5_isSafe_26 : decode cX5_isSafe 26 = .ok (.aload_n 0, 1) := by decide +kernel
theorem dX5_isSafe_27 : decode cX5_isSafe 27 = .ok (.getfield 18, 3) := by decide +kernel
theorem dX5_isSafe_30 : decode cX5_isSafe 30 = .ok (.iconst 0, 1) := by decide +kernel
theorem dX5_isSafe_31 : decode cX5_isSafe 31 = .ok (.iaload, 1) := by decide +kernel
theorem dX5_isSafe_32 : decode cX5_isSafe 32 = .ok (.if_icmp .lt 7, 3) := by decide +kernel
theorem dX5_isSafe_35 : decode cX5_isSafe 35 = .ok (.iconst 1, 1) := by decide +kernel
theorem dX5_isSafe_36 : decode cX5_isSafe 36 = .ok (.goto 4, 3) := by decide +kernel
theorem dX5_isSafe_39 : decode cX5_isSafe 39 = .ok (.iconst 0, 1) := by decide +kernel
theorem dX5_isSafe_40 : decode cX5_isSafe 40 = .ok (.ireturn, 1) := by decide +kernel
theorem dX5_isSafeWith_0 : decode cX5_isSafeWith 0 = .ok (.aload_n 0, 1) := by decide +kernel
theorem dX5_isSafeWith_1 : decode cX5_isSafeWith 1 = .ok (.getfield 37, 3) := by decide +kernel
theorem dX5_isSafeWith_4 : decode cX5_isSafeWith 4 = .ok (.invokevirtual 104, 3) := by decide +kernel
theorem dX5_isSafeWith_7 : decode cX5_isSafeWith 7 = .ok (.aload_n 0, 1) := by decide +kernel
theorem dX5_isSafeWith_8 : decode cX5_isSafeWith 8 = .ok (.iload_n 1, 1) := by decide +kernel
theorem dX5_isSafeWith_9 : decode cX5_isSafeWith 9 = .ok (.iconst 0, 1) := by decide +kernel
theorem dX5_isSafeWith_10 : decode cX5_isSafeWith 10 = .ok (.aload_n 0, 1) := by decide +kernel
theorem dX5_isSafeWith_11 : decode cX5_isSafeWith 11 = .ok (.getfield 25, 3) := by decide +kernel
theorem dX5_isSafeWith_14 : decode cX5_isSafeWith 14 = .ok (.iload_n 1, 1) := by decide +kernel
theorem dX5_isSafeWith_15 : decode cX5_isSafeWith 15 = .ok (.iaload, 1) := by decide +kernel
theorem dX5_isSafeWith_16 : decode cX5_isSafeWith 16 = .ok (.invokevirtual 107, 3) := by decide +kernel
theorem dX5_isSafeWith_19 : decode cX5_isSafeWith 19 = .ok (.iconst 0, 1) := by decide +kernel
theorem dX5_isSafeWith_20 : decode cX5_isSafeWith 20 = .ok (.istore_n 3, 1) := by decide +kernel
theorem dX5_isSafeWith_21 : decode cX5_isSafeWith 21 = .ok (.iload_n 3, 1) := by decide +kernel
theorem dX5_isSafeWith_22 : decode cX5_isSafeWith 22 = .ok (.aload_n 2, 1) := by decide +kernel
theorem dX5_isSafeWith_23 : decode cX5_isSafeWith 23 = .ok (.getfield 86, 3) := by decide +kernel
theorem dX5_isSafeWith_26 : decode cX5_isSafeWith 26 = .ok (.if_icmp .ge 25, 3) := by decide +kernel
theorem dX5_isSafeWith_29 : decode cX5_isSafeWith 29 = .ok (.aload_n 0, 1) := by decide +kernel
theorem dX5_isSafeWith_30 : decode cX5_isSafeWith 30 = .ok (.getfield 37, 3) := by decide +kernel
theorem dX5_isSafeWith_33 : decode cX5_isSafeWith 33 = .ok (.aload_n 2, 1) := by decide +kernel
theorem dX5_isSafeWith_34 : decode cX5_isSafeWith 34 = .ok (.getfield 91, 3) := by decide +kernel
theorem dX5_isSafeWith_37 : decode cX5_isSafeWith 37 = .ok (.iload_n 3, 1) := by decide +kernel
theorem dX5_isSafeWith_38 : decode cX5_isSafeWith 38 = .ok (.iaload, 1) := by decide +kernel
theorem dX5_isSafeWith_39 : decode cX5_isSafeWith 39 = .ok (.invokestatic 97, 3) := by decide +kernel
theorem dX5_isSafeWith_42 : decode cX5_isSafeWith 42 = .ok (.invokevirtual 114, 3) := by decide +kernel
theorem dX5_isSafeWith_45 : decode cX5_isSafeWith 45 = .ok (.iinc 3 1, 3) := by decide +kernel
theorem dX5_isSafeWith_48 : decode cX5_isSafeWith 48 = .ok (.goto (-27), 3) := by decide +kernel
theorem dX5_isSafeWith_51 : decode cX5_isSafeWith 51 = .ok (.aload_n 0, 1) := by decide +kernel
theorem dX5_isSafeWith_52 : decode cX5_isSafeWith 52 = .ok (.getfield 37, 3) := by decide +kernel
theorem dX5_isSafeWith_55 : decode cX5_isSafeWith 55 = .ok (.getfield 111, 3) := by decide +kernel
theorem dX5_isSafeWith_58 : decode cX5_isSafeWith 58 = .ok (.aload_n 0, 1) := by decide +kernel
theorem dX5_isSafeWith_59 : decode cX5_isSafeWith 59 = .ok (.getfield 18, 3) := by decide +kernel
theorem dX5_isSafeWith_62 : decode cX5_isSafeWith 62 = .ok (.iconst 0, 1) := by decide +kernel
theorem dX5_isSafeWith_63 : decode cX5_isSafeWith 63 = .ok (.iaload, 1) := by decide +kernel
theorem dX5_isSafeWith_64 : decode cX5_isSafeWith 64 = .ok (.if_icmp .lt 7, 3) := by decide +kernel
theorem dX5_isSafeWith_67 : decode cX5_isSafeWith 67 = .ok (.iconst 1, 1) := by decide +kernel
theorem dX5_isSafeWith_68 : decode cX5_isSafeWith 68 = .ok (.goto 4, 3) := by decide +kernel
theorem dX5_isSafeWith_71 : decode cX5_isSafeWith 71 = .ok (.iconst 0, 1) := by decide +kernel
theorem dX5_isSafeWith_72 : decode cX5_isSafeWith 72 = .ok (.ireturn, 1) := by decide +kernel
theorem dX5_leastGap_0 : decode cX5_leastGap 0 = .ok (.aload_n 0, 1) := by decide +kernel
theorem dX5_leastGap_1 : decode cX5_leastGap 1 = .ok (.getfield 37, 3) := by decide +kernel
theorem dX5_leastGap_4 : decode cX5_leastGap 4 = .ok (.invokevirtual 104, 3) := by decide +kernel
theorem dX5_leastGap_7 : decode cX5_leastGap 7 = .ok (.aload_n 0, 1) := by decide +kernel
theorem dX5_leastGap_8 : decode cX5_leastGap 8 = .ok (.iload_n 1, 1) := by decide +kernel
theorem dX5_leastGap_9 : decode cX5_leastGap 9 = .ok (.iconst 0, 1) := by decide +kernel
theorem dX5_leastGap_10 : decode cX5_leastGap 10 = .ok (.aload_n 0, 1) := by decide +kernel
theorem dX5_leastGap_11 : decode cX5_leastGap 11 = .ok (.getfield 25, 3) := by decide +kernel
theorem dX5_leastGap_14 : decode cX5_leastGap 14 = .ok (.iload_n 1, 1) := by decide +kernel
theorem dX5_leastGap_15 : decode cX5_leastGap 15 = .ok (.iaload, 1) := by decide +kernel
theorem dX5_leastGap_16 : decode cX5_leastGap 16 = .ok (.invokevirtual 107, 3) := by decide +kernel
theorem dX5_leastGap_19 : decode cX5_leastGap 19 = .ok (.aload_n 0, 1) := by decide +kernel
theorem dX5_leastGap_20 : decode cX5_leastGap 20 = .ok (.getfield 37, 3) := by decide +kernel
theorem dX5_leastGap_23 : decode cX5_leastGap 23 = .ok (.getfield 111, 3) := by decide +kernel
theorem dX5_leastGap_26 : decode cX5_leastGap 26 = .ok (.bipush 99, 2) := by decide +kernel
theorem dX5_leastGap_28 : decode cX5_leastGap 28 = .ok (.if_icmp .ne 8, 3) := by decide +kernel
theorem dX5_leastGap_31 : decode cX5_leastGap 31 = .ok (.bipush (-9), 2) := by decide +kernel
theorem dX5_leastGap_33 : decode cX5_leastGap 33 = .ok (.goto 10, 3) := by decide +kernel
theorem dX5_leastGap_36 : decode cX5_leastGap 36 = .ok (.aload_n 0, 1) := by decide +kernel
theorem dX5_leastGap_37 : decode cX5_leastGap 37 = .ok (.getfield 37, 3) := by decide +kernel
theorem dX5_leastGap_40 : decode cX5_leastGap 40 = .ok (.getfield 111, 3) := by decide +kernel
theorem dX5_leastGap_43 : decode cX5_leastGap 43 = .ok (.ireturn, 1) := by decide +kernel
theorem dX5_unsafeTracks_0 : decode cX5_unsafeTracks 0 = .ok (.iconst 0, 1) := by decide +kernel
theorem dX5_unsafeTracks_1 : decode cX5_unsafeTracks 1 = .ok (.istore_n 1, 1) := by decide +kernel
theorem dX5_unsafeTracks_2 : decode cX5_unsafeTracks 2 = .ok (.iconst 0, 1) := by decide +kernel
theorem dX5_unsafeTracks_3 : decode cX5_unsafeTracks 3 = .ok (.istore_n 2, 1) := by decide +kernel
theorem dX5_unsafeTracks_4 : decode cX5_unsafeTracks 4 = .ok (.iload_n 2, 1) := by decide +kernel
theorem dX5_unsafeTracks_5 : decode cX5_unsafeTracks 5 = .ok (.aload_n 0, 1) := by decide +kernel
theorem dX5_unsafeTracks_6 : decode cX5_unsafeTracks 6 = .ok (.getfield 9, 3) := by decide +kernel
theorem dX5_unsafeTracks_9 : decode cX5_unsafeTracks 9 = .ok (.if_icmp .ge 20, 3) := by decide +kernel
theorem dX5_unsafeTracks_12 : decode cX5_unsafeTracks 12 = .ok (.aload_n 0, 1) := by decide +kernel
theorem dX5_unsafeTracks_13 : decode cX5_unsafeTracks 13 = .ok (.iload_n 2, 1) := by decide +kernel
theorem dX5_unsafeTracks_14 : decode cX5_unsafeTracks 14 = .ok (.invokevirtual 118, 3) := by decide +kernel
theorem dX5_unsafeTracks_17 : decode cX5_unsafeTracks 17 = .ok (.ifCond .ne 6, 3) := by decide +kernel
theorem dX5_unsafeTracks_20 : decode cX5_unsafeTracks 20 = .ok (.iinc 1 1, 3) := by decide +kernel
theorem dX5_unsafeTracks_23 : decode cX5_unsafeTracks 23 = .ok (.iinc 2 1, 3) := by decide +kernel
theorem dX5_unsafeTracks_26 : decode cX5_unsafeTracks 26 = .ok (.goto (-22), 3) := by decide +kernel
theorem dX5_unsafeTracks_29 : decode cX5_unsafeTracks 29 = .ok (.iload_n 1, 1) := by decide +kernel
theorem dX5_unsafeTracks_30 : decode cX5_unsafeTracks 30 = .ok (.ireturn, 1) := by decide +kernel
theorem dX5_passPart_0 : decode cX5_passPart 0 = .ok (.iload_n 2, 1) := by decide +kernel
theorem dX5_passPart_1 : decode cX5_passPart 1 = .ok (.istore 4, 2) := by decide +kernel
theorem dX5_passPart_3 : decode cX5_passPart 3 = .ok (.iload 4, 2) := by decide +kernel
theorem dX5_passPart_5 : decode cX5_passPart 5 = .ok (.iload_n 3, 1) := by decide +kernel
theorem dX5_passPart_6 : decode cX5_passPart 6 = .ok (.if_icmp .ge 26, 3) := by decide +kernel
theorem dX5_passPart_9 : decode cX5_passPart 9 = .ok (.aload_n 0, 1) := by decide +kernel
theorem dX5_passPart_10 : decode cX5_passPart 10 = .ok (.getfield 37, 3) := by decide +kernel
theorem dX5_passPart_13 : decode cX5_passPart 13 = .ok (.aload_n 0, 1) := by decide +kernel
theorem dX5_passPart_14 : decode cX5_passPart 14 = .ok (.iload_n 1, 1) := by decide +kernel
theorem dX5_passPart_15 : decode cX5_passPart 15 = .ok (.iload 4, 2) := by decide +kernel
theorem dX5_passPart_17 : decode cX5_passPart 17 = .ok (.invokevirtual 78, 3) := by decide +kernel
theorem dX5_passPart_20 : decode cX5_passPart 20 = .ok (.invokestatic 97, 3) := by decide +kernel
theorem dX5_passPart_23 : decode cX5_passPart 23 = .ok (.invokevirtual 114, 3) := by decide +kernel
theorem dX5_passPart_26 : decode cX5_passPart 26 = .ok (.iinc 4 1, 3) := by decide +kernel
theorem dX5_passPart_29 : decode cX5_passPart 29 = .ok (.goto (-26), 3) := by decide +kernel
theorem dX5_passPart_32 : decode cX5_passPart 32 = .ok (.return_, 1) := by decide +kernel
theorem dX5_costOrCode_0 : decode cX5_costOrCode 0 = .ok (.aload_n 0, 1) := by decide +kernel
theorem dX5_costOrCode_1 : decode cX5_costOrCode 1 = .ok (.iload_n 1, 1) := by decide +kernel
theorem dX5_costOrCode_2 : decode cX5_costOrCode 2 = .ok (.invokevirtual 122, 3) := by decide +kernel
theorem dX5_costOrCode_5 : decode cX5_costOrCode 5 = .ok (.ifCond .eq 26, 3) := by decide +kernel
theorem dX5_costOrCode_8 : decode cX5_costOrCode 8 = .ok (.aload_n 0, 1) := by decide +kernel
theorem dX5_costOrCode_9 : decode cX5_costOrCode 9 = .ok (.iload_n 2, 1) := by decide +kernel
theorem dX5_costOrCode_10 : decode cX5_costOrCode 10 = .ok (.invokevirtual 122, 3) := by decide +kernel
theorem dX5_costOrCode_13 : decode cX5_costOrCode 13 = .ok (.ifCond .eq 18, 3) := by decide +kernel
theorem dX5_costOrCode_16 : decode cX5_costOrCode 16 = .ok (.iload_n 1, 1) := by decide +kernel
theorem dX5_costOrCode_17 : decode cX5_costOrCode 17 = .ok (.iload_n 2, 1) := by decide +kernel
theorem dX5_costOrCode_18 : decode cX5_costOrCode 18 = .ok (.if_icmp .eq 13, 3) := by decide +kernel
theorem dX5_costOrCode_21 : decode cX5_costOrCode 21 = .ok (.iload_n 3, 1) := by decide +kernel
theorem dX5_costOrCode_22 : decode cX5_costOrCode 22 = .ok (.iconst 1, 1) := by decide +kernel
theorem dX5_costOrCode_23 : decode cX5_costOrCode 23 = .ok (.bipush 8, 2) := by decide +kernel
theorem dX5_costOrCode_25 : decode cX5_costOrCode 25 = .ok (.invokestatic 74, 3) := by decide +kernel
theorem dX5_costOrCode_28 : decode cX5_costOrCode 28 = .ok (.ifCond .ne 5, 3) := by decide +kernel
theorem dX5_costOrCode_31 : decode cX5_costOrCode 31 = .ok (.iconst (-1), 1) := by decide +kernel
theorem dX5_costOrCode_32 : decode cX5_costOrCode 32 = .ok (.ireturn, 1) := by decide +kernel
theorem dX5_costOrCode_33 : decode cX5_costOrCode 33 = .ok (.iload_n 3, 1) := by decide +kernel
theorem dX5_costOrCode_34 : decode cX5_costOrCode 34 = .ok (.aload_n 0, 1) := by decide +kernel
theorem dX5_costOrCode_35 : decode cX5_costOrCode 35 = .ok (.getfield 25, 3) := by decide +kernel
theorem dX5_costOrCode_38 : decode cX5_costOrCode 38 = .ok (.iload_n 1, 1) := by decide +kernel
theorem dX5_costOrCode_39 : decode cX5_costOrCode 39 = .ok (.iaload, 1) := by decide +kernel
theorem dX5_costOrCode_40 : decode cX5_costOrCode 40 = .ok (.if_icmp .gt 13, 3) := by decide +kernel
theorem dX5_costOrCode_43 : decode cX5_costOrCode 43 = .ok (.aload_n 0, 1) := by decide +kernel
theorem dX5_costOrCode_44 : decode cX5_costOrCode 44 = .ok (.iload_n 1, 1) := by decide +kernel
theorem dX5_costOrCode_45 : decode cX5_costOrCode 45 = .ok (.iload_n 2, 1) := by decide +kernel
theorem dX5_costOrCode_46 : decode cX5_costOrCode 46 = .ok (.iload_n 3, 1) := by decide +kernel
theorem dX5_costOrCode_47 : decode cX5_costOrCode 47 = .ok (.invokevirtual 125, 3) := by decide +kernel
theorem dX5_costOrCode_50 : decode cX5_costOrCode 50 = .ok (.ifCond .ne 6, 3) := by decide +kernel
theorem dX5_costOrCode_53 : decode cX5_costOrCode 53 = .ok (.bipush (-2), 2) := by decide +kernel
theorem dX5_costOrCode_55 : decode cX5_costOrCode 55 = .ok (.ireturn, 1) := by decide +kernel
theorem dX5_costOrCode_56 : decode cX5_costOrCode 56 = .ok (.aload_n 0, 1) := by decide +kernel
theorem dX5_costOrCode_57 : decode cX5_costOrCode 57 = .ok (.getfield 25, 3) := by decide +kernel
theorem dX5_costOrCode_60 : decode cX5_costOrCode 60 = .ok (.iload_n 2, 1) := by decide +kernel
theorem dX5_costOrCode_61 : decode cX5_costOrCode 61 = .ok (.iaload, 1) := by decide +kernel
theorem dX5_costOrCode_62 : decode cX5_costOrCode 62 = .ok (.iload_n 3, 1) := by decide +kernel
theorem dX5_costOrCode_63 : decode cX5_costOrCode 63 = .ok (.iadd, 1) := by decide +kernel
theorem dX5_costOrCode_64 : decode cX5_costOrCode 64 = .ok (.aload_n 0, 1) := by decide +kernel
theorem dX5_costOrCode_65 : decode cX5_costOrCode 65 = .ok (.getfield 15, 3) := by decide +kernel
theorem dX5_costOrCode_68 : decode cX5_costOrCode 68 = .ok (.if_icmp .le 6, 3) := by decide +kernel
theorem dX5_costOrCode_71 : decode cX5_costOrCode 71 = .ok (.bipush (-3), 2) := by decide +kernel
theorem dX5_costOrCode_73 : decode cX5_costOrCode 73 = .ok (.ireturn, 1) := by decide +kernel
theorem dX5_costOrCode_74 : decode cX5_costOrCode 74 = .ok (.aload_n 0, 1) := by decide +kernel
theorem dX5_costOrCode_75 : decode cX5_costOrCode 75 = .ok (.iload_n 1, 1) := by decide +kernel
theorem dX5_costOrCode_76 : decode cX5_costOrCode 76 = .ok (.iload_n 2, 1) := by decide +kernel
theorem dX5_costOrCode_77 : decode cX5_costOrCode 77 = .ok (.iload_n 3, 1) := by decide +kernel
theorem dX5_costOrCode_78 : decode cX5_costOrCode 78 = .ok (.invokevirtual 128, 3) := by decide +kernel
theorem dX5_costOrCode_81 : decode cX5_costOrCode 81 = .ok (.ireturn, 1) := by decide +kernel
theorem dX5_isSafeBehindMove_0 : decode cX5_isSafeBehindMove 0 = .ok (.aload_n 0, 1) := by decide +kernel
theorem dX5_isSafeBehindMove_1 : decode cX5_isSafeBehindMove 1 = .ok (.getfield 25, 3) := by decide +kernel
theorem dX5_isSafeBehindMove_4 : decode cX5_isSafeBehindMove 4 = .ok (.iload_n 1, 1) := by decide +kernel
theorem dX5_isSafeBehindMove_5 : decode cX5_isSafeBehindMove 5 = .ok (.iaload, 1) := by decide +kernel
theorem dX5_isSafeBehindMove_6 : decode cX5_isSafeBehindMove 6 = .ok (.iload_n 3, 1) := by decide +kernel
theorem dX5_isSafeBehindMove_7 : decode cX5_isSafeBehindMove 7 = .ok (.isub, 1) := by decide +kernel
theorem dX5_isSafeBehindMove_8 : decode cX5_isSafeBehindMove 8 = .ok (.istore 4, 2) := by decide +kernel
theorem dX5_isSafeBehindMove_10 : decode cX5_isSafeBehindMove 10 = .ok (.aload_n 0, 1) := by decide +kernel
theorem dX5_isSafeBehindMove_11 : decode cX5_isSafeBehindMove 11 = .ok (.getfield 37, 3) := by decide +kernel
theorem dX5_isSafeBehindMove_14 : decode cX5_isSafeBehindMove 14 = .ok (.invokevirtual 104, 3) := by decide +kernel
theorem dX5_isSafeBehindMove_17 : decode cX5_isSafeBehindMove 17 = .ok (.aload_n 0, 1) := by decide +kernel
theorem dX5_isSafeBehindMove_18 : decode cX5_isSafeBehindMove 18 = .ok (.iload_n 1, 1) := by decide +kernel
theorem dX5_isSafeBehindMove_19 : decode cX5_isSafeBehindMove 19 = .ok (.iconst 0, 1) := by decide +kernel
theorem dX5_isSafeBehindMove_20 : decode cX5_isSafeBehindMove 20 = .ok (.iload 4, 2) := by decide +kernel
theorem dX5_isSafeBehindMove_22 : decode cX5_isSafeBehindMove 22 = .ok (.invokevirtual 107, 3) := by decide +kernel
theorem dX5_isSafeBehindMove_25 : decode cX5_isSafeBehindMove 25 = .ok (.aload_n 0, 1) := by decide +kernel
theorem dX5_isSafeBehindMove_26 : decode cX5_isSafeBehindMove 26 = .ok (.getfield 37, 3) := by decide +kernel
theorem dX5_isSafeBehindMove_29 : decode cX5_isSafeBehindMove 29 = .ok (.getfield 111, 3) := by decide +kernel
theorem dX5_isSafeBehindMove_32 : decode cX5_isSafeBehindMove 32 = .ok (.aload_n 0, 1) := by decide +kernel
theorem dX5_isSafeBehindMove_33 : decode cX5_isSafeBehindMove 33 = .ok (.getfield 18, 3) := by decide +kernel
theorem dX5_isSafeBehindMove_36 : decode cX5_isSafeBehindMove 36 = .ok (.iconst 0, 1) := by decide +kernel
theorem dX5_isSafeBehindMove_37 : decode cX5_isSafeBehindMove 37 = .ok (.iaload, 1) := by decide +kernel
theorem dX5_isSafeBehindMove_38 : decode cX5_isSafeBehindMove 38 = .ok (.if_icmp .ge 5, 3) := by decide +kernel
theorem dX5_isSafeBehindMove_41 : decode cX5_isSafeBehindMove 41 = .ok (.iconst 0, 1) := by decide +kernel
theorem dX5_isSafeBehindMove_42 : decode cX5_isSafeBehindMove 42 = .ok (.ireturn, 1) := by decide +kernel
theorem dX5_isSafeBehindMove_43 : decode cX5_isSafeBehindMove 43 = .ok (.aload_n 0, 1) := by decide +kernel
theorem dX5_isSafeBehindMove_44 : decode cX5_isSafeBehindMove 44 = .ok (.getfield 37, 3) := by decide +kernel
theorem dX5_isSafeBehindMove_47 : decode cX5_isSafeBehindMove 47 = .ok (.invokevirtual 104, 3) := by decide +kernel
theorem dX5_isSafeBehindMove_50 : decode cX5_isSafeBehindMove 50 = .ok (.aload_n 0, 1) := by decide +kernel
theorem dX5_isSafeBehindMove_51 : decode cX5_isSafeBehindMove 51 = .ok (.iload_n 2, 1) := by decide +kernel
theorem dX5_isSafeBehindMove_52 : decode cX5_isSafeBehindMove 52 = .ok (.iconst 0, 1) := by decide +kernel
theorem dX5_isSafeBehindMove_53 : decode cX5_isSafeBehindMove 53 = .ok (.aload_n 0, 1) := by decide +kernel
theorem dX5_isSafeBehindMove_54 : decode cX5_isSafeBehindMove 54 = .ok (.getfield 25, 3) := by decide +kernel
theorem dX5_isSafeBehindMove_57 : decode cX5_isSafeBehindMove 57 = .ok (.iload_n 2, 1) := by decide +kernel
theorem dX5_isSafeBehindMove_58 : decode cX5_isSafeBehindMove 58 = .ok (.iaload, 1) := by decide +kernel
theorem dX5_isSafeBehindMove_59 : decode cX5_isSafeBehindMove 59 = .ok (.invokevirtual 107, 3) := by decide +kernel
theorem dX5_isSafeBehindMove_62 : decode cX5_isSafeBehindMove 62 = .ok (.aload_n 0, 1) := by decide +kernel
theorem dX5_isSafeBehindMove_63 : decode cX5_isSafeBehindMove 63 = .ok (.iload_n 1, 1) := by decide +kernel
theorem dX5_isSafeBehindMove_64 : decode cX5_isSafeBehindMove 64 = .ok (.iload 4, 2) := by decide +kernel
theorem dX5_isSafeBehindMove_66 : decode cX5_isSafeBehindMove 66 = .ok (.aload_n 0, 1) := by decide +kernel
theorem dX5_isSafeBehindMove_67 : decode cX5_isSafeBehindMove 67 = .ok (.getfield 25, 3) := by decide +kernel
theorem dX5_isSafeBehindMove_70 : decode cX5_isSafeBehindMove 70 = .ok (.iload_n 1, 1) := by decide +kernel
theorem dX5_isSafeBehindMove_71 : decode cX5_isSafeBehindMove 71 = .ok (.iaload, 1) := by decide +kernel
theorem dX5_isSafeBehindMove_72 : decode cX5_isSafeBehindMove 72 = .ok (.invokevirtual 107, 3) := by decide +kernel
theorem dX5_isSafeBehindMove_75 : decode cX5_isSafeBehindMove 75 = .ok (.aload_n 0, 1) := by decide +kernel
theorem dX5_isSafeBehindMove_76 : decode cX5_isSafeBehindMove 76 = .ok (.getfield 37, 3) := by decide +kernel
theorem dX5_isSafeBehindMove_79 : decode cX5_isSafeBehindMove 79 = .ok (.getfield 111, 3) := by decide +kernel
theorem dX5_isSafeBehindMove_82 : decode cX5_isSafeBehindMove 82 = .ok (.aload_n 0, 1) := by decide +kernel
theorem dX5_isSafeBehindMove_83 : decode cX5_isSafeBehindMove 83 = .ok (.getfield 18, 3) := by decide +kernel
theorem dX5_isSafeBehindMove_86 : decode cX5_isSafeBehindMove 86 = .ok (.iconst 0, 1) := by decide +kernel
theorem dX5_isSafeBehindMove_87 : decode cX5_isSafeBehindMove 87 = .ok (.iaload, 1) := by decide +kernel
theorem dX5_isSafeBehindMove_88 : decode cX5_isSafeBehindMove 88 = .ok (.if_icmp .lt 7, 3) := by decide +kernel
theorem dX5_isSafeBehindMove_91 : decode cX5_isSafeBehindMove 91 = .ok (.iconst 1, 1) := by decide +kernel
theorem dX5_isSafeBehindMove_92 : decode cX5_isSafeBehindMove 92 = .ok (.goto 4, 3) := by decide +kernel
theorem dX5_isSafeBehindMove_95 : decode cX5_isSafeBehindMove 95 = .ok (.iconst 0, 1) := by decide +kernel
theorem dX5_isSafeBehindMove_96 : decode cX5_isSafeBehindMove 96 = .ok (.ireturn, 1) := by decide +kernel
theorem dX5_minutesOf_0 : decode cX5_minutesOf 0 = .ok (.aload_n 0, 1) := by decide +kernel
theorem dX5_minutesOf_1 : decode cX5_minutesOf 1 = .ok (.getfield 18, 3) := by decide +kernel
theorem dX5_minutesOf_4 : decode cX5_minutesOf 4 = .ok (.iconst 2, 1) := by decide +kernel
theorem dX5_minutesOf_5 : decode cX5_minutesOf 5 = .ok (.iaload, 1) := by decide +kernel
theorem dX5_minutesOf_6 : decode cX5_minutesOf 6 = .ok (.iload_n 3, 1) := by decide +kernel
theorem dX5_minutesOf_7 : decode cX5_minutesOf 7 = .ok (.iadd, 1) := by decide +kernel
theorem dX5_minutesOf_8 : decode cX5_minutesOf 8 = .ok (.iconst 2, 1) := by decide +kernel
theorem dX5_minutesOf_9 : decode cX5_minutesOf 9 = .ok (.iload_n 1, 1) := by decide +kernel
theorem dX5_minutesOf_10 : decode cX5_minutesOf 10 = .ok (.iload_n 2, 1) := by decide +kernel
theorem dX5_minutesOf_11 : decode cX5_minutesOf 11 = .ok (.isub, 1) := by decide +kernel
theorem dX5_minutesOf_12 : decode cX5_minutesOf 12 = .ok (.invokestatic 131, 3) := by decide +kernel
theorem dX5_minutesOf_15 : decode cX5_minutesOf 15 = .ok (.imul, 1) := by decide +kernel
theorem dX5_minutesOf_16 : decode cX5_minutesOf 16 = .ok (.iadd, 1) := by decide +kernel
theorem dX5_minutesOf_17 : decode cX5_minutesOf 17 = .ok (.istore 4, 2) := by decide +kernel
theorem dX5_minutesOf_19 : decode cX5_minutesOf 19 = .ok (.aload_n 0, 1) := by decide +kernel
theorem dX5_minutesOf_20 : decode cX5_minutesOf 20 = .ok (.getfield 25, 3) := by decide +kernel
theorem dX5_minutesOf_23 : decode cX5_minutesOf 23 = .ok (.iload_n 1, 1) := by decide +kernel
theorem dX5_minutesOf_24 : decode cX5_minutesOf 24 = .ok (.iaload, 1) := by decide +kernel
theorem dX5_minutesOf_25 : decode cX5_minutesOf 25 = .ok (.iload_n 3, 1) := by decide +kernel
theorem dX5_minutesOf_26 : decode cX5_minutesOf 26 = .ok (.isub, 1) := by decide +kernel
theorem dX5_minutesOf_27 : decode cX5_minutesOf 27 = .ok (.istore 5, 2) := by decide +kernel
theorem dX5_minutesOf_29 : decode cX5_minutesOf 29 = .ok (.iload 5, 2) := by decide +kernel
theorem dX5_minutesOf_31 : decode cX5_minutesOf 31 = .ok (.aload_n 0, 1) := by decide +kernel
theorem dX5_minutesOf_32 : decode cX5_minutesOf 32 = .ok (.getfield 25, 3) := by decide +kernel
theorem dX5_minutesOf_35 : decode cX5_minutesOf 35 = .ok (.iload_n 1, 1) := by decide +kernel
theorem dX5_minutesOf_36 : decode cX5_minutesOf 36 = .ok (.iaload, 1) := by decide +kernel
theorem dX5_minutesOf_37 : decode cX5_minutesOf 37 = .ok (.if_icmp .ge 28, 3) := by decide +kernel
theorem dX5_minutesOf_40 : decode cX5_minutesOf 40 = .ok (.aload_n 0, 1) := by decide +kernel
theorem dX5_minutesOf_41 : decode cX5_minutesOf 41 = .ok (.iload_n 1, 1) := by decide +kernel
theorem dX5_minutesOf_42 : decode cX5_minutesOf 42 = .ok (.iload 5, 2) := by decide +kernel
theorem dX5_minutesOf_44 : decode cX5_minutesOf 44 = .ok (.invokevirtual 78, 3) := by decide +kernel
theorem dX5_minutesOf_47 : decode cX5_minutesOf 47 = .ok (.invokestatic 97, 3) := by decide +kernel
theorem dX5_minutesOf_50 : decode cX5_minutesOf 50 = .ok (.iconst 2, 1) := by decide +kernel
theorem dX5_minutesOf_51 : decode cX5_minutesOf 51 = .ok (.if_icmp .ne 8, 3) := by decide +kernel
theorem dX5_minutesOf_54 : decode cX5_minutesOf 54 = .ok (.iload 4, 2) := by decide +kernel
theorem dX5_minutesOf_56 : decode cX5_minutesOf 56 = .ok (.iconst 5, 1) := by decide +kernel
theorem dX5_minutesOf_57 : decode cX5_minutesOf 57 = .ok (.iadd, 1) := by decide +kernel
theorem dX5_minutesOf_58 : decode cX5_minutesOf 58 = .ok (.ireturn, 1) := by decide +kernel
theorem dX5_minutesOf_59 : decode cX5_minutesOf 59 = .ok (.iinc 5 1, 3) := by decide +kernel
theorem dX5_minutesOf_62 : decode cX5_minutesOf 62 = .ok (.goto (-33), 3) := by decide +kernel
theorem dX5_minutesOf_65 : decode cX5_minutesOf 65 = .ok (.iload 4, 2) := by decide +kernel
theorem dX5_minutesOf_67 : decode cX5_minutesOf 67 = .ok (.ireturn, 1) := by decide +kernel
theorem dX5_drive_0 : decode cX5_drive 0 = .ok (.aload_n 0, 1) := by decide +kernel
theorem dX5_drive_1 : decode cX5_drive 1 = .ok (.iload_n 1, 1) := by decide +kernel
theorem dX5_drive_2 : decode cX5_drive 2 = .ok (.iload_n 2, 1) := by decide +kernel
theorem dX5_drive_3 : decode cX5_drive 3 = .ok (.iload_n 3, 1) := by decide +kernel
theorem dX5_drive_4 : decode cX5_drive 4 = .ok (.invokevirtual 128, 3) := by decide +kernel
theorem dX5_drive_7 : decode cX5_drive 7 = .ok (.istore 4, 2) := by decide +kernel
theorem dX5_drive_9 : decode cX5_drive 9 = .ok (.aload_n 0, 1) := by decide +kernel
theorem dX5_drive_10 : decode cX5_drive 10 = .ok (.iload_n 1, 1) := by decide +kernel
theorem dX5_drive_11 : decode cX5_drive 11 = .ok (.iload_n 2, 1) := by decide +kernel
theorem dX5_drive_12 : decode cX5_drive 12 = .ok (.iload_n 3, 1) := by decide +kernel
theorem dX5_drive_13 : decode cX5_drive 13 = .ok (.invokevirtual 136, 3) := by decide +kernel
theorem dX5_drive_16 : decode cX5_drive 16 = .ok (.aload_n 0, 1) := by decide +kernel
theorem dX5_drive_17 : decode cX5_drive 17 = .ok (.getfield 28, 3) := by decide +kernel
theorem dX5_drive_20 : decode cX5_drive 20 = .ok (.iload_n 1, 1) := by decide +kernel
theorem dX5_drive_21 : decode cX5_drive 21 = .ok (.iconst (-1), 1) := by decide +kernel
theorem dX5_drive_22 : decode cX5_drive 22 = .ok (.iastore, 1) := by decide +kernel
theorem dX5_drive_23 : decode cX5_drive 23 = .ok (.aload_n 0, 1) := by decide +kernel
theorem dX5_drive_24 : decode cX5_drive 24 = .ok (.getfield 28, 3) := by decide +kernel
theorem dX5_drive_27 : decode cX5_drive 27 = .ok (.iload_n 2, 1) := by decide +kernel
theorem dX5_drive_28 : decode cX5_drive 28 = .ok (.iconst (-1), 1) := by decide +kernel
theorem dX5_drive_29 : decode cX5_drive 29 = .ok (.iastore, 1) := by decide +kernel
theorem dX5_drive_30 : decode cX5_drive 30 = .ok (.aload_n 0, 1) := by decide +kernel
theorem dX5_drive_31 : decode cX5_drive 31 = .ok (.dup, 1) := by decide +kernel
theorem dX5_drive_32 : decode cX5_drive 32 = .ok (.getfield 41, 3) := by decide +kernel
theorem dX5_drive_35 : decode cX5_drive 35 = .ok (.iload 4, 2) := by decide +kernel
theorem dX5_drive_37 : decode cX5_drive 37 = .ok (.iadd, 1) := by decide +kernel
theorem dX5_drive_38 : decode cX5_drive 38 = .ok (.putfield 41, 3) := by decide +kernel
theorem dX5_drive_41 : decode cX5_drive 41 = .ok (.aload_n 0, 1) := by decide +kernel
theorem dX5_drive_42 : decode cX5_drive 42 = .ok (.dup, 1) := by decide +kernel
theorem dX5_drive_43 : decode cX5_drive 43 = .ok (.getfield 44, 3) := by decide +kernel
theorem dX5_drive_46 : decode cX5_drive 46 = .ok (.iconst 1, 1) := by decide +kernel
theorem dX5_drive_47 : decode cX5_drive 47 = .ok (.iadd, 1) := by decide +kernel
theorem dX5_drive_48 : decode cX5_drive 48 = .ok (.putfield 44, 3) := by decide +kernel
theorem dX5_drive_51 : decode cX5_drive 51 = .ok (.aload_n 0, 1) := by decide +kernel
theorem dX5_drive_52 : decode cX5_drive 52 = .ok (.dup, 1) := by decide +kernel
theorem dX5_drive_53 : decode cX5_drive 53 = .ok (.getfield 47, 3) := by decide +kernel
theorem dX5_drive_56 : decode cX5_drive 56 = .ok (.iload 4, 2) := by decide +kernel
theorem dX5_drive_58 : decode cX5_drive 58 = .ok (.iadd, 1) := by decide +kernel
theorem dX5_drive_59 : decode cX5_drive 59 = .ok (.putfield 47, 3) := by decide +kernel
theorem dX5_drive_62 : decode cX5_drive 62 = .ok (.iload 4, 2) := by decide +kernel
theorem dX5_drive_64 : decode cX5_drive 64 = .ok (.ireturn, 1) := by decide +kernel
theorem dX5_shift_0 : decode cX5_shift 0 = .ok (.iload_n 1, 1) := by decide +kernel
theorem dX5_shift_1 : decode cX5_shift 1 = .ok (.bipush 8, 2) := by decide +kernel
theorem dX5_shift_3 : decode cX5_shift 3 = .ok (.imul, 1) := by decide +kernel
theorem dX5_shift_4 : decode cX5_shift 4 = .ok (.aload_n 0, 1) := by decide +kernel
theorem dX5_shift_5 : decode cX5_shift 5 = .ok (.getfield 25, 3) := by decide +kernel
theorem dX5_shift_8 : decode cX5_shift 8 = .ok (.iload_n 1, 1) := by decide +kernel
theorem dX5_shift_9 : decode cX5_shift 9 = .ok (.iaload, 1) := by decide +kernel
theorem dX5_shift_10 : decode cX5_shift 10 = .ok (.iadd, 1) := by decide +kernel
theorem dX5_shift_11 : decode cX5_shift 11 = .ok (.iload_n 3, 1) := by decide +kernel
theorem dX5_shift_12 : decode cX5_shift 12 = .ok (.isub, 1) := by decide +kernel
theorem dX5_shift_13 : decode cX5_shift 13 = .ok (.istore 4, 2) := by decide +kernel
theorem dX5_shift_15 : decode cX5_shift 15 = .ok (.aload_n 0, 1) := by decide +kernel
theorem dX5_shift_16 : decode cX5_shift 16 = .ok (.getfield 31, 3) := by decide +kernel
theorem dX5_shift_19 : decode cX5_shift 19 = .ok (.iload 4, 2) := by decide +kernel
theorem dX5_shift_21 : decode cX5_shift 21 = .ok (.aload_n 0, 1) := by decide +kernel
theorem dX5_shift_22 : decode cX5_shift 22 = .ok (.getfield 31, 3) := by decide +kernel
theorem dX5_shift_25 : decode cX5_shift 25 = .ok (.iload_n 2, 1) := by decide +kernel
theorem dX5_shift_26 : decode cX5_shift 26 = .ok (.bipush 8, 2) := by decide +kernel
theorem dX5_shift_28 : decode cX5_shift 28 = .ok (.imul, 1) := by decide +kernel
theorem dX5_shift_29 : decode cX5_shift 29 = .ok (.aload_n 0, 1) := by decide +kernel
theorem dX5_shift_30 : decode cX5_shift 30 = .ok (.getfield 25, 3) := by decide +kernel
theorem dX5_shift_33 : decode cX5_shift 33 = .ok (.iload_n 2, 1) := by decide +kernel
theorem dX5_shift_34 : decode cX5_shift 34 = .ok (.iaload, 1) := by decide +kernel
theorem dX5_shift_35 : decode cX5_shift 35 = .ok (.iadd, 1) := by decide +kernel
theorem dX5_shift_36 : decode cX5_shift 36 = .ok (.iload_n 3, 1) := by decide +kernel
theorem dX5_shift_37 : decode cX5_shift 37 = .ok (.invokestatic 62, 3) := by decide +kernel
theorem dX5_shift_40 : decode cX5_shift 40 = .ok (.aload_n 0, 1) := by decide +kernel
theorem dX5_shift_41 : decode cX5_shift 41 = .ok (.getfield 25, 3) := by decide +kernel
theorem dX5_shift_44 : decode cX5_shift 44 = .ok (.iload_n 1, 1) := by decide +kernel
theorem dX5_shift_45 : decode cX5_shift 45 = .ok (.dup2, 1) := by decide +kernel
theorem dX5_shift_46 : decode cX5_shift 46 = .ok (.iaload, 1) := by decide +kernel
theorem dX5_shift_47 : decode cX5_shift 47 = .ok (.iload_n 3, 1) := by decide +kernel
theorem dX5_shift_48 : decode cX5_shift 48 = .ok (.isub, 1) := by decide +kernel
theorem dX5_shift_49 : decode cX5_shift 49 = .ok (.iastore, 1) := by decide +kernel
theorem dX5_shift_50 : decode cX5_shift 50 = .ok (.aload_n 0, 1) := by decide +kernel
theorem dX5_shift_51 : decode cX5_shift 51 = .ok (.getfield 25, 3) := by decide +kernel
theorem dX5_shift_54 : decode cX5_shift 54 = .ok (.iload_n 2, 1) := by decide +kernel
theorem dX5_shift_55 : decode cX5_shift 55 = .ok (.dup2, 1) := by decide +kernel
theorem dX5_shift_56 : decode cX5_shift 56 = .ok (.iaload, 1) := by decide +kernel
theorem dX5_shift_57 : decode cX5_shift 57 = .ok (.iload_n 3, 1) := by decide +kernel
theorem dX5_shift_58 : decode cX5_shift 58 = .ok (.iadd, 1) := by decide +kernel
theorem dX5_shift_59 : decode cX5_shift 59 = .ok (.iastore, 1) := by decide +kernel
theorem dX5_shift_60 : decode cX5_shift 60 = .ok (.return_, 1) := by decide +kernel
theorem dX5_testBrakes_0 : decode cX5_testBrakes 0 = .ok (.aload_n 0, 1) := by decide +kernel
theorem dX5_testBrakes_1 : decode cX5_testBrakes 1 = .ok (.getfield 18, 3) := by decide +kernel
theorem dX5_testBrakes_4 : decode cX5_testBrakes 4 = .ok (.iconst 3, 1) := by decide +kernel
theorem dX5_testBrakes_5 : decode cX5_testBrakes 5 = .ok (.iaload, 1) := by decide +kernel
theorem dX5_testBrakes_6 : decode cX5_testBrakes 6 = .ok (.iconst 2, 1) := by decide +kernel
theorem dX5_testBrakes_7 : decode cX5_testBrakes 7 = .ok (.aload_n 0, 1) := by decide +kernel
theorem dX5_testBrakes_8 : decode cX5_testBrakes 8 = .ok (.getfield 25, 3) := by decide +kernel
theorem dX5_testBrakes_11 : decode cX5_testBrakes 11 = .ok (.iload_n 1, 1) := by decide +kernel
theorem dX5_testBrakes_12 : decode cX5_testBrakes 12 = .ok (.iaload, 1) := by decide +kernel
theorem dX5_testBrakes_13 : decode cX5_testBrakes 13 = .ok (.imul, 1) := by decide +kernel
theorem dX5_testBrakes_14 : decode cX5_testBrakes 14 = .ok (.iadd, 1) := by decide +kernel
theorem dX5_testBrakes_15 : decode cX5_testBrakes 15 = .ok (.istore_n 2, 1) := by decide +kernel
theorem dX5_testBrakes_16 : decode cX5_testBrakes 16 = .ok (.aload_n 0, 1) := by decide +kernel
theorem dX5_testBrakes_17 : decode cX5_testBrakes 17 = .ok (.dup, 1) := by decide +kernel
theorem dX5_testBrakes_18 : decode cX5_testBrakes 18 = .ok (.getfield 41, 3) := by decide +kernel
theorem dX5_testBrakes_21 : decode cX5_testBrakes 21 = .ok (.iload_n 2, 1) := by decide +kernel
theorem dX5_testBrakes_22 : decode cX5_testBrakes 22 = .ok (.iadd, 1) := by decide +kernel
theorem dX5_testBrakes_23 : decode cX5_testBrakes 23 = .ok (.putfield 41, 3) := by decide +kernel
theorem dX5_testBrakes_26 : decode cX5_testBrakes 26 = .ok (.aload_n 0, 1) := by decide +kernel
theorem dX5_testBrakes_27 : decode cX5_testBrakes 27 = .ok (.getfield 28, 3) := by decide +kernel
theorem dX5_testBrakes_30 : decode cX5_testBrakes 30 = .ok (.iload_n 1, 1) := by decide +kernel
theorem dX5_testBrakes_31 : decode cX5_testBrakes 31 = .ok (.aload_n 0, 1) := by decide +kernel
theorem dX5_testBrakes_32 : decode cX5_testBrakes 32 = .ok (.getfield 41, 3) := by decide +kernel
theorem dX5_testBrakes_35 : decode cX5_testBrakes 35 = .ok (.iastore, 1) := by decide +kernel
theorem dX5_testBrakes_36 : decode cX5_testBrakes 36 = .ok (.iload_n 2, 1) := by decide +kernel
theorem dX5_testBrakes_37 : decode cX5_testBrakes 37 = .ok (.ireturn, 1) := by decide +kernel
theorem dX5_testHoldsFor_0 : decode cX5_testHoldsFor 0 = .ok (.aload_n 0, 1) := by decide +kernel
theorem dX5_testHoldsFor_1 : decode cX5_testHoldsFor 1 = .ok (.getfield 28, 3) := by decide +kernel
theorem dX5_testHoldsFor_4 : decode cX5_testHoldsFor 4 = .ok (.iload_n 1, 1) := by decide +kernel
theorem dX5_testHoldsFor_5 : decode cX5_testHoldsFor 5 = .ok (.iaload, 1) := by decide +kernel
theorem dX5_testHoldsFor_6 : decode cX5_testHoldsFor 6 = .ok (.iconst (-1), 1) := by decide +kernel
theorem dX5_testHoldsFor_7 : decode cX5_testHoldsFor 7 = .ok (.if_icmp .ne 5, 3) := by decide +kernel
theorem dX5_testHoldsFor_10 : decode cX5_testHoldsFor 10 = .ok (.iconst 0, 1) := by decide +kernel
theorem dX5_testHoldsFor_11 : decode cX5_testHoldsFor 11 = .ok (.ireturn, 1) := by decide +kernel
theorem dX5_testHoldsFor_12 : decode cX5_testHoldsFor 12 = .ok (.iconst 0, 1) := by decide +kernel
theorem dX5_testHoldsFor_13 : decode cX5_testHoldsFor 13 = .ok (.aload_n 0, 1) := by decide +kernel
theorem dX5_testHoldsFor_14 : decode cX5_testHoldsFor 14 = .ok (.getfield 18, 3) := by decide +kernel
theorem dX5_testHoldsFor_17 : decode cX5_testHoldsFor 17 = .ok (.iconst 1, 1) := by decide +kernel
theorem dX5_testHoldsFor_18 : decode cX5_testHoldsFor 18 = .ok (.iaload, 1) := by decide +kernel
theorem dX5_testHoldsFor_19 : decode cX5_testHoldsFor 19 = .ok (.aload_n 0, 1) := by decide +kernel
theorem dX5_testHoldsFor_20 : decode cX5_testHoldsFor 20 = .ok (.getfield 41, 3) := by decide +kernel
theorem dX5_testHoldsFor_23 : decode cX5_testHoldsFor 23 = .ok (.aload_n 0, 1) := by decide +kernel
theorem dX5_testHoldsFor_24 : decode cX5_testHoldsFor 24 = .ok (.getfield 28, 3) := by decide +kernel
theorem dX5_testHoldsFor_27 : decode cX5_testHoldsFor 27 = .ok (.iload_n 1, 1) := by decide +kernel
theorem dX5_testHoldsFor_28 : decode cX5_testHoldsFor 28 = .ok (.iaload, 1) := by decide +kernel
theorem dX5_testHoldsFor_29 : decode cX5_testHoldsFor 29 = .ok (.isub, 1) := by decide +kernel
theorem dX5_testHoldsFor_30 : decode cX5_testHoldsFor 30 = .ok (.isub, 1) := by decide +kernel
theorem dX5_testHoldsFor_31 : decode cX5_testHoldsFor 31 = .ok (.invokestatic 139, 3) := by decide +kernel
theorem dX5_testHoldsFor_34 : decode cX5_testHoldsFor 34 = .ok (.ireturn, 1) := by decide +kernel
theorem dX5_isForFirst_0 : decode cX5_isForFirst 0 = .ok (.aload_n 0, 1) := by decide +kernel
theorem dX5_isForFirst_1 : decode cX5_isForFirst 1 = .ok (.iload_n 1, 1) := by decide +kernel
theorem dX5_isForFirst_2 : decode cX5_isForFirst 2 = .ok (.iload_n 2, 1) := by decide +kernel
theorem dX5_isForFirst_3 : decode cX5_isForFirst 3 = .ok (.invokevirtual 78, 3) := by decide +kernel
theorem dX5_isForFirst_6 : decode cX5_isForFirst 6 = .ok (.invokestatic 94, 3) := by decide +kernel
theorem dX5_isForFirst_9 : decode cX5_isForFirst 9 = .ok (.aload_n 0, 1) := by decide +kernel
theorem dX5_isForFirst_10 : decode cX5_isForFirst 10 = .ok (.getfield 22, 3) := by decide +kernel
theorem dX5_isForFirst_13 : decode cX5_isForFirst 13 = .ok (.iconst 0, 1) := by decide +kernel
theorem dX5_isForFirst_14 : decode cX5_isForFirst 14 = .ok (.iaload, 1) := by decide +kernel
theorem dX5_isForFirst_15 : decode cX5_isForFirst 15 = .ok (.if_icmp .ne 7, 3) := by decide +kernel
theorem dX5_isForFirst_18 : decode cX5_isForFirst 18 = .ok (.iconst 1, 1) := by decide +kernel
theorem dX5_isForFirst_19 : decode cX5_isForFirst 19 = .ok (.goto 4, 3) := by decide +kernel
theorem dX5_isForFirst_22 : decode cX5_isForFirst 22 = .ok (.iconst 0, 1) := by decide +kernel
theorem dX5_isForFirst_23 : decode cX5_isForFirst 23 = .ok (.ireturn, 1) := by decide +kernel
theorem dX5_forFirstOn_0 : decode cX5_forFirstOn 0 = .ok (.iconst 0, 1) := by decide +kernel
theorem dX5_forFirstOn_1 : decode cX5_forFirstOn 1 = .ok (.istore_n 2, 1) := by decide +kernel
theorem dX5_forFirstOn_2 : decode cX5_forFirstOn 2 = .ok (.iconst 0, 1) := by decide +kernel
theorem dX5_forFirstOn_3 : decode cX5_forFirstOn 3 = .ok (.istore_n 3, 1) := by decide +kernel
theorem dX5_forFirstOn_4 : decode cX5_forFirstOn 4 = .ok (.iload_n 3, 1) := by decide +kernel
theorem dX5_forFirstOn_5 : decode cX5_forFirstOn 5 = .ok (.aload_n 0, 1) := by decide +kernel
theorem dX5_forFirstOn_6 : decode cX5_forFirstOn 6 = .ok (.getfield 25, 3) := by decide +kernel
theorem dX5_forFirstOn_9 : decode cX5_forFirstOn 9 = .ok (.iload_n 1, 1) := by decide +kernel
theorem dX5_forFirstOn_10 : decode cX5_forFirstOn 10 = .ok (.iaload, 1) := by decide +kernel
theorem dX5_forFirstOn_11 : decode cX5_forFirstOn 11 = .ok (.if_icmp .ge 21, 3) := by decide +kernel
theorem dX5_forFirstOn_14 : decode cX5_forFirstOn 14 = .ok (.aload_n 0, 1) := by decide +kernel
theorem dX5_forFirstOn_15 : decode cX5_forFirstOn 15 = .ok (.iload_n 1, 1) := by decide +kernel
theorem dX5_forFirstOn_16 : decode cX5_forFirstOn 16 = .ok (.iload_n 3, 1) := by decide +kernel
theorem dX5_forFirstOn_17 : decode cX5_forFirstOn 17 = .ok (.invokevirtual 142, 3) := by decide +kernel
theorem dX5_forFirstOn_20 : decode cX5_forFirstOn 20 = .ok (.ifCond .eq 6, 3) := by decide +kernel
theorem dX5_forFirstOn_23 : decode cX5_forFirstOn 23 = .ok (.iinc 2 1, 3) := by decide +kernel
theorem dX5_forFirstOn_26 : decode cX5_forFirstOn 26 = .ok (.iinc 3 1, 3) := by decide +kernel
theorem dX5_forFirstOn_29 : decode cX5_forFirstOn 29 = .ok (.goto (-25), 3) := by decide +kernel
theorem dX5_forFirstOn_32 : decode cX5_forFirstOn 32 = .ok (.iload_n 2, 1) := by decide +kernel
theorem dX5_forFirstOn_33 : decode cX5_forFirstOn 33 = .ok (.ireturn, 1) := by decide +kernel
theorem dX5_forFirstInYard_0 : decode cX5_forFirstInYard 0 = .ok (.iconst 0, 1) := by decide +kernel
theorem dX5_forFirstInYard_1 : decode cX5_forFirstInYard 1 = .ok (.istore_n 1, 1) := by decide +kernel
theorem dX5_forFirstInYard_2 : decode cX5_forFirstInYard 2 = .ok (.iconst 0, 1) := by decide +kernel
theorem dX5_forFirstInYard_3 : decode cX5_forFirstInYard 3 = .ok (.istore_n 2, 1) := by decide +kernel
theorem dX5_forFirstInYard_4 : decode cX5_forFirstInYard 4 = .ok (.iload_n 2, 1) := by decide +kernel
theorem dX5_forFirstInYard_5 : decode cX5_forFirstInYard 5 = .ok (.aload_n 0, 1) := by decide +kernel
theorem dX5_forFirstInYard_6 : decode cX5_forFirstInYard 6 = .ok (.getfield 9, 3) := by decide +kernel
theorem dX5_forFirstInYard_9 : decode cX5_forFirstInYard 9 = .ok (.if_icmp .ge 17, 3) := by decide +kernel
theorem dX5_forFirstInYard_12 : decode cX5_forFirstInYard 12 = .ok (.iload_n 1, 1) := by decide +kernel
theorem dX5_forFirstInYard_13 : decode cX5_forFirstInYard 13 = .ok (.aload_n 0, 1) := by decide +kernel
theorem dX5_forFirstInYard_14 : decode cX5_forFirstInYard 14 = .ok (.iload_n 2, 1) := by decide +kernel
theorem dX5_forFirstInYard_15 : decode cX5_forFirstInYard 15 = .ok (.invokevirtual 146, 3) := by decide +kernel
theorem dX5_forFirstInYard_18 : decode cX5_forFirstInYard 18 = .ok (.iadd, 1) := by decide +kernel
theorem dX5_forFirstInYard_19 : decode cX5_forFirstInYard 19 = .ok (.istore_n 1, 1) := by decide +kernel
theorem dX5_forFirstInYard_20 : decode cX5_forFirstInYard 20 = .ok (.iinc 2 1, 3) := by decide +kernel
theorem dX5_forFirstInYard_23 : decode cX5_forFirstInYard 23 = .ok (.goto (-19), 3) := by decide +kernel
theorem dX5_forFirstInYard_26 : decode cX5_forFirstInYard 26 = .ok (.iload_n 1, 1) := by decide +kernel
theorem dX5_forFirstInYard_27 : decode cX5_forFirstInYard 27 = .ok (.ireturn, 1) := by decide +kernel
theorem dX5_refusal_0 : decode cX5_refusal 0 = .ok (.aload_n 0, 1) := by decide +kernel
theorem dX5_refusal_1 : decode cX5_refusal 1 = .ok (.getfield 59, 3) := by decide +kernel
theorem dX5_refusal_4 : decode cX5_refusal 4 = .ok (.ifCond .ne 5, 3) := by decide +kernel
theorem dX5_refusal_7 : decode cX5_refusal 7 = .ok (.iconst 1, 1) := by decide +kernel
theorem dX5_refusal_8 : decode cX5_refusal 8 = .ok (.ireturn, 1) := by decide +kernel
theorem dX5_refusal_9 : decode cX5_refusal 9 = .ok (.aload_n 0, 1) := by decide +kernel
theorem dX5_refusal_10 : decode cX5_refusal 10 = .ok (.getfield 25, 3) := by decide +kernel
theorem dX5_refusal_13 : decode cX5_refusal 13 = .ok (.iload_n 1, 1) := by decide +kernel
theorem dX5_refusal_14 : decode cX5_refusal 14 = .ok (.iaload, 1) := by decide +kernel
theorem dX5_refusal_15 : decode cX5_refusal 15 = .ok (.ifCond .ne 5, 3) := by decide +kernel
theorem dX5_refusal_18 : decode cX5_refusal 18 = .ok (.iconst 2, 1) := by decide +kernel
theorem dX5_refusal_19 : decode cX5_refusal 19 = .ok (.ireturn, 1) := by decide +kernel
theorem dX5_refusal_20 : decode cX5_refusal 20 = .ok (.aload_n 0, 1) := by decide +kernel
theorem dX5_refusal_21 : decode cX5_refusal 21 = .ok (.iload_n 1, 1) := by decide +kernel
theorem dX5_refusal_22 : decode cX5_refusal 22 = .ok (.invokevirtual 146, 3) := by decide +kernel
theorem dX5_refusal_25 : decode cX5_refusal 25 = .ok (.aload_n 0, 1) := by decide +kernel
theorem dX5_refusal_26 : decode cX5_refusal 26 = .ok (.getfield 25, 3) := by decide +kernel
theorem dX5_refusal_29 : decode cX5_refusal 29 = .ok (.iload_n 1, 1) := by decide +kernel
theorem dX5_refusal_30 : decode cX5_refusal 30 = .ok (.iaload, 1) := by decide +kernel
theorem dX5_refusal_31 : decode cX5_refusal 31 = .ok (.if_icmp .ge 5, 3) := by decide +kernel
theorem dX5_refusal_34 : decode cX5_refusal 34 = .ok (.iconst 3, 1) := by decide +kernel
theorem dX5_refusal_35 : decode cX5_refusal 35 = .ok (.ireturn, 1) := by decide +kernel
theorem dX5_refusal_36 : decode cX5_refusal 36 = .ok (.aload_n 0, 1) := by decide +kernel
theorem dX5_refusal_37 : decode cX5_refusal 37 = .ok (.invokevirtual 149, 3) := by decide +kernel
theorem dX5_refusal_40 : decode cX5_refusal 40 = .ok (.aload_n 0, 1) := by decide +kernel
theorem dX5_refusal_41 : decode cX5_refusal 41 = .ok (.getfield 25, 3) := by decide +kernel
theorem dX5_refusal_44 : decode cX5_refusal 44 = .ok (.iload_n 1, 1) := by decide +kernel
theorem dX5_refusal_45 : decode cX5_refusal 45 = .ok (.iaload, 1) := by decide +kernel
theorem dX5_refusal_46 : decode cX5_refusal 46 = .ok (.if_icmp .le 5, 3) := by decide +kernel
theorem dX5_refusal_49 : decode cX5_refusal 49 = .ok (.iconst 4, 1) := by decide +kernel
theorem dX5_refusal_50 : decode cX5_refusal 50 = .ok (.ireturn, 1) := by decide +kernel
theorem dX5_refusal_51 : decode cX5_refusal 51 = .ok (.aload_n 0, 1) := by decide +kernel
theorem dX5_refusal_52 : decode cX5_refusal 52 = .ok (.iload_n 1, 1) := by decide +kernel
theorem dX5_refusal_53 : decode cX5_refusal 53 = .ok (.invokevirtual 118, 3) := by decide +kernel
theorem dX5_refusal_56 : decode cX5_refusal 56 = .ok (.ifCond .ne 5, 3) := by decide +kernel
theorem dX5_refusal_59 : decode cX5_refusal 59 = .ok (.iconst 5, 1) := by decide +kernel
theorem dX5_refusal_60 : decode cX5_refusal 60 = .ok (.ireturn, 1) := by decide +kernel
theorem dX5_refusal_61 : decode cX5_refusal 61 = .ok (.aload_n 0, 1) := by decide +kernel
theorem dX5_refusal_62 : decode cX5_refusal 62 = .ok (.iload_n 1, 1) := by decide +kernel
theorem dX5_refusal_63 : decode cX5_refusal 63 = .ok (.invokevirtual 153, 3) := by decide +kernel
theorem dX5_refusal_66 : decode cX5_refusal 66 = .ok (.ifCond .ne 8, 3) := by decide +kernel
theorem dX5_refusal_69 : decode cX5_refusal 69 = .ok (.bipush 6, 2) := by decide +kernel
theorem dX5_refusal_71 : decode cX5_refusal 71 = .ok (.goto 4, 3) := by decide +kernel
theorem dX5_refusal_74 : decode cX5_refusal 74 = .ok (.iconst 0, 1) := by decide +kernel
theorem dX5_refusal_75 : decode cX5_refusal 75 = .ok (.ireturn, 1) := by decide +kernel
theorem dX5_sendOff_0 : decode cX5_sendOff 0 = .ok (.aload_n 0, 1) := by decide +kernel
theorem dX5_sendOff_1 : decode cX5_sendOff 1 = .ok (.getfield 25, 3) := by decide +kernel
theorem dX5_sendOff_4 : decode cX5_sendOff 4 = .ok (.iload_n 1, 1) := by decide +kernel
theorem dX5_sendOff_5 : decode cX5_sendOff 5 = .ok (.iaload, 1) := by decide +kernel
theorem dX5_sendOff_6 : decode cX5_sendOff 6 = .ok (.istore_n 2, 1) := by decide +kernel
theorem dX5_sendOff_7 : decode cX5_sendOff 7 = .ok (.aload_n 0, 1) := by decide +kernel
theorem dX5_sendOff_8 : decode cX5_sendOff 8 = .ok (.getfield 25, 3) := by decide +kernel
theorem dX5_sendOff_11 : decode cX5_sendOff 11 = .ok (.iload_n 1, 1) := by decide +kernel
theorem dX5_sendOff_12 : decode cX5_sendOff 12 = .ok (.iconst 0, 1) := by decide +kernel
theorem dX5_sendOff_13 : decode cX5_sendOff 13 = .ok (.iastore, 1) := by decide +kernel
theorem dX5_sendOff_14 : decode cX5_sendOff 14 = .ok (.aload_n 0, 1) := by decide +kernel
theorem dX5_sendOff_15 : decode cX5_sendOff 15 = .ok (.getfield 28, 3) := by decide +kernel
theorem dX5_sendOff_18 : decode cX5_sendOff 18 = .ok (.iload_n 1, 1) := by decide +kernel
theorem dX5_sendOff_19 : decode cX5_sendOff 19 = .ok (.iconst (-1), 1) := by decide +kernel
theorem dX5_sendOff_20 : decode cX5_sendOff 20 = .ok (.iastore, 1) := by decide +kernel
theorem dX5_sendOff_21 : decode cX5_sendOff 21 = .ok (.aload_n 0, 1) := by decide +kernel
theorem dX5_sendOff_22 : decode cX5_sendOff 22 = .ok (.dup, 1) := by decide +kernel
theorem dX5_sendOff_23 : decode cX5_sendOff 23 = .ok (.getfield 50, 3) := by decide +kernel
theorem dX5_sendOff_26 : decode cX5_sendOff 26 = .ok (.iconst 1, 1) := by decide +kernel
theorem dX5_sendOff_27 : decode cX5_sendOff 27 = .ok (.iadd, 1) := by decide +kernel
theorem dX5_sendOff_28 : decode cX5_sendOff 28 = .ok (.putfield 50, 3) := by decide +kernel
theorem dX5_sendOff_31 : decode cX5_sendOff 31 = .ok (.aload_n 0, 1) := by decide +kernel
theorem dX5_sendOff_32 : decode cX5_sendOff 32 = .ok (.dup, 1) := by decide +kernel
theorem dX5_sendOff_33 : decode cX5_sendOff 33 = .ok (.getfield 53, 3) := by decide +kernel
theorem dX5_sendOff_36 : decode cX5_sendOff 36 = .ok (.iload_n 2, 1) := by decide +kernel
theorem dX5_sendOff_37 : decode cX5_sendOff 37 = .ok (.iadd, 1) := by decide +kernel
theorem dX5_sendOff_38 : decode cX5_sendOff 38 = .ok (.putfield 53, 3) := by decide +kernel
theorem dX5_sendOff_41 : decode cX5_sendOff 41 = .ok (.aload_n 0, 1) := by decide +kernel
theorem dX5_sendOff_42 : decode cX5_sendOff 42 = .ok (.dup, 1) := by decide +kernel
theorem dX5_sendOff_43 : decode cX5_sendOff 43 = .ok (.getfield 59, 3) := by decide +kernel
theorem dX5_sendOff_46 : decode cX5_sendOff 46 = .ok (.iconst 1, 1) := by decide +kernel
theorem dX5_sendOff_47 : decode cX5_sendOff 47 = .ok (.isub, 1) := by decide +kernel
theorem dX5_sendOff_48 : decode cX5_sendOff 48 = .ok (.putfield 59, 3) := by decide +kernel
theorem dX5_sendOff_51 : decode cX5_sendOff 51 = .ok (.aload_n 0, 1) := by decide +kernel
theorem dX5_sendOff_52 : decode cX5_sendOff 52 = .ok (.getfield 22, 3) := by decide +kernel
theorem dX5_sendOff_55 : decode cX5_sendOff 55 = .ok (.iconst 1, 1) := by decide +kernel
theorem dX5_sendOff_56 : decode cX5_sendOff 56 = .ok (.aload_n 0, 1) := by decide +kernel
theorem dX5_sendOff_57 : decode cX5_sendOff 57 = .ok (.getfield 22, 3) := by decide +kernel
theorem dX5_sendOff_60 : decode cX5_sendOff 60 = .ok (.iconst 0, 1) := by decide +kernel
theorem dX5_sendOff_61 : decode cX5_sendOff 61 = .ok (.aload_n 0, 1) := by decide +kernel
theorem dX5_sendOff_62 : decode cX5_sendOff 62 = .ok (.getfield 59, 3) := by decide +kernel
theorem dX5_sendOff_65 : decode cX5_sendOff 65 = .ok (.invokestatic 62, 3) := by decide +kernel
theorem dX5_sendOff_68 : decode cX5_sendOff 68 = .ok (.iload_n 2, 1) := by decide +kernel
theorem dX5_sendOff_69 : decode cX5_sendOff 69 = .ok (.ireturn, 1) := by decide +kernel
theorem dX5_madeUpTrack_0 : decode cX5_madeUpTrack 0 = .ok (.aload_n 0, 1) := by decide +kernel
theorem dX5_madeUpTrack_1 : decode cX5_madeUpTrack 1 = .ok (.getfield 59, 3) := by decide +kernel
theorem dX5_madeUpTrack_4 : decode cX5_madeUpTrack 4 = .ok (.ifCond .ne 6, 3) := by decide +kernel
theorem dX5_madeUpTrack_7 : decode cX5_madeUpTrack 7 = .ok (.bipush (-9), 2) := by decide +kernel
theorem dX5_madeUpTrack_9 : decode cX5_madeUpTrack 9 = .ok (.ireturn, 1) := by decide +kernel
theorem dX5_madeUpTrack_10 : decode cX5_madeUpTrack 10 = .ok (.iconst 0, 1) := by decide +kernel
theorem dX5_madeUpTrack_11 : decode cX5_madeUpTrack 11 = .ok (.istore_n 1, 1) := by decide +kernel
theorem dX5_madeUpTrack_12 : decode cX5_madeUpTrack 12 = .ok (.iload_n 1, 1) := by decide +kernel
theorem dX5_madeUpTrack_13 : decode cX5_madeUpTrack 13 = .ok (.aload_n 0, 1) := by decide +kernel
theorem dX5_madeUpTrack_14 : decode cX5_madeUpTrack 14 = .ok (.getfield 9, 3) := by decide +kernel
theorem dX5_madeUpTrack_17 : decode cX5_madeUpTrack 17 = .ok (.if_icmp .ge 52, 3) := by decide +kernel
theorem dX5_madeUpTrack_20 : decode cX5_madeUpTrack 20 = .ok (.aload_n 0, 1) := by decide +kernel
theorem dX5_madeUpTrack_21 : decode cX5_madeUpTrack 21 = .ok (.getfield 25, 3) := by decide +kernel
theorem dX5_madeUpTrack_24 : decode cX5_madeUpTrack 24 = .ok (.iload_n 1, 1) := by decide +kernel
theorem dX5_madeUpTrack_25 : decode cX5_madeUpTrack 25 = .ok (.iaload, 1) := by decide +kernel
theorem dX5_madeUpTrack_26 : decode cX5_madeUpTrack 26 = .ok (.ifCond .le 37, 3) := by decide +kernel
theorem dX5_madeUpTrack_29 : decode cX5_madeUpTrack 29 = .ok (.aload_n 0, 1) := by decide +kernel
theorem dX5_madeUpTrack_30 : decode cX5_madeUpTrack 30 = .ok (.iload_n 1, 1) := by decide +kernel
theorem dX5_madeUpTrack_31 : decode cX5_madeUpTrack 31 = .ok (.invokevirtual 146, 3) := by decide +kernel
theorem dX5_madeUpTrack_34 : decode cX5_madeUpTrack 34 = .ok (.aload_n 0, 1) := by decide +kernel
theorem dX5_madeUpTrack_35 : decode cX5_madeUpTrack 35 = .ok (.getfield 25, 3) := by decide +kernel
theorem dX5_madeUpTrack_38 : decode cX5_madeUpTrack 38 = .ok (.iload_n 1, 1) := by decide +kernel
theorem dX5_madeUpTrack_39 : decode cX5_madeUpTrack 39 = .ok (.iaload, 1) := by decide +kernel
theorem dX5_madeUpTrack_40 : decode cX5_madeUpTrack 40 = .ok (.if_icmp .ne 23, 3) := by decide +kernel
theorem dX5_madeUpTrack_43 : decode cX5_madeUpTrack 43 = .ok (.aload_n 0, 1) := by decide +kernel
theorem dX5_madeUpTrack_44 : decode cX5_madeUpTrack 44 = .ok (.invokevirtual 149, 3) := by decide +kernel
theorem dX5_madeUpTrack_47 : decode cX5_madeUpTrack 47 = .ok (.aload_n 0, 1) := by decide +kernel
theorem dX5_madeUpTrack_48 : decode cX5_madeUpTrack 48 = .ok (.getfield 25, 3) := by decide +kernel
theorem dX5_madeUpTrack_51 : decode cX5_madeUpTrack 51 = .ok (.iload_n 1, 1) := by decide +kernel
theorem dX5_madeUpTrack_52 : decode cX5_madeUpTrack 52 = .ok (.iaload, 1) := by decide +kernel
theorem dX5_madeUpTrack_53 : decode cX5_madeUpTrack 53 = .ok (.if_icmp .ne 7, 3) := by decide +kernel
theorem dX5_madeUpTrack_56 : decode cX5_madeUpTrack 56 = .ok (.iload_n 1, 1) := by decide +kernel
theorem dX5_madeUpTrack_57 : decode cX5_madeUpTrack 57 = .ok (.goto 5, 3) := by decide +kernel
theorem dX5_madeUpTrack_60 : decode cX5_madeUpTrack 60 = .ok (.bipush (-9), 2) := by decide +kernel
theorem dX5_madeUpTrack_62 : decode cX5_madeUpTrack 62 = .ok (.ireturn, 1) := by decide +kernel
theorem dX5_madeUpTrack_63 : decode cX5_madeUpTrack 63 = .ok (.iinc 1 1, 3) := by decide +kernel
theorem dX5_madeUpTrack_66 : decode cX5_madeUpTrack 66 = .ok (.goto (-54), 3) := by decide +kernel
theorem dX5_madeUpTrack_69 : decode cX5_madeUpTrack 69 = .ok (.bipush (-9), 2) := by decide +kernel
theorem dX5_madeUpTrack_71 : decode cX5_madeUpTrack 71 = .ok (.ireturn, 1) := by decide +kernel
theorem dX6_init_0 : decode cX6_init 0 = .ok (.aload_n 0, 1) := by decide +kernel
theorem dX6_init_1 : decode cX6_init 1 = .ok (.invokespecial 1, 3) := by decide +kernel
theorem dX6_init_4 : decode cX6_init 4 = .ok (.aload_n 0, 1) := by decide +kernel
theorem dX6_init_5 : decode cX6_init 5 = .ok (.new 7, 3) := by decide +kernel
theorem dX6_init_8 : decode cX6_init 8 = .ok (.dup, 1) := by decide +kernel
theorem dX6_init_9 : decode cX6_init 9 = .ok (.invokespecial 9, 3) := by decide +kernel
theorem dX6_init_12 : decode cX6_init 12 = .ok (.putfield 10, 3) := by decide +kernel
theorem dX6_init_15 : decode cX6_init 15 = .ok (.aload_n 0, 1) := by decide +kernel
theorem dX6_init_16 : decode cX6_init 16 = .ok (.new 16, 3) := by decide +kernel
theorem dX6_init_19 : decode cX6_init 19 = .ok (.dup, 1) := by decide +kernel
theorem dX6_init_20 : decode cX6_init 20 = .ok (.invokespecial 18, 3) := by decide +kernel
theorem dX6_init_23 : decode cX6_init 23 = .ok (.putfield 19, 3) := by decide +kernel
theorem dX6_init_26 : decode cX6_init 26 = .ok (.aload_n 0, 1) := by decide +kernel
theorem dX6_init_27 : decode cX6_init 27 = .ok (.iconst 2, 1) := by decide +kernel
theorem dX6_init_28 : decode cX6_init 28 = .ok (.anewarray 7, 3) := by decide +kernel
theorem dX6_init_31 : decode cX6_init 31 = .ok (.putfield 23, 3) := by decide +kernel
theorem dX6_init_34 : decode cX6_init 34 = .ok (.aload_n 0, 1) := by decide +kernel
theorem dX6_init_35 : decode cX6_init 35 = .ok (.new 27, 3) := by decide +kernel
theorem dX6_init_38 : decode cX6_init 38 = .ok (.dup, 1) := by decide +kernel
theorem dX6_init_39 : decode cX6_init 39 = .ok (.invokespecial 29, 3) := by decide +kernel
theorem dX6_init_42 : decode cX6_init 42 = .ok (.putfield 30, 3) := by decide +kernel
theorem dX6_init_45 : decode cX6_init 45 = .ok (.aload_n 0, 1) := by decide +kernel
theorem dX6_init_46 : decode cX6_init 46 = .ok (.new 34, 3) := by decide +kernel
theorem dX6_init_49 : decode cX6_init 49 = .ok (.dup, 1) := by decide +kernel
theorem dX6_init_50 : decode cX6_init 50 = .ok (.invokespecial 36, 3) := by decide +kernel
theorem dX6_init_53 : decode cX6_init 53 = .ok (.putfield 37, 3) := by decide +kernel
theorem dX6_init_56 : decode cX6_init 56 = .ok (.aload_n 0, 1) := by decide +kernel
theorem dX6_init_57 : decode cX6_init 57 = .ok (.bipush (-9), 2) := by decide +kernel
theorem dX6_init_59 : decode cX6_init 59 = .ok (.putfield 41, 3) := by decide +kernel
theorem dX6_init_62 : decode cX6_init 62 = .ok (.return_, 1) := by decide +kernel
theorem dX6_begin_0 : decode cX6_begin 0 = .ok (.iload_n 1, 1) := by decide +kernel
theorem dX6_begin_1 : decode cX6_begin 1 = .ok (.iconst 2, 1) := by decide +kernel
theorem dX6_begin_2 : decode cX6_begin 2 = .ok (.iconst 4, 1) := by decide +kernel
theorem dX6_begin_3 : decode cX6_begin 3 = .ok (.invokestatic 45, 3) := by decide +kernel
theorem dX6_begin_6 : decode cX6_begin 6 = .ok (.ifCond .eq 13, 3) := by decide +kernel
theorem dX6_begin_9 : decode cX6_begin 9 = .ok (.iload_n 2, 1) := by decide +kernel
theorem dX6_begin_10 : decode cX6_begin 10 = .ok (.iconst 1, 1) := by decide +kernel
theorem dX6_begin_11 : decode cX6_begin 11 = .ok (.bipush 8, 2) := by decide +kernel
theorem dX6_begin_13 : decode cX6_begin 13 = .ok (.invokestatic 45, 3) := by decide +kernel
theorem dX6_begin_16 : decode cX6_begin 16 = .ok (.ifCond .ne 5, 3) := by decide +kernel
theorem dX6_begin_19 : decode cX6_begin 19 = .ok (.iconst (-1), 1) := by decide +kernel
theorem dX6_begin_20 : decode cX6_begin 20 = .ok (.ireturn, 1) := by decide +kernel
theorem dX6_begin_21 : decode cX6_begin 21 = .ok (.aload_n 0, 1) := by decide +kernel
theorem dX6_begin_22 : decode cX6_begin 22 = .ok (.getfield 10, 3) := by decide +kernel
theorem dX6_begin_25 : decode cX6_begin 25 = .ok (.invokevirtual 49, 3) := by decide +kernel
theorem dX6_begin_28 : decode cX6_begin 28 = .ok (.istore_n 3, 1) := by decide +kernel
theorem dX6_begin_29 : decode cX6_begin 29 = .ok (.aload_n 0, 1) := by decide +kernel
theorem dX6_begin_30 : decode cX6_begin 30 = .ok (.getfield 19, 3) := by decide +kernel
theorem dX6_begin_33 : decode cX6_begin 33 = .ok (.aload_n 0, 1) := by decide +kernel
theorem dX6_begin_34 : decode cX6_begin 34 = .ok (.getfield 10, 3) := by decide +kernel
theorem dX6_begin_37 : decode cX6_begin 37 = .ok (.invokevirtual 53, 3) := by decide +kernel
theorem dX6_begin_40 : decode cX6_begin 40 = .ok (.aload_n 0, 1) := by decide +kernel
theorem dX6_begin_41 : decode cX6_begin 41 = .ok (.getfield 10, 3) := by decide +kernel
theorem dX6_begin_44 : decode cX6_begin 44 = .ok (.iload_n 1, 1) := by decide +kernel
theorem dX6_begin_45 : decode cX6_begin 45 = .ok (.iload_n 2, 1) := by decide +kernel
theorem dX6_begin_46 : decode cX6_begin 46 = .ok (.invokevirtual 57, 3) := by decide +kernel
theorem dX6_begin_49 : decode cX6_begin 49 = .ok (.iload_n 3, 1) := by decide +kernel
theorem dX6_begin_50 : decode cX6_begin 50 = .ok (.ireturn, 1) := by decide +kernel
theorem dX6_set_0 : decode cX6_set 0 = .ok (.iload_n 1, 1) := by decide +kernel
theorem dX6_set_1 : decode cX6_set 1 = .ok (.invokestatic 61, 3) := by decide +kernel
theorem dX6_set_4 : decode cX6_set 4 = .ok (.ifCond .eq 18, 3) := by decide +kernel
theorem dX6_set_7 : decode cX6_set 7 = .ok (.iload_n 2, 1) := by decide +kernel
theorem dX6_set_8 : decode cX6_set 8 = .ok (.iload_n 1, 1) := by decide +kernel
theorem dX6_set_9 : decode cX6_set 9 = .ok (.invokestatic 65, 3) := by decide +kernel
theorem dX6_set_12 : decode cX6_set 12 = .ok (.iload_n 1, 1) := by decide +kernel
theorem dX6_set_13 : decode cX6_set 13 = .ok (.invokestatic 69, 3) := by decide +kernel
theorem dX6_set_16 : decode cX6_set 16 = .ok (.invokestatic 45, 3) := by decide +kernel
theorem dX6_set_19 : decode cX6_set 19 = .ok (.ifCond .ne 5, 3) := by decide +kernel
theorem dX6_set_22 : decode cX6_set 22 = .ok (.iconst (-1), 1) := by decide +kernel
theorem dX6_set_23 : decode cX6_set 23 = .ok (.ireturn, 1) := by decide +kernel
theorem dX6_set_24 : decode cX6_set 24 = .ok (.aload_n 0, 1) := by decide +kernel
theorem dX6_set_25 : decode cX6_set 25 = .ok (.getfield 10, 3) := by decide +kernel
theorem dX6_set_28 : decode cX6_set 28 = .ok (.getfield 72, 3) := by decide +kernel
theorem dX6_set_31 : decode cX6_set 31 = .ok (.iload_n 1, 1) := by decide +kernel
theorem dX6_set_32 : decode cX6_set 32 = .ok (.iaload, 1) := by decide +kernel
theorem dX6_set_33 : decode cX6_set 33 = .ok (.istore_n 3, 1) := by decide +kernel
theorem dX6_set_34 : decode cX6_set 34 = .ok (.aload_n 0, 1) := by decide +kernel
theorem dX6_set_35 : decode cX6_set 35 = .ok (.getfield 19, 3) := by decide +kernel
theorem dX6_set_38 : decode cX6_set 38 = .ok (.aload_n 0, 1) := by decide +kernel
theorem dX6_set_39 : decode cX6_set 39 = .ok (.getfield 10, 3) := by decide +kernel
theorem dX6_set_42 : decode cX6_set 42 = .ok (.invokevirtual 53, 3) := by decide +kernel
theorem dX6_set_45 : decode cX6_set 45 = .ok (.aload_n 0, 1) := by decide +kernel
