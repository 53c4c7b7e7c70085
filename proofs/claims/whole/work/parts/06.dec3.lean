theorem dX7_next_32 : decode cX7_next 32 = .ok (.invokevirtual 63, 3) := by decide +kernel
theorem dX7_next_35 : decode cX7_next 35 = .ok (.if_icmp .le 24, 3) := by decide +kernel
theorem dX7_next_38 : decode cX7_next 38 = .ok (.aload_n 0, 1) := by decide +kernel
theorem dX7_next_39 : decode cX7_next 39 = .ok (.getfield 47, 3) := by decide +kernel
theorem dX7_next_42 : decode cX7_next 42 = .ok (.iload_n 2, 1) := by decide +kernel
theorem dX7_next_43 : decode cX7_next 43 = .ok (.iconst 2, 1) := by decide +kernel
theorem dX7_next_44 : decode cX7_next 44 = .ok (.iadd, 1) := by decide +kernel
theorem dX7_next_45 : decode cX7_next 45 = .ok (.iconst 1, 1) := by decide +kernel
theorem dX7_next_46 : decode cX7_next 46 = .ok (.iastore, 1) := by decide +kernel
theorem dX7_next_47 : decode cX7_next 47 = .ok (.aload_n 0, 1) := by decide +kernel
theorem dX7_next_48 : decode cX7_next 48 = .ok (.getfield 47, 3) := by decide +kernel
theorem dX7_next_51 : decode cX7_next 51 = .ok (.iload_n 2, 1) := by decide +kernel
theorem dX7_next_52 : decode cX7_next 52 = .ok (.iconst 1, 1) := by decide +kernel
theorem dX7_next_53 : decode cX7_next 53 = .ok (.iadd, 1) := by decide +kernel
theorem dX7_next_54 : decode cX7_next 54 = .ok (.dup2, 1) := by decide +kernel
theorem dX7_next_55 : decode cX7_next 55 = .ok (.iaload, 1) := by decide +kernel
theorem dX7_next_56 : decode cX7_next 56 = .ok (.iconst 1, 1) := by decide +kernel
theorem dX7_next_57 : decode cX7_next 57 = .ok (.iadd, 1) := by decide +kernel
theorem dX7_next_58 : decode cX7_next 58 = .ok (.iastore, 1) := by decide +kernel
theorem dX7_next_59 : decode cX7_next 59 = .ok (.aload_n 0, 1) := by decide +kernel
theorem dX7_next_60 : decode cX7_next 60 = .ok (.getfield 47, 3) := by decide +kernel
theorem dX7_next_63 : decode cX7_next 63 = .ok (.iload_n 2, 1) := by decide +kernel
theorem dX7_next_64 : decode cX7_next 64 = .ok (.iconst 1, 1) := by decide +kernel
theorem dX7_next_65 : decode cX7_next 65 = .ok (.iadd, 1) := by decide +kernel
theorem dX7_next_66 : decode cX7_next 66 = .ok (.iaload, 1) := by decide +kernel
theorem dX7_next_67 : decode cX7_next 67 = .ok (.aload_n 0, 1) := by decide +kernel
theorem dX7_next_68 : decode cX7_next 68 = .ok (.getfield 7, 3) := by decide +kernel
theorem dX7_next_71 : decode cX7_next 71 = .ok (.iconst 4, 1) := by decide +kernel
theorem dX7_next_72 : decode cX7_next 72 = .ok (.iaload, 1) := by decide +kernel
theorem dX7_next_73 : decode cX7_next 73 = .ok (.if_icmp .ne 22, 3) := by decide +kernel
theorem dX7_next_76 : decode cX7_next 76 = .ok (.aload_n 0, 1) := by decide +kernel
theorem dX7_next_77 : decode cX7_next 77 = .ok (.getfield 47, 3) := by decide +kernel
theorem dX7_next_80 : decode cX7_next 80 = .ok (.iload_n 2, 1) := by decide +kernel
theorem dX7_next_81 : decode cX7_next 81 = .ok (.iconst 1, 1) := by decide +kernel
theorem dX7_next_82 : decode cX7_next 82 = .ok (.iadd, 1) := by decide +kernel
theorem dX7_next_83 : decode cX7_next 83 = .ok (.iconst 0, 1) := by decide +kernel
theorem dX7_next_84 : decode cX7_next 84 = .ok (.iastore, 1) := by decide +kernel
theorem dX7_next_85 : decode cX7_next 85 = .ok (.aload_n 0, 1) := by decide +kernel
theorem dX7_next_86 : decode cX7_next 86 = .ok (.getfield 47, 3) := by decide +kernel
theorem dX7_next_89 : decode cX7_next 89 = .ok (.iload_n 2, 1) := by decide +kernel
theorem dX7_next_90 : decode cX7_next 90 = .ok (.dup2, 1) := by decide +kernel
theorem dX7_next_91 : decode cX7_next 91 = .ok (.iaload, 1) := by decide +kernel
theorem dX7_next_92 : decode cX7_next 92 = .ok (.iconst 1, 1) := by decide +kernel
theorem dX7_next_93 : decode cX7_next 93 = .ok (.iadd, 1) := by decide +kernel
theorem dX7_next_94 : decode cX7_next 94 = .ok (.iastore, 1) := by decide +kernel
theorem dX7_next_95 : decode cX7_next 95 = .ok (.aload_n 0, 1) := by decide +kernel
theorem dX7_next_96 : decode cX7_next 96 = .ok (.getfield 47, 3) := by decide +kernel
theorem dX7_next_99 : decode cX7_next 99 = .ok (.iload_n 2, 1) := by decide +kernel
theorem dX7_next_100 : decode cX7_next 100 = .ok (.iaload, 1) := by decide +kernel
theorem dX7_next_101 : decode cX7_next 101 = .ok (.aload_n 0, 1) := by decide +kernel
theorem dX7_next_102 : decode cX7_next 102 = .ok (.getfield 7, 3) := by decide +kernel
theorem dX7_next_105 : decode cX7_next 105 = .ok (.iconst 4, 1) := by decide +kernel
theorem dX7_next_106 : decode cX7_next 106 = .ok (.iaload, 1) := by decide +kernel
theorem dX7_next_107 : decode cX7_next 107 = .ok (.if_icmp .ge 7, 3) := by decide +kernel
theorem dX7_next_110 : decode cX7_next 110 = .ok (.iconst 1, 1) := by decide +kernel
theorem dX7_next_111 : decode cX7_next 111 = .ok (.goto 4, 3) := by decide +kernel
theorem dX7_next_114 : decode cX7_next 114 = .ok (.iconst 0, 1) := by decide +kernel
theorem dX7_next_115 : decode cX7_next 115 = .ok (.ireturn, 1) := by decide +kernel
theorem dX7_enter_0 : decode cX7_enter 0 = .ok (.aload_n 0, 1) := by decide +kernel
theorem dX7_enter_1 : decode cX7_enter 1 = .ok (.getfield 47, 3) := by decide +kernel
theorem dX7_enter_4 : decode cX7_enter 4 = .ok (.iconst 3, 1) := by decide +kernel
theorem dX7_enter_5 : decode cX7_enter 5 = .ok (.iload_n 1, 1) := by decide +kernel
theorem dX7_enter_6 : decode cX7_enter 6 = .ok (.imul, 1) := by decide +kernel
theorem dX7_enter_7 : decode cX7_enter 7 = .ok (.iconst 0, 1) := by decide +kernel
theorem dX7_enter_8 : decode cX7_enter 8 = .ok (.iastore, 1) := by decide +kernel
theorem dX7_enter_9 : decode cX7_enter 9 = .ok (.aload_n 0, 1) := by decide +kernel
theorem dX7_enter_10 : decode cX7_enter 10 = .ok (.getfield 47, 3) := by decide +kernel
theorem dX7_enter_13 : decode cX7_enter 13 = .ok (.iconst 3, 1) := by decide +kernel
theorem dX7_enter_14 : decode cX7_enter 14 = .ok (.iload_n 1, 1) := by decide +kernel
theorem dX7_enter_15 : decode cX7_enter 15 = .ok (.imul, 1) := by decide +kernel
theorem dX7_enter_16 : decode cX7_enter 16 = .ok (.iconst 1, 1) := by decide +kernel
theorem dX7_enter_17 : decode cX7_enter 17 = .ok (.iadd, 1) := by decide +kernel
theorem dX7_enter_18 : decode cX7_enter 18 = .ok (.iconst 0, 1) := by decide +kernel
theorem dX7_enter_19 : decode cX7_enter 19 = .ok (.iastore, 1) := by decide +kernel
theorem dX7_enter_20 : decode cX7_enter 20 = .ok (.aload_n 0, 1) := by decide +kernel
theorem dX7_enter_21 : decode cX7_enter 21 = .ok (.getfield 47, 3) := by decide +kernel
theorem dX7_enter_24 : decode cX7_enter 24 = .ok (.iconst 3, 1) := by decide +kernel
theorem dX7_enter_25 : decode cX7_enter 25 = .ok (.iload_n 1, 1) := by decide +kernel
theorem dX7_enter_26 : decode cX7_enter 26 = .ok (.imul, 1) := by decide +kernel
theorem dX7_enter_27 : decode cX7_enter 27 = .ok (.iconst 2, 1) := by decide +kernel
theorem dX7_enter_28 : decode cX7_enter 28 = .ok (.iadd, 1) := by decide +kernel
theorem dX7_enter_29 : decode cX7_enter 29 = .ok (.iconst 0, 1) := by decide +kernel
theorem dX7_enter_30 : decode cX7_enter 30 = .ok (.iastore, 1) := by decide +kernel
theorem dX7_enter_31 : decode cX7_enter 31 = .ok (.aload_n 0, 1) := by decide +kernel
theorem dX7_enter_32 : decode cX7_enter 32 = .ok (.iload_n 1, 1) := by decide +kernel
theorem dX7_enter_33 : decode cX7_enter 33 = .ok (.invokevirtual 166, 3) := by decide +kernel
theorem dX7_enter_36 : decode cX7_enter 36 = .ok (.return_, 1) := by decide +kernel
theorem dX7_isWorthIt_0 : decode cX7_isWorthIt 0 = .ok (.iload_n 1, 1) := by decide +kernel
theorem dX7_isWorthIt_1 : decode cX7_isWorthIt 1 = .ok (.ifCond .le 26, 3) := by decide +kernel
theorem dX7_isWorthIt_4 : decode cX7_isWorthIt 4 = .ok (.aload_n 0, 1) := by decide +kernel
theorem dX7_isWorthIt_5 : decode cX7_isWorthIt 5 = .ok (.invokevirtual 169, 3) := by decide +kernel
theorem dX7_isWorthIt_8 : decode cX7_isWorthIt 8 = .ok (.iconst 1, 1) := by decide +kernel
theorem dX7_isWorthIt_9 : decode cX7_isWorthIt 9 = .ok (.isub, 1) := by decide +kernel
theorem dX7_isWorthIt_10 : decode cX7_isWorthIt 10 = .ok (.iload_n 1, 1) := by decide +kernel
theorem dX7_isWorthIt_11 : decode cX7_isWorthIt 11 = .ok (.if_icmp .gt 16, 3) := by decide +kernel
theorem dX7_isWorthIt_14 : decode cX7_isWorthIt 14 = .ok (.aload_n 0, 1) := by decide +kernel
theorem dX7_isWorthIt_15 : decode cX7_isWorthIt 15 = .ok (.invokevirtual 163, 3) := by decide +kernel
theorem dX7_isWorthIt_18 : decode cX7_isWorthIt 18 = .ok (.bipush (-9), 2) := by decide +kernel
theorem dX7_isWorthIt_20 : decode cX7_isWorthIt 20 = .ok (.if_icmp .ne 7, 3) := by decide +kernel
theorem dX7_isWorthIt_23 : decode cX7_isWorthIt 23 = .ok (.iconst 1, 1) := by decide +kernel
theorem dX7_isWorthIt_24 : decode cX7_isWorthIt 24 = .ok (.goto 4, 3) := by decide +kernel
theorem dX7_isWorthIt_27 : decode cX7_isWorthIt 27 = .ok (.iconst 0, 1) := by decide +kernel
theorem dX7_isWorthIt_28 : decode cX7_isWorthIt 28 = .ok (.ireturn, 1) := by decide +kernel
theorem dX7_search_0 : decode cX7_search 0 = .ok (.aload_n 0, 1) := by decide +kernel
theorem dX7_search_1 : decode cX7_search 1 = .ok (.bipush (-9), 2) := by decide +kernel
theorem dX7_search_3 : decode cX7_search 3 = .ok (.putfield 157, 3) := by decide +kernel
theorem dX7_search_6 : decode cX7_search 6 = .ok (.aload_n 0, 1) := by decide +kernel
theorem dX7_search_7 : decode cX7_search 7 = .ok (.iconst 0, 1) := by decide +kernel
theorem dX7_search_8 : decode cX7_search 8 = .ok (.putfield 160, 3) := by decide +kernel
theorem dX7_search_11 : decode cX7_search 11 = .ok (.aload_n 0, 1) := by decide +kernel
theorem dX7_search_12 : decode cX7_search 12 = .ok (.iconst 0, 1) := by decide +kernel
theorem dX7_search_13 : decode cX7_search 13 = .ok (.iconst 0, 1) := by decide +kernel
theorem dX7_search_14 : decode cX7_search 14 = .ok (.invokevirtual 172, 3) := by decide +kernel
theorem dX7_search_17 : decode cX7_search 17 = .ok (.aload_n 0, 1) := by decide +kernel
theorem dX7_search_18 : decode cX7_search 18 = .ok (.getfield 7, 3) := by decide +kernel
theorem dX7_search_21 : decode cX7_search 21 = .ok (.bipush 12, 2) := by decide +kernel
theorem dX7_search_23 : decode cX7_search 23 = .ok (.iaload, 1) := by decide +kernel
theorem dX7_search_24 : decode cX7_search 24 = .ok (.ifCond .eq 25, 3) := by decide +kernel
theorem dX7_search_27 : decode cX7_search 27 = .ok (.aload_n 0, 1) := by decide +kernel
theorem dX7_search_28 : decode cX7_search 28 = .ok (.getfield 157, 3) := by decide +kernel
theorem dX7_search_31 : decode cX7_search 31 = .ok (.ifCond .eq 18, 3) := by decide +kernel
theorem dX7_search_34 : decode cX7_search 34 = .ok (.aload_n 0, 1) := by decide +kernel
theorem dX7_search_35 : decode cX7_search 35 = .ok (.invokevirtual 169, 3) := by decide +kernel
theorem dX7_search_38 : decode cX7_search 38 = .ok (.ifCond .eq 11, 3) := by decide +kernel
theorem dX7_search_41 : decode cX7_search 41 = .ok (.aload_n 0, 1) := by decide +kernel
theorem dX7_search_42 : decode cX7_search 42 = .ok (.iload_n 1, 1) := by decide +kernel
theorem dX7_search_43 : decode cX7_search 43 = .ok (.invokevirtual 175, 3) := by decide +kernel
theorem dX7_search_46 : decode cX7_search 46 = .ok (.ifCond .ne 4, 3) := by decide +kernel
theorem dX7_search_49 : decode cX7_search 49 = .ok (.return_, 1) := by decide +kernel
theorem dX7_search_50 : decode cX7_search 50 = .ok (.iconst 0, 1) := by decide +kernel
theorem dX7_search_51 : decode cX7_search 51 = .ok (.istore_n 2, 1) := by decide +kernel
theorem dX7_search_52 : decode cX7_search 52 = .ok (.aload_n 0, 1) := by decide +kernel
theorem dX7_search_53 : decode cX7_search 53 = .ok (.getfield 53, 3) := by decide +kernel
theorem dX7_search_56 : decode cX7_search 56 = .ok (.iconst 0, 1) := by decide +kernel
theorem dX7_search_57 : decode cX7_search 57 = .ok (.iconst 0, 1) := by decide +kernel
theorem dX7_search_58 : decode cX7_search 58 = .ok (.iastore, 1) := by decide +kernel
theorem dX7_search_59 : decode cX7_search 59 = .ok (.aload_n 0, 1) := by decide +kernel
theorem dX7_search_60 : decode cX7_search 60 = .ok (.iconst 0, 1) := by decide +kernel
theorem dX7_search_61 : decode cX7_search 61 = .ok (.invokevirtual 178, 3) := by decide +kernel
theorem dX7_search_64 : decode cX7_search 64 = .ok (.iload_n 2, 1) := by decide +kernel
theorem dX7_search_65 : decode cX7_search 65 = .ok (.ifCond .lt 113, 3) := by decide +kernel
theorem dX7_search_68 : decode cX7_search 68 = .ok (.aload_n 0, 1) := by decide +kernel
theorem dX7_search_69 : decode cX7_search 69 = .ok (.iload_n 2, 1) := by decide +kernel
theorem dX7_search_70 : decode cX7_search 70 = .ok (.invokevirtual 181, 3) := by decide +kernel
theorem dX7_search_73 : decode cX7_search 73 = .ok (.aload_n 0, 1) := by decide +kernel
theorem dX7_search_74 : decode cX7_search 74 = .ok (.iload_n 2, 1) := by decide +kernel
theorem dX7_search_75 : decode cX7_search 75 = .ok (.invokevirtual 184, 3) := by decide +kernel
theorem dX7_search_78 : decode cX7_search 78 = .ok (.ifCond .ne 9, 3) := by decide +kernel
theorem dX7_search_81 : decode cX7_search 81 = .ok (.iinc 2 (-1), 3) := by decide +kernel
theorem dX7_search_84 : decode cX7_search 84 = .ok (.goto (-20), 3) := by decide +kernel
theorem dX7_search_87 : decode cX7_search 87 = .ok (.aload_n 0, 1) := by decide +kernel
theorem dX7_search_88 : decode cX7_search 88 = .ok (.getfield 47, 3) := by decide +kernel
theorem dX7_search_91 : decode cX7_search 91 = .ok (.iconst 3, 1) := by decide +kernel
theorem dX7_search_92 : decode cX7_search 92 = .ok (.iload_n 2, 1) := by decide +kernel
theorem dX7_search_93 : decode cX7_search 93 = .ok (.imul, 1) := by decide +kernel
theorem dX7_search_94 : decode cX7_search 94 = .ok (.iaload, 1) := by decide +kernel
theorem dX7_search_95 : decode cX7_search 95 = .ok (.aload_n 0, 1) := by decide +kernel
theorem dX7_search_96 : decode cX7_search 96 = .ok (.getfield 47, 3) := by decide +kernel
theorem dX7_search_99 : decode cX7_search 99 = .ok (.iconst 3, 1) := by decide +kernel
theorem dX7_search_100 : decode cX7_search 100 = .ok (.iload_n 2, 1) := by decide +kernel
theorem dX7_search_101 : decode cX7_search 101 = .ok (.imul, 1) := by decide +kernel
theorem dX7_search_102 : decode cX7_search 102 = .ok (.iconst 1, 1) := by decide +kernel
theorem dX7_search_103 : decode cX7_search 103 = .ok (.iadd, 1) := by decide +kernel
theorem dX7_search_104 : decode cX7_search 104 = .ok (.iaload, 1) := by decide +kernel
theorem dX7_search_105 : decode cX7_search 105 = .ok (.if_icmp .eq (-41), 3) := by decide +kernel
theorem dX7_search_108 : decode cX7_search 108 = .ok (.aload_n 0, 1) := by decide +kernel
theorem dX7_search_109 : decode cX7_search 109 = .ok (.iload_n 2, 1) := by decide +kernel
theorem dX7_search_110 : decode cX7_search 110 = .ok (.aload_n 0, 1) := by decide +kernel
theorem dX7_search_111 : decode cX7_search 111 = .ok (.getfield 53, 3) := by decide +kernel
theorem dX7_search_114 : decode cX7_search 114 = .ok (.iload_n 2, 1) := by decide +kernel
theorem dX7_search_115 : decode cX7_search 115 = .ok (.iaload, 1) := by decide +kernel
theorem dX7_search_116 : decode cX7_search 116 = .ok (.invokevirtual 187, 3) := by decide +kernel
theorem dX7_search_119 : decode cX7_search 119 = .ok (.istore_n 3, 1) := by decide +kernel
theorem dX7_search_120 : decode cX7_search 120 = .ok (.iload_n 3, 1) := by decide +kernel
theorem dX7_search_121 : decode cX7_search 121 = .ok (.ifCond .lt 54, 3) := by decide +kernel
theorem dX7_search_124 : decode cX7_search 124 = .ok (.aload_n 0, 1) := by decide +kernel
theorem dX7_search_125 : decode cX7_search 125 = .ok (.iload_n 2, 1) := by decide +kernel
theorem dX7_search_126 : decode cX7_search 126 = .ok (.iconst 1, 1) := by decide +kernel
theorem dX7_search_127 : decode cX7_search 127 = .ok (.iadd, 1) := by decide +kernel
theorem dX7_search_128 : decode cX7_search 128 = .ok (.aload_n 0, 1) := by decide +kernel
theorem dX7_search_129 : decode cX7_search 129 = .ok (.getfield 53, 3) := by decide +kernel
theorem dX7_search_132 : decode cX7_search 132 = .ok (.iload_n 2, 1) := by decide +kernel
theorem dX7_search_133 : decode cX7_search 133 = .ok (.iaload, 1) := by decide +kernel
theorem dX7_search_134 : decode cX7_search 134 = .ok (.iload_n 3, 1) := by decide +kernel
theorem dX7_search_135 : decode cX7_search 135 = .ok (.iadd, 1) := by decide +kernel
theorem dX7_search_136 : decode cX7_search 136 = .ok (.invokevirtual 172, 3) := by decide +kernel
theorem dX7_search_139 : decode cX7_search 139 = .ok (.aload_n 0, 1) := by decide +kernel
theorem dX7_search_140 : decode cX7_search 140 = .ok (.iload_n 1, 1) := by decide +kernel
theorem dX7_search_141 : decode cX7_search 141 = .ok (.iload_n 2, 1) := by decide +kernel
theorem dX7_search_142 : decode cX7_search 142 = .ok (.isub, 1) := by decide +kernel
theorem dX7_search_143 : decode cX7_search 143 = .ok (.iconst 1, 1) := by decide +kernel
theorem dX7_search_144 : decode cX7_search 144 = .ok (.isub, 1) := by decide +kernel
theorem dX7_search_145 : decode cX7_search 145 = .ok (.invokevirtual 175, 3) := by decide +kernel
theorem dX7_search_148 : decode cX7_search 148 = .ok (.ifCond .eq 27, 3) := by decide +kernel
theorem dX7_search_151 : decode cX7_search 151 = .ok (.iinc 2 1, 3) := by decide +kernel
theorem dX7_search_154 : decode cX7_search 154 = .ok (.aload_n 0, 1) := by decide +kernel
theorem dX7_search_155 : decode cX7_search 155 = .ok (.getfield 53, 3) := by decide +kernel
theorem dX7_search_158 : decode cX7_search 158 = .ok (.iload_n 2, 1) := by decide +kernel
theorem dX7_search_159 : decode cX7_search 159 = .ok (.aload_n 0, 1) := by decide +kernel
theorem dX7_search_160 : decode cX7_search 160 = .ok (.getfield 53, 3) := by decide +kernel
theorem dX7_search_163 : decode cX7_search 163 = .ok (.iload_n 2, 1) := by decide +kernel
theorem dX7_search_164 : decode cX7_search 164 = .ok (.iconst 1, 1) := by decide +kernel
theorem dX7_search_165 : decode cX7_search 165 = .ok (.isub, 1) := by decide +kernel
theorem dX7_search_166 : decode cX7_search 166 = .ok (.iaload, 1) := by decide +kernel
theorem dX7_search_167 : decode cX7_search 167 = .ok (.iload_n 3, 1) := by decide +kernel
theorem dX7_search_168 : decode cX7_search 168 = .ok (.iadd, 1) := by decide +kernel
theorem dX7_search_169 : decode cX7_search 169 = .ok (.iastore, 1) := by decide +kernel
theorem dX7_search_170 : decode cX7_search 170 = .ok (.aload_n 0, 1) := by decide +kernel
theorem dX7_search_171 : decode cX7_search 171 = .ok (.iload_n 2, 1) := by decide +kernel
theorem dX7_search_172 : decode cX7_search 172 = .ok (.invokevirtual 178, 3) := by decide +kernel
theorem dX7_search_175 : decode cX7_search 175 = .ok (.goto (-111), 3) := by decide +kernel
theorem dX7_search_178 : decode cX7_search 178 = .ok (.aload_n 0, 1) := by decide +kernel
theorem dX7_search_179 : decode cX7_search 179 = .ok (.iconst 0, 1) := by decide +kernel
theorem dX7_search_180 : decode cX7_search 180 = .ok (.invokevirtual 181, 3) := by decide +kernel
theorem dX7_search_183 : decode cX7_search 183 = .ok (.return_, 1) := by decide +kernel
theorem dX7_cheapest_0 : decode cX7_cheapest 0 = .ok (.iload_n 1, 1) := by decide +kernel
theorem dX7_cheapest_1 : decode cX7_cheapest 1 = .ok (.iconst 0, 1) := by decide +kernel
theorem dX7_cheapest_2 : decode cX7_cheapest 2 = .ok (.iconst 3, 1) := by decide +kernel
theorem dX7_cheapest_3 : decode cX7_cheapest 3 = .ok (.invokestatic 59, 3) := by decide +kernel
theorem dX7_cheapest_6 : decode cX7_cheapest 6 = .ok (.ifCond .eq 12, 3) := by decide +kernel
theorem dX7_cheapest_9 : decode cX7_cheapest 9 = .ok (.iload_n 2, 1) := by decide +kernel
theorem dX7_cheapest_10 : decode cX7_cheapest 10 = .ok (.iconst 0, 1) := by decide +kernel
theorem dX7_cheapest_11 : decode cX7_cheapest 11 = .ok (.iconst 4, 1) := by decide +kernel
theorem dX7_cheapest_12 : decode cX7_cheapest 12 = .ok (.invokestatic 59, 3) := by decide +kernel
theorem dX7_cheapest_15 : decode cX7_cheapest 15 = .ok (.ifCond .ne 5, 3) := by decide +kernel
theorem dX7_cheapest_18 : decode cX7_cheapest 18 = .ok (.iconst (-1), 1) := by decide +kernel
theorem dX7_cheapest_19 : decode cX7_cheapest 19 = .ok (.ireturn, 1) := by decide +kernel
theorem dX7_cheapest_20 : decode cX7_cheapest 20 = .ok (.aload_n 0, 1) := by decide +kernel
theorem dX7_cheapest_21 : decode cX7_cheapest 21 = .ok (.iload_n 1, 1) := by decide +kernel
theorem dX7_cheapest_22 : decode cX7_cheapest 22 = .ok (.invokevirtual 190, 3) := by decide +kernel
theorem dX7_cheapest_25 : decode cX7_cheapest 25 = .ok (.aload_n 0, 1) := by decide +kernel
theorem dX7_cheapest_26 : decode cX7_cheapest 26 = .ok (.getfield 157, 3) := by decide +kernel
theorem dX7_cheapest_29 : decode cX7_cheapest 29 = .ok (.bipush (-9), 2) := by decide +kernel
theorem dX7_cheapest_31 : decode cX7_cheapest 31 = .ok (.if_icmp .ne 6, 3) := by decide +kernel
theorem dX7_cheapest_34 : decode cX7_cheapest 34 = .ok (.bipush (-9), 2) := by decide +kernel
theorem dX7_cheapest_36 : decode cX7_cheapest 36 = .ok (.ireturn, 1) := by decide +kernel
theorem dX7_cheapest_37 : decode cX7_cheapest 37 = .ok (.iload_n 2, 1) := by decide +kernel
theorem dX7_cheapest_38 : decode cX7_cheapest 38 = .ok (.ifCond .ne 10, 3) := by decide +kernel
theorem dX7_cheapest_41 : decode cX7_cheapest 41 = .ok (.aload_n 0, 1) := by decide +kernel
theorem dX7_cheapest_42 : decode cX7_cheapest 42 = .ok (.getfield 160, 3) := by decide +kernel
theorem dX7_cheapest_45 : decode cX7_cheapest 45 = .ok (.goto 35, 3) := by decide +kernel
theorem dX7_cheapest_48 : decode cX7_cheapest 48 = .ok (.iload_n 2, 1) := by decide +kernel
theorem dX7_cheapest_49 : decode cX7_cheapest 49 = .ok (.iconst 1, 1) := by decide +kernel
theorem dX7_cheapest_50 : decode cX7_cheapest 50 = .ok (.if_icmp .ne 10, 3) := by decide +kernel
theorem dX7_cheapest_53 : decode cX7_cheapest 53 = .ok (.aload_n 0, 1) := by decide +kernel
theorem dX7_cheapest_54 : decode cX7_cheapest 54 = .ok (.getfield 157, 3) := by decide +kernel
theorem dX7_cheapest_57 : decode cX7_cheapest 57 = .ok (.goto 23, 3) := by decide +kernel
theorem dX7_cheapest_60 : decode cX7_cheapest 60 = .ok (.aload_n 0, 1) := by decide +kernel
theorem dX7_cheapest_61 : decode cX7_cheapest 61 = .ok (.getfield 157, 3) := by decide +kernel
theorem dX7_cheapest_64 : decode cX7_cheapest 64 = .ok (.ifCond .ne 8, 3) := by decide +kernel
theorem dX7_cheapest_67 : decode cX7_cheapest 67 = .ok (.bipush (-9), 2) := by decide +kernel
theorem dX7_cheapest_69 : decode cX7_cheapest 69 = .ok (.goto 11, 3) := by decide +kernel
theorem dX7_cheapest_72 : decode cX7_cheapest 72 = .ok (.aload_n 0, 1) := by decide +kernel
theorem dX7_cheapest_73 : decode cX7_cheapest 73 = .ok (.getfield 50, 3) := by decide +kernel
theorem dX7_cheapest_76 : decode cX7_cheapest 76 = .ok (.iload_n 2, 1) := by decide +kernel
theorem dX7_cheapest_77 : decode cX7_cheapest 77 = .ok (.iconst 2, 1) := by decide +kernel
theorem dX7_cheapest_78 : decode cX7_cheapest 78 = .ok (.isub, 1) := by decide +kernel
theorem dX7_cheapest_79 : decode cX7_cheapest 79 = .ok (.iaload, 1) := by decide +kernel
theorem dX7_cheapest_80 : decode cX7_cheapest 80 = .ok (.ireturn, 1) := by decide +kernel
theorem dX7_makeUp_0 : decode cX7_makeUp 0 = .ok (.iload_n 1, 1) := by decide +kernel
theorem dX7_makeUp_1 : decode cX7_makeUp 1 = .ok (.iconst 0, 1) := by decide +kernel
theorem dX7_makeUp_2 : decode cX7_makeUp 2 = .ok (.iconst 3, 1) := by decide +kernel
theorem dX7_makeUp_3 : decode cX7_makeUp 3 = .ok (.invokestatic 59, 3) := by decide +kernel
theorem dX7_makeUp_6 : decode cX7_makeUp 6 = .ok (.ifCond .ne 5, 3) := by decide +kernel
theorem dX7_makeUp_9 : decode cX7_makeUp 9 = .ok (.iconst (-1), 1) := by decide +kernel
theorem dX7_makeUp_10 : decode cX7_makeUp 10 = .ok (.ireturn, 1) := by decide +kernel
theorem dX7_makeUp_11 : decode cX7_makeUp 11 = .ok (.aload_n 0, 1) := by decide +kernel
theorem dX7_makeUp_12 : decode cX7_makeUp 12 = .ok (.iload_n 1, 1) := by decide +kernel
theorem dX7_makeUp_13 : decode cX7_makeUp 13 = .ok (.invokevirtual 190, 3) := by decide +kernel
theorem dX7_makeUp_16 : decode cX7_makeUp 16 = .ok (.aload_n 0, 1) := by decide +kernel
theorem dX7_makeUp_17 : decode cX7_makeUp 17 = .ok (.getfield 157, 3) := by decide +kernel
theorem dX7_makeUp_20 : decode cX7_makeUp 20 = .ok (.bipush (-9), 2) := by decide +kernel
theorem dX7_makeUp_22 : decode cX7_makeUp 22 = .ok (.if_icmp .ne 6, 3) := by decide +kernel
theorem dX7_makeUp_25 : decode cX7_makeUp 25 = .ok (.bipush (-2), 2) := by decide +kernel
theorem dX7_makeUp_27 : decode cX7_makeUp 27 = .ok (.ireturn, 1) := by decide +kernel
theorem dX7_makeUp_28 : decode cX7_makeUp 28 = .ok (.aload_n 0, 1) := by decide +kernel
theorem dX7_makeUp_29 : decode cX7_makeUp 29 = .ok (.invokevirtual 107, 3) := by decide +kernel
theorem dX7_makeUp_32 : decode cX7_makeUp 32 = .ok (.iconst 0, 1) := by decide +kernel
theorem dX7_makeUp_33 : decode cX7_makeUp 33 = .ok (.istore_n 2, 1) := by decide +kernel
theorem dX7_makeUp_34 : decode cX7_makeUp 34 = .ok (.iload_n 2, 1) := by decide +kernel
theorem dX7_makeUp_35 : decode cX7_makeUp 35 = .ok (.aload_n 0, 1) := by decide +kernel
theorem dX7_makeUp_36 : decode cX7_makeUp 36 = .ok (.getfield 157, 3) := by decide +kernel
theorem dX7_makeUp_39 : decode cX7_makeUp 39 = .ok (.if_icmp .ge 75, 3) := by decide +kernel
theorem dX7_makeUp_42 : decode cX7_makeUp 42 = .ok (.aload_n 0, 1) := by decide +kernel
theorem dX7_makeUp_43 : decode cX7_makeUp 43 = .ok (.aload_n 0, 1) := by decide +kernel
theorem dX7_makeUp_44 : decode cX7_makeUp 44 = .ok (.getfield 50, 3) := by decide +kernel
theorem dX7_makeUp_47 : decode cX7_makeUp 47 = .ok (.iconst 3, 1) := by decide +kernel
theorem dX7_makeUp_48 : decode cX7_makeUp 48 = .ok (.iload_n 2, 1) := by decide +kernel
theorem dX7_makeUp_49 : decode cX7_makeUp 49 = .ok (.imul, 1) := by decide +kernel
theorem dX7_makeUp_50 : decode cX7_makeUp 50 = .ok (.iaload, 1) := by decide +kernel
theorem dX7_makeUp_51 : decode cX7_makeUp 51 = .ok (.aload_n 0, 1) := by decide +kernel
theorem dX7_makeUp_52 : decode cX7_makeUp 52 = .ok (.getfield 50, 3) := by decide +kernel
theorem dX7_makeUp_55 : decode cX7_makeUp 55 = .ok (.iconst 3, 1) := by decide +kernel
theorem dX7_makeUp_56 : decode cX7_makeUp 56 = .ok (.iload_n 2, 1) := by decide +kernel
theorem dX7_makeUp_57 : decode cX7_makeUp 57 = .ok (.imul, 1) := by decide +kernel
theorem dX7_makeUp_58 : decode cX7_makeUp 58 = .ok (.iconst 1, 1) := by decide +kernel
theorem dX7_makeUp_59 : decode cX7_makeUp 59 = .ok (.iadd, 1) := by decide +kernel
theorem dX7_makeUp_60 : decode cX7_makeUp 60 = .ok (.iaload, 1) := by decide +kernel
theorem dX7_makeUp_61 : decode cX7_makeUp 61 = .ok (.aload_n 0, 1) := by decide +kernel
theorem dX7_makeUp_62 : decode cX7_makeUp 62 = .ok (.getfield 50, 3) := by decide +kernel
theorem dX7_makeUp_65 : decode cX7_makeUp 65 = .ok (.iconst 3, 1) := by decide +kernel
theorem dX7_makeUp_66 : decode cX7_makeUp 66 = .ok (.iload_n 2, 1) := by decide +kernel
theorem dX7_makeUp_67 : decode cX7_makeUp 67 = .ok (.imul, 1) := by decide +kernel
theorem dX7_makeUp_68 : decode cX7_makeUp 68 = .ok (.iconst 2, 1) := by decide +kernel
theorem dX7_makeUp_69 : decode cX7_makeUp 69 = .ok (.iadd, 1) := by decide +kernel
theorem dX7_makeUp_70 : decode cX7_makeUp 70 = .ok (.iaload, 1) := by decide +kernel
theorem dX7_makeUp_71 : decode cX7_makeUp 71 = .ok (.invokevirtual 100, 3) := by decide +kernel
theorem dX7_makeUp_74 : decode cX7_makeUp 74 = .ok (.istore_n 3, 1) := by decide +kernel
theorem dX7_makeUp_75 : decode cX7_makeUp 75 = .ok (.aload_n 0, 1) := by decide +kernel
theorem dX7_makeUp_76 : decode cX7_makeUp 76 = .ok (.aload_n 0, 1) := by decide +kernel
theorem dX7_makeUp_77 : decode cX7_makeUp 77 = .ok (.getfield 50, 3) := by decide +kernel
theorem dX7_makeUp_80 : decode cX7_makeUp 80 = .ok (.iconst 3, 1) := by decide +kernel
theorem dX7_makeUp_81 : decode cX7_makeUp 81 = .ok (.iload_n 2, 1) := by decide +kernel
theorem dX7_makeUp_82 : decode cX7_makeUp 82 = .ok (.imul, 1) := by decide +kernel
theorem dX7_makeUp_83 : decode cX7_makeUp 83 = .ok (.iaload, 1) := by decide +kernel
theorem dX7_makeUp_84 : decode cX7_makeUp 84 = .ok (.aload_n 0, 1) := by decide +kernel
theorem dX7_makeUp_85 : decode cX7_makeUp 85 = .ok (.getfield 50, 3) := by decide +kernel
theorem dX7_makeUp_88 : decode cX7_makeUp 88 = .ok (.iconst 3, 1) := by decide +kernel
theorem dX7_makeUp_89 : decode cX7_makeUp 89 = .ok (.iload_n 2, 1) := by decide +kernel
theorem dX7_makeUp_90 : decode cX7_makeUp 90 = .ok (.imul, 1) := by decide +kernel
theorem dX7_makeUp_91 : decode cX7_makeUp 91 = .ok (.iconst 1, 1) := by decide +kernel
theorem dX7_makeUp_92 : decode cX7_makeUp 92 = .ok (.iadd, 1) := by decide +kernel
theorem dX7_makeUp_93 : decode cX7_makeUp 93 = .ok (.iaload, 1) := by decide +kernel
theorem dX7_makeUp_94 : decode cX7_makeUp 94 = .ok (.aload_n 0, 1) := by decide +kernel
theorem dX7_makeUp_95 : decode cX7_makeUp 95 = .ok (.getfield 50, 3) := by decide +kernel
theorem dX7_makeUp_98 : decode cX7_makeUp 98 = .ok (.iconst 3, 1) := by decide +kernel
theorem dX7_makeUp_99 : decode cX7_makeUp 99 = .ok (.iload_n 2, 1) := by decide +kernel
theorem dX7_makeUp_100 : decode cX7_makeUp 100 = .ok (.imul, 1) := by decide +kernel
theorem dX7_makeUp_101 : decode cX7_makeUp 101 = .ok (.iconst 2, 1) := by decide +kernel
theorem dX7_makeUp_102 : decode cX7_makeUp 102 = .ok (.iadd, 1) := by decide +kernel
theorem dX7_makeUp_103 : decode cX7_makeUp 103 = .ok (.iaload, 1) := by decide +kernel
theorem dX7_makeUp_104 : decode cX7_makeUp 104 = .ok (.iload_n 3, 1) := by decide +kernel
theorem dX7_makeUp_105 : decode cX7_makeUp 105 = .ok (.invokevirtual 110, 3) := by decide +kernel
theorem dX7_makeUp_108 : decode cX7_makeUp 108 = .ok (.iinc 2 1, 3) := by decide +kernel
theorem dX7_makeUp_111 : decode cX7_makeUp 111 = .ok (.goto (-77), 3) := by decide +kernel
theorem dX7_makeUp_114 : decode cX7_makeUp 114 = .ok (.aload_n 0, 1) := by decide +kernel
theorem dX7_makeUp_115 : decode cX7_makeUp 115 = .ok (.getfield 160, 3) := by decide +kernel
theorem dX7_makeUp_118 : decode cX7_makeUp 118 = .ok (.ireturn, 1) := by decide +kernel
theorem dX7_begin_0 : decode cX7_begin 0 = .ok (.iload_n 1, 1) := by decide +kernel
theorem dX7_begin_1 : decode cX7_begin 1 = .ok (.iconst 2, 1) := by decide +kernel
theorem dX7_begin_2 : decode cX7_begin 2 = .ok (.iconst 4, 1) := by decide +kernel
theorem dX7_begin_3 : decode cX7_begin 3 = .ok (.invokestatic 59, 3) := by decide +kernel
theorem dX7_begin_6 : decode cX7_begin 6 = .ok (.ifCond .eq 13, 3) := by decide +kernel
theorem dX7_begin_9 : decode cX7_begin 9 = .ok (.iload_n 2, 1) := by decide +kernel
theorem dX7_begin_10 : decode cX7_begin 10 = .ok (.iconst 1, 1) := by decide +kernel
theorem dX7_begin_11 : decode cX7_begin 11 = .ok (.bipush 8, 2) := by decide +kernel
theorem dX7_begin_13 : decode cX7_begin 13 = .ok (.invokestatic 59, 3) := by decide +kernel
theorem dX7_begin_16 : decode cX7_begin 16 = .ok (.ifCond .ne 5, 3) := by decide +kernel
theorem dX7_begin_19 : decode cX7_begin 19 = .ok (.iconst (-1), 1) := by decide +kernel
theorem dX7_begin_20 : decode cX7_begin 20 = .ok (.ireturn, 1) := by decide +kernel
theorem dX7_begin_21 : decode cX7_begin 21 = .ok (.aload_n 0, 1) := by decide +kernel
theorem dX7_begin_22 : decode cX7_begin 22 = .ok (.invokevirtual 107, 3) := by decide +kernel
theorem dX7_begin_25 : decode cX7_begin 25 = .ok (.aload_n 0, 1) := by decide +kernel
theorem dX7_begin_26 : decode cX7_begin 26 = .ok (.invokevirtual 193, 3) := by decide +kernel
theorem dX7_begin_29 : decode cX7_begin 29 = .ok (.istore_n 3, 1) := by decide +kernel
theorem dX7_begin_30 : decode cX7_begin 30 = .ok (.bipush 6, 2) := by decide +kernel
theorem dX7_begin_32 : decode cX7_begin 32 = .ok (.istore 4, 2) := by decide +kernel
theorem dX7_begin_34 : decode cX7_begin 34 = .ok (.iload 4, 2) := by decide +kernel
theorem dX7_begin_36 : decode cX7_begin 36 = .ok (.sipush 131, 3) := by decide +kernel
theorem dX7_begin_39 : decode cX7_begin 39 = .ok (.if_icmp .ge 17, 3) := by decide +kernel
theorem dX7_begin_42 : decode cX7_begin 42 = .ok (.aload_n 0, 1) := by decide +kernel
theorem dX7_begin_43 : decode cX7_begin 43 = .ok (.getfield 7, 3) := by decide +kernel
theorem dX7_begin_46 : decode cX7_begin 46 = .ok (.iload 4, 2) := by decide +kernel
theorem dX7_begin_48 : decode cX7_begin 48 = .ok (.iconst 0, 1) := by decide +kernel
theorem dX7_begin_49 : decode cX7_begin 49 = .ok (.iastore, 1) := by decide +kernel
theorem dX7_begin_50 : decode cX7_begin 50 = .ok (.iinc 4 1, 3) := by decide +kernel
theorem dX7_begin_53 : decode cX7_begin 53 = .ok (.goto (-19), 3) := by decide +kernel
theorem dX7_begin_56 : decode cX7_begin 56 = .ok (.aload_n 0, 1) := by decide +kernel
theorem dX7_begin_57 : decode cX7_begin 57 = .ok (.getfield 7, 3) := by decide +kernel
theorem dX7_begin_60 : decode cX7_begin 60 = .ok (.iconst 4, 1) := by decide +kernel
theorem dX7_begin_61 : decode cX7_begin 61 = .ok (.iload_n 1, 1) := by decide +kernel
theorem dX7_begin_62 : decode cX7_begin 62 = .ok (.iastore, 1) := by decide +kernel
theorem dX7_begin_63 : decode cX7_begin 63 = .ok (.aload_n 0, 1) := by decide +kernel
theorem dX7_begin_64 : decode cX7_begin 64 = .ok (.getfield 7, 3) := by decide +kernel
theorem dX7_begin_67 : decode cX7_begin 67 = .ok (.iconst 5, 1) := by decide +kernel
theorem dX7_begin_68 : decode cX7_begin 68 = .ok (.iload_n 2, 1) := by decide +kernel
theorem dX7_begin_69 : decode cX7_begin 69 = .ok (.iastore, 1) := by decide +kernel
theorem dX7_begin_70 : decode cX7_begin 70 = .ok (.iload_n 3, 1) := by decide +kernel
theorem dX7_begin_71 : decode cX7_begin 71 = .ok (.ireturn, 1) := by decide +kernel
theorem dX7_isOf_0 : decode cX7_isOf 0 = .ok (.iload_n 0, 1) := by decide +kernel
theorem dX7_isOf_1 : decode cX7_isOf 1 = .ok (.tableswitch 52 0 2 #[27, 34, 44], 27) := by decide +kernel
theorem dX7_isOf_28 : decode cX7_isOf 28 = .ok (.iload_n 1, 1) := by decide +kernel
theorem dX7_isOf_29 : decode cX7_isOf 29 = .ok (.iconst 0, 1) := by decide +kernel
theorem dX7_isOf_30 : decode cX7_isOf 30 = .ok (.iconst 3, 1) := by decide +kernel
theorem dX7_isOf_31 : decode cX7_isOf 31 = .ok (.invokestatic 59, 3) := by decide +kernel
theorem dX7_isOf_34 : decode cX7_isOf 34 = .ok (.ireturn, 1) := by decide +kernel
theorem dX7_isOf_35 : decode cX7_isOf 35 = .ok (.iload_n 1, 1) := by decide +kernel
theorem dX7_isOf_36 : decode cX7_isOf 36 = .ok (.bipush 10, 2) := by decide +kernel
theorem dX7_isOf_38 : decode cX7_isOf 38 = .ok (.sipush 600, 3) := by decide +kernel
theorem dX7_isOf_41 : decode cX7_isOf 41 = .ok (.invokestatic 59, 3) := by decide +kernel
theorem dX7_isOf_44 : decode cX7_isOf 44 = .ok (.ireturn, 1) := by decide +kernel
theorem dX7_isOf_45 : decode cX7_isOf 45 = .ok (.iload_n 1, 1) := by decide +kernel
theorem dX7_isOf_46 : decode cX7_isOf 46 = .ok (.iconst 1, 1) := by decide +kernel
theorem dX7_isOf_47 : decode cX7_isOf 47 = .ok (.bipush 20, 2) := by decide +kernel
theorem dX7_isOf_49 : decode cX7_isOf 49 = .ok (.invokestatic 59, 3) := by decide +kernel
theorem dX7_isOf_52 : decode cX7_isOf 52 = .ok (.ireturn, 1) := by decide +kernel
theorem dX7_isOf_53 : decode cX7_isOf 53 = .ok (.iload_n 0, 1) := by decide +kernel
theorem dX7_isOf_54 : decode cX7_isOf 54 = .ok (.iconst 3, 1) := by decide +kernel
theorem dX7_isOf_55 : decode cX7_isOf 55 = .ok (.if_icmp .ne 17, 3) := by decide +kernel
theorem dX7_isOf_58 : decode cX7_isOf 58 = .ok (.iload_n 1, 1) := by decide +kernel
theorem dX7_isOf_59 : decode cX7_isOf 59 = .ok (.iconst 0, 1) := by decide +kernel
theorem dX7_isOf_60 : decode cX7_isOf 60 = .ok (.bipush 30, 2) := by decide +kernel
theorem dX7_isOf_62 : decode cX7_isOf 62 = .ok (.invokestatic 59, 3) := by decide +kernel
theorem dX7_isOf_65 : decode cX7_isOf 65 = .ok (.ifCond .eq 7, 3) := by decide +kernel
theorem dX7_isOf_68 : decode cX7_isOf 68 = .ok (.iconst 1, 1) := by decide +kernel
theorem dX7_isOf_69 : decode cX7_isOf 69 = .ok (.goto 4, 3) := by decide +kernel
theorem dX7_isOf_72 : decode cX7_isOf 72 = .ok (.iconst 0, 1) := by decide +kernel
theorem dX7_isOf_73 : decode cX7_isOf 73 = .ok (.ireturn, 1) := by decide +kernel
theorem dX7_set_0 : decode cX7_set 0 = .ok (.iload_n 1, 1) := by decide +kernel
theorem dX7_set_1 : decode cX7_set 1 = .ok (.iload_n 2, 1) := by decide +kernel
theorem dX7_set_2 : decode cX7_set 2 = .ok (.invokestatic 196, 3) := by decide +kernel
theorem dX7_set_5 : decode cX7_set 5 = .ok (.ifCond .ne 5, 3) := by decide +kernel
theorem dX7_set_8 : decode cX7_set 8 = .ok (.iconst (-1), 1) := by decide +kernel
theorem dX7_set_9 : decode cX7_set 9 = .ok (.ireturn, 1) := by decide +kernel
theorem dX7_set_10 : decode cX7_set 10 = .ok (.aload_n 0, 1) := by decide +kernel
theorem dX7_set_11 : decode cX7_set 11 = .ok (.invokevirtual 107, 3) := by decide +kernel
theorem dX7_set_14 : decode cX7_set 14 = .ok (.aload_n 0, 1) := by decide +kernel
theorem dX7_set_15 : decode cX7_set 15 = .ok (.getfield 7, 3) := by decide +kernel
theorem dX7_set_18 : decode cX7_set 18 = .ok (.iload_n 1, 1) := by decide +kernel
theorem dX7_set_19 : decode cX7_set 19 = .ok (.iaload, 1) := by decide +kernel
theorem dX7_set_20 : decode cX7_set 20 = .ok (.istore_n 3, 1) := by decide +kernel
theorem dX7_set_21 : decode cX7_set 21 = .ok (.aload_n 0, 1) := by decide +kernel
theorem dX7_set_22 : decode cX7_set 22 = .ok (.getfield 7, 3) := by decide +kernel
theorem dX7_set_25 : decode cX7_set 25 = .ok (.iload_n 1, 1) := by decide +kernel
theorem dX7_set_26 : decode cX7_set 26 = .ok (.iload_n 2, 1) := by decide +kernel
theorem dX7_set_27 : decode cX7_set 27 = .ok (.iastore, 1) := by decide +kernel
theorem dX7_set_28 : decode cX7_set 28 = .ok (.iload_n 3, 1) := by decide +kernel
theorem dX7_set_29 : decode cX7_set 29 = .ok (.ireturn, 1) := by decide +kernel
theorem dX7_undo_0 : decode cX7_undo 0 = .ok (.aload_n 0, 1) := by decide +kernel
theorem dX7_undo_1 : decode cX7_undo 1 = .ok (.getfield 56, 3) := by decide +kernel
theorem dX7_undo_4 : decode cX7_undo 4 = .ok (.ifCond .ne 6, 3) := by decide +kernel
theorem dX7_undo_7 : decode cX7_undo 7 = .ok (.bipush (-2), 2) := by decide +kernel
theorem dX7_undo_9 : decode cX7_undo 9 = .ok (.ireturn, 1) := by decide +kernel
theorem dX7_undo_10 : decode cX7_undo 10 = .ok (.aload_n 0, 1) := by decide +kernel
theorem dX7_undo_11 : decode cX7_undo 11 = .ok (.dup, 1) := by decide +kernel
theorem dX7_undo_12 : decode cX7_undo 12 = .ok (.getfield 56, 3) := by decide +kernel
theorem dX7_undo_15 : decode cX7_undo 15 = .ok (.iconst 1, 1) := by decide +kernel
theorem dX7_undo_16 : decode cX7_undo 16 = .ok (.isub, 1) := by decide +kernel
theorem dX7_undo_17 : decode cX7_undo 17 = .ok (.putfield 56, 3) := by decide +kernel
theorem dX7_undo_20 : decode cX7_undo 20 = .ok (.iconst 0, 1) := by decide +kernel
theorem dX7_undo_21 : decode cX7_undo 21 = .ok (.istore_n 1, 1) := by decide +kernel
theorem dX7_undo_22 : decode cX7_undo 22 = .ok (.iload_n 1, 1) := by decide +kernel
theorem dX7_undo_23 : decode cX7_undo 23 = .ok (.sipush 131, 3) := by decide +kernel
theorem dX7_undo_26 : decode cX7_undo 26 = .ok (.if_icmp .ge 30, 3) := by decide +kernel
theorem dX7_undo_29 : decode cX7_undo 29 = .ok (.aload_n 0, 1) := by decide +kernel
theorem dX7_undo_30 : decode cX7_undo 30 = .ok (.getfield 7, 3) := by decide +kernel
theorem dX7_undo_33 : decode cX7_undo 33 = .ok (.iload_n 1, 1) := by decide +kernel
theorem dX7_undo_34 : decode cX7_undo 34 = .ok (.aload_n 0, 1) := by decide +kernel
theorem dX7_undo_35 : decode cX7_undo 35 = .ok (.getfield 13, 3) := by decide +kernel
theorem dX7_undo_38 : decode cX7_undo 38 = .ok (.sipush 131, 3) := by decide +kernel
theorem dX7_undo_41 : decode cX7_undo 41 = .ok (.aload_n 0, 1) := by decide +kernel
theorem dX7_undo_42 : decode cX7_undo 42 = .ok (.getfield 56, 3) := by decide +kernel
theorem dX7_undo_45 : decode cX7_undo 45 = .ok (.imul, 1) := by decide +kernel
theorem dX7_undo_46 : decode cX7_undo 46 = .ok (.iload_n 1, 1) := by decide +kernel
theorem dX7_undo_47 : decode cX7_undo 47 = .ok (.iadd, 1) := by decide +kernel
theorem dX7_undo_48 : decode cX7_undo 48 = .ok (.iaload, 1) := by decide +kernel
theorem dX7_undo_49 : decode cX7_undo 49 = .ok (.iastore, 1) := by decide +kernel
theorem dX7_undo_50 : decode cX7_undo 50 = .ok (.iinc 1 1, 3) := by decide +kernel
theorem dX7_undo_53 : decode cX7_undo 53 = .ok (.goto (-31), 3) := by decide +kernel
theorem dX7_undo_56 : decode cX7_undo 56 = .ok (.aload_n 0, 1) := by decide +kernel
theorem dX7_undo_57 : decode cX7_undo 57 = .ok (.getfield 56, 3) := by decide +kernel
theorem dX7_undo_60 : decode cX7_undo 60 = .ok (.ireturn, 1) := by decide +kernel
theorem dX7_unsafeTracks_0 : decode cX7_unsafeTracks 0 = .ok (.iconst 0, 1) := by decide +kernel
theorem dX7_unsafeTracks_1 : decode cX7_unsafeTracks 1 = .ok (.istore_n 1, 1) := by decide +kernel
theorem dX7_unsafeTracks_2 : decode cX7_unsafeTracks 2 = .ok (.iconst 0, 1) := by decide +kernel
theorem dX7_unsafeTracks_3 : decode cX7_unsafeTracks 3 = .ok (.istore_n 2, 1) := by decide +kernel
theorem dX7_unsafeTracks_4 : decode cX7_unsafeTracks 4 = .ok (.iload_n 2, 1) := by decide +kernel
theorem dX7_unsafeTracks_5 : decode cX7_unsafeTracks 5 = .ok (.aload_n 0, 1) := by decide +kernel
theorem dX7_unsafeTracks_6 : decode cX7_unsafeTracks 6 = .ok (.getfield 7, 3) := by decide +kernel
theorem dX7_unsafeTracks_9 : decode cX7_unsafeTracks 9 = .ok (.iconst 4, 1) := by decide +kernel
theorem dX7_unsafeTracks_10 : decode cX7_unsafeTracks 10 = .ok (.iaload, 1) := by decide +kernel
theorem dX7_unsafeTracks_11 : decode cX7_unsafeTracks 11 = .ok (.if_icmp .ge 25, 3) := by decide +kernel
theorem dX7_unsafeTracks_14 : decode cX7_unsafeTracks 14 = .ok (.iload_n 1, 1) := by decide +kernel
theorem dX7_unsafeTracks_15 : decode cX7_unsafeTracks 15 = .ok (.aload_n 0, 1) := by decide +kernel
theorem dX7_unsafeTracks_16 : decode cX7_unsafeTracks 16 = .ok (.iload_n 2, 1) := by decide +kernel
theorem dX7_unsafeTracks_17 : decode cX7_unsafeTracks 17 = .ok (.invokevirtual 120, 3) := by decide +kernel
theorem dX7_unsafeTracks_20 : decode cX7_unsafeTracks 20 = .ok (.ifCond .eq 7, 3) := by decide +kernel
theorem dX7_unsafeTracks_23 : decode cX7_unsafeTracks 23 = .ok (.iconst 0, 1) := by decide +kernel
theorem dX7_unsafeTracks_24 : decode cX7_unsafeTracks 24 = .ok (.goto 4, 3) := by decide +kernel
theorem dX7_unsafeTracks_27 : decode cX7_unsafeTracks 27 = .ok (.iconst 1, 1) := by decide +kernel
theorem dX7_unsafeTracks_28 : decode cX7_unsafeTracks 28 = .ok (.iadd, 1) := by decide +kernel
theorem dX7_unsafeTracks_29 : decode cX7_unsafeTracks 29 = .ok (.istore_n 1, 1) := by decide +kernel
theorem dX7_unsafeTracks_30 : decode cX7_unsafeTracks 30 = .ok (.iinc 2 1, 3) := by decide +kernel
theorem dX7_unsafeTracks_33 : decode cX7_unsafeTracks 33 = .ok (.goto (-29), 3) := by decide +kernel
theorem dX7_unsafeTracks_36 : decode cX7_unsafeTracks 36 = .ok (.iload_n 1, 1) := by decide +kernel
theorem dX7_unsafeTracks_37 : decode cX7_unsafeTracks 37 = .ok (.ireturn, 1) := by decide +kernel
theorem dX7_told_0 : decode cX7_told 0 = .ok (.iload_n 1, 1) := by decide +kernel
theorem dX7_told_1 : decode cX7_told 1 = .ok (.tableswitch 175 0 14 #[75, 82, 89, 97, 102, 110, 115, 123, 131, 139, 147, 155, 160, 165, 170], 75) := by decide +kernel
theorem dX7_told_76 : decode cX7_told 76 = .ok (.aload_n 0, 1) := by decide +kernel
theorem dX7_told_77 : decode cX7_told 77 = .ok (.getfield 7, 3) := by decide +kernel
theorem dX7_told_80 : decode cX7_told 80 = .ok (.iconst 4, 1) := by decide +kernel
theorem dX7_told_81 : decode cX7_told 81 = .ok (.iaload, 1) := by decide +kernel
theorem dX7_told_82 : decode cX7_told 82 = .ok (.ireturn, 1) := by decide +kernel
theorem dX7_told_83 : decode cX7_told 83 = .ok (.aload_n 0, 1) := by decide +kernel
theorem dX7_told_84 : decode cX7_told 84 = .ok (.getfield 7, 3) := by decide +kernel
theorem dX7_told_87 : decode cX7_told 87 = .ok (.iconst 5, 1) := by decide +kernel
theorem dX7_told_88 : decode cX7_told 88 = .ok (.iaload, 1) := by decide +kernel
theorem dX7_told_89 : decode cX7_told 89 = .ok (.ireturn, 1) := by decide +kernel
theorem dX7_told_90 : decode cX7_told 90 = .ok (.aload_n 0, 1) := by decide +kernel
theorem dX7_told_91 : decode cX7_told 91 = .ok (.getfield 7, 3) := by decide +kernel
theorem dX7_told_94 : decode cX7_told 94 = .ok (.bipush 6, 2) := by decide +kernel
theorem dX7_told_96 : decode cX7_told 96 = .ok (.iaload, 1) := by decide +kernel
theorem dX7_told_97 : decode cX7_told 97 = .ok (.ireturn, 1) := by decide +kernel
theorem dX7_told_98 : decode cX7_told 98 = .ok (.aload_n 0, 1) := by decide +kernel
theorem dX7_told_99 : decode cX7_told 99 = .ok (.invokevirtual 193, 3) := by decide +kernel
theorem dX7_told_102 : decode cX7_told 102 = .ok (.ireturn, 1) := by decide +kernel
theorem dX7_told_103 : decode cX7_told 103 = .ok (.aload_n 0, 1) := by decide +kernel
theorem dX7_told_104 : decode cX7_told 104 = .ok (.getfield 7, 3) := by decide +kernel
theorem dX7_told_107 : decode cX7_told 107 = .ok (.bipush 12, 2) := by decide +kernel
theorem dX7_told_109 : decode cX7_told 109 = .ok (.iaload, 1) := by decide +kernel
theorem dX7_told_110 : decode cX7_told 110 = .ok (.ireturn, 1) := by decide +kernel
theorem dX7_told_111 : decode cX7_told 111 = .ok (.aload_n 0, 1) := by decide +kernel
theorem dX7_told_112 : decode cX7_told 112 = .ok (.invokevirtual 200, 3) := by decide +kernel
theorem dX7_told_115 : decode cX7_told 115 = .ok (.ireturn, 1) := by decide +kernel
theorem dX7_told_116 : decode cX7_told 116 = .ok (.aload_n 0, 1) := by decide +kernel
theorem dX7_told_117 : decode cX7_told 117 = .ok (.getfield 7, 3) := by decide +kernel
theorem dX7_told_120 : decode cX7_told 120 = .ok (.bipush 8, 2) := by decide +kernel
theorem dX7_told_122 : decode cX7_told 122 = .ok (.iaload, 1) := by decide +kernel
theorem dX7_told_123 : decode cX7_told 123 = .ok (.ireturn, 1) := by decide +kernel
theorem dX7_told_124 : decode cX7_told 124 = .ok (.aload_n 0, 1) := by decide +kernel
theorem dX7_told_125 : decode cX7_told 125 = .ok (.getfield 7, 3) := by decide +kernel
theorem dX7_told_128 : decode cX7_told 128 = .ok (.bipush 9, 2) := by decide +kernel
theorem dX7_told_130 : decode cX7_told 130 = .ok (.iaload, 1) := by decide +kernel
theorem dX7_told_131 : decode cX7_told 131 = .ok (.ireturn, 1) := by decide +kernel
theorem dX7_told_132 : decode cX7_told 132 = .ok (.aload_n 0, 1) := by decide +kernel
theorem dX7_told_133 : decode cX7_told 133 = .ok (.getfield 7, 3) := by decide +kernel
theorem dX7_told_136 : decode cX7_told 136 = .ok (.bipush 10, 2) := by decide +kernel
theorem dX7_told_138 : decode cX7_told 138 = .ok (.iaload, 1) := by decide +kernel
theorem dX7_told_139 : decode cX7_told 139 = .ok (.ireturn, 1) := by decide +kernel
theorem dX7_told_140 : decode cX7_told 140 = .ok (.aload_n 0, 1) := by decide +kernel
theorem dX7_told_141 : decode cX7_told 141 = .ok (.getfield 7, 3) := by decide +kernel
theorem dX7_told_144 : decode cX7_told 144 = .ok (.bipush 11, 2) := by decide +kernel
theorem dX7_told_146 : decode cX7_told 146 = .ok (.iaload, 1) := by decide +kernel
theorem dX7_told_147 : decode cX7_told 147 = .ok (.ireturn, 1) := by decide +kernel
theorem dX7_told_148 : decode cX7_told 148 = .ok (.aload_n 0, 1) := by decide +kernel
theorem dX7_told_149 : decode cX7_told 149 = .ok (.getfield 7, 3) := by decide +kernel
theorem dX7_told_152 : decode cX7_told 152 = .ok (.bipush 7, 2) := by decide +kernel
theorem dX7_told_154 : decode cX7_told 154 = .ok (.iaload, 1) := by decide +kernel
theorem dX7_told_155 : decode cX7_told 155 = .ok (.ireturn, 1) := by decide +kernel
theorem dX7_told_156 : decode cX7_told 156 = .ok (.aload_n 0, 1) := by decide +kernel
theorem dX7_told_157 : decode cX7_told 157 = .ok (.getfield 29, 3) := by decide +kernel
theorem dX7_told_160 : decode cX7_told 160 = .ok (.ireturn, 1) := by decide +kernel
theorem dX7_told_161 : decode cX7_told 161 = .ok (.aload_n 0, 1) := by decide +kernel
theorem dX7_told_162 : decode cX7_told 162 = .ok (.invokevirtual 163, 3) := by decide +kernel
theorem dX7_told_165 : decode cX7_told 165 = .ok (.ireturn, 1) := by decide +kernel
theorem dX7_told_166 : decode cX7_told 166 = .ok (.aload_n 0, 1) := by decide +kernel
theorem dX7_told_167 : decode cX7_told 167 = .ok (.getfield 142, 3) := by decide +kernel
theorem dX7_told_170 : decode cX7_told 170 = .ok (.ireturn, 1) := by decide +kernel
theorem dX7_told_171 : decode cX7_told 171 = .ok (.aload_n 0, 1) := by decide +kernel
theorem dX7_told_172 : decode cX7_told 172 = .ok (.getfield 56, 3) := by decide +kernel
theorem dX7_told_175 : decode cX7_told 175 = .ok (.ireturn, 1) := by decide +kernel
theorem dX7_told_176 : decode cX7_told 176 = .ok (.iconst (-1), 1) := by decide +kernel
theorem dX7_told_177 : decode cX7_told 177 = .ok (.ireturn, 1) := by decide +kernel
theorem dX7_setting_0 : decode cX7_setting 0 = .ok (.iload_n 1, 1) := by decide +kernel
theorem dX7_setting_1 : decode cX7_setting 1 = .ok (.iconst 0, 1) := by decide +kernel
theorem dX7_setting_2 : decode cX7_setting 2 = .ok (.iconst 3, 1) := by decide +kernel
theorem dX7_setting_3 : decode cX7_setting 3 = .ok (.invokestatic 59, 3) := by decide +kernel
theorem dX7_setting_6 : decode cX7_setting 6 = .ok (.ifCond .eq 12, 3) := by decide +kernel
theorem dX7_setting_9 : decode cX7_setting 9 = .ok (.aload_n 0, 1) := by decide +kernel
theorem dX7_setting_10 : decode cX7_setting 10 = .ok (.getfield 7, 3) := by decide +kernel
theorem dX7_setting_13 : decode cX7_setting 13 = .ok (.iload_n 1, 1) := by decide +kernel
theorem dX7_setting_14 : decode cX7_setting 14 = .ok (.iaload, 1) := by decide +kernel
theorem dX7_setting_15 : decode cX7_setting 15 = .ok (.goto 4, 3) := by decide +kernel
theorem dX7_setting_18 : decode cX7_setting 18 = .ok (.iconst (-1), 1) := by decide +kernel
theorem dX7_setting_19 : decode cX7_setting 19 = .ok (.ireturn, 1) := by decide +kernel
theorem dX7_track_0 : decode cX7_track 0 = .ok (.aload_n 0, 1) := by decide +kernel
theorem dX7_track_1 : decode cX7_track 1 = .ok (.iload_n 1, 1) := by decide +kernel
theorem dX7_track_2 : decode cX7_track 2 = .ok (.invokevirtual 89, 3) := by decide +kernel
theorem dX7_track_5 : decode cX7_track 5 = .ok (.ifCond .ne 5, 3) := by decide +kernel
theorem dX7_track_8 : decode cX7_track 8 = .ok (.iconst (-1), 1) := by decide +kernel
theorem dX7_track_9 : decode cX7_track 9 = .ok (.ireturn, 1) := by decide +kernel
theorem dX7_track_10 : decode cX7_track 10 = .ok (.iload_n 2, 1) := by decide +kernel
theorem dX7_track_11 : decode cX7_track 11 = .ok (.tableswitch 82 0 4 #[33, 40, 54, 60, 76], 33) := by decide +kernel
theorem dX7_track_44 : decode cX7_track 44 = .ok (.aload_n 0, 1) := by decide +kernel
theorem dX7_track_45 : decode cX7_track 45 = .ok (.iload_n 1, 1) := by decide +kernel
theorem dX7_track_46 : decode cX7_track 46 = .ok (.iconst 0, 1) := by decide +kernel
theorem dX7_track_47 : decode cX7_track 47 = .ok (.invokevirtual 63, 3) := by decide +kernel
theorem dX7_track_50 : decode cX7_track 50 = .ok (.ireturn, 1) := by decide +kernel
theorem dX7_track_51 : decode cX7_track 51 = .ok (.aload_n 0, 1) := by decide +kernel
theorem dX7_track_52 : decode cX7_track 52 = .ok (.iload_n 1, 1) := by decide +kernel
theorem dX7_track_53 : decode cX7_track 53 = .ok (.invokevirtual 120, 3) := by decide +kernel
theorem dX7_track_56 : decode cX7_track 56 = .ok (.ifCond .eq 7, 3) := by decide +kernel
theorem dX7_track_59 : decode cX7_track 59 = .ok (.iconst 1, 1) := by decide +kernel
theorem dX7_track_60 : decode cX7_track 60 = .ok (.goto 4, 3) := by decide +kernel
theorem dX7_track_63 : decode cX7_track 63 = .ok (.iconst 0, 1) := by decide +kernel
theorem dX7_track_64 : decode cX7_track 64 = .ok (.ireturn, 1) := by decide +kernel
theorem dX7_track_65 : decode cX7_track 65 = .ok (.aload_n 0, 1) := by decide +kernel
theorem dX7_track_66 : decode cX7_track 66 = .ok (.iload_n 1, 1) := by decide +kernel
theorem dX7_track_67 : decode cX7_track 67 = .ok (.invokevirtual 123, 3) := by decide +kernel
theorem dX7_track_70 : decode cX7_track 70 = .ok (.ireturn, 1) := by decide +kernel
theorem dX7_track_71 : decode cX7_track 71 = .ok (.aload_n 0, 1) := by decide +kernel
theorem dX7_track_72 : decode cX7_track 72 = .ok (.iload_n 1, 1) := by decide +kernel
theorem dX7_track_73 : decode cX7_track 73 = .ok (.aload_n 0, 1) := by decide +kernel
theorem dX7_track_74 : decode cX7_track 74 = .ok (.iload_n 1, 1) := by decide +kernel
theorem dX7_track_75 : decode cX7_track 75 = .ok (.iconst 0, 1) := by decide +kernel
theorem dX7_track_76 : decode cX7_track 76 = .ok (.invokevirtual 63, 3) := by decide +kernel
theorem dX7_track_79 : decode cX7_track 79 = .ok (.invokevirtual 81, 3) := by decide +kernel
theorem dX7_track_82 : decode cX7_track 82 = .ok (.aload_n 0, 1) := by decide +kernel
theorem dX7_track_83 : decode cX7_track 83 = .ok (.invokevirtual 77, 3) := by decide +kernel
theorem dX7_track_86 : decode cX7_track 86 = .ok (.ireturn, 1) := by decide +kernel
theorem dX7_track_87 : decode cX7_track 87 = .ok (.aload_n 0, 1) := by decide +kernel
theorem dX7_track_88 : decode cX7_track 88 = .ok (.iload_n 1, 1) := by decide +kernel
theorem dX7_track_89 : decode cX7_track 89 = .ok (.invokevirtual 127, 3) := by decide +kernel
theorem dX7_track_92 : decode cX7_track 92 = .ok (.ireturn, 1) := by decide +kernel
theorem dX7_track_93 : decode cX7_track 93 = .ok (.iconst (-1), 1) := by decide +kernel
theorem dX7_track_94 : decode cX7_track 94 = .ok (.ireturn, 1) := by decide +kernel
theorem dX7_wagon_0 : decode cX7_wagon 0 = .ok (.aload_n 0, 1) := by decide +kernel
theorem dX7_wagon_1 : decode cX7_wagon 1 = .ok (.iload_n 1, 1) := by decide +kernel
theorem dX7_wagon_2 : decode cX7_wagon 2 = .ok (.invokevirtual 89, 3) := by decide +kernel
theorem dX7_wagon_5 : decode cX7_wagon 5 = .ok (.ifCond .eq 16, 3) := by decide +kernel
theorem dX7_wagon_8 : decode cX7_wagon 8 = .ok (.iload_n 2, 1) := by decide +kernel
theorem dX7_wagon_9 : decode cX7_wagon 9 = .ok (.ifCond .lt 12, 3) := by decide +kernel
theorem dX7_wagon_12 : decode cX7_wagon 12 = .ok (.iload_n 3, 1) := by decide +kernel
theorem dX7_wagon_13 : decode cX7_wagon 13 = .ok (.iconst 0, 1) := by decide +kernel
theorem dX7_wagon_14 : decode cX7_wagon 14 = .ok (.iconst 2, 1) := by decide +kernel
theorem dX7_wagon_15 : decode cX7_wagon 15 = .ok (.invokestatic 59, 3) := by decide +kernel
theorem dX7_wagon_18 : decode cX7_wagon 18 = .ok (.ifCond .ne 5, 3) := by decide +kernel
theorem dX7_wagon_21 : decode cX7_wagon 21 = .ok (.iconst (-1), 1) := by decide +kernel
theorem dX7_wagon_22 : decode cX7_wagon 22 = .ok (.ireturn, 1) := by decide +kernel
theorem dX7_wagon_23 : decode cX7_wagon 23 = .ok (.iload_n 2, 1) := by decide +kernel
theorem dX7_wagon_24 : decode cX7_wagon 24 = .ok (.aload_n 0, 1) := by decide +kernel
theorem dX7_wagon_25 : decode cX7_wagon 25 = .ok (.iload_n 1, 1) := by decide +kernel
theorem dX7_wagon_26 : decode cX7_wagon 26 = .ok (.iconst 0, 1) := by decide +kernel
theorem dX7_wagon_27 : decode cX7_wagon 27 = .ok (.invokevirtual 63, 3) := by decide +kernel
theorem dX7_wagon_30 : decode cX7_wagon 30 = .ok (.if_icmp .ge 18, 3) := by decide +kernel
theorem dX7_wagon_33 : decode cX7_wagon 33 = .ok (.aload_n 0, 1) := by decide +kernel
theorem dX7_wagon_34 : decode cX7_wagon 34 = .ok (.iload_n 1, 1) := by decide +kernel
theorem dX7_wagon_35 : decode cX7_wagon 35 = .ok (.iconst 3, 1) := by decide +kernel
theorem dX7_wagon_36 : decode cX7_wagon 36 = .ok (.iconst 3, 1) := by decide +kernel
theorem dX7_wagon_37 : decode cX7_wagon 37 = .ok (.iload_n 2, 1) := by decide +kernel
theorem dX7_wagon_38 : decode cX7_wagon 38 = .ok (.imul, 1) := by decide +kernel
theorem dX7_wagon_39 : decode cX7_wagon 39 = .ok (.iadd, 1) := by decide +kernel
theorem dX7_wagon_40 : decode cX7_wagon 40 = .ok (.iload_n 3, 1) := by decide +kernel
theorem dX7_wagon_41 : decode cX7_wagon 41 = .ok (.iadd, 1) := by decide +kernel
theorem dX7_wagon_42 : decode cX7_wagon 42 = .ok (.invokevirtual 63, 3) := by decide +kernel
theorem dX7_wagon_45 : decode cX7_wagon 45 = .ok (.goto 5, 3) := by decide +kernel
theorem dX7_wagon_48 : decode cX7_wagon 48 = .ok (.bipush (-9), 2) := by decide +kernel
theorem dX7_wagon_50 : decode cX7_wagon 50 = .ok (.ireturn, 1) := by decide +kernel
theorem dX7_train_0 : decode cX7_train 0 = .ok (.iload_n 1, 1) := by decide +kernel
theorem dX7_train_1 : decode cX7_train 1 = .ok (.ifCond .ge 7, 3) := by decide +kernel
theorem dX7_train_4 : decode cX7_train 4 = .ok (.iconst (-1), 1) := by decide +kernel
theorem dX7_train_5 : decode cX7_train 5 = .ok (.goto 28, 3) := by decide +kernel
theorem dX7_train_8 : decode cX7_train 8 = .ok (.iload_n 1, 1) := by decide +kernel
theorem dX7_train_9 : decode cX7_train 9 = .ok (.aload_n 0, 1) := by decide +kernel
theorem dX7_train_10 : decode cX7_train 10 = .ok (.getfield 7, 3) := by decide +kernel
theorem dX7_train_13 : decode cX7_train 13 = .ok (.bipush 12, 2) := by decide +kernel
theorem dX7_train_15 : decode cX7_train 15 = .ok (.iaload, 1) := by decide +kernel
theorem dX7_train_16 : decode cX7_train 16 = .ok (.if_icmp .ge 15, 3) := by decide +kernel
theorem dX7_train_19 : decode cX7_train 19 = .ok (.aload_n 0, 1) := by decide +kernel
theorem dX7_train_20 : decode cX7_train 20 = .ok (.getfield 7, 3) := by decide +kernel
theorem dX7_train_23 : decode cX7_train 23 = .ok (.bipush 13, 2) := by decide +kernel
theorem dX7_train_25 : decode cX7_train 25 = .ok (.iload_n 1, 1) := by decide +kernel
theorem dX7_train_26 : decode cX7_train 26 = .ok (.iadd, 1) := by decide +kernel
theorem dX7_train_27 : decode cX7_train 27 = .ok (.iaload, 1) := by decide +kernel
theorem dX7_train_28 : decode cX7_train 28 = .ok (.goto 5, 3) := by decide +kernel
theorem dX7_train_31 : decode cX7_train 31 = .ok (.bipush (-9), 2) := by decide +kernel
theorem dX7_train_33 : decode cX7_train 33 = .ok (.ireturn, 1) := by decide +kernel
theorem dX7_find_0 : decode cX7_find 0 = .ok (.iload_n 1, 1) := by decide +kernel
theorem dX7_find_1 : decode cX7_find 1 = .ok (.ifCond .lt 12, 3) := by decide +kernel
theorem dX7_find_4 : decode cX7_find 4 = .ok (.iload_n 2, 1) := by decide +kernel
theorem dX7_find_5 : decode cX7_find 5 = .ok (.iconst 0, 1) := by decide +kernel
theorem dX7_find_6 : decode cX7_find 6 = .ok (.iconst 1, 1) := by decide +kernel
theorem dX7_find_7 : decode cX7_find 7 = .ok (.invokestatic 59, 3) := by decide +kernel
theorem dX7_find_10 : decode cX7_find 10 = .ok (.ifCond .ne 5, 3) := by decide +kernel
theorem dX7_find_13 : decode cX7_find 13 = .ok (.iconst (-1), 1) := by decide +kernel
theorem dX7_find_14 : decode cX7_find 14 = .ok (.ireturn, 1) := by decide +kernel
theorem dX7_find_15 : decode cX7_find 15 = .ok (.iconst 0, 1) := by decide +kernel
theorem dX7_find_16 : decode cX7_find 16 = .ok (.istore_n 3, 1) := by decide +kernel
theorem dX7_find_17 : decode cX7_find 17 = .ok (.iload_n 3, 1) := by decide +kernel
theorem dX7_find_18 : decode cX7_find 18 = .ok (.aload_n 0, 1) := by decide +kernel
theorem dX7_find_19 : decode cX7_find 19 = .ok (.getfield 7, 3) := by decide +kernel
theorem dX7_find_22 : decode cX7_find 22 = .ok (.iconst 4, 1) := by decide +kernel
theorem dX7_find_23 : decode cX7_find 23 = .ok (.iaload, 1) := by decide +kernel
theorem dX7_find_24 : decode cX7_find 24 = .ok (.if_icmp .ge 55, 3) := by decide +kernel
theorem dX7_find_27 : decode cX7_find 27 = .ok (.iconst 0, 1) := by decide +kernel
theorem dX7_find_28 : decode cX7_find 28 = .ok (.istore 4, 2) := by decide +kernel
theorem dX7_find_30 : decode cX7_find 30 = .ok (.iload 4, 2) := by decide +kernel
theorem dX7_find_32 : decode cX7_find 32 = .ok (.aload_n 0, 1) := by decide +kernel
theorem dX7_find_33 : decode cX7_find 33 = .ok (.iload_n 3, 1) := by decide +kernel
theorem dX7_find_34 : decode cX7_find 34 = .ok (.iconst 0, 1) := by decide +kernel
theorem dX7_find_35 : decode cX7_find 35 = .ok (.invokevirtual 63, 3) := by decide +kernel
theorem dX7_find_38 : decode cX7_find 38 = .ok (.if_icmp .ge 35, 3) := by decide +kernel
theorem dX7_find_41 : decode cX7_find 41 = .ok (.aload_n 0, 1) := by decide +kernel
theorem dX7_find_42 : decode cX7_find 42 = .ok (.iload_n 3, 1) := by decide +kernel
theorem dX7_find_43 : decode cX7_find 43 = .ok (.iconst 3, 1) := by decide +kernel
theorem dX7_find_44 : decode cX7_find 44 = .ok (.iconst 3, 1) := by decide +kernel
theorem dX7_find_45 : decode cX7_find 45 = .ok (.iload 4, 2) := by decide +kernel
theorem dX7_find_47 : decode cX7_find 47 = .ok (.imul, 1) := by decide +kernel
theorem dX7_find_48 : decode cX7_find 48 = .ok (.iadd, 1) := by decide +kernel
theorem dX7_find_49 : decode cX7_find 49 = .ok (.invokevirtual 63, 3) := by decide +kernel
theorem dX7_find_52 : decode cX7_find 52 = .ok (.iload_n 1, 1) := by decide +kernel
theorem dX7_find_53 : decode cX7_find 53 = .ok (.if_icmp .ne 14, 3) := by decide +kernel
theorem dX7_find_56 : decode cX7_find 56 = .ok (.iload_n 2, 1) := by decide +kernel
theorem dX7_find_57 : decode cX7_find 57 = .ok (.ifCond .ne 7, 3) := by decide +kernel
theorem dX7_find_60 : decode cX7_find 60 = .ok (.iload_n 3, 1) := by decide +kernel
theorem dX7_find_61 : decode cX7_find 61 = .ok (.goto 5, 3) := by decide +kernel
theorem dX7_find_64 : decode cX7_find 64 = .ok (.iload 4, 2) := by decide +kernel
theorem dX7_find_66 : decode cX7_find 66 = .ok (.ireturn, 1) := by decide +kernel
theorem dX7_find_67 : decode cX7_find 67 = .ok (.iinc 4 1, 3) := by decide +kernel
theorem dX7_find_70 : decode cX7_find 70 = .ok (.goto (-40), 3) := by decide +kernel
theorem dX7_find_73 : decode cX7_find 73 = .ok (.iinc 3 1, 3) := by decide +kernel
theorem dX7_find_76 : decode cX7_find 76 = .ok (.goto (-59), 3) := by decide +kernel
theorem dX7_find_79 : decode cX7_find 79 = .ok (.bipush (-9), 2) := by decide +kernel
theorem dX7_find_81 : decode cX7_find 81 = .ok (.ireturn, 1) := by decide +kernel
theorem dX7_mean_0 : decode cX7_mean 0 = .ok (.aload_n 0, 1) := by decide +kernel
theorem dX7_mean_1 : decode cX7_mean 1 = .ok (.getfield 7, 3) := by decide +kernel
theorem dX7_mean_4 : decode cX7_mean 4 = .ok (.bipush 8, 2) := by decide +kernel
theorem dX7_mean_6 : decode cX7_mean 6 = .ok (.iaload, 1) := by decide +kernel
theorem dX7_mean_7 : decode cX7_mean 7 = .ok (.ifCond .ne 7, 3) := by decide +kernel
theorem dX7_mean_10 : decode cX7_mean 10 = .ok (.fconst 0, 1) := by decide +kernel
theorem dX7_mean_11 : decode cX7_mean 11 = .ok (.goto 20, 3) := by decide +kernel
theorem dX7_mean_14 : decode cX7_mean 14 = .ok (.aload_n 0, 1) := by decide +kernel
theorem dX7_mean_15 : decode cX7_mean 15 = .ok (.getfield 7, 3) := by decide +kernel
theorem dX7_mean_18 : decode cX7_mean 18 = .ok (.bipush 9, 2) := by decide +kernel
theorem dX7_mean_20 : decode cX7_mean 20 = .ok (.iaload, 1) := by decide +kernel
theorem dX7_mean_21 : decode cX7_mean 21 = .ok (.i2f, 1) := by decide +kernel
theorem dX7_mean_22 : decode cX7_mean 22 = .ok (.aload_n 0, 1) := by decide +kernel
theorem dX7_mean_23 : decode cX7_mean 23 = .ok (.getfield 7, 3) := by decide +kernel
theorem dX7_mean_26 : decode cX7_mean 26 = .ok (.bipush 8, 2) := by decide +kernel
theorem dX7_mean_28 : decode cX7_mean 28 = .ok (.iaload, 1) := by decide +kernel
theorem dX7_mean_29 : decode cX7_mean 29 = .ok (.i2f, 1) := by decide +kernel
theorem dX7_mean_30 : decode cX7_mean 30 = .ok (.fdiv, 1) := by decide +kernel
theorem dX7_mean_31 : decode cX7_mean 31 = .ok (.freturn, 1) := by decide +kernel
theorem dX7_isImage_0 : decode cX7_isImage 0 = .ok (.iload_n 0, 1) := by decide +kernel
theorem dX7_isImage_1 : decode cX7_isImage 1 = .ok (.iconst 0, 1) := by decide +kernel
theorem dX7_isImage_2 : decode cX7_isImage 2 = .ok (.iconst 1, 1) := by decide +kernel
theorem dX7_isImage_3 : decode cX7_isImage 3 = .ok (.invokestatic 59, 3) := by decide +kernel
theorem dX7_isImage_6 : decode cX7_isImage 6 = .ok (.ireturn, 1) := by decide +kernel
theorem dX7_keep_0 : decode cX7_keep 0 = .ok (.iload_n 1, 1) := by decide +kernel
theorem dX7_keep_1 : decode cX7_keep 1 = .ok (.invokestatic 203, 3) := by decide +kernel
theorem dX7_keep_4 : decode cX7_keep 4 = .ok (.ifCond .ne 5, 3) := by decide +kernel
theorem dX7_keep_7 : decode cX7_keep 7 = .ok (.iconst (-1), 1) := by decide +kernel
theorem dX7_keep_8 : decode cX7_keep 8 = .ok (.ireturn, 1) := by decide +kernel
theorem dX7_keep_9 : decode cX7_keep 9 = .ok (.iconst 0, 1) := by decide +kernel
theorem dX7_keep_10 : decode cX7_keep 10 = .ok (.istore_n 2, 1) := by decide +kernel
theorem dX7_keep_11 : decode cX7_keep 11 = .ok (.iload_n 2, 1) := by decide +kernel
theorem dX7_keep_12 : decode cX7_keep 12 = .ok (.sipush 131, 3) := by decide +kernel
theorem dX7_keep_15 : decode cX7_keep 15 = .ok (.if_icmp .ge 27, 3) := by decide +kernel
theorem dX7_keep_18 : decode cX7_keep 18 = .ok (.aload_n 0, 1) := by decide +kernel
theorem dX7_keep_19 : decode cX7_keep 19 = .ok (.getfield 16, 3) := by decide +kernel
theorem dX7_keep_22 : decode cX7_keep 22 = .ok (.sipush 131, 3) := by decide +kernel
theorem dX7_keep_25 : decode cX7_keep 25 = .ok (.iload_n 1, 1) := by decide +kernel
theorem dX7_keep_26 : decode cX7_keep 26 = .ok (.imul, 1) := by decide +kernel
theorem dX7_keep_27 : decode cX7_keep 27 = .ok (.iload_n 2, 1) := by decide +kernel
theorem dX7_keep_28 : decode cX7_keep 28 = .ok (.iadd, 1) := by decide +kernel
theorem dX7_keep_29 : decode cX7_keep 29 = .ok (.aload_n 0, 1) := by decide +kernel
theorem dX7_keep_30 : decode cX7_keep 30 = .ok (.getfield 7, 3) := by decide +kernel
theorem dX7_keep_33 : decode cX7_keep 33 = .ok (.iload_n 2, 1) := by decide +kernel
theorem dX7_keep_34 : decode cX7_keep 34 = .ok (.iaload, 1) := by decide +kernel
theorem dX7_keep_35 : decode cX7_keep 35 = .ok (.iastore, 1) := by decide +kernel
theorem dX7_keep_36 : decode cX7_keep 36 = .ok (.iinc 2 1, 3) := by decide +kernel
theorem dX7_keep_39 : decode cX7_keep 39 = .ok (.goto (-28), 3) := by decide +kernel
theorem dX7_keep_42 : decode cX7_keep 42 = .ok (.aload_n 0, 1) := by decide +kernel
theorem dX7_keep_43 : decode cX7_keep 43 = .ok (.dup, 1) := by decide +kernel
theorem dX7_keep_44 : decode cX7_keep 44 = .ok (.getfield 206, 3) := by decide +kernel
theorem dX7_keep_47 : decode cX7_keep 47 = .ok (.iconst 1, 1) := by decide +kernel
theorem dX7_keep_48 : decode cX7_keep 48 = .ok (.iload_n 1, 1) := by decide +kernel
theorem dX7_keep_49 : decode cX7_keep 49 = .ok (.ishl, 1) := by decide +kernel
theorem dX7_keep_50 : decode cX7_keep 50 = .ok (.ior, 1) := by decide +kernel
theorem dX7_keep_51 : decode cX7_keep 51 = .ok (.putfield 206, 3) := by decide +kernel
theorem dX7_keep_54 : decode cX7_keep 54 = .ok (.aload_n 0, 1) := by decide +kernel
theorem dX7_keep_55 : decode cX7_keep 55 = .ok (.invokevirtual 193, 3) := by decide +kernel
theorem dX7_keep_58 : decode cX7_keep 58 = .ok (.ireturn, 1) := by decide +kernel
theorem dX7_back_0 : decode cX7_back 0 = .ok (.iload_n 1, 1) := by decide +kernel
theorem dX7_back_1 : decode cX7_back 1 = .ok (.invokestatic 203, 3) := by decide +kernel
theorem dX7_back_4 : decode cX7_back 4 = .ok (.ifCond .ne 5, 3) := by decide +kernel
theorem dX7_back_7 : decode cX7_back 7 = .ok (.iconst (-1), 1) := by decide +kernel
theorem dX7_back_8 : decode cX7_back 8 = .ok (.ireturn, 1) := by decide +kernel
theorem dX7_back_9 : decode cX7_back 9 = .ok (.aload_n 0, 1) := by decide +kernel
theorem dX7_back_10 : decode cX7_back 10 = .ok (.getfield 206, 3) := by decide +kernel
theorem dX7_back_13 : decode cX7_back 13 = .ok (.iload_n 1, 1) := by decide +kernel
theorem dX7_back_14 : decode cX7_back 14 = .ok (.ishr, 1) := by decide +kernel
theorem dX7_back_15 : decode cX7_back 15 = .ok (.iconst 1, 1) := by decide +kernel
theorem dX7_back_16 : decode cX7_back 16 = .ok (.iand, 1) := by decide +kernel
theorem dX7_back_17 : decode cX7_back 17 = .ok (.ifCond .ne 6, 3) := by decide +kernel
theorem dX7_back_20 : decode cX7_back 20 = .ok (.bipush (-2), 2) := by decide +kernel
theorem dX7_back_22 : decode cX7_back 22 = .ok (.ireturn, 1) := by decide +kernel
theorem dX7_back_23 : decode cX7_back 23 = .ok (.aload_n 0, 1) := by decide +kernel
theorem dX7_back_24 : decode cX7_back 24 = .ok (.invokevirtual 107, 3) := by decide +kernel
theorem dX7_back_27 : decode cX7_back 27 = .ok (.iconst 0, 1) := by decide +kernel
theorem dX7_back_28 : decode cX7_back 28 = .ok (.istore_n 2, 1) := by decide +kernel
theorem dX7_back_29 : decode cX7_back 29 = .ok (.iload_n 2, 1) := by decide +kernel
theorem dX7_back_30 : decode cX7_back 30 = .ok (.sipush 131, 3) := by decide +kernel
theorem dX7_back_33 : decode cX7_back 33 = .ok (.if_icmp .ge 27, 3) := by decide +kernel
theorem dX7_back_36 : decode cX7_back 36 = .ok (.aload_n 0, 1) := by decide +kernel
theorem dX7_back_37 : decode cX7_back 37 = .ok (.getfield 7, 3) := by decide +kernel
theorem dX7_back_40 : decode cX7_back 40 = .ok (.iload_n 2, 1) := by decide +kernel
theorem dX7_back_41 : decode cX7_back 41 = .ok (.aload_n 0, 1) := by decide +kernel
theorem dX7_back_42 : decode cX7_back 42 = .ok (.getfield 16, 3) := by decide +kernel
theorem dX7_back_45 : decode cX7_back 45 = .ok (.sipush 131, 3) := by decide +kernel
theorem dX7_back_48 : decode cX7_back 48 = .ok (.iload_n 1, 1) := by decide +kernel
theorem dX7_back_49 : decode cX7_back 49 = .ok (.imul, 1) := by decide +kernel
theorem dX7_back_50 : decode cX7_back 50 = .ok (.iload_n 2, 1) := by decide +kernel
theorem dX7_back_51 : decode cX7_back 51 = .ok (.iadd, 1) := by decide +kernel
theorem dX7_back_52 : decode cX7_back 52 = .ok (.iaload, 1) := by decide +kernel
theorem dX7_back_53 : decode cX7_back 53 = .ok (.iastore, 1) := by decide +kernel
theorem dX7_back_54 : decode cX7_back 54 = .ok (.iinc 2 1, 3) := by decide +kernel
theorem dX7_back_57 : decode cX7_back 57 = .ok (.goto (-28), 3) := by decide +kernel
theorem dX7_back_60 : decode cX7_back 60 = .ok (.aload_n 0, 1) := by decide +kernel
theorem dX7_back_61 : decode cX7_back 61 = .ok (.invokevirtual 193, 3) := by decide +kernel
theorem dX7_back_64 : decode cX7_back 64 = .ok (.ireturn, 1) := by decide +kernel
theorem dJ9_abs_0f7a4_0 : decode cJ9_abs_0f7a4 0 = .ok (.iload_n 0, 1) := by decide +kernel
theorem dJ9_abs_0f7a4_1 : decode cJ9_abs_0f7a4 1 = .ok (.ifCond .ge 8, 3) := by decide +kernel
theorem dJ9_abs_0f7a4_4 : decode cJ9_abs_0f7a4 4 = .ok (.iload_n 0, 1) := by decide +kernel
theorem dJ9_abs_0f7a4_5 : decode cJ9_abs_0f7a4 5 = .ok (.ineg, 1) := by decide +kernel
theorem dJ9_abs_0f7a4_6 : decode cJ9_abs_0f7a4 6 = .ok (.goto 4, 3) := by decide +kernel
theorem dJ9_abs_0f7a4_9 : decode cJ9_abs_0f7a4 9 = .ok (.iload_n 0, 1) := by decide +kernel
theorem dJ9_abs_0f7a4_10 : decode cJ9_abs_0f7a4 10 = .ok (.ireturn, 1) := by decide +kernel
theorem dJ9_max_7cf53_0 : decode cJ9_max_7cf53 0 = .ok (.iload_n 0, 1) := by decide +kernel
theorem dJ9_max_7cf53_1 : decode cJ9_max_7cf53 1 = .ok (.iload_n 1, 1) := by decide +kernel
theorem dJ9_max_7cf53_2 : decode cJ9_max_7cf53 2 = .ok (.if_icmp .lt 7, 3) := by decide +kernel
theorem dJ9_max_7cf53_5 : decode cJ9_max_7cf53 5 = .ok (.iload_n 0, 1) := by decide +kernel
theorem dJ9_max_7cf53_6 : decode cJ9_max_7cf53 6 = .ok (.goto 4, 3) := by decide +kernel
theorem dJ9_max_7cf53_9 : decode cJ9_max_7cf53 9 = .ok (.iload_n 1, 1) := by decide +kernel
theorem dJ9_max_7cf53_10 : decode cJ9_max_7cf53 10 = .ok (.ireturn, 1) := by decide +kernel
theorem dJ9_min_7cf53_0 : decode cJ9_min_7cf53 0 = .ok (.iload_n 0, 1) := by decide +kernel
theorem dJ9_min_7cf53_1 : decode cJ9_min_7cf53 1 = .ok (.iload_n 1, 1) := by decide +kernel
theorem dJ9_min_7cf53_2 : decode cJ9_min_7cf53 2 = .ok (.if_icmp .gt 7, 3) := by decide +kernel
theorem dJ9_min_7cf53_5 : decode cJ9_min_7cf53 5 = .ok (.iload_n 0, 1) := by decide +kernel
theorem dJ9_min_7cf53_6 : decode cJ9_min_7cf53 6 = .ok (.goto 4, 3) := by decide +kernel
theorem dJ9_min_7cf53_9 : decode cJ9_min_7cf53 9 = .ok (.iload_n 1, 1) := by decide +kernel
theorem dJ9_min_7cf53_10 : decode cJ9_min_7cf53 10 = .ok (.ireturn, 1) := by decide +kernel
theorem dJ7_fill_53178_0 : decode cJ7_fill_53178 0 = .ok (.iconst 0, 1) := by decide +kernel
theorem dJ7_fill_53178_1 : decode cJ7_fill_53178 1 = .ok (.istore_n 2, 1) := by decide +kernel
theorem dJ7_fill_53178_2 : decode cJ7_fill_53178 2 = .ok (.aload_n 0, 1) := by decide +kernel
theorem dJ7_fill_53178_3 : decode cJ7_fill_53178 3 = .ok (.arraylength, 1) := by decide +kernel
theorem dJ7_fill_53178_4 : decode cJ7_fill_53178 4 = .ok (.istore_n 3, 1) := by decide +kernel
theorem dJ7_fill_53178_5 : decode cJ7_fill_53178 5 = .ok (.iload_n 2, 1) := by decide +kernel
theorem dJ7_fill_53178_6 : decode cJ7_fill_53178 6 = .ok (.iload_n 3, 1) := by decide +kernel
theorem dJ7_fill_53178_7 : decode cJ7_fill_53178 7 = .ok (.if_icmp .ge 13, 3) := by decide +kernel
theorem dJ7_fill_53178_10 : decode cJ7_fill_53178 10 = .ok (.aload_n 0, 1) := by decide +kernel
theorem dJ7_fill_53178_11 : decode cJ7_fill_53178 11 = .ok (.iload_n 2, 1) := by decide +kernel
theorem dJ7_fill_53178_12 : decode cJ7_fill_53178 12 = .ok (.iload_n 1, 1) := by decide +kernel
theorem dJ7_fill_53178_13 : decode cJ7_fill_53178 13 = .ok (.iastore, 1) := by decide +kernel
theorem dJ7_fill_53178_14 : decode cJ7_fill_53178 14 = .ok (.iinc 2 1, 3) := by decide +kernel
theorem dJ7_fill_53178_17 : decode cJ7_fill_53178 17 = .ok (.goto (-12), 3) := by decide +kernel
theorem dJ7_fill_53178_20 : decode cJ7_fill_53178 20 = .ok (.return_, 1) := by decide +kernel
theorem dL_law_0 : decode cL_law 0 = .ok (.new 7, 3) := by decide +kernel
theorem dL_law_3 : decode cL_law 3 = .ok (.dup, 1) := by decide +kernel
theorem dL_law_4 : decode cL_law 4 = .ok (.invokespecial 9, 3) := by decide +kernel
theorem dL_law_7 : decode cL_law 7 = .ok (.astore_n 1, 1) := by decide +kernel
theorem dL_law_8 : decode cL_law 8 = .ok (.new 10, 3) := by decide +kernel
theorem dL_law_11 : decode cL_law 11 = .ok (.dup, 1) := by decide +kernel
theorem dL_law_12 : decode cL_law 12 = .ok (.invokespecial 12, 3) := by decide +kernel
theorem dL_law_15 : decode cL_law 15 = .ok (.astore_n 2, 1) := by decide +kernel
theorem dL_law_16 : decode cL_law 16 = .ok (.iconst 0, 1) := by decide +kernel
theorem dL_law_17 : decode cL_law 17 = .ok (.istore_n 3, 1) := by decide +kernel
theorem dL_law_18 : decode cL_law 18 = .ok (.iload_n 3, 1) := by decide +kernel
theorem dL_law_19 : decode cL_law 19 = .ok (.aload_n 0, 1) := by decide +kernel
theorem dL_law_20 : decode cL_law 20 = .ok (.arraylength, 1) := by decide +kernel
theorem dL_law_21 : decode cL_law 21 = .ok (.iconst 4, 1) := by decide +kernel
theorem dL_law_22 : decode cL_law 22 = .ok (.isub, 1) := by decide +kernel
theorem dL_law_23 : decode cL_law 23 = .ok (.if_icmp .gt 779, 3) := by decide +kernel
theorem dL_law_26 : decode cL_law 26 = .ok (.aload_n 0, 1) := by decide +kernel
theorem dL_law_27 : decode cL_law 27 = .ok (.iload_n 3, 1) := by decide +kernel
theorem dL_law_28 : decode cL_law 28 = .ok (.iaload, 1) := by decide +kernel
theorem dL_law_29 : decode cL_law 29 = .ok (.bipush 31, 2) := by decide +kernel
theorem dL_law_31 : decode cL_law 31 = .ok (.iand, 1) := by decide +kernel
theorem dL_law_32 : decode cL_law 32 = .ok (.tableswitch 764 0 23 #[112, 145, 178, 201, 214, 257, 280, 303, 326, 349, 362, 385, 398, 421, 444, 467, 500, 543, 566, 599, 642, 685, 718, 741], 112) := by decide +kernel
theorem dL_law_144 : decode cL_law 144 = .ok (.aload_n 1, 1) := by decide +kernel
theorem dL_law_145 : decode cL_law 145 = .ok (.aload_n 0, 1) := by decide +kernel
theorem dL_law_146 : decode cL_law 146 = .ok (.iload_n 3, 1) := by decide +kernel
theorem dL_law_147 : decode cL_law 147 = .ok (.iconst 1, 1) := by decide +kernel
theorem dL_law_148 : decode cL_law 148 = .ok (.iadd, 1) := by decide +kernel
theorem dL_law_149 : decode cL_law 149 = .ok (.iaload, 1) := by decide +kernel
theorem dL_law_150 : decode cL_law 150 = .ok (.aload_n 0, 1) := by decide +kernel
theorem dL_law_151 : decode cL_law 151 = .ok (.iload_n 3, 1) := by decide +kernel
theorem dL_law_152 : decode cL_law 152 = .ok (.iconst 2, 1) := by decide +kernel
theorem dL_law_153 : decode cL_law 153 = .ok (.iadd, 1) := by decide +kernel
theorem dL_law_154 : decode cL_law 154 = .ok (.iaload, 1) := by decide +kernel
theorem dL_law_155 : decode cL_law 155 = .ok (.invokevirtual 13, 3) := by decide +kernel
theorem dL_law_158 : decode cL_law 158 = .ok (.aload_n 2, 1) := by decide +kernel
theorem dL_law_159 : decode cL_law 159 = .ok (.aload_n 0, 1) := by decide +kernel
theorem dL_law_160 : decode cL_law 160 = .ok (.iload_n 3, 1) := by decide +kernel
theorem dL_law_161 : decode cL_law 161 = .ok (.iconst 1, 1) := by decide +kernel
theorem dL_law_162 : decode cL_law 162 = .ok (.iadd, 1) := by decide +kernel
theorem dL_law_163 : decode cL_law 163 = .ok (.iaload, 1) := by decide +kernel
theorem dL_law_164 : decode cL_law 164 = .ok (.aload_n 0, 1) := by decide +kernel
theorem dL_law_165 : decode cL_law 165 = .ok (.iload_n 3, 1) := by decide +kernel
theorem dL_law_166 : decode cL_law 166 = .ok (.iconst 2, 1) := by decide +kernel
theorem dL_law_167 : decode cL_law 167 = .ok (.iadd, 1) := by decide +kernel
theorem dL_law_168 : decode cL_law 168 = .ok (.iaload, 1) := by decide +kernel
theorem dL_law_169 : decode cL_law 169 = .ok (.invokevirtual 17, 3) := by decide +kernel
theorem dL_law_172 : decode cL_law 172 = .ok (.if_icmp .eq 624, 3) := by decide +kernel
theorem dL_law_175 : decode cL_law 175 = .ok (.iconst 0, 1) := by decide +kernel
theorem dL_law_176 : decode cL_law 176 = .ok (.ireturn, 1) := by decide +kernel
theorem dL_law_177 : decode cL_law 177 = .ok (.aload_n 1, 1) := by decide +kernel
theorem dL_law_178 : decode cL_law 178 = .ok (.aload_n 0, 1) := by decide +kernel
theorem dL_law_179 : decode cL_law 179 = .ok (.iload_n 3, 1) := by decide +kernel
theorem dL_law_180 : decode cL_law 180 = .ok (.iconst 1, 1) := by decide +kernel
theorem dL_law_181 : decode cL_law 181 = .ok (.iadd, 1) := by decide +kernel
theorem dL_law_182 : decode cL_law 182 = .ok (.iaload, 1) := by decide +kernel
theorem dL_law_183 : decode cL_law 183 = .ok (.aload_n 0, 1) := by decide +kernel
theorem dL_law_184 : decode cL_law 184 = .ok (.iload_n 3, 1) := by decide +kernel
theorem dL_law_185 : decode cL_law 185 = .ok (.iconst 2, 1) := by decide +kernel
theorem dL_law_186 : decode cL_law 186 = .ok (.iadd, 1) := by decide +kernel
theorem dL_law_187 : decode cL_law 187 = .ok (.iaload, 1) := by decide +kernel
theorem dL_law_188 : decode cL_law 188 = .ok (.invokevirtual 18, 3) := by decide +kernel
theorem dL_law_191 : decode cL_law 191 = .ok (.aload_n 2, 1) := by decide +kernel
theorem dL_law_192 : decode cL_law 192 = .ok (.aload_n 0, 1) := by decide +kernel
theorem dL_law_193 : decode cL_law 193 = .ok (.iload_n 3, 1) := by decide +kernel
theorem dL_law_194 : decode cL_law 194 = .ok (.iconst 1, 1) := by decide +kernel
theorem dL_law_195 : decode cL_law 195 = .ok (.iadd, 1) := by decide +kernel
theorem dL_law_196 : decode cL_law 196 = .ok (.iaload, 1) := by decide +kernel
theorem dL_law_197 : decode cL_law 197 = .ok (.aload_n 0, 1) := by decide +kernel
theorem dL_law_198 : decode cL_law 198 = .ok (.iload_n 3, 1) := by decide +kernel
theorem dL_law_199 : decode cL_law 199 = .ok (.iconst 2, 1) := by decide +kernel
theorem dL_law_200 : decode cL_law 200 = .ok (.iadd, 1) := by decide +kernel
theorem dL_law_201 : decode cL_law 201 = .ok (.iaload, 1) := by decide +kernel
theorem dL_law_202 : decode cL_law 202 = .ok (.invokevirtual 21, 3) := by decide +kernel
theorem dL_law_205 : decode cL_law 205 = .ok (.if_icmp .eq 591, 3) := by decide +kernel
theorem dL_law_208 : decode cL_law 208 = .ok (.iconst 0, 1) := by decide +kernel
theorem dL_law_209 : decode cL_law 209 = .ok (.ireturn, 1) := by decide +kernel
theorem dL_law_210 : decode cL_law 210 = .ok (.aload_n 1, 1) := by decide +kernel
theorem dL_law_211 : decode cL_law 211 = .ok (.aload_n 0, 1) := by decide +kernel
theorem dL_law_212 : decode cL_law 212 = .ok (.iload_n 3, 1) := by decide +kernel
theorem dL_law_213 : decode cL_law 213 = .ok (.iconst 1, 1) := by decide +kernel
theorem dL_law_214 : decode cL_law 214 = .ok (.iadd, 1) := by decide +kernel
theorem dL_law_215 : decode cL_law 215 = .ok (.iaload, 1) := by decide +kernel
theorem dL_law_216 : decode cL_law 216 = .ok (.invokevirtual 22, 3) := by decide +kernel
theorem dL_law_219 : decode cL_law 219 = .ok (.aload_n 2, 1) := by decide +kernel
theorem dL_law_220 : decode cL_law 220 = .ok (.aload_n 0, 1) := by decide +kernel
theorem dL_law_221 : decode cL_law 221 = .ok (.iload_n 3, 1) := by decide +kernel
theorem dL_law_222 : decode cL_law 222 = .ok (.iconst 1, 1) := by decide +kernel
theorem dL_law_223 : decode cL_law 223 = .ok (.iadd, 1) := by decide +kernel
theorem dL_law_224 : decode cL_law 224 = .ok (.iaload, 1) := by decide +kernel
theorem dL_law_225 : decode cL_law 225 = .ok (.invokevirtual 26, 3) := by decide +kernel
theorem dL_law_228 : decode cL_law 228 = .ok (.if_icmp .eq 568, 3) := by decide +kernel
theorem dL_law_231 : decode cL_law 231 = .ok (.iconst 0, 1) := by decide +kernel
theorem dL_law_232 : decode cL_law 232 = .ok (.ireturn, 1) := by decide +kernel
theorem dL_law_233 : decode cL_law 233 = .ok (.aload_n 1, 1) := by decide +kernel
theorem dL_law_234 : decode cL_law 234 = .ok (.invokevirtual 27, 3) := by decide +kernel
theorem dL_law_237 : decode cL_law 237 = .ok (.aload_n 2, 1) := by decide +kernel
theorem dL_law_238 : decode cL_law 238 = .ok (.invokevirtual 31, 3) := by decide +kernel
theorem dL_law_241 : decode cL_law 241 = .ok (.if_icmp .eq 555, 3) := by decide +kernel
theorem dL_law_244 : decode cL_law 244 = .ok (.iconst 0, 1) := by decide +kernel
theorem dL_law_245 : decode cL_law 245 = .ok (.ireturn, 1) := by decide +kernel
theorem dL_law_246 : decode cL_law 246 = .ok (.aload_n 1, 1) := by decide +kernel
theorem dL_law_247 : decode cL_law 247 = .ok (.aload_n 0, 1) := by decide +kernel
theorem dL_law_248 : decode cL_law 248 = .ok (.iload_n 3, 1) := by decide +kernel
theorem dL_law_249 : decode cL_law 249 = .ok (.iconst 1, 1) := by decide +kernel
theorem dL_law_250 : decode cL_law 250 = .ok (.iadd, 1) := by decide +kernel
theorem dL_law_251 : decode cL_law 251 = .ok (.iaload, 1) := by decide +kernel
theorem dL_law_252 : decode cL_law 252 = .ok (.aload_n 0, 1) := by decide +kernel
theorem dL_law_253 : decode cL_law 253 = .ok (.iload_n 3, 1) := by decide +kernel
theorem dL_law_254 : decode cL_law 254 = .ok (.iconst 2, 1) := by decide +kernel
theorem dL_law_255 : decode cL_law 255 = .ok (.iadd, 1) := by decide +kernel
theorem dL_law_256 : decode cL_law 256 = .ok (.iaload, 1) := by decide +kernel
theorem dL_law_257 : decode cL_law 257 = .ok (.aload_n 0, 1) := by decide +kernel
theorem dL_law_258 : decode cL_law 258 = .ok (.iload_n 3, 1) := by decide +kernel
theorem dL_law_259 : decode cL_law 259 = .ok (.iconst 3, 1) := by decide +kernel
theorem dL_law_260 : decode cL_law 260 = .ok (.iadd, 1) := by decide +kernel
theorem dL_law_261 : decode cL_law 261 = .ok (.iaload, 1) := by decide +kernel
theorem dL_law_262 : decode cL_law 262 = .ok (.invokevirtual 32, 3) := by decide +kernel
theorem dL_law_265 : decode cL_law 265 = .ok (.aload_n 2, 1) := by decide +kernel
theorem dL_law_266 : decode cL_law 266 = .ok (.aload_n 0, 1) := by decide +kernel
theorem dL_law_267 : decode cL_law 267 = .ok (.iload_n 3, 1) := by decide +kernel
theorem dL_law_268 : decode cL_law 268 = .ok (.iconst 1, 1) := by decide +kernel
theorem dL_law_269 : decode cL_law 269 = .ok (.iadd, 1) := by decide +kernel
theorem dL_law_270 : decode cL_law 270 = .ok (.iaload, 1) := by decide +kernel
theorem dL_law_271 : decode cL_law 271 = .ok (.aload_n 0, 1) := by decide +kernel
theorem dL_law_272 : decode cL_law 272 = .ok (.iload_n 3, 1) := by decide +kernel
theorem dL_law_273 : decode cL_law 273 = .ok (.iconst 2, 1) := by decide +kernel
theorem dL_law_274 : decode cL_law 274 = .ok (.iadd, 1) := by decide +kernel
theorem dL_law_275 : decode cL_law 275 = .ok (.iaload, 1) := by decide +kernel
theorem dL_law_276 : decode cL_law 276 = .ok (.aload_n 0, 1) := by decide +kernel
theorem dL_law_277 : decode cL_law 277 = .ok (.iload_n 3, 1) := by decide +kernel
theorem dL_law_278 : decode cL_law 278 = .ok (.iconst 3, 1) := by decide +kernel
theorem dL_law_279 : decode cL_law 279 = .ok (.iadd, 1) := by decide +kernel
theorem dL_law_280 : decode cL_law 280 = .ok (.iaload, 1) := by decide +kernel
theorem dL_law_281 : decode cL_law 281 = .ok (.invokevirtual 36, 3) := by decide +kernel
theorem dL_law_284 : decode cL_law 284 = .ok (.if_icmp .eq 512, 3) := by decide +kernel
theorem dL_law_287 : decode cL_law 287 = .ok (.iconst 0, 1) := by decide +kernel
theorem dL_law_288 : decode cL_law 288 = .ok (.ireturn, 1) := by decide +kernel
theorem dL_law_289 : decode cL_law 289 = .ok (.aload_n 1, 1) := by decide +kernel
theorem dL_law_290 : decode cL_law 290 = .ok (.aload_n 0, 1) := by decide +kernel
theorem dL_law_291 : decode cL_law 291 = .ok (.iload_n 3, 1) := by decide +kernel
theorem dL_law_292 : decode cL_law 292 = .ok (.iconst 1, 1) := by decide +kernel
theorem dL_law_293 : decode cL_law 293 = .ok (.iadd, 1) := by decide +kernel
theorem dL_law_294 : decode cL_law 294 = .ok (.iaload, 1) := by decide +kernel
theorem dL_law_295 : decode cL_law 295 = .ok (.invokevirtual 37, 3) := by decide +kernel
theorem dL_law_298 : decode cL_law 298 = .ok (.aload_n 2, 1) := by decide +kernel
theorem dL_law_299 : decode cL_law 299 = .ok (.aload_n 0, 1) := by decide +kernel
theorem dL_law_300 : decode cL_law 300 = .ok (.iload_n 3, 1) := by decide +kernel
theorem dL_law_301 : decode cL_law 301 = .ok (.iconst 1, 1) := by decide +kernel
theorem dL_law_302 : decode cL_law 302 = .ok (.iadd, 1) := by decide +kernel
theorem dL_law_303 : decode cL_law 303 = .ok (.iaload, 1) := by decide +kernel
theorem dL_law_304 : decode cL_law 304 = .ok (.invokevirtual 40, 3) := by decide +kernel
theorem dL_law_307 : decode cL_law 307 = .ok (.if_icmp .eq 489, 3) := by decide +kernel
theorem dL_law_310 : decode cL_law 310 = .ok (.iconst 0, 1) := by decide +kernel
theorem dL_law_311 : decode cL_law 311 = .ok (.ireturn, 1) := by decide +kernel
theorem dL_law_312 : decode cL_law 312 = .ok (.aload_n 1, 1) := by decide +kernel
theorem dL_law_313 : decode cL_law 313 = .ok (.aload_n 0, 1) := by decide +kernel
theorem dL_law_314 : decode cL_law 314 = .ok (.iload_n 3, 1) := by decide +kernel
theorem dL_law_315 : decode cL_law 315 = .ok (.iconst 1, 1) := by decide +kernel
theorem dL_law_316 : decode cL_law 316 = .ok (.iadd, 1) := by decide +kernel
theorem dL_law_317 : decode cL_law 317 = .ok (.iaload, 1) := by decide +kernel
theorem dL_law_318 : decode cL_law 318 = .ok (.invokevirtual 41, 3) := by decide +kernel
theorem dL_law_321 : decode cL_law 321 = .ok (.aload_n 2, 1) := by decide +kernel
theorem dL_law_322 : decode cL_law 322 = .ok (.aload_n 0, 1) := by decide +kernel
theorem dL_law_323 : decode cL_law 323 = .ok (.iload_n 3, 1) := by decide +kernel
theorem dL_law_324 : decode cL_law 324 = .ok (.iconst 1, 1) := by decide +kernel
theorem dL_law_325 : decode cL_law 325 = .ok (.iadd, 1) := by decide +kernel
theorem dL_law_326 : decode cL_law 326 = .ok (.iaload, 1) := by decide +kernel
theorem dL_law_327 : decode cL_law 327 = .ok (.invokevirtual 44, 3) := by decide +kernel
theorem dL_law_330 : decode cL_law 330 = .ok (.if_icmp .eq 466, 3) := by decide +kernel
theorem dL_law_333 : decode cL_law 333 = .ok (.iconst 0, 1) := by decide +kernel
theorem dL_law_334 : decode cL_law 334 = .ok (.ireturn, 1) := by decide +kernel
theorem dL_law_335 : decode cL_law 335 = .ok (.aload_n 1, 1) := by decide +kernel
theorem dL_law_336 : decode cL_law 336 = .ok (.aload_n 0, 1) := by decide +kernel
theorem dL_law_337 : decode cL_law 337 = .ok (.iload_n 3, 1) := by decide +kernel
theorem dL_law_338 : decode cL_law 338 = .ok (.iconst 1, 1) := by decide +kernel
theorem dL_law_339 : decode cL_law 339 = .ok (.iadd, 1) := by decide +kernel
theorem dL_law_340 : decode cL_law 340 = .ok (.iaload, 1) := by decide +kernel
theorem dL_law_341 : decode cL_law 341 = .ok (.invokevirtual 45, 3) := by decide +kernel
theorem dL_law_344 : decode cL_law 344 = .ok (.aload_n 2, 1) := by decide +kernel
theorem dL_law_345 : decode cL_law 345 = .ok (.aload_n 0, 1) := by decide +kernel
theorem dL_law_346 : decode cL_law 346 = .ok (.iload_n 3, 1) := by decide +kernel
theorem dL_law_347 : decode cL_law 347 = .ok (.iconst 1, 1) := by decide +kernel
theorem dL_law_348 : decode cL_law 348 = .ok (.iadd, 1) := by decide +kernel
theorem dL_law_349 : decode cL_law 349 = .ok (.iaload, 1) := by decide +kernel
theorem dL_law_350 : decode cL_law 350 = .ok (.invokevirtual 48, 3) := by decide +kernel
theorem dL_law_353 : decode cL_law 353 = .ok (.if_icmp .eq 443, 3) := by decide +kernel
theorem dL_law_356 : decode cL_law 356 = .ok (.iconst 0, 1) := by decide +kernel
theorem dL_law_357 : decode cL_law 357 = .ok (.ireturn, 1) := by decide +kernel
theorem dL_law_358 : decode cL_law 358 = .ok (.aload_n 1, 1) := by decide +kernel
theorem dL_law_359 : decode cL_law 359 = .ok (.aload_n 0, 1) := by decide +kernel
theorem dL_law_360 : decode cL_law 360 = .ok (.iload_n 3, 1) := by decide +kernel
theorem dL_law_361 : decode cL_law 361 = .ok (.iconst 1, 1) := by decide +kernel
theorem dL_law_362 : decode cL_law 362 = .ok (.iadd, 1) := by decide +kernel
theorem dL_law_363 : decode cL_law 363 = .ok (.iaload, 1) := by decide +kernel
theorem dL_law_364 : decode cL_law 364 = .ok (.invokevirtual 49, 3) := by decide +kernel
theorem dL_law_367 : decode cL_law 367 = .ok (.aload_n 2, 1) := by decide +kernel
theorem dL_law_368 : decode cL_law 368 = .ok (.aload_n 0, 1) := by decide +kernel
theorem dL_law_369 : decode cL_law 369 = .ok (.iload_n 3, 1) := by decide +kernel
theorem dL_law_370 : decode cL_law 370 = .ok (.iconst 1, 1) := by decide +kernel
theorem dL_law_371 : decode cL_law 371 = .ok (.iadd, 1) := by decide +kernel
theorem dL_law_372 : decode cL_law 372 = .ok (.iaload, 1) := by decide +kernel
theorem dL_law_373 : decode cL_law 373 = .ok (.invokevirtual 52, 3) := by decide +kernel
theorem dL_law_376 : decode cL_law 376 = .ok (.if_icmp .eq 420, 3) := by decide +kernel
theorem dL_law_379 : decode cL_law 379 = .ok (.iconst 0, 1) := by decide +kernel
theorem dL_law_380 : decode cL_law 380 = .ok (.ireturn, 1) := by decide +kernel
theorem dL_law_381 : decode cL_law 381 = .ok (.aload_n 1, 1) := by decide +kernel
theorem dL_law_382 : decode cL_law 382 = .ok (.invokevirtual 53, 3) := by decide +kernel
theorem dL_law_385 : decode cL_law 385 = .ok (.aload_n 2, 1) := by decide +kernel
theorem dL_law_386 : decode cL_law 386 = .ok (.invokevirtual 56, 3) := by decide +kernel
theorem dL_law_389 : decode cL_law 389 = .ok (.if_icmp .eq 407, 3) := by decide +kernel
theorem dL_law_392 : decode cL_law 392 = .ok (.iconst 0, 1) := by decide +kernel
theorem dL_law_393 : decode cL_law 393 = .ok (.ireturn, 1) := by decide +kernel
theorem dL_law_394 : decode cL_law 394 = .ok (.aload_n 1, 1) := by decide +kernel
theorem dL_law_395 : decode cL_law 395 = .ok (.aload_n 0, 1) := by decide +kernel
theorem dL_law_396 : decode cL_law 396 = .ok (.iload_n 3, 1) := by decide +kernel
theorem dL_law_397 : decode cL_law 397 = .ok (.iconst 1, 1) := by decide +kernel
theorem dL_law_398 : decode cL_law 398 = .ok (.iadd, 1) := by decide +kernel
theorem dL_law_399 : decode cL_law 399 = .ok (.iaload, 1) := by decide +kernel
theorem dL_law_400 : decode cL_law 400 = .ok (.invokevirtual 57, 3) := by decide +kernel
theorem dL_law_403 : decode cL_law 403 = .ok (.aload_n 2, 1) := by decide +kernel
theorem dL_law_404 : decode cL_law 404 = .ok (.aload_n 0, 1) := by decide +kernel
theorem dL_law_405 : decode cL_law 405 = .ok (.iload_n 3, 1) := by decide +kernel
theorem dL_law_406 : decode cL_law 406 = .ok (.iconst 1, 1) := by decide +kernel
theorem dL_law_407 : decode cL_law 407 = .ok (.iadd, 1) := by decide +kernel
theorem dL_law_408 : decode cL_law 408 = .ok (.iaload, 1) := by decide +kernel
theorem dL_law_409 : decode cL_law 409 = .ok (.invokevirtual 60, 3) := by decide +kernel
theorem dL_law_412 : decode cL_law 412 = .ok (.if_icmp .eq 384, 3) := by decide +kernel
theorem dL_law_415 : decode cL_law 415 = .ok (.iconst 0, 1) := by decide +kernel
theorem dL_law_416 : decode cL_law 416 = .ok (.ireturn, 1) := by decide +kernel
theorem dL_law_417 : decode cL_law 417 = .ok (.aload_n 1, 1) := by decide +kernel
theorem dL_law_418 : decode cL_law 418 = .ok (.invokevirtual 61, 3) := by decide +kernel
theorem dL_law_421 : decode cL_law 421 = .ok (.aload_n 2, 1) := by decide +kernel
theorem dL_law_422 : decode cL_law 422 = .ok (.invokevirtual 64, 3) := by decide +kernel
theorem dL_law_425 : decode cL_law 425 = .ok (.if_icmp .eq 371, 3) := by decide +kernel
theorem dL_law_428 : decode cL_law 428 = .ok (.iconst 0, 1) := by decide +kernel
theorem dL_law_429 : decode cL_law 429 = .ok (.ireturn, 1) := by decide +kernel
theorem dL_law_430 : decode cL_law 430 = .ok (.aload_n 1, 1) := by decide +kernel
theorem dL_law_431 : decode cL_law 431 = .ok (.aload_n 0, 1) := by decide +kernel
theorem dL_law_432 : decode cL_law 432 = .ok (.iload_n 3, 1) := by decide +kernel
theorem dL_law_433 : decode cL_law 433 = .ok (.iconst 1, 1) := by decide +kernel
theorem dL_law_434 : decode cL_law 434 = .ok (.iadd, 1) := by decide +kernel
theorem dL_law_435 : decode cL_law 435 = .ok (.iaload, 1) := by decide +kernel
theorem dL_law_436 : decode cL_law 436 = .ok (.invokevirtual 65, 3) := by decide +kernel
theorem dL_law_439 : decode cL_law 439 = .ok (.aload_n 2, 1) := by decide +kernel
theorem dL_law_440 : decode cL_law 440 = .ok (.aload_n 0, 1) := by decide +kernel
theorem dL_law_441 : decode cL_law 441 = .ok (.iload_n 3, 1) := by decide +kernel
theorem dL_law_442 : decode cL_law 442 = .ok (.iconst 1, 1) := by decide +kernel
theorem dL_law_443 : decode cL_law 443 = .ok (.iadd, 1) := by decide +kernel
theorem dL_law_444 : decode cL_law 444 = .ok (.iaload, 1) := by decide +kernel
theorem dL_law_445 : decode cL_law 445 = .ok (.invokevirtual 68, 3) := by decide +kernel
theorem dL_law_448 : decode cL_law 448 = .ok (.if_icmp .eq 348, 3) := by decide +kernel
theorem dL_law_451 : decode cL_law 451 = .ok (.iconst 0, 1) := by decide +kernel
theorem dL_law_452 : decode cL_law 452 = .ok (.ireturn, 1) := by decide +kernel
theorem dL_law_453 : decode cL_law 453 = .ok (.aload_n 1, 1) := by decide +kernel
theorem dL_law_454 : decode cL_law 454 = .ok (.aload_n 0, 1) := by decide +kernel
theorem dL_law_455 : decode cL_law 455 = .ok (.iload_n 3, 1) := by decide +kernel
theorem dL_law_456 : decode cL_law 456 = .ok (.iconst 1, 1) := by decide +kernel
theorem dL_law_457 : decode cL_law 457 = .ok (.iadd, 1) := by decide +kernel
theorem dL_law_458 : decode cL_law 458 = .ok (.iaload, 1) := by decide +kernel
theorem dL_law_459 : decode cL_law 459 = .ok (.invokevirtual 69, 3) := by decide +kernel
theorem dL_law_462 : decode cL_law 462 = .ok (.aload_n 2, 1) := by decide +kernel
theorem dL_law_463 : decode cL_law 463 = .ok (.aload_n 0, 1) := by decide +kernel
theorem dL_law_464 : decode cL_law 464 = .ok (.iload_n 3, 1) := by decide +kernel
theorem dL_law_465 : decode cL_law 465 = .ok (.iconst 1, 1) := by decide +kernel
theorem dL_law_466 : decode cL_law 466 = .ok (.iadd, 1) := by decide +kernel
theorem dL_law_467 : decode cL_law 467 = .ok (.iaload, 1) := by decide +kernel
theorem dL_law_468 : decode cL_law 468 = .ok (.invokevirtual 72, 3) := by decide +kernel
theorem dL_law_471 : decode cL_law 471 = .ok (.if_icmp .eq 325, 3) := by decide +kernel
theorem dL_law_474 : decode cL_law 474 = .ok (.iconst 0, 1) := by decide +kernel
theorem dL_law_475 : decode cL_law 475 = .ok (.ireturn, 1) := by decide +kernel
theorem dL_law_476 : decode cL_law 476 = .ok (.aload_n 1, 1) := by decide +kernel
theorem dL_law_477 : decode cL_law 477 = .ok (.aload_n 0, 1) := by decide +kernel
theorem dL_law_478 : decode cL_law 478 = .ok (.iload_n 3, 1) := by decide +kernel
theorem dL_law_479 : decode cL_law 479 = .ok (.iconst 1, 1) := by decide +kernel
theorem dL_law_480 : decode cL_law 480 = .ok (.iadd, 1) := by decide +kernel
theorem dL_law_481 : decode cL_law 481 = .ok (.iaload, 1) := by decide +kernel
theorem dL_law_482 : decode cL_law 482 = .ok (.invokevirtual 73, 3) := by decide +kernel
theorem dL_law_485 : decode cL_law 485 = .ok (.aload_n 2, 1) := by decide +kernel
theorem dL_law_486 : decode cL_law 486 = .ok (.aload_n 0, 1) := by decide +kernel
theorem dL_law_487 : decode cL_law 487 = .ok (.iload_n 3, 1) := by decide +kernel
theorem dL_law_488 : decode cL_law 488 = .ok (.iconst 1, 1) := by decide +kernel
theorem dL_law_489 : decode cL_law 489 = .ok (.iadd, 1) := by decide +kernel
theorem dL_law_490 : decode cL_law 490 = .ok (.iaload, 1) := by decide +kernel
theorem dL_law_491 : decode cL_law 491 = .ok (.invokevirtual 76, 3) := by decide +kernel
theorem dL_law_494 : decode cL_law 494 = .ok (.if_icmp .eq 302, 3) := by decide +kernel
theorem dL_law_497 : decode cL_law 497 = .ok (.iconst 0, 1) := by decide +kernel
theorem dL_law_498 : decode cL_law 498 = .ok (.ireturn, 1) := by decide +kernel
theorem dL_law_499 : decode cL_law 499 = .ok (.aload_n 1, 1) := by decide +kernel
theorem dL_law_500 : decode cL_law 500 = .ok (.aload_n 0, 1) := by decide +kernel
theorem dL_law_501 : decode cL_law 501 = .ok (.iload_n 3, 1) := by decide +kernel
theorem dL_law_502 : decode cL_law 502 = .ok (.iconst 1, 1) := by decide +kernel
theorem dL_law_503 : decode cL_law 503 = .ok (.iadd, 1) := by decide +kernel
theorem dL_law_504 : decode cL_law 504 = .ok (.iaload, 1) := by decide +kernel
theorem dL_law_505 : decode cL_law 505 = .ok (.aload_n 0, 1) := by decide +kernel
theorem dL_law_506 : decode cL_law 506 = .ok (.iload_n 3, 1) := by decide +kernel
theorem dL_law_507 : decode cL_law 507 = .ok (.iconst 2, 1) := by decide +kernel
theorem dL_law_508 : decode cL_law 508 = .ok (.iadd, 1) := by decide +kernel
theorem dL_law_509 : decode cL_law 509 = .ok (.iaload, 1) := by decide +kernel
theorem dL_law_510 : decode cL_law 510 = .ok (.invokevirtual 77, 3) := by decide +kernel
theorem dL_law_513 : decode cL_law 513 = .ok (.aload_n 2, 1) := by decide +kernel
theorem dL_law_514 : decode cL_law 514 = .ok (.aload_n 0, 1) := by decide +kernel
theorem dL_law_515 : decode cL_law 515 = .ok (.iload_n 3, 1) := by decide +kernel
theorem dL_law_516 : decode cL_law 516 = .ok (.iconst 1, 1) := by decide +kernel
theorem dL_law_517 : decode cL_law 517 = .ok (.iadd, 1) := by decide +kernel
theorem dL_law_518 : decode cL_law 518 = .ok (.iaload, 1) := by decide +kernel
theorem dL_law_519 : decode cL_law 519 = .ok (.aload_n 0, 1) := by decide +kernel
theorem dL_law_520 : decode cL_law 520 = .ok (.iload_n 3, 1) := by decide +kernel
theorem dL_law_521 : decode cL_law 521 = .ok (.iconst 2, 1) := by decide +kernel
theorem dL_law_522 : decode cL_law 522 = .ok (.iadd, 1) := by decide +kernel
theorem dL_law_523 : decode cL_law 523 = .ok (.iaload, 1) := by decide +kernel
theorem dL_law_524 : decode cL_law 524 = .ok (.invokevirtual 80, 3) := by decide +kernel
theorem dL_law_527 : decode cL_law 527 = .ok (.if_icmp .eq 269, 3) := by decide +kernel
theorem dL_law_530 : decode cL_law 530 = .ok (.iconst 0, 1) := by decide +kernel
theorem dL_law_531 : decode cL_law 531 = .ok (.ireturn, 1) := by decide +kernel
theorem dL_law_532 : decode cL_law 532 = .ok (.aload_n 1, 1) := by decide +kernel
theorem dL_law_533 : decode cL_law 533 = .ok (.aload_n 0, 1) := by decide +kernel
theorem dL_law_534 : decode cL_law 534 = .ok (.iload_n 3, 1) := by decide +kernel
theorem dL_law_535 : decode cL_law 535 = .ok (.iconst 1, 1) := by decide +kernel
theorem dL_law_536 : decode cL_law 536 = .ok (.iadd, 1) := by decide +kernel
theorem dL_law_537 : decode cL_law 537 = .ok (.iaload, 1) := by decide +kernel
theorem dL_law_538 : decode cL_law 538 = .ok (.aload_n 0, 1) := by decide +kernel
theorem dL_law_539 : decode cL_law 539 = .ok (.iload_n 3, 1) := by decide +kernel
theorem dL_law_540 : decode cL_law 540 = .ok (.iconst 2, 1) := by decide +kernel
theorem dL_law_541 : decode cL_law 541 = .ok (.iadd, 1) := by decide +kernel
theorem dL_law_542 : decode cL_law 542 = .ok (.iaload, 1) := by decide +kernel
theorem dL_law_543 : decode cL_law 543 = .ok (.aload_n 0, 1) := by decide +kernel
theorem dL_law_544 : decode cL_law 544 = .ok (.iload_n 3, 1) := by decide +kernel
theorem dL_law_545 : decode cL_law 545 = .ok (.iconst 3, 1) := by decide +kernel
theorem dL_law_546 : decode cL_law 546 = .ok (.iadd, 1) := by decide +kernel
theorem dL_law_547 : decode cL_law 547 = .ok (.iaload, 1) := by decide +kernel
theorem dL_law_548 : decode cL_law 548 = .ok (.invokevirtual 81, 3) := by decide +kernel
theorem dL_law_551 : decode cL_law 551 = .ok (.aload_n 2, 1) := by decide +kernel
theorem dL_law_552 : decode cL_law 552 = .ok (.aload_n 0, 1) := by decide +kernel
theorem dL_law_553 : decode cL_law 553 = .ok (.iload_n 3, 1) := by decide +kernel
theorem dL_law_554 : decode cL_law 554 = .ok (.iconst 1, 1) := by decide +kernel
theorem dL_law_555 : decode cL_law 555 = .ok (.iadd, 1) := by decide +kernel
theorem dL_law_556 : decode cL_law 556 = .ok (.iaload, 1) := by decide +kernel
theorem dL_law_557 : decode cL_law 557 = .ok (.aload_n 0, 1) := by decide +kernel
theorem dL_law_558 : decode cL_law 558 = .ok (.iload_n 3, 1) := by decide +kernel
theorem dL_law_559 : decode cL_law 559 = .ok (.iconst 2, 1) := by decide +kernel
theorem dL_law_560 : decode cL_law 560 = .ok (.iadd, 1) := by decide +kernel
theorem dL_law_561 : decode cL_law 561 = .ok (.iaload, 1) := by decide +kernel
theorem dL_law_562 : decode cL_law 562 = .ok (.aload_n 0, 1) := by decide +kernel
theorem dL_law_563 : decode cL_law 563 = .ok (.iload_n 3, 1) := by decide +kernel
theorem dL_law_564 : decode cL_law 564 = .ok (.iconst 3, 1) := by decide +kernel
theorem dL_law_565 : decode cL_law 565 = .ok (.iadd, 1) := by decide +kernel
theorem dL_law_566 : decode cL_law 566 = .ok (.iaload, 1) := by decide +kernel
theorem dL_law_567 : decode cL_law 567 = .ok (.invokevirtual 84, 3) := by decide +kernel
theorem dL_law_570 : decode cL_law 570 = .ok (.if_icmp .eq 226, 3) := by decide +kernel
theorem dL_law_573 : decode cL_law 573 = .ok (.iconst 0, 1) := by decide +kernel
theorem dL_law_574 : decode cL_law 574 = .ok (.ireturn, 1) := by decide +kernel
theorem dL_law_575 : decode cL_law 575 = .ok (.aload_n 1, 1) := by decide +kernel
theorem dL_law_576 : decode cL_law 576 = .ok (.aload_n 0, 1) := by decide +kernel
theorem dL_law_577 : decode cL_law 577 = .ok (.iload_n 3, 1) := by decide +kernel
theorem dL_law_578 : decode cL_law 578 = .ok (.iconst 1, 1) := by decide +kernel
theorem dL_law_579 : decode cL_law 579 = .ok (.iadd, 1) := by decide +kernel
theorem dL_law_580 : decode cL_law 580 = .ok (.iaload, 1) := by decide +kernel
theorem dL_law_581 : decode cL_law 581 = .ok (.invokevirtual 85, 3) := by decide +kernel
theorem dL_law_584 : decode cL_law 584 = .ok (.aload_n 2, 1) := by decide +kernel
theorem dL_law_585 : decode cL_law 585 = .ok (.aload_n 0, 1) := by decide +kernel
theorem dL_law_586 : decode cL_law 586 = .ok (.iload_n 3, 1) := by decide +kernel
theorem dL_law_587 : decode cL_law 587 = .ok (.iconst 1, 1) := by decide +kernel
theorem dL_law_588 : decode cL_law 588 = .ok (.iadd, 1) := by decide +kernel
theorem dL_law_589 : decode cL_law 589 = .ok (.iaload, 1) := by decide +kernel
theorem dL_law_590 : decode cL_law 590 = .ok (.invokevirtual 88, 3) := by decide +kernel
theorem dL_law_593 : decode cL_law 593 = .ok (.if_icmp .eq 203, 3) := by decide +kernel
theorem dL_law_596 : decode cL_law 596 = .ok (.iconst 0, 1) := by decide +kernel
theorem dL_law_597 : decode cL_law 597 = .ok (.ireturn, 1) := by decide +kernel
theorem dL_law_598 : decode cL_law 598 = .ok (.aload_n 1, 1) := by decide +kernel
theorem dL_law_599 : decode cL_law 599 = .ok (.aload_n 0, 1) := by decide +kernel
theorem dL_law_600 : decode cL_law 600 = .ok (.iload_n 3, 1) := by decide +kernel
theorem dL_law_601 : decode cL_law 601 = .ok (.iconst 1, 1) := by decide +kernel
theorem dL_law_602 : decode cL_law 602 = .ok (.iadd, 1) := by decide +kernel
theorem dL_law_603 : decode cL_law 603 = .ok (.iaload, 1) := by decide +kernel
theorem dL_law_604 : decode cL_law 604 = .ok (.aload_n 0, 1) := by decide +kernel
theorem dL_law_605 : decode cL_law 605 = .ok (.iload_n 3, 1) := by decide +kernel
theorem dL_law_606 : decode cL_law 606 = .ok (.iconst 2, 1) := by decide +kernel
theorem dL_law_607 : decode cL_law 607 = .ok (.iadd, 1) := by decide +kernel
theorem dL_law_608 : decode cL_law 608 = .ok (.iaload, 1) := by decide +kernel
theorem dL_law_609 : decode cL_law 609 = .ok (.invokevirtual 89, 3) := by decide +kernel
theorem dL_law_612 : decode cL_law 612 = .ok (.aload_n 2, 1) := by decide +kernel
theorem dL_law_613 : decode cL_law 613 = .ok (.aload_n 0, 1) := by decide +kernel
theorem dL_law_614 : decode cL_law 614 = .ok (.iload_n 3, 1) := by decide +kernel
theorem dL_law_615 : decode cL_law 615 = .ok (.iconst 1, 1) := by decide +kernel
theorem dL_law_616 : decode cL_law 616 = .ok (.iadd, 1) := by decide +kernel
theorem dL_law_617 : decode cL_law 617 = .ok (.iaload, 1) := by decide +kernel
theorem dL_law_618 : decode cL_law 618 = .ok (.aload_n 0, 1) := by decide +kernel
theorem dL_law_619 : decode cL_law 619 = .ok (.iload_n 3, 1) := by decide +kernel
theorem dL_law_620 : decode cL_law 620 = .ok (.iconst 2, 1) := by decide +kernel
theorem dL_law_621 : decode cL_law 621 = .ok (.iadd, 1) := by decide +kernel
theorem dL_law_622 : decode cL_law 622 = .ok (.iaload, 1) := by decide +kernel
theorem dL_law_623 : decode cL_law 623 = .ok (.invokevirtual 92, 3) := by decide +kernel
theorem dL_law_626 : decode cL_law 626 = .ok (.if_icmp .eq 170, 3) := by decide +kernel
theorem dL_law_629 : decode cL_law 629 = .ok (.iconst 0, 1) := by decide +kernel
theorem dL_law_630 : decode cL_law 630 = .ok (.ireturn, 1) := by decide +kernel
theorem dL_law_631 : decode cL_law 631 = .ok (.aload_n 1, 1) := by decide +kernel
theorem dL_law_632 : decode cL_law 632 = .ok (.invokevirtual 93, 3) := by decide +kernel
theorem dL_law_635 : decode cL_law 635 = .ok (.f2d, 1) := by decide +kernel
theorem dL_law_636 : decode cL_law 636 = .ok (.dstore 4, 2) := by decide +kernel
theorem dL_law_638 : decode cL_law 638 = .ok (.aload_n 2, 1) := by decide +kernel
theorem dL_law_639 : decode cL_law 639 = .ok (.invokevirtual 97, 3) := by decide +kernel
theorem dL_law_642 : decode cL_law 642 = .ok (.f2d, 1) := by decide +kernel
theorem dL_law_643 : decode cL_law 643 = .ok (.dstore 6, 2) := by decide +kernel
theorem dL_law_645 : decode cL_law 645 = .ok (.dload 4, 2) := by decide +kernel
theorem dL_law_647 : decode cL_law 647 = .ok (.dload 6, 2) := by decide +kernel
theorem dL_law_649 : decode cL_law 649 = .ok (.dcmp .l, 1) := by decide +kernel
theorem dL_law_650 : decode cL_law 650 = .ok (.ifCond .eq 21, 3) := by decide +kernel
theorem dL_law_653 : decode cL_law 653 = .ok (.dload 4, 2) := by decide +kernel
theorem dL_law_655 : decode cL_law 655 = .ok (.dload 4, 2) := by decide +kernel
theorem dL_law_657 : decode cL_law 657 = .ok (.dcmp .l, 1) := by decide +kernel
theorem dL_law_658 : decode cL_law 658 = .ok (.ifCond .eq 11, 3) := by decide +kernel
theorem dL_law_661 : decode cL_law 661 = .ok (.dload 6, 2) := by decide +kernel
theorem dL_law_663 : decode cL_law 663 = .ok (.dload 6, 2) := by decide +kernel
theorem dL_law_665 : decode cL_law 665 = .ok (.dcmp .l, 1) := by decide +kernel
theorem dL_law_666 : decode cL_law 666 = .ok (.ifCond .ne 5, 3) := by decide +kernel
theorem dL_law_669 : decode cL_law 669 = .ok (.iconst 0, 1) := by decide +kernel
theorem dL_law_670 : decode cL_law 670 = .ok (.ireturn, 1) := by decide +kernel
theorem dL_law_671 : decode cL_law 671 = .ok (.goto 125, 3) := by decide +kernel
theorem dL_law_674 : decode cL_law 674 = .ok (.aload_n 1, 1) := by decide +kernel
theorem dL_law_675 : decode cL_law 675 = .ok (.aload_n 0, 1) := by decide +kernel
theorem dL_law_676 : decode cL_law 676 = .ok (.iload_n 3, 1) := by decide +kernel
theorem dL_law_677 : decode cL_law 677 = .ok (.iconst 1, 1) := by decide +kernel
theorem dL_law_678 : decode cL_law 678 = .ok (.iadd, 1) := by decide +kernel
theorem dL_law_679 : decode cL_law 679 = .ok (.iaload, 1) := by decide +kernel
theorem dL_law_680 : decode cL_law 680 = .ok (.aload_n 0, 1) := by decide +kernel
theorem dL_law_681 : decode cL_law 681 = .ok (.iload_n 3, 1) := by decide +kernel
theorem dL_law_682 : decode cL_law 682 = .ok (.iconst 2, 1) := by decide +kernel
theorem dL_law_683 : decode cL_law 683 = .ok (.iadd, 1) := by decide +kernel
theorem dL_law_684 : decode cL_law 684 = .ok (.iaload, 1) := by decide +kernel
theorem dL_law_685 : decode cL_law 685 = .ok (.aload_n 0, 1) := by decide +kernel
theorem dL_law_686 : decode cL_law 686 = .ok (.iload_n 3, 1) := by decide +kernel
theorem dL_law_687 : decode cL_law 687 = .ok (.iconst 3, 1) := by decide +kernel
theorem dL_law_688 : decode cL_law 688 = .ok (.iadd, 1) := by decide +kernel
theorem dL_law_689 : decode cL_law 689 = .ok (.iaload, 1) := by decide +kernel
theorem dL_law_690 : decode cL_law 690 = .ok (.invokevirtual 98, 3) := by decide +kernel
theorem dL_law_693 : decode cL_law 693 = .ok (.aload_n 2, 1) := by decide +kernel
theorem dL_law_694 : decode cL_law 694 = .ok (.aload_n 0, 1) := by decide +kernel
theorem dL_law_695 : decode cL_law 695 = .ok (.iload_n 3, 1) := by decide +kernel
theorem dL_law_696 : decode cL_law 696 = .ok (.iconst 1, 1) := by decide +kernel
theorem dL_law_697 : decode cL_law 697 = .ok (.iadd, 1) := by decide +kernel
theorem dL_law_698 : decode cL_law 698 = .ok (.iaload, 1) := by decide +kernel
theorem dL_law_699 : decode cL_law 699 = .ok (.aload_n 0, 1) := by decide +kernel
theorem dL_law_700 : decode cL_law 700 = .ok (.iload_n 3, 1) := by decide +kernel
theorem dL_law_701 : decode cL_law 701 = .ok (.iconst 2, 1) := by decide +kernel
theorem dL_law_702 : decode cL_law 702 = .ok (.iadd, 1) := by decide +kernel
theorem dL_law_703 : decode cL_law 703 = .ok (.iaload, 1) := by decide +kernel
theorem dL_law_704 : decode cL_law 704 = .ok (.aload_n 0, 1) := by decide +kernel
theorem dL_law_705 : decode cL_law 705 = .ok (.iload_n 3, 1) := by decide +kernel
theorem dL_law_706 : decode cL_law 706 = .ok (.iconst 3, 1) := by decide +kernel
theorem dL_law_707 : decode cL_law 707 = .ok (.iadd, 1) := by decide +kernel
theorem dL_law_708 : decode cL_law 708 = .ok (.iaload, 1) := by decide +kernel
theorem dL_law_709 : decode cL_law 709 = .ok (.invokevirtual 101, 3) := by decide +kernel
theorem dL_law_712 : decode cL_law 712 = .ok (.if_icmp .eq 84, 3) := by decide +kernel
theorem dL_law_715 : decode cL_law 715 = .ok (.iconst 0, 1) := by decide +kernel
theorem dL_law_716 : decode cL_law 716 = .ok (.ireturn, 1) := by decide +kernel
theorem dL_law_717 : decode cL_law 717 = .ok (.aload_n 1, 1) := by decide +kernel
theorem dL_law_718 : decode cL_law 718 = .ok (.aload_n 0, 1) := by decide +kernel
theorem dL_law_719 : decode cL_law 719 = .ok (.iload_n 3, 1) := by decide +kernel
theorem dL_law_720 : decode cL_law 720 = .ok (.iconst 1, 1) := by decide +kernel
theorem dL_law_721 : decode cL_law 721 = .ok (.iadd, 1) := by decide +kernel
theorem dL_law_722 : decode cL_law 722 = .ok (.iaload, 1) := by decide +kernel
theorem dL_law_723 : decode cL_law 723 = .ok (.aload_n 0, 1) := by decide +kernel
theorem dL_law_724 : decode cL_law 724 = .ok (.iload_n 3, 1) := by decide +kernel
theorem dL_law_725 : decode cL_law 725 = .ok (.iconst 2, 1) := by decide +kernel
theorem dL_law_726 : decode cL_law 726 = .ok (.iadd, 1) := by decide +kernel
theorem dL_law_727 : decode cL_law 727 = .ok (.iaload, 1) := by decide +kernel
theorem dL_law_728 : decode cL_law 728 = .ok (.invokevirtual 102, 3) := by decide +kernel
theorem dL_law_731 : decode cL_law 731 = .ok (.aload_n 2, 1) := by decide +kernel
theorem dL_law_732 : decode cL_law 732 = .ok (.aload_n 0, 1) := by decide +kernel
theorem dL_law_733 : decode cL_law 733 = .ok (.iload_n 3, 1) := by decide +kernel
theorem dL_law_734 : decode cL_law 734 = .ok (.iconst 1, 1) := by decide +kernel
theorem dL_law_735 : decode cL_law 735 = .ok (.iadd, 1) := by decide +kernel
theorem dL_law_736 : decode cL_law 736 = .ok (.iaload, 1) := by decide +kernel
theorem dL_law_737 : decode cL_law 737 = .ok (.aload_n 0, 1) := by decide +kernel
theorem dL_law_738 : decode cL_law 738 = .ok (.iload_n 3, 1) := by decide +kernel
theorem dL_law_739 : decode cL_law 739 = .ok (.iconst 2, 1) := by decide +kernel
theorem dL_law_740 : decode cL_law 740 = .ok (.iadd, 1) := by decide +kernel
theorem dL_law_741 : decode cL_law 741 = .ok (.iaload, 1) := by decide +kernel
theorem dL_law_742 : decode cL_law 742 = .ok (.invokevirtual 105, 3) := by decide +kernel
theorem dL_law_745 : decode cL_law 745 = .ok (.if_icmp .eq 51, 3) := by decide +kernel
theorem dL_law_748 : decode cL_law 748 = .ok (.iconst 0, 1) := by decide +kernel
theorem dL_law_749 : decode cL_law 749 = .ok (.ireturn, 1) := by decide +kernel
theorem dL_law_750 : decode cL_law 750 = .ok (.aload_n 1, 1) := by decide +kernel
theorem dL_law_751 : decode cL_law 751 = .ok (.aload_n 0, 1) := by decide +kernel
theorem dL_law_752 : decode cL_law 752 = .ok (.iload_n 3, 1) := by decide +kernel
theorem dL_law_753 : decode cL_law 753 = .ok (.iconst 1, 1) := by decide +kernel
theorem dL_law_754 : decode cL_law 754 = .ok (.iadd, 1) := by decide +kernel
theorem dL_law_755 : decode cL_law 755 = .ok (.iaload, 1) := by decide +kernel
theorem dL_law_756 : decode cL_law 756 = .ok (.invokevirtual 106, 3) := by decide +kernel
theorem dL_law_759 : decode cL_law 759 = .ok (.aload_n 2, 1) := by decide +kernel
theorem dL_law_760 : decode cL_law 760 = .ok (.aload_n 0, 1) := by decide +kernel
theorem dL_law_761 : decode cL_law 761 = .ok (.iload_n 3, 1) := by decide +kernel
theorem dL_law_762 : decode cL_law 762 = .ok (.iconst 1, 1) := by decide +kernel
theorem dL_law_763 : decode cL_law 763 = .ok (.iadd, 1) := by decide +kernel
theorem dL_law_764 : decode cL_law 764 = .ok (.iaload, 1) := by decide +kernel
theorem dL_law_765 : decode cL_law 765 = .ok (.invokevirtual 109, 3) := by decide +kernel
theorem dL_law_768 : decode cL_law 768 = .ok (.if_icmp .eq 28, 3) := by decide +kernel
theorem dL_law_771 : decode cL_law 771 = .ok (.iconst 0, 1) := by decide +kernel
theorem dL_law_772 : decode cL_law 772 = .ok (.ireturn, 1) := by decide +kernel
theorem dL_law_773 : decode cL_law 773 = .ok (.aload_n 1, 1) := by decide +kernel
theorem dL_law_774 : decode cL_law 774 = .ok (.aload_n 0, 1) := by decide +kernel
theorem dL_law_775 : decode cL_law 775 = .ok (.iload_n 3, 1) := by decide +kernel
theorem dL_law_776 : decode cL_law 776 = .ok (.iconst 1, 1) := by decide +kernel
theorem dL_law_777 : decode cL_law 777 = .ok (.iadd, 1) := by decide +kernel
theorem dL_law_778 : decode cL_law 778 = .ok (.iaload, 1) := by decide +kernel
theorem dL_law_779 : decode cL_law 779 = .ok (.invokevirtual 110, 3) := by decide +kernel
theorem dL_law_782 : decode cL_law 782 = .ok (.aload_n 2, 1) := by decide +kernel
theorem dL_law_783 : decode cL_law 783 = .ok (.aload_n 0, 1) := by decide +kernel
theorem dL_law_784 : decode cL_law 784 = .ok (.iload_n 3, 1) := by decide +kernel
theorem dL_law_785 : decode cL_law 785 = .ok (.iconst 1, 1) := by decide +kernel
theorem dL_law_786 : decode cL_law 786 = .ok (.iadd, 1) := by decide +kernel
theorem dL_law_787 : decode cL_law 787 = .ok (.iaload, 1) := by decide +kernel
theorem dL_law_788 : decode cL_law 788 = .ok (.invokevirtual 113, 3) := by decide +kernel
theorem dL_law_791 : decode cL_law 791 = .ok (.if_icmp .eq 5, 3) := by decide +kernel
theorem dL_law_794 : decode cL_law 794 = .ok (.iconst 0, 1) := by decide +kernel
theorem dL_law_795 : decode cL_law 795 = .ok (.ireturn, 1) := by decide +kernel
theorem dL_law_796 : decode cL_law 796 = .ok (.iinc 3 4, 3) := by decide +kernel
theorem dL_law_799 : decode cL_law 799 = .ok (.goto (-781), 3) := by decide +kernel
theorem dL_law_802 : decode cL_law 802 = .ok (.iconst 1, 1) := by decide +kernel
theorem dL_law_803 : decode cL_law 803 = .ok (.ireturn, 1) := by decide +kernel
