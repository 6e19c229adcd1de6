theorem dX12_init_0 : decode cX12_init 0 = .ok (.aload_n 0, 1) := by decide +kernel
theorem dX12_init_1 : decode cX12_init 1 = .ok (.invokespecial 1, 3) := by decide +kernel
theorem dX12_init_4 : decode cX12_init 4 = .ok (.aload_n 0, 1) := by decide +kernel
theorem dX12_init_5 : decode cX12_init 5 = .ok (.bipush 7, 2) := by decide +kernel
theorem dX12_init_7 : decode cX12_init 7 = .ok (.newarray .int, 2) := by decide +kernel
theorem dX12_init_9 : decode cX12_init 9 = .ok (.putfield 7, 3) := by decide +kernel
theorem dX12_init_12 : decode cX12_init 12 = .ok (.aload_n 0, 1) := by decide +kernel
theorem dX12_init_13 : decode cX12_init 13 = .ok (.bipush 9, 2) := by decide +kernel
theorem dX12_init_15 : decode cX12_init 15 = .ok (.newarray .int, 2) := by decide +kernel
theorem dX12_init_17 : decode cX12_init 17 = .ok (.putfield 13, 3) := by decide +kernel
theorem dX12_init_20 : decode cX12_init 20 = .ok (.aload_n 0, 1) := by decide +kernel
theorem dX12_init_21 : decode cX12_init 21 = .ok (.bipush 9, 2) := by decide +kernel
theorem dX12_init_23 : decode cX12_init 23 = .ok (.newarray .int, 2) := by decide +kernel
theorem dX12_init_25 : decode cX12_init 25 = .ok (.putfield 16, 3) := by decide +kernel
theorem dX12_init_28 : decode cX12_init 28 = .ok (.aload_n 0, 1) := by decide +kernel
theorem dX12_init_29 : decode cX12_init 29 = .ok (.bipush 9, 2) := by decide +kernel
theorem dX12_init_31 : decode cX12_init 31 = .ok (.newarray .int, 2) := by decide +kernel
theorem dX12_init_33 : decode cX12_init 33 = .ok (.putfield 19, 3) := by decide +kernel
theorem dX12_init_36 : decode cX12_init 36 = .ok (.aload_n 0, 1) := by decide +kernel
theorem dX12_init_37 : decode cX12_init 37 = .ok (.bipush 8, 2) := by decide +kernel
theorem dX12_init_39 : decode cX12_init 39 = .ok (.newarray .int, 2) := by decide +kernel
theorem dX12_init_41 : decode cX12_init 41 = .ok (.putfield 22, 3) := by decide +kernel
theorem dX12_init_44 : decode cX12_init 44 = .ok (.aload_n 0, 1) := by decide +kernel
theorem dX12_init_45 : decode cX12_init 45 = .ok (.iconst 5, 1) := by decide +kernel
theorem dX12_init_46 : decode cX12_init 46 = .ok (.newarray .int, 2) := by decide +kernel
theorem dX12_init_48 : decode cX12_init 48 = .ok (.dup, 1) := by decide +kernel
theorem dX12_init_49 : decode cX12_init 49 = .ok (.iconst 0, 1) := by decide +kernel
theorem dX12_init_50 : decode cX12_init 50 = .ok (.bipush 10, 2) := by decide +kernel
theorem dX12_init_52 : decode cX12_init 52 = .ok (.iastore, 1) := by decide +kernel
theorem dX12_init_53 : decode cX12_init 53 = .ok (.dup, 1) := by decide +kernel
theorem dX12_init_54 : decode cX12_init 54 = .ok (.iconst 1, 1) := by decide +kernel
theorem dX12_init_55 : decode cX12_init 55 = .ok (.iconst 0, 1) := by decide +kernel
theorem dX12_init_56 : decode cX12_init 56 = .ok (.iastore, 1) := by decide +kernel
theorem dX12_init_57 : decode cX12_init 57 = .ok (.dup, 1) := by decide +kernel
theorem dX12_init_58 : decode cX12_init 58 = .ok (.iconst 2, 1) := by decide +kernel
theorem dX12_init_59 : decode cX12_init 59 = .ok (.iconst 0, 1) := by decide +kernel
theorem dX12_init_60 : decode cX12_init 60 = .ok (.iastore, 1) := by decide +kernel
theorem dX12_init_61 : decode cX12_init 61 = .ok (.dup, 1) := by decide +kernel
theorem dX12_init_62 : decode cX12_init 62 = .ok (.iconst 3, 1) := by decide +kernel
theorem dX12_init_63 : decode cX12_init 63 = .ok (.iconst 0, 1) := by decide +kernel
theorem dX12_init_64 : decode cX12_init 64 = .ok (.iastore, 1) := by decide +kernel
theorem dX12_init_65 : decode cX12_init 65 = .ok (.dup, 1) := by decide +kernel
theorem dX12_init_66 : decode cX12_init 66 = .ok (.iconst 4, 1) := by decide +kernel
theorem dX12_init_67 : decode cX12_init 67 = .ok (.bipush 10, 2) := by decide +kernel
theorem dX12_init_69 : decode cX12_init 69 = .ok (.iastore, 1) := by decide +kernel
theorem dX12_init_70 : decode cX12_init 70 = .ok (.putfield 25, 3) := by decide +kernel
theorem dX12_init_73 : decode cX12_init 73 = .ok (.aload_n 0, 1) := by decide +kernel
theorem dX12_init_74 : decode cX12_init 74 = .ok (.bipush 64, 2) := by decide +kernel
theorem dX12_init_76 : decode cX12_init 76 = .ok (.newarray .int, 2) := by decide +kernel
theorem dX12_init_78 : decode cX12_init 78 = .ok (.putfield 28, 3) := by decide +kernel
theorem dX12_init_81 : decode cX12_init 81 = .ok (.aload_n 0, 1) := by decide +kernel
theorem dX12_init_82 : decode cX12_init 82 = .ok (.bipush 32, 2) := by decide +kernel
theorem dX12_init_84 : decode cX12_init 84 = .ok (.newarray .int, 2) := by decide +kernel
theorem dX12_init_86 : decode cX12_init 86 = .ok (.putfield 31, 3) := by decide +kernel
theorem dX12_init_89 : decode cX12_init 89 = .ok (.aload_n 0, 1) := by decide +kernel
theorem dX12_init_90 : decode cX12_init 90 = .ok (.bipush 32, 2) := by decide +kernel
theorem dX12_init_92 : decode cX12_init 92 = .ok (.newarray .int, 2) := by decide +kernel
theorem dX12_init_94 : decode cX12_init 94 = .ok (.putfield 34, 3) := by decide +kernel
theorem dX12_init_97 : decode cX12_init 97 = .ok (.aload_n 0, 1) := by decide +kernel
theorem dX12_init_98 : decode cX12_init 98 = .ok (.bipush 96, 2) := by decide +kernel
theorem dX12_init_100 : decode cX12_init 100 = .ok (.newarray .int, 2) := by decide +kernel
theorem dX12_init_102 : decode cX12_init 102 = .ok (.putfield 37, 3) := by decide +kernel
theorem dX12_init_105 : decode cX12_init 105 = .ok (.aload_n 0, 1) := by decide +kernel
theorem dX12_init_106 : decode cX12_init 106 = .ok (.bipush 100, 2) := by decide +kernel
theorem dX12_init_108 : decode cX12_init 108 = .ok (.newarray .int, 2) := by decide +kernel
theorem dX12_init_110 : decode cX12_init 110 = .ok (.putfield 40, 3) := by decide +kernel
theorem dX12_init_113 : decode cX12_init 113 = .ok (.aload_n 0, 1) := by decide +kernel
theorem dX12_init_114 : decode cX12_init 114 = .ok (.bipush 81, 2) := by decide +kernel
theorem dX12_init_116 : decode cX12_init 116 = .ok (.newarray .int, 2) := by decide +kernel
theorem dX12_init_118 : decode cX12_init 118 = .ok (.putfield 43, 3) := by decide +kernel
theorem dX12_init_121 : decode cX12_init 121 = .ok (.aload_n 0, 1) := by decide +kernel
theorem dX12_init_122 : decode cX12_init 122 = .ok (.bipush 81, 2) := by decide +kernel
theorem dX12_init_124 : decode cX12_init 124 = .ok (.newarray .int, 2) := by decide +kernel
theorem dX12_init_126 : decode cX12_init 126 = .ok (.putfield 46, 3) := by decide +kernel
theorem dX12_init_129 : decode cX12_init 129 = .ok (.aload_n 0, 1) := by decide +kernel
theorem dX12_init_130 : decode cX12_init 130 = .ok (.bipush 90, 2) := by decide +kernel
theorem dX12_init_132 : decode cX12_init 132 = .ok (.newarray .int, 2) := by decide +kernel
theorem dX12_init_134 : decode cX12_init 134 = .ok (.putfield 49, 3) := by decide +kernel
theorem dX12_init_137 : decode cX12_init 137 = .ok (.aload_n 0, 1) := by decide +kernel
theorem dX12_init_138 : decode cX12_init 138 = .ok (.bipush 9, 2) := by decide +kernel
theorem dX12_init_140 : decode cX12_init 140 = .ok (.newarray .int, 2) := by decide +kernel
theorem dX12_init_142 : decode cX12_init 142 = .ok (.putfield 52, 3) := by decide +kernel
theorem dX12_init_145 : decode cX12_init 145 = .ok (.aload_n 0, 1) := by decide +kernel
theorem dX12_init_146 : decode cX12_init 146 = .ok (.bipush 9, 2) := by decide +kernel
theorem dX12_init_148 : decode cX12_init 148 = .ok (.newarray .int, 2) := by decide +kernel
theorem dX12_init_150 : decode cX12_init 150 = .ok (.putfield 55, 3) := by decide +kernel
theorem dX12_init_153 : decode cX12_init 153 = .ok (.aload_n 0, 1) := by decide +kernel
theorem dX12_init_154 : decode cX12_init 154 = .ok (.bipush 9, 2) := by decide +kernel
theorem dX12_init_156 : decode cX12_init 156 = .ok (.newarray .int, 2) := by decide +kernel
theorem dX12_init_158 : decode cX12_init 158 = .ok (.putfield 58, 3) := by decide +kernel
theorem dX12_init_161 : decode cX12_init 161 = .ok (.aload_n 0, 1) := by decide +kernel
theorem dX12_init_162 : decode cX12_init 162 = .ok (.bipush 9, 2) := by decide +kernel
theorem dX12_init_164 : decode cX12_init 164 = .ok (.newarray .int, 2) := by decide +kernel
theorem dX12_init_166 : decode cX12_init 166 = .ok (.putfield 61, 3) := by decide +kernel
theorem dX12_init_169 : decode cX12_init 169 = .ok (.aload_n 0, 1) := by decide +kernel
theorem dX12_init_170 : decode cX12_init 170 = .ok (.bipush 8, 2) := by decide +kernel
theorem dX12_init_172 : decode cX12_init 172 = .ok (.newarray .int, 2) := by decide +kernel
theorem dX12_init_174 : decode cX12_init 174 = .ok (.putfield 64, 3) := by decide +kernel
theorem dX12_init_177 : decode cX12_init 177 = .ok (.aload_n 0, 1) := by decide +kernel
theorem dX12_init_178 : decode cX12_init 178 = .ok (.bipush 8, 2) := by decide +kernel
theorem dX12_init_180 : decode cX12_init 180 = .ok (.newarray .int, 2) := by decide +kernel
theorem dX12_init_182 : decode cX12_init 182 = .ok (.putfield 67, 3) := by decide +kernel
theorem dX12_init_185 : decode cX12_init 185 = .ok (.aload_n 0, 1) := by decide +kernel
theorem dX12_init_186 : decode cX12_init 186 = .ok (.bipush 61, 2) := by decide +kernel
theorem dX12_init_188 : decode cX12_init 188 = .ok (.newarray .int, 2) := by decide +kernel
theorem dX12_init_190 : decode cX12_init 190 = .ok (.putfield 70, 3) := by decide +kernel
theorem dX12_init_193 : decode cX12_init 193 = .ok (.aload_n 0, 1) := by decide +kernel
theorem dX12_init_194 : decode cX12_init 194 = .ok (.bipush 61, 2) := by decide +kernel
theorem dX12_init_196 : decode cX12_init 196 = .ok (.newarray .int, 2) := by decide +kernel
theorem dX12_init_198 : decode cX12_init 198 = .ok (.putfield 73, 3) := by decide +kernel
theorem dX12_init_201 : decode cX12_init 201 = .ok (.aload_n 0, 1) := by decide +kernel
theorem dX12_init_202 : decode cX12_init 202 = .ok (.bipush 8, 2) := by decide +kernel
theorem dX12_init_204 : decode cX12_init 204 = .ok (.newarray .int, 2) := by decide +kernel
theorem dX12_init_206 : decode cX12_init 206 = .ok (.putfield 76, 3) := by decide +kernel
theorem dX12_init_209 : decode cX12_init 209 = .ok (.return_, 1) := by decide +kernel
theorem dX12_no_0 : decode cX12_no 0 = .ok (.aload_n 0, 1) := by decide +kernel
theorem dX12_no_1 : decode cX12_no 1 = .ok (.getfield 7, 3) := by decide +kernel
theorem dX12_no_4 : decode cX12_no 4 = .ok (.iload_n 1, 1) := by decide +kernel
theorem dX12_no_5 : decode cX12_no 5 = .ok (.ineg, 1) := by decide +kernel
theorem dX12_no_6 : decode cX12_no 6 = .ok (.dup2, 1) := by decide +kernel
theorem dX12_no_7 : decode cX12_no 7 = .ok (.iaload, 1) := by decide +kernel
theorem dX12_no_8 : decode cX12_no 8 = .ok (.iconst 1, 1) := by decide +kernel
theorem dX12_no_9 : decode cX12_no 9 = .ok (.iadd, 1) := by decide +kernel
theorem dX12_no_10 : decode cX12_no 10 = .ok (.iastore, 1) := by decide +kernel
theorem dX12_no_11 : decode cX12_no 11 = .ok (.iload_n 1, 1) := by decide +kernel
theorem dX12_no_12 : decode cX12_no 12 = .ok (.ireturn, 1) := by decide +kernel
theorem dX12_lower_0 : decode cX12_lower 0 = .ok (.aload_n 0, 1) := by decide +kernel
theorem dX12_lower_1 : decode cX12_lower 1 = .ok (.getfield 7, 3) := by decide +kernel
theorem dX12_lower_4 : decode cX12_lower 4 = .ok (.iload_n 1, 1) := by decide +kernel
theorem dX12_lower_5 : decode cX12_lower 5 = .ok (.ineg, 1) := by decide +kernel
theorem dX12_lower_6 : decode cX12_lower 6 = .ok (.dup2, 1) := by decide +kernel
theorem dX12_lower_7 : decode cX12_lower 7 = .ok (.iaload, 1) := by decide +kernel
theorem dX12_lower_8 : decode cX12_lower 8 = .ok (.iconst 1, 1) := by decide +kernel
theorem dX12_lower_9 : decode cX12_lower 9 = .ok (.iadd, 1) := by decide +kernel
theorem dX12_lower_10 : decode cX12_lower 10 = .ok (.iastore, 1) := by decide +kernel
theorem dX12_lower_11 : decode cX12_lower 11 = .ok (.ldc 79, 2) := by decide +kernel
theorem dX12_lower_13 : decode cX12_lower 13 = .ok (.iload_n 1, 1) := by decide +kernel
theorem dX12_lower_14 : decode cX12_lower 14 = .ok (.isub, 1) := by decide +kernel
theorem dX12_lower_15 : decode cX12_lower 15 = .ok (.ireturn, 1) := by decide +kernel
theorem dX12_lowest_0 : decode cX12_lowest 0 = .ok (.aload_n 0, 1) := by decide +kernel
theorem dX12_lowest_1 : decode cX12_lowest 1 = .ok (.getfield 7, 3) := by decide +kernel
theorem dX12_lowest_4 : decode cX12_lowest 4 = .ok (.iload_n 1, 1) := by decide +kernel
theorem dX12_lowest_5 : decode cX12_lowest 5 = .ok (.ineg, 1) := by decide +kernel
theorem dX12_lowest_6 : decode cX12_lowest 6 = .ok (.dup2, 1) := by decide +kernel
theorem dX12_lowest_7 : decode cX12_lowest 7 = .ok (.iaload, 1) := by decide +kernel
theorem dX12_lowest_8 : decode cX12_lowest 8 = .ok (.iconst 1, 1) := by decide +kernel
theorem dX12_lowest_9 : decode cX12_lowest 9 = .ok (.iadd, 1) := by decide +kernel
theorem dX12_lowest_10 : decode cX12_lowest 10 = .ok (.iastore, 1) := by decide +kernel
theorem dX12_lowest_11 : decode cX12_lowest 11 = .ok (.ldc2_w 80, 3) := by decide +kernel
theorem dX12_lowest_14 : decode cX12_lowest 14 = .ok (.iload_n 1, 1) := by decide +kernel
theorem dX12_lowest_15 : decode cX12_lowest 15 = .ok (.i2l, 1) := by decide +kernel
theorem dX12_lowest_16 : decode cX12_lowest 16 = .ok (.lsub, 1) := by decide +kernel
theorem dX12_lowest_17 : decode cX12_lowest 17 = .ok (.lreturn, 1) := by decide +kernel
theorem dX12_isIn_0 : decode cX12_isIn 0 = .ok (.iload_n 0, 1) := by decide +kernel
theorem dX12_isIn_1 : decode cX12_isIn 1 = .ok (.iload_n 1, 1) := by decide +kernel
theorem dX12_isIn_2 : decode cX12_isIn 2 = .ok (.if_icmp .lt 12, 3) := by decide +kernel
theorem dX12_isIn_5 : decode cX12_isIn 5 = .ok (.iload_n 0, 1) := by decide +kernel
theorem dX12_isIn_6 : decode cX12_isIn 6 = .ok (.iload_n 2, 1) := by decide +kernel
theorem dX12_isIn_7 : decode cX12_isIn 7 = .ok (.if_icmp .gt 7, 3) := by decide +kernel
theorem dX12_isIn_10 : decode cX12_isIn 10 = .ok (.iconst 1, 1) := by decide +kernel
theorem dX12_isIn_11 : decode cX12_isIn 11 = .ok (.goto 4, 3) := by decide +kernel
theorem dX12_isIn_14 : decode cX12_isIn 14 = .ok (.iconst 0, 1) := by decide +kernel
theorem dX12_isIn_15 : decode cX12_isIn 15 = .ok (.ireturn, 1) := by decide +kernel
theorem dX12_bound_0 : decode cX12_bound 0 = .ok (.iload_n 0, 1) := by decide +kernel
theorem dX12_bound_1 : decode cX12_bound 1 = .ok (.iload_n 1, 1) := by decide +kernel
theorem dX12_bound_2 : decode cX12_bound 2 = .ok (.if_icmp .ge 8, 3) := by decide +kernel
theorem dX12_bound_5 : decode cX12_bound 5 = .ok (.bipush (-4), 2) := by decide +kernel
theorem dX12_bound_7 : decode cX12_bound 7 = .ok (.goto 14, 3) := by decide +kernel
theorem dX12_bound_10 : decode cX12_bound 10 = .ok (.iload_n 0, 1) := by decide +kernel
theorem dX12_bound_11 : decode cX12_bound 11 = .ok (.iload_n 2, 1) := by decide +kernel
theorem dX12_bound_12 : decode cX12_bound 12 = .ok (.if_icmp .le 8, 3) := by decide +kernel
theorem dX12_bound_15 : decode cX12_bound 15 = .ok (.bipush (-6), 2) := by decide +kernel
theorem dX12_bound_17 : decode cX12_bound 17 = .ok (.goto 4, 3) := by decide +kernel
theorem dX12_bound_20 : decode cX12_bound 20 = .ok (.iconst 0, 1) := by decide +kernel
theorem dX12_bound_21 : decode cX12_bound 21 = .ok (.ireturn, 1) := by decide +kernel
theorem dX12_isMan_0 : decode cX12_isMan 0 = .ok (.iload_n 1, 1) := by decide +kernel
theorem dX12_isMan_1 : decode cX12_isMan 1 = .ok (.ifCond .lt 15, 3) := by decide +kernel
theorem dX12_isMan_4 : decode cX12_isMan 4 = .ok (.iload_n 1, 1) := by decide +kernel
theorem dX12_isMan_5 : decode cX12_isMan 5 = .ok (.aload_n 0, 1) := by decide +kernel
theorem dX12_isMan_6 : decode cX12_isMan 6 = .ok (.getfield 82, 3) := by decide +kernel
theorem dX12_isMan_9 : decode cX12_isMan 9 = .ok (.if_icmp .ge 7, 3) := by decide +kernel
theorem dX12_isMan_12 : decode cX12_isMan 12 = .ok (.iconst 1, 1) := by decide +kernel
theorem dX12_isMan_13 : decode cX12_isMan 13 = .ok (.goto 4, 3) := by decide +kernel
theorem dX12_isMan_16 : decode cX12_isMan 16 = .ok (.iconst 0, 1) := by decide +kernel
theorem dX12_isMan_17 : decode cX12_isMan 17 = .ok (.ireturn, 1) := by decide +kernel
theorem dX12_feed_0 : decode cX12_feed 0 = .ok (.iload_n 1, 1) := by decide +kernel
theorem dX12_feed_1 : decode cX12_feed 1 = .ok (.iconst 0, 1) := by decide +kernel
theorem dX12_feed_2 : decode cX12_feed 2 = .ok (.sipush 255, 3) := by decide +kernel
theorem dX12_feed_5 : decode cX12_feed 5 = .ok (.invokestatic 86, 3) := by decide +kernel
theorem dX12_feed_8 : decode cX12_feed 8 = .ok (.istore_n 2, 1) := by decide +kernel
theorem dX12_feed_9 : decode cX12_feed 9 = .ok (.iload_n 2, 1) := by decide +kernel
theorem dX12_feed_10 : decode cX12_feed 10 = .ok (.ifCond .ne 15, 3) := by decide +kernel
theorem dX12_feed_13 : decode cX12_feed 13 = .ok (.aload_n 0, 1) := by decide +kernel
theorem dX12_feed_14 : decode cX12_feed 14 = .ok (.getfield 90, 3) := by decide +kernel
theorem dX12_feed_17 : decode cX12_feed 17 = .ok (.bipush 64, 2) := by decide +kernel
theorem dX12_feed_19 : decode cX12_feed 19 = .ok (.if_icmp .ne 6, 3) := by decide +kernel
theorem dX12_feed_22 : decode cX12_feed 22 = .ok (.bipush (-6), 2) := by decide +kernel
theorem dX12_feed_24 : decode cX12_feed 24 = .ok (.istore_n 2, 1) := by decide +kernel
theorem dX12_feed_25 : decode cX12_feed 25 = .ok (.iload_n 2, 1) := by decide +kernel
theorem dX12_feed_26 : decode cX12_feed 26 = .ok (.ifCond .eq 9, 3) := by decide +kernel
theorem dX12_feed_29 : decode cX12_feed 29 = .ok (.aload_n 0, 1) := by decide +kernel
theorem dX12_feed_30 : decode cX12_feed 30 = .ok (.iload_n 2, 1) := by decide +kernel
theorem dX12_feed_31 : decode cX12_feed 31 = .ok (.invokevirtual 93, 3) := by decide +kernel
theorem dX12_feed_34 : decode cX12_feed 34 = .ok (.ireturn, 1) := by decide +kernel
theorem dX12_feed_35 : decode cX12_feed 35 = .ok (.aload_n 0, 1) := by decide +kernel
theorem dX12_feed_36 : decode cX12_feed 36 = .ok (.getfield 28, 3) := by decide +kernel
theorem dX12_feed_39 : decode cX12_feed 39 = .ok (.aload_n 0, 1) := by decide +kernel
theorem dX12_feed_40 : decode cX12_feed 40 = .ok (.getfield 90, 3) := by decide +kernel
theorem dX12_feed_43 : decode cX12_feed 43 = .ok (.iload_n 1, 1) := by decide +kernel
theorem dX12_feed_44 : decode cX12_feed 44 = .ok (.iastore, 1) := by decide +kernel
theorem dX12_feed_45 : decode cX12_feed 45 = .ok (.aload_n 0, 1) := by decide +kernel
theorem dX12_feed_46 : decode cX12_feed 46 = .ok (.dup, 1) := by decide +kernel
theorem dX12_feed_47 : decode cX12_feed 47 = .ok (.getfield 90, 3) := by decide +kernel
theorem dX12_feed_50 : decode cX12_feed 50 = .ok (.iconst 1, 1) := by decide +kernel
theorem dX12_feed_51 : decode cX12_feed 51 = .ok (.iadd, 1) := by decide +kernel
theorem dX12_feed_52 : decode cX12_feed 52 = .ok (.putfield 90, 3) := by decide +kernel
theorem dX12_feed_55 : decode cX12_feed 55 = .ok (.aload_n 0, 1) := by decide +kernel
theorem dX12_feed_56 : decode cX12_feed 56 = .ok (.getfield 90, 3) := by decide +kernel
theorem dX12_feed_59 : decode cX12_feed 59 = .ok (.ireturn, 1) := by decide +kernel
theorem dX12_next_0 : decode cX12_next 0 = .ok (.aload_n 0, 1) := by decide +kernel
theorem dX12_next_1 : decode cX12_next 1 = .ok (.getfield 97, 3) := by decide +kernel
theorem dX12_next_4 : decode cX12_next 4 = .ok (.aload_n 0, 1) := by decide +kernel
theorem dX12_next_5 : decode cX12_next 5 = .ok (.getfield 90, 3) := by decide +kernel
theorem dX12_next_8 : decode cX12_next 8 = .ok (.if_icmp .ge 15, 3) := by decide +kernel
theorem dX12_next_11 : decode cX12_next 11 = .ok (.aload_n 0, 1) := by decide +kernel
theorem dX12_next_12 : decode cX12_next 12 = .ok (.getfield 28, 3) := by decide +kernel
theorem dX12_next_15 : decode cX12_next 15 = .ok (.aload_n 0, 1) := by decide +kernel
theorem dX12_next_16 : decode cX12_next 16 = .ok (.getfield 97, 3) := by decide +kernel
theorem dX12_next_19 : decode cX12_next 19 = .ok (.iaload, 1) := by decide +kernel
theorem dX12_next_20 : decode cX12_next 20 = .ok (.goto 4, 3) := by decide +kernel
theorem dX12_next_23 : decode cX12_next 23 = .ok (.iconst (-1), 1) := by decide +kernel
theorem dX12_next_24 : decode cX12_next 24 = .ok (.ireturn, 1) := by decide +kernel
theorem dX12_reads_0 : decode cX12_reads 0 = .ok (.aload_n 0, 1) := by decide +kernel
theorem dX12_reads_1 : decode cX12_reads 1 = .ok (.invokevirtual 100, 3) := by decide +kernel
theorem dX12_reads_4 : decode cX12_reads 4 = .ok (.bipush 48, 2) := by decide +kernel
theorem dX12_reads_6 : decode cX12_reads 6 = .ok (.bipush 57, 2) := by decide +kernel
theorem dX12_reads_8 : decode cX12_reads 8 = .ok (.invokestatic 104, 3) := by decide +kernel
theorem dX12_reads_11 : decode cX12_reads 11 = .ok (.ifCond .ne 5, 3) := by decide +kernel
theorem dX12_reads_14 : decode cX12_reads 14 = .ok (.iconst 0, 1) := by decide +kernel
theorem dX12_reads_15 : decode cX12_reads 15 = .ok (.ireturn, 1) := by decide +kernel
theorem dX12_reads_16 : decode cX12_reads 16 = .ok (.iconst 0, 1) := by decide +kernel
theorem dX12_reads_17 : decode cX12_reads 17 = .ok (.istore_n 3, 1) := by decide +kernel
theorem dX12_reads_18 : decode cX12_reads 18 = .ok (.iconst 0, 1) := by decide +kernel
theorem dX12_reads_19 : decode cX12_reads 19 = .ok (.istore 4, 2) := by decide +kernel
theorem dX12_reads_21 : decode cX12_reads 21 = .ok (.iload 4, 2) := by decide +kernel
theorem dX12_reads_23 : decode cX12_reads 23 = .ok (.iload_n 2, 1) := by decide +kernel
theorem dX12_reads_24 : decode cX12_reads 24 = .ok (.if_icmp .ge 46, 3) := by decide +kernel
theorem dX12_reads_27 : decode cX12_reads 27 = .ok (.aload_n 0, 1) := by decide +kernel
theorem dX12_reads_28 : decode cX12_reads 28 = .ok (.invokevirtual 100, 3) := by decide +kernel
theorem dX12_reads_31 : decode cX12_reads 31 = .ok (.bipush 48, 2) := by decide +kernel
theorem dX12_reads_33 : decode cX12_reads 33 = .ok (.bipush 57, 2) := by decide +kernel
theorem dX12_reads_35 : decode cX12_reads 35 = .ok (.invokestatic 104, 3) := by decide +kernel
theorem dX12_reads_38 : decode cX12_reads 38 = .ok (.ifCond .eq 32, 3) := by decide +kernel
theorem dX12_reads_41 : decode cX12_reads 41 = .ok (.bipush 10, 2) := by decide +kernel
theorem dX12_reads_43 : decode cX12_reads 43 = .ok (.iload_n 3, 1) := by decide +kernel
theorem dX12_reads_44 : decode cX12_reads 44 = .ok (.imul, 1) := by decide +kernel
theorem dX12_reads_45 : decode cX12_reads 45 = .ok (.aload_n 0, 1) := by decide +kernel
theorem dX12_reads_46 : decode cX12_reads 46 = .ok (.invokevirtual 100, 3) := by decide +kernel
theorem dX12_reads_49 : decode cX12_reads 49 = .ok (.iadd, 1) := by decide +kernel
theorem dX12_reads_50 : decode cX12_reads 50 = .ok (.bipush 48, 2) := by decide +kernel
theorem dX12_reads_52 : decode cX12_reads 52 = .ok (.isub, 1) := by decide +kernel
theorem dX12_reads_53 : decode cX12_reads 53 = .ok (.istore_n 3, 1) := by decide +kernel
theorem dX12_reads_54 : decode cX12_reads 54 = .ok (.aload_n 0, 1) := by decide +kernel
theorem dX12_reads_55 : decode cX12_reads 55 = .ok (.dup, 1) := by decide +kernel
theorem dX12_reads_56 : decode cX12_reads 56 = .ok (.getfield 97, 3) := by decide +kernel
theorem dX12_reads_59 : decode cX12_reads 59 = .ok (.iconst 1, 1) := by decide +kernel
theorem dX12_reads_60 : decode cX12_reads 60 = .ok (.iadd, 1) := by decide +kernel
theorem dX12_reads_61 : decode cX12_reads 61 = .ok (.putfield 97, 3) := by decide +kernel
theorem dX12_reads_64 : decode cX12_reads 64 = .ok (.iinc 4 1, 3) := by decide +kernel
theorem dX12_reads_67 : decode cX12_reads 67 = .ok (.goto (-46), 3) := by decide +kernel
theorem dX12_reads_70 : decode cX12_reads 70 = .ok (.aload_n 0, 1) := by decide +kernel
theorem dX12_reads_71 : decode cX12_reads 71 = .ok (.getfield 37, 3) := by decide +kernel
theorem dX12_reads_74 : decode cX12_reads 74 = .ok (.iload_n 1, 1) := by decide +kernel
theorem dX12_reads_75 : decode cX12_reads 75 = .ok (.iload_n 3, 1) := by decide +kernel
theorem dX12_reads_76 : decode cX12_reads 76 = .ok (.iastore, 1) := by decide +kernel
theorem dX12_reads_77 : decode cX12_reads 77 = .ok (.iconst 1, 1) := by decide +kernel
theorem dX12_reads_78 : decode cX12_reads 78 = .ok (.ireturn, 1) := by decide +kernel
theorem dX12_statement_0 : decode cX12_statement 0 = .ok (.aload_n 0, 1) := by decide +kernel
theorem dX12_statement_1 : decode cX12_statement 1 = .ok (.invokevirtual 100, 3) := by decide +kernel
theorem dX12_statement_4 : decode cX12_statement 4 = .ok (.istore_n 1, 1) := by decide +kernel
theorem dX12_statement_5 : decode cX12_statement 5 = .ok (.iload_n 1, 1) := by decide +kernel
theorem dX12_statement_6 : decode cX12_statement 6 = .ok (.bipush 109, 2) := by decide +kernel
theorem dX12_statement_8 : decode cX12_statement 8 = .ok (.if_icmp .eq 17, 3) := by decide +kernel
theorem dX12_statement_11 : decode cX12_statement 11 = .ok (.iload_n 1, 1) := by decide +kernel
theorem dX12_statement_12 : decode cX12_statement 12 = .ok (.bipush 99, 2) := by decide +kernel
theorem dX12_statement_14 : decode cX12_statement 14 = .ok (.if_icmp .eq 11, 3) := by decide +kernel
theorem dX12_statement_17 : decode cX12_statement 17 = .ok (.iload_n 1, 1) := by decide +kernel
theorem dX12_statement_18 : decode cX12_statement 18 = .ok (.bipush 108, 2) := by decide +kernel
theorem dX12_statement_20 : decode cX12_statement 20 = .ok (.if_icmp .eq 5, 3) := by decide +kernel
theorem dX12_statement_23 : decode cX12_statement 23 = .ok (.iconst 0, 1) := by decide +kernel
theorem dX12_statement_24 : decode cX12_statement 24 = .ok (.ireturn, 1) := by decide +kernel
theorem dX12_statement_25 : decode cX12_statement 25 = .ok (.aload_n 0, 1) := by decide +kernel
theorem dX12_statement_26 : decode cX12_statement 26 = .ok (.getfield 31, 3) := by decide +kernel
theorem dX12_statement_29 : decode cX12_statement 29 = .ok (.aload_n 0, 1) := by decide +kernel
theorem dX12_statement_30 : decode cX12_statement 30 = .ok (.getfield 108, 3) := by decide +kernel
theorem dX12_statement_33 : decode cX12_statement 33 = .ok (.iload_n 1, 1) := by decide +kernel
theorem dX12_statement_34 : decode cX12_statement 34 = .ok (.iastore, 1) := by decide +kernel
theorem dX12_statement_35 : decode cX12_statement 35 = .ok (.aload_n 0, 1) := by decide +kernel
theorem dX12_statement_36 : decode cX12_statement 36 = .ok (.getfield 34, 3) := by decide +kernel
theorem dX12_statement_39 : decode cX12_statement 39 = .ok (.aload_n 0, 1) := by decide +kernel
theorem dX12_statement_40 : decode cX12_statement 40 = .ok (.getfield 108, 3) := by decide +kernel
theorem dX12_statement_43 : decode cX12_statement 43 = .ok (.aload_n 0, 1) := by decide +kernel
theorem dX12_statement_44 : decode cX12_statement 44 = .ok (.getfield 97, 3) := by decide +kernel
theorem dX12_statement_47 : decode cX12_statement 47 = .ok (.iastore, 1) := by decide +kernel
theorem dX12_statement_48 : decode cX12_statement 48 = .ok (.aload_n 0, 1) := by decide +kernel
theorem dX12_statement_49 : decode cX12_statement 49 = .ok (.dup, 1) := by decide +kernel
theorem dX12_statement_50 : decode cX12_statement 50 = .ok (.getfield 97, 3) := by decide +kernel
theorem dX12_statement_53 : decode cX12_statement 53 = .ok (.iconst 1, 1) := by decide +kernel
theorem dX12_statement_54 : decode cX12_statement 54 = .ok (.iadd, 1) := by decide +kernel
theorem dX12_statement_55 : decode cX12_statement 55 = .ok (.putfield 97, 3) := by decide +kernel
theorem dX12_statement_58 : decode cX12_statement 58 = .ok (.iconst 3, 1) := by decide +kernel
theorem dX12_statement_59 : decode cX12_statement 59 = .ok (.aload_n 0, 1) := by decide +kernel
theorem dX12_statement_60 : decode cX12_statement 60 = .ok (.getfield 108, 3) := by decide +kernel
theorem dX12_statement_63 : decode cX12_statement 63 = .ok (.imul, 1) := by decide +kernel
theorem dX12_statement_64 : decode cX12_statement 64 = .ok (.istore_n 2, 1) := by decide +kernel
theorem dX12_statement_65 : decode cX12_statement 65 = .ok (.iload_n 1, 1) := by decide +kernel
theorem dX12_statement_66 : decode cX12_statement 66 = .ok (.bipush 99, 2) := by decide +kernel
theorem dX12_statement_68 : decode cX12_statement 68 = .ok (.if_icmp .ne 14, 3) := by decide +kernel
theorem dX12_statement_71 : decode cX12_statement 71 = .ok (.aload_n 0, 1) := by decide +kernel
theorem dX12_statement_72 : decode cX12_statement 72 = .ok (.iload_n 2, 1) := by decide +kernel
theorem dX12_statement_73 : decode cX12_statement 73 = .ok (.iconst 2, 1) := by decide +kernel
theorem dX12_statement_74 : decode cX12_statement 74 = .ok (.invokevirtual 111, 3) := by decide +kernel
theorem dX12_statement_77 : decode cX12_statement 77 = .ok (.ifCond .ne 31, 3) := by decide +kernel
theorem dX12_statement_80 : decode cX12_statement 80 = .ok (.iconst 0, 1) := by decide +kernel
theorem dX12_statement_81 : decode cX12_statement 81 = .ok (.ireturn, 1) := by decide +kernel
theorem dX12_statement_82 : decode cX12_statement 82 = .ok (.iconst 0, 1) := by decide +kernel
theorem dX12_statement_83 : decode cX12_statement 83 = .ok (.istore_n 3, 1) := by decide +kernel
theorem dX12_statement_84 : decode cX12_statement 84 = .ok (.iload_n 3, 1) := by decide +kernel
theorem dX12_statement_85 : decode cX12_statement 85 = .ok (.iconst 3, 1) := by decide +kernel
theorem dX12_statement_86 : decode cX12_statement 86 = .ok (.if_icmp .ge 22, 3) := by decide +kernel
theorem dX12_statement_89 : decode cX12_statement 89 = .ok (.aload_n 0, 1) := by decide +kernel
theorem dX12_statement_90 : decode cX12_statement 90 = .ok (.iload_n 2, 1) := by decide +kernel
theorem dX12_statement_91 : decode cX12_statement 91 = .ok (.iload_n 3, 1) := by decide +kernel
theorem dX12_statement_92 : decode cX12_statement 92 = .ok (.iadd, 1) := by decide +kernel
theorem dX12_statement_93 : decode cX12_statement 93 = .ok (.iconst 1, 1) := by decide +kernel
theorem dX12_statement_94 : decode cX12_statement 94 = .ok (.invokevirtual 111, 3) := by decide +kernel
theorem dX12_statement_97 : decode cX12_statement 97 = .ok (.ifCond .ne 5, 3) := by decide +kernel
theorem dX12_statement_100 : decode cX12_statement 100 = .ok (.iconst 0, 1) := by decide +kernel
theorem dX12_statement_101 : decode cX12_statement 101 = .ok (.ireturn, 1) := by decide +kernel
theorem dX12_statement_102 : decode cX12_statement 102 = .ok (.iinc 3 1, 3) := by decide +kernel
theorem dX12_statement_105 : decode cX12_statement 105 = .ok (.goto (-21), 3) := by decide +kernel
theorem dX12_statement_108 : decode cX12_statement 108 = .ok (.aload_n 0, 1) := by decide +kernel
theorem dX12_statement_109 : decode cX12_statement 109 = .ok (.invokevirtual 100, 3) := by decide +kernel
theorem dX12_statement_112 : decode cX12_statement 112 = .ok (.bipush 59, 2) := by decide +kernel
theorem dX12_statement_114 : decode cX12_statement 114 = .ok (.if_icmp .eq 5, 3) := by decide +kernel
theorem dX12_statement_117 : decode cX12_statement 117 = .ok (.iconst 0, 1) := by decide +kernel
theorem dX12_statement_118 : decode cX12_statement 118 = .ok (.ireturn, 1) := by decide +kernel
theorem dX12_statement_119 : decode cX12_statement 119 = .ok (.aload_n 0, 1) := by decide +kernel
theorem dX12_statement_120 : decode cX12_statement 120 = .ok (.dup, 1) := by decide +kernel
theorem dX12_statement_121 : decode cX12_statement 121 = .ok (.getfield 97, 3) := by decide +kernel
theorem dX12_statement_124 : decode cX12_statement 124 = .ok (.iconst 1, 1) := by decide +kernel
theorem dX12_statement_125 : decode cX12_statement 125 = .ok (.iadd, 1) := by decide +kernel
theorem dX12_statement_126 : decode cX12_statement 126 = .ok (.putfield 97, 3) := by decide +kernel
theorem dX12_statement_129 : decode cX12_statement 129 = .ok (.iconst 1, 1) := by decide +kernel
theorem dX12_statement_130 : decode cX12_statement 130 = .ok (.ireturn, 1) := by decide +kernel
theorem dX12_comes_0 : decode cX12_comes 0 = .ok (.iconst 3, 1) := by decide +kernel
theorem dX12_comes_1 : decode cX12_comes 1 = .ok (.iload_n 1, 1) := by decide +kernel
theorem dX12_comes_2 : decode cX12_comes 2 = .ok (.imul, 1) := by decide +kernel
theorem dX12_comes_3 : decode cX12_comes 3 = .ok (.istore_n 2, 1) := by decide +kernel
theorem dX12_comes_4 : decode cX12_comes 4 = .ok (.aload_n 0, 1) := by decide +kernel
theorem dX12_comes_5 : decode cX12_comes 5 = .ok (.getfield 31, 3) := by decide +kernel
theorem dX12_comes_8 : decode cX12_comes 8 = .ok (.iload_n 1, 1) := by decide +kernel
theorem dX12_comes_9 : decode cX12_comes 9 = .ok (.iaload, 1) := by decide +kernel
theorem dX12_comes_10 : decode cX12_comes 10 = .ok (.bipush 99, 2) := by decide +kernel
theorem dX12_comes_12 : decode cX12_comes 12 = .ok (.if_icmp .ne 17, 3) := by decide +kernel
theorem dX12_comes_15 : decode cX12_comes 15 = .ok (.aload_n 0, 1) := by decide +kernel
theorem dX12_comes_16 : decode cX12_comes 16 = .ok (.getfield 25, 3) := by decide +kernel
theorem dX12_comes_19 : decode cX12_comes 19 = .ok (.iconst 0, 1) := by decide +kernel
theorem dX12_comes_20 : decode cX12_comes 20 = .ok (.aload_n 0, 1) := by decide +kernel
theorem dX12_comes_21 : decode cX12_comes 21 = .ok (.getfield 37, 3) := by decide +kernel
theorem dX12_comes_24 : decode cX12_comes 24 = .ok (.iload_n 2, 1) := by decide +kernel
theorem dX12_comes_25 : decode cX12_comes 25 = .ok (.iaload, 1) := by decide +kernel
theorem dX12_comes_26 : decode cX12_comes 26 = .ok (.iastore, 1) := by decide +kernel
theorem dX12_comes_27 : decode cX12_comes 27 = .ok (.iconst 1, 1) := by decide +kernel
theorem dX12_comes_28 : decode cX12_comes 28 = .ok (.ireturn, 1) := by decide +kernel
theorem dX12_comes_29 : decode cX12_comes 29 = .ok (.aload_n 0, 1) := by decide +kernel
theorem dX12_comes_30 : decode cX12_comes 30 = .ok (.getfield 31, 3) := by decide +kernel
theorem dX12_comes_33 : decode cX12_comes 33 = .ok (.iload_n 1, 1) := by decide +kernel
theorem dX12_comes_34 : decode cX12_comes 34 = .ok (.iaload, 1) := by decide +kernel
theorem dX12_comes_35 : decode cX12_comes 35 = .ok (.bipush 108, 2) := by decide +kernel
theorem dX12_comes_37 : decode cX12_comes 37 = .ok (.if_icmp .ne 72, 3) := by decide +kernel
theorem dX12_comes_40 : decode cX12_comes 40 = .ok (.iconst 0, 1) := by decide +kernel
theorem dX12_comes_41 : decode cX12_comes 41 = .ok (.istore_n 3, 1) := by decide +kernel
theorem dX12_comes_42 : decode cX12_comes 42 = .ok (.iload_n 3, 1) := by decide +kernel
theorem dX12_comes_43 : decode cX12_comes 43 = .ok (.iconst 3, 1) := by decide +kernel
theorem dX12_comes_44 : decode cX12_comes 44 = .ok (.if_icmp .ge 25, 3) := by decide +kernel
theorem dX12_comes_47 : decode cX12_comes 47 = .ok (.aload_n 0, 1) := by decide +kernel
theorem dX12_comes_48 : decode cX12_comes 48 = .ok (.getfield 25, 3) := by decide +kernel
theorem dX12_comes_51 : decode cX12_comes 51 = .ok (.iconst 1, 1) := by decide +kernel
theorem dX12_comes_52 : decode cX12_comes 52 = .ok (.iload_n 3, 1) := by decide +kernel
theorem dX12_comes_53 : decode cX12_comes 53 = .ok (.iadd, 1) := by decide +kernel
theorem dX12_comes_54 : decode cX12_comes 54 = .ok (.aload_n 0, 1) := by decide +kernel
theorem dX12_comes_55 : decode cX12_comes 55 = .ok (.getfield 37, 3) := by decide +kernel
theorem dX12_comes_58 : decode cX12_comes 58 = .ok (.iload_n 2, 1) := by decide +kernel
theorem dX12_comes_59 : decode cX12_comes 59 = .ok (.iload_n 3, 1) := by decide +kernel
theorem dX12_comes_60 : decode cX12_comes 60 = .ok (.iadd, 1) := by decide +kernel
theorem dX12_comes_61 : decode cX12_comes 61 = .ok (.iaload, 1) := by decide +kernel
theorem dX12_comes_62 : decode cX12_comes 62 = .ok (.iastore, 1) := by decide +kernel
theorem dX12_comes_63 : decode cX12_comes 63 = .ok (.iinc 3 1, 3) := by decide +kernel
theorem dX12_comes_66 : decode cX12_comes 66 = .ok (.goto (-24), 3) := by decide +kernel
theorem dX12_comes_69 : decode cX12_comes 69 = .ok (.aload_n 0, 1) := by decide +kernel
theorem dX12_comes_70 : decode cX12_comes 70 = .ok (.getfield 37, 3) := by decide +kernel
theorem dX12_comes_73 : decode cX12_comes 73 = .ok (.iload_n 2, 1) := by decide +kernel
theorem dX12_comes_74 : decode cX12_comes 74 = .ok (.iaload, 1) := by decide +kernel
theorem dX12_comes_75 : decode cX12_comes 75 = .ok (.iconst 3, 1) := by decide +kernel
theorem dX12_comes_76 : decode cX12_comes 76 = .ok (.if_icmp .ge 31, 3) := by decide +kernel
theorem dX12_comes_79 : decode cX12_comes 79 = .ok (.aload_n 0, 1) := by decide +kernel
theorem dX12_comes_80 : decode cX12_comes 80 = .ok (.getfield 37, 3) := by decide +kernel
theorem dX12_comes_83 : decode cX12_comes 83 = .ok (.iload_n 2, 1) := by decide +kernel
theorem dX12_comes_84 : decode cX12_comes 84 = .ok (.iconst 1, 1) := by decide +kernel
theorem dX12_comes_85 : decode cX12_comes 85 = .ok (.iadd, 1) := by decide +kernel
theorem dX12_comes_86 : decode cX12_comes 86 = .ok (.iaload, 1) := by decide +kernel
theorem dX12_comes_87 : decode cX12_comes 87 = .ok (.iconst 2, 1) := by decide +kernel
theorem dX12_comes_88 : decode cX12_comes 88 = .ok (.if_icmp .ge 19, 3) := by decide +kernel
theorem dX12_comes_91 : decode cX12_comes 91 = .ok (.aload_n 0, 1) := by decide +kernel
theorem dX12_comes_92 : decode cX12_comes 92 = .ok (.getfield 37, 3) := by decide +kernel
theorem dX12_comes_95 : decode cX12_comes 95 = .ok (.iload_n 2, 1) := by decide +kernel
theorem dX12_comes_96 : decode cX12_comes 96 = .ok (.iconst 2, 1) := by decide +kernel
theorem dX12_comes_97 : decode cX12_comes 97 = .ok (.iadd, 1) := by decide +kernel
theorem dX12_comes_98 : decode cX12_comes 98 = .ok (.iaload, 1) := by decide +kernel
theorem dX12_comes_99 : decode cX12_comes 99 = .ok (.iconst 2, 1) := by decide +kernel
theorem dX12_comes_100 : decode cX12_comes 100 = .ok (.if_icmp .ge 7, 3) := by decide +kernel
theorem dX12_comes_103 : decode cX12_comes 103 = .ok (.iconst 1, 1) := by decide +kernel
theorem dX12_comes_104 : decode cX12_comes 104 = .ok (.goto 4, 3) := by decide +kernel
theorem dX12_comes_107 : decode cX12_comes 107 = .ok (.iconst 0, 1) := by decide +kernel
theorem dX12_comes_108 : decode cX12_comes 108 = .ok (.ireturn, 1) := by decide +kernel
theorem dX12_comes_109 : decode cX12_comes 109 = .ok (.aload_n 0, 1) := by decide +kernel
theorem dX12_comes_110 : decode cX12_comes 110 = .ok (.getfield 37, 3) := by decide +kernel
theorem dX12_comes_113 : decode cX12_comes 113 = .ok (.iload_n 2, 1) := by decide +kernel
theorem dX12_comes_114 : decode cX12_comes 114 = .ok (.iaload, 1) := by decide +kernel
theorem dX12_comes_115 : decode cX12_comes 115 = .ok (.bipush 6, 2) := by decide +kernel
theorem dX12_comes_117 : decode cX12_comes 117 = .ok (.if_icmp .gt 31, 3) := by decide +kernel
theorem dX12_comes_120 : decode cX12_comes 120 = .ok (.aload_n 0, 1) := by decide +kernel
theorem dX12_comes_121 : decode cX12_comes 121 = .ok (.getfield 37, 3) := by decide +kernel
theorem dX12_comes_124 : decode cX12_comes 124 = .ok (.iload_n 2, 1) := by decide +kernel
theorem dX12_comes_125 : decode cX12_comes 125 = .ok (.iconst 2, 1) := by decide +kernel
theorem dX12_comes_126 : decode cX12_comes 126 = .ok (.iadd, 1) := by decide +kernel
theorem dX12_comes_127 : decode cX12_comes 127 = .ok (.iaload, 1) := by decide +kernel
theorem dX12_comes_128 : decode cX12_comes 128 = .ok (.ifCond .eq 20, 3) := by decide +kernel
theorem dX12_comes_131 : decode cX12_comes 131 = .ok (.aload_n 0, 1) := by decide +kernel
theorem dX12_comes_132 : decode cX12_comes 132 = .ok (.getfield 82, 3) := by decide +kernel
theorem dX12_comes_135 : decode cX12_comes 135 = .ok (.bipush 8, 2) := by decide +kernel
theorem dX12_comes_137 : decode cX12_comes 137 = .ok (.if_icmp .eq 11, 3) := by decide +kernel
theorem dX12_comes_140 : decode cX12_comes 140 = .ok (.aload_n 0, 1) := by decide +kernel
theorem dX12_comes_141 : decode cX12_comes 141 = .ok (.getfield 115, 3) := by decide +kernel
theorem dX12_comes_144 : decode cX12_comes 144 = .ok (.iconst 1, 1) := by decide +kernel
theorem dX12_comes_145 : decode cX12_comes 145 = .ok (.if_icmp .ne 5, 3) := by decide +kernel
theorem dX12_comes_148 : decode cX12_comes 148 = .ok (.iconst 0, 1) := by decide +kernel
theorem dX12_comes_149 : decode cX12_comes 149 = .ok (.ireturn, 1) := by decide +kernel
theorem dX12_comes_150 : decode cX12_comes 150 = .ok (.aload_n 0, 1) := by decide +kernel
theorem dX12_comes_151 : decode cX12_comes 151 = .ok (.getfield 13, 3) := by decide +kernel
theorem dX12_comes_154 : decode cX12_comes 154 = .ok (.aload_n 0, 1) := by decide +kernel
theorem dX12_comes_155 : decode cX12_comes 155 = .ok (.getfield 82, 3) := by decide +kernel
theorem dX12_comes_158 : decode cX12_comes 158 = .ok (.aload_n 0, 1) := by decide +kernel
theorem dX12_comes_159 : decode cX12_comes 159 = .ok (.getfield 37, 3) := by decide +kernel
theorem dX12_comes_162 : decode cX12_comes 162 = .ok (.iload_n 2, 1) := by decide +kernel
theorem dX12_comes_163 : decode cX12_comes 163 = .ok (.iaload, 1) := by decide +kernel
theorem dX12_comes_164 : decode cX12_comes 164 = .ok (.iastore, 1) := by decide +kernel
theorem dX12_comes_165 : decode cX12_comes 165 = .ok (.aload_n 0, 1) := by decide +kernel
theorem dX12_comes_166 : decode cX12_comes 166 = .ok (.getfield 16, 3) := by decide +kernel
theorem dX12_comes_169 : decode cX12_comes 169 = .ok (.aload_n 0, 1) := by decide +kernel
theorem dX12_comes_170 : decode cX12_comes 170 = .ok (.getfield 82, 3) := by decide +kernel
theorem dX12_comes_173 : decode cX12_comes 173 = .ok (.aload_n 0, 1) := by decide +kernel
theorem dX12_comes_174 : decode cX12_comes 174 = .ok (.getfield 37, 3) := by decide +kernel
theorem dX12_comes_177 : decode cX12_comes 177 = .ok (.iload_n 2, 1) := by decide +kernel
theorem dX12_comes_178 : decode cX12_comes 178 = .ok (.iconst 1, 1) := by decide +kernel
theorem dX12_comes_179 : decode cX12_comes 179 = .ok (.iadd, 1) := by decide +kernel
theorem dX12_comes_180 : decode cX12_comes 180 = .ok (.iaload, 1) := by decide +kernel
theorem dX12_comes_181 : decode cX12_comes 181 = .ok (.iastore, 1) := by decide +kernel
theorem dX12_comes_182 : decode cX12_comes 182 = .ok (.aload_n 0, 1) := by decide +kernel
theorem dX12_comes_183 : decode cX12_comes 183 = .ok (.getfield 19, 3) := by decide +kernel
theorem dX12_comes_186 : decode cX12_comes 186 = .ok (.aload_n 0, 1) := by decide +kernel
theorem dX12_comes_187 : decode cX12_comes 187 = .ok (.getfield 82, 3) := by decide +kernel
theorem dX12_comes_190 : decode cX12_comes 190 = .ok (.aload_n 0, 1) := by decide +kernel
theorem dX12_comes_191 : decode cX12_comes 191 = .ok (.getfield 37, 3) := by decide +kernel
theorem dX12_comes_194 : decode cX12_comes 194 = .ok (.iload_n 2, 1) := by decide +kernel
theorem dX12_comes_195 : decode cX12_comes 195 = .ok (.iconst 2, 1) := by decide +kernel
theorem dX12_comes_196 : decode cX12_comes 196 = .ok (.iadd, 1) := by decide +kernel
theorem dX12_comes_197 : decode cX12_comes 197 = .ok (.iaload, 1) := by decide +kernel
theorem dX12_comes_198 : decode cX12_comes 198 = .ok (.iastore, 1) := by decide +kernel
theorem dX12_comes_199 : decode cX12_comes 199 = .ok (.aload_n 0, 1) := by decide +kernel
theorem dX12_comes_200 : decode cX12_comes 200 = .ok (.dup, 1) := by decide +kernel
theorem dX12_comes_201 : decode cX12_comes 201 = .ok (.getfield 82, 3) := by decide +kernel
theorem dX12_comes_204 : decode cX12_comes 204 = .ok (.iconst 1, 1) := by decide +kernel
theorem dX12_comes_205 : decode cX12_comes 205 = .ok (.iadd, 1) := by decide +kernel
theorem dX12_comes_206 : decode cX12_comes 206 = .ok (.putfield 82, 3) := by decide +kernel
theorem dX12_comes_209 : decode cX12_comes 209 = .ok (.iconst 1, 1) := by decide +kernel
theorem dX12_comes_210 : decode cX12_comes 210 = .ok (.ireturn, 1) := by decide +kernel
theorem dX12_beach_0 : decode cX12_beach 0 = .ok (.aload_n 0, 1) := by decide +kernel
theorem dX12_beach_1 : decode cX12_beach 1 = .ok (.iconst 0, 1) := by decide +kernel
theorem dX12_beach_2 : decode cX12_beach 2 = .ok (.putfield 97, 3) := by decide +kernel
theorem dX12_beach_5 : decode cX12_beach 5 = .ok (.aload_n 0, 1) := by decide +kernel
theorem dX12_beach_6 : decode cX12_beach 6 = .ok (.iconst 0, 1) := by decide +kernel
theorem dX12_beach_7 : decode cX12_beach 7 = .ok (.putfield 108, 3) := by decide +kernel
theorem dX12_beach_10 : decode cX12_beach 10 = .ok (.iconst 1, 1) := by decide +kernel
theorem dX12_beach_11 : decode cX12_beach 11 = .ok (.istore_n 1, 1) := by decide +kernel
theorem dX12_beach_12 : decode cX12_beach 12 = .ok (.iload_n 1, 1) := by decide +kernel
theorem dX12_beach_13 : decode cX12_beach 13 = .ok (.ifCond .eq 47, 3) := by decide +kernel
theorem dX12_beach_16 : decode cX12_beach 16 = .ok (.aload_n 0, 1) := by decide +kernel
theorem dX12_beach_17 : decode cX12_beach 17 = .ok (.getfield 97, 3) := by decide +kernel
theorem dX12_beach_20 : decode cX12_beach 20 = .ok (.aload_n 0, 1) := by decide +kernel
theorem dX12_beach_21 : decode cX12_beach 21 = .ok (.getfield 90, 3) := by decide +kernel
theorem dX12_beach_24 : decode cX12_beach 24 = .ok (.if_icmp .lt 10, 3) := by decide +kernel
theorem dX12_beach_27 : decode cX12_beach 27 = .ok (.aload_n 0, 1) := by decide +kernel
theorem dX12_beach_28 : decode cX12_beach 28 = .ok (.getfield 108, 3) := by decide +kernel
theorem dX12_beach_31 : decode cX12_beach 31 = .ok (.ifCond .ne 29, 3) := by decide +kernel
theorem dX12_beach_34 : decode cX12_beach 34 = .ok (.aload_n 0, 1) := by decide +kernel
theorem dX12_beach_35 : decode cX12_beach 35 = .ok (.invokevirtual 118, 3) := by decide +kernel
theorem dX12_beach_38 : decode cX12_beach 38 = .ok (.istore_n 1, 1) := by decide +kernel
theorem dX12_beach_39 : decode cX12_beach 39 = .ok (.aload_n 0, 1) := by decide +kernel
theorem dX12_beach_40 : decode cX12_beach 40 = .ok (.dup, 1) := by decide +kernel
theorem dX12_beach_41 : decode cX12_beach 41 = .ok (.getfield 108, 3) := by decide +kernel
theorem dX12_beach_44 : decode cX12_beach 44 = .ok (.iload_n 1, 1) := by decide +kernel
theorem dX12_beach_45 : decode cX12_beach 45 = .ok (.ifCond .eq 7, 3) := by decide +kernel
theorem dX12_beach_48 : decode cX12_beach 48 = .ok (.iconst 1, 1) := by decide +kernel
theorem dX12_beach_49 : decode cX12_beach 49 = .ok (.goto 4, 3) := by decide +kernel
theorem dX12_beach_52 : decode cX12_beach 52 = .ok (.iconst 0, 1) := by decide +kernel
theorem dX12_beach_53 : decode cX12_beach 53 = .ok (.iadd, 1) := by decide +kernel
theorem dX12_beach_54 : decode cX12_beach 54 = .ok (.putfield 108, 3) := by decide +kernel
theorem dX12_beach_57 : decode cX12_beach 57 = .ok (.goto (-45), 3) := by decide +kernel
theorem dX12_beach_60 : decode cX12_beach 60 = .ok (.aload_n 0, 1) := by decide +kernel
theorem dX12_beach_61 : decode cX12_beach 61 = .ok (.iconst 0, 1) := by decide +kernel
theorem dX12_beach_62 : decode cX12_beach 62 = .ok (.putfield 90, 3) := by decide +kernel
theorem dX12_beach_65 : decode cX12_beach 65 = .ok (.iload_n 1, 1) := by decide +kernel
theorem dX12_beach_66 : decode cX12_beach 66 = .ok (.ifCond .ne 12, 3) := by decide +kernel
theorem dX12_beach_69 : decode cX12_beach 69 = .ok (.sipush (-1000), 3) := by decide +kernel
theorem dX12_beach_72 : decode cX12_beach 72 = .ok (.aload_n 0, 1) := by decide +kernel
theorem dX12_beach_73 : decode cX12_beach 73 = .ok (.getfield 97, 3) := by decide +kernel
theorem dX12_beach_76 : decode cX12_beach 76 = .ok (.isub, 1) := by decide +kernel
theorem dX12_beach_77 : decode cX12_beach 77 = .ok (.ireturn, 1) := by decide +kernel
theorem dX12_beach_78 : decode cX12_beach 78 = .ok (.aload_n 0, 1) := by decide +kernel
theorem dX12_beach_79 : decode cX12_beach 79 = .ok (.iconst 1, 1) := by decide +kernel
theorem dX12_beach_80 : decode cX12_beach 80 = .ok (.iconst 1, 1) := by decide +kernel
theorem dX12_beach_81 : decode cX12_beach 81 = .ok (.invokevirtual 122, 3) := by decide +kernel
theorem dX12_beach_84 : decode cX12_beach 84 = .ok (.iconst 0, 1) := by decide +kernel
theorem dX12_beach_85 : decode cX12_beach 85 = .ok (.istore_n 2, 1) := by decide +kernel
theorem dX12_beach_86 : decode cX12_beach 86 = .ok (.iload_n 2, 1) := by decide +kernel
theorem dX12_beach_87 : decode cX12_beach 87 = .ok (.aload_n 0, 1) := by decide +kernel
theorem dX12_beach_88 : decode cX12_beach 88 = .ok (.getfield 108, 3) := by decide +kernel
theorem dX12_beach_91 : decode cX12_beach 91 = .ok (.if_icmp .ge 37, 3) := by decide +kernel
theorem dX12_beach_94 : decode cX12_beach 94 = .ok (.aload_n 0, 1) := by decide +kernel
theorem dX12_beach_95 : decode cX12_beach 95 = .ok (.iload_n 2, 1) := by decide +kernel
theorem dX12_beach_96 : decode cX12_beach 96 = .ok (.invokevirtual 126, 3) := by decide +kernel
theorem dX12_beach_99 : decode cX12_beach 99 = .ok (.ifCond .eq 6, 3) := by decide +kernel
theorem dX12_beach_102 : decode cX12_beach 102 = .ok (.goto 20, 3) := by decide +kernel
theorem dX12_beach_105 : decode cX12_beach 105 = .ok (.aload_n 0, 1) := by decide +kernel
theorem dX12_beach_106 : decode cX12_beach 106 = .ok (.iconst 1, 1) := by decide +kernel
theorem dX12_beach_107 : decode cX12_beach 107 = .ok (.iconst 0, 1) := by decide +kernel
theorem dX12_beach_108 : decode cX12_beach 108 = .ok (.invokevirtual 122, 3) := by decide +kernel
theorem dX12_beach_111 : decode cX12_beach 111 = .ok (.sipush (-2000), 3) := by decide +kernel
theorem dX12_beach_114 : decode cX12_beach 114 = .ok (.aload_n 0, 1) := by decide +kernel
theorem dX12_beach_115 : decode cX12_beach 115 = .ok (.getfield 34, 3) := by decide +kernel
theorem dX12_beach_118 : decode cX12_beach 118 = .ok (.iload_n 2, 1) := by decide +kernel
theorem dX12_beach_119 : decode cX12_beach 119 = .ok (.iaload, 1) := by decide +kernel
theorem dX12_beach_120 : decode cX12_beach 120 = .ok (.isub, 1) := by decide +kernel
theorem dX12_beach_121 : decode cX12_beach 121 = .ok (.ireturn, 1) := by decide +kernel
theorem dX12_beach_122 : decode cX12_beach 122 = .ok (.iinc 2 1, 3) := by decide +kernel
theorem dX12_beach_125 : decode cX12_beach 125 = .ok (.goto (-39), 3) := by decide +kernel
theorem dX12_beach_128 : decode cX12_beach 128 = .ok (.aload_n 0, 1) := by decide +kernel
theorem dX12_beach_129 : decode cX12_beach 129 = .ok (.getfield 108, 3) := by decide +kernel
theorem dX12_beach_132 : decode cX12_beach 132 = .ok (.ireturn, 1) := by decide +kernel
theorem dX12_passes_0 : decode cX12_passes 0 = .ok (.iconst 0, 1) := by decide +kernel
theorem dX12_passes_1 : decode cX12_passes 1 = .ok (.istore_n 2, 1) := by decide +kernel
theorem dX12_passes_2 : decode cX12_passes 2 = .ok (.iload_n 2, 1) := by decide +kernel
theorem dX12_passes_3 : decode cX12_passes 3 = .ok (.aload_n 1, 1) := by decide +kernel
theorem dX12_passes_4 : decode cX12_passes 4 = .ok (.arraylength, 1) := by decide +kernel
theorem dX12_passes_5 : decode cX12_passes 5 = .ok (.if_icmp .ge 53, 3) := by decide +kernel
theorem dX12_passes_8 : decode cX12_passes 8 = .ok (.aload_n 0, 1) := by decide +kernel
theorem dX12_passes_9 : decode cX12_passes 9 = .ok (.getfield 130, 3) := by decide +kernel
theorem dX12_passes_12 : decode cX12_passes 12 = .ok (.ifCond .eq 18, 3) := by decide +kernel
theorem dX12_passes_15 : decode cX12_passes 15 = .ok (.aload_n 0, 1) := by decide +kernel
theorem dX12_passes_16 : decode cX12_passes 16 = .ok (.getfield 40, 3) := by decide +kernel
theorem dX12_passes_19 : decode cX12_passes 19 = .ok (.aload_n 0, 1) := by decide +kernel
theorem dX12_passes_20 : decode cX12_passes 20 = .ok (.getfield 134, 3) := by decide +kernel
theorem dX12_passes_23 : decode cX12_passes 23 = .ok (.aload_n 1, 1) := by decide +kernel
theorem dX12_passes_24 : decode cX12_passes 24 = .ok (.iload_n 2, 1) := by decide +kernel
theorem dX12_passes_25 : decode cX12_passes 25 = .ok (.iaload, 1) := by decide +kernel
theorem dX12_passes_26 : decode cX12_passes 26 = .ok (.iastore, 1) := by decide +kernel
theorem dX12_passes_27 : decode cX12_passes 27 = .ok (.goto 15, 3) := by decide +kernel
theorem dX12_passes_30 : decode cX12_passes 30 = .ok (.aload_n 1, 1) := by decide +kernel
theorem dX12_passes_31 : decode cX12_passes 31 = .ok (.iload_n 2, 1) := by decide +kernel
theorem dX12_passes_32 : decode cX12_passes 32 = .ok (.aload_n 0, 1) := by decide +kernel
theorem dX12_passes_33 : decode cX12_passes 33 = .ok (.getfield 40, 3) := by decide +kernel
theorem dX12_passes_36 : decode cX12_passes 36 = .ok (.aload_n 0, 1) := by decide +kernel
theorem dX12_passes_37 : decode cX12_passes 37 = .ok (.getfield 134, 3) := by decide +kernel
theorem dX12_passes_40 : decode cX12_passes 40 = .ok (.iaload, 1) := by decide +kernel
theorem dX12_passes_41 : decode cX12_passes 41 = .ok (.iastore, 1) := by decide +kernel
theorem dX12_passes_42 : decode cX12_passes 42 = .ok (.aload_n 0, 1) := by decide +kernel
theorem dX12_passes_43 : decode cX12_passes 43 = .ok (.dup, 1) := by decide +kernel
theorem dX12_passes_44 : decode cX12_passes 44 = .ok (.getfield 134, 3) := by decide +kernel
theorem dX12_passes_47 : decode cX12_passes 47 = .ok (.iconst 1, 1) := by decide +kernel
theorem dX12_passes_48 : decode cX12_passes 48 = .ok (.iadd, 1) := by decide +kernel
theorem dX12_passes_49 : decode cX12_passes 49 = .ok (.putfield 134, 3) := by decide +kernel
theorem dX12_passes_52 : decode cX12_passes 52 = .ok (.iinc 2 1, 3) := by decide +kernel
theorem dX12_passes_55 : decode cX12_passes 55 = .ok (.goto (-53), 3) := by decide +kernel
theorem dX12_passes_58 : decode cX12_passes 58 = .ok (.return_, 1) := by decide +kernel
theorem dX12_passOne_0 : decode cX12_passOne 0 = .ok (.aload_n 0, 1) := by decide +kernel
theorem dX12_passOne_1 : decode cX12_passOne 1 = .ok (.getfield 130, 3) := by decide +kernel
theorem dX12_passOne_4 : decode cX12_passOne 4 = .ok (.ifCond .eq 7, 3) := by decide +kernel
theorem dX12_passOne_7 : decode cX12_passOne 7 = .ok (.iload_n 1, 1) := by decide +kernel
theorem dX12_passOne_8 : decode cX12_passOne 8 = .ok (.goto 12, 3) := by decide +kernel
theorem dX12_passOne_11 : decode cX12_passOne 11 = .ok (.aload_n 0, 1) := by decide +kernel
theorem dX12_passOne_12 : decode cX12_passOne 12 = .ok (.getfield 40, 3) := by decide +kernel
theorem dX12_passOne_15 : decode cX12_passOne 15 = .ok (.aload_n 0, 1) := by decide +kernel
theorem dX12_passOne_16 : decode cX12_passOne 16 = .ok (.getfield 134, 3) := by decide +kernel
theorem dX12_passOne_19 : decode cX12_passOne 19 = .ok (.iaload, 1) := by decide +kernel
theorem dX12_passOne_20 : decode cX12_passOne 20 = .ok (.istore_n 2, 1) := by decide +kernel
theorem dX12_passOne_21 : decode cX12_passOne 21 = .ok (.aload_n 0, 1) := by decide +kernel
theorem dX12_passOne_22 : decode cX12_passOne 22 = .ok (.getfield 130, 3) := by decide +kernel
theorem dX12_passOne_25 : decode cX12_passOne 25 = .ok (.ifCond .eq 13, 3) := by decide +kernel
theorem dX12_passOne_28 : decode cX12_passOne 28 = .ok (.aload_n 0, 1) := by decide +kernel
theorem dX12_passOne_29 : decode cX12_passOne 29 = .ok (.getfield 40, 3) := by decide +kernel
theorem dX12_passOne_32 : decode cX12_passOne 32 = .ok (.aload_n 0, 1) := by decide +kernel
theorem dX12_passOne_33 : decode cX12_passOne 33 = .ok (.getfield 134, 3) := by decide +kernel
theorem dX12_passOne_36 : decode cX12_passOne 36 = .ok (.iload_n 1, 1) := by decide +kernel
theorem dX12_passOne_37 : decode cX12_passOne 37 = .ok (.iastore, 1) := by decide +kernel
theorem dX12_passOne_38 : decode cX12_passOne 38 = .ok (.aload_n 0, 1) := by decide +kernel
theorem dX12_passOne_39 : decode cX12_passOne 39 = .ok (.dup, 1) := by decide +kernel
theorem dX12_passOne_40 : decode cX12_passOne 40 = .ok (.getfield 134, 3) := by decide +kernel
theorem dX12_passOne_43 : decode cX12_passOne 43 = .ok (.iconst 1, 1) := by decide +kernel
theorem dX12_passOne_44 : decode cX12_passOne 44 = .ok (.iadd, 1) := by decide +kernel
theorem dX12_passOne_45 : decode cX12_passOne 45 = .ok (.putfield 134, 3) := by decide +kernel
theorem dX12_passOne_48 : decode cX12_passOne 48 = .ok (.iload_n 2, 1) := by decide +kernel
theorem dX12_passOne_49 : decode cX12_passOne 49 = .ok (.ireturn, 1) := by decide +kernel
theorem dX12_passesAll_0 : decode cX12_passesAll 0 = .ok (.aload_n 0, 1) := by decide +kernel
theorem dX12_passesAll_1 : decode cX12_passesAll 1 = .ok (.bipush 50, 2) := by decide +kernel
theorem dX12_passesAll_3 : decode cX12_passesAll 3 = .ok (.iload_n 1, 1) := by decide +kernel
theorem dX12_passesAll_4 : decode cX12_passesAll 4 = .ok (.imul, 1) := by decide +kernel
theorem dX12_passesAll_5 : decode cX12_passesAll 5 = .ok (.putfield 134, 3) := by decide +kernel
theorem dX12_passesAll_8 : decode cX12_passesAll 8 = .ok (.aload_n 0, 1) := by decide +kernel
theorem dX12_passesAll_9 : decode cX12_passesAll 9 = .ok (.iload_n 2, 1) := by decide +kernel
theorem dX12_passesAll_10 : decode cX12_passesAll 10 = .ok (.putfield 130, 3) := by decide +kernel
theorem dX12_passesAll_13 : decode cX12_passesAll 13 = .ok (.aload_n 0, 1) := by decide +kernel
theorem dX12_passesAll_14 : decode cX12_passesAll 14 = .ok (.aload_n 0, 1) := by decide +kernel
theorem dX12_passesAll_15 : decode cX12_passesAll 15 = .ok (.getfield 13, 3) := by decide +kernel
theorem dX12_passesAll_18 : decode cX12_passesAll 18 = .ok (.invokevirtual 137, 3) := by decide +kernel
theorem dX12_passesAll_21 : decode cX12_passesAll 21 = .ok (.aload_n 0, 1) := by decide +kernel
theorem dX12_passesAll_22 : decode cX12_passesAll 22 = .ok (.aload_n 0, 1) := by decide +kernel
theorem dX12_passesAll_23 : decode cX12_passesAll 23 = .ok (.getfield 16, 3) := by decide +kernel
theorem dX12_passesAll_26 : decode cX12_passesAll 26 = .ok (.invokevirtual 137, 3) := by decide +kernel
theorem dX12_passesAll_29 : decode cX12_passesAll 29 = .ok (.aload_n 0, 1) := by decide +kernel
theorem dX12_passesAll_30 : decode cX12_passesAll 30 = .ok (.aload_n 0, 1) := by decide +kernel
theorem dX12_passesAll_31 : decode cX12_passesAll 31 = .ok (.getfield 19, 3) := by decide +kernel
theorem dX12_passesAll_34 : decode cX12_passesAll 34 = .ok (.invokevirtual 137, 3) := by decide +kernel
theorem dX12_passesAll_37 : decode cX12_passesAll 37 = .ok (.aload_n 0, 1) := by decide +kernel
theorem dX12_passesAll_38 : decode cX12_passesAll 38 = .ok (.aload_n 0, 1) := by decide +kernel
theorem dX12_passesAll_39 : decode cX12_passesAll 39 = .ok (.getfield 22, 3) := by decide +kernel
theorem dX12_passesAll_42 : decode cX12_passesAll 42 = .ok (.invokevirtual 137, 3) := by decide +kernel
theorem dX12_passesAll_45 : decode cX12_passesAll 45 = .ok (.aload_n 0, 1) := by decide +kernel
theorem dX12_passesAll_46 : decode cX12_passesAll 46 = .ok (.aload_n 0, 1) := by decide +kernel
theorem dX12_passesAll_47 : decode cX12_passesAll 47 = .ok (.getfield 25, 3) := by decide +kernel
theorem dX12_passesAll_50 : decode cX12_passesAll 50 = .ok (.invokevirtual 137, 3) := by decide +kernel
theorem dX12_passesAll_53 : decode cX12_passesAll 53 = .ok (.aload_n 0, 1) := by decide +kernel
theorem dX12_passesAll_54 : decode cX12_passesAll 54 = .ok (.aload_n 0, 1) := by decide +kernel
theorem dX12_passesAll_55 : decode cX12_passesAll 55 = .ok (.aload_n 0, 1) := by decide +kernel
theorem dX12_passesAll_56 : decode cX12_passesAll 56 = .ok (.getfield 82, 3) := by decide +kernel
theorem dX12_passesAll_59 : decode cX12_passesAll 59 = .ok (.invokevirtual 141, 3) := by decide +kernel
theorem dX12_passesAll_62 : decode cX12_passesAll 62 = .ok (.putfield 82, 3) := by decide +kernel
theorem dX12_passesAll_65 : decode cX12_passesAll 65 = .ok (.aload_n 0, 1) := by decide +kernel
theorem dX12_passesAll_66 : decode cX12_passesAll 66 = .ok (.aload_n 0, 1) := by decide +kernel
theorem dX12_passesAll_67 : decode cX12_passesAll 67 = .ok (.aload_n 0, 1) := by decide +kernel
theorem dX12_passesAll_68 : decode cX12_passesAll 68 = .ok (.getfield 144, 3) := by decide +kernel
theorem dX12_passesAll_71 : decode cX12_passesAll 71 = .ok (.invokevirtual 141, 3) := by decide +kernel
theorem dX12_passesAll_74 : decode cX12_passesAll 74 = .ok (.putfield 144, 3) := by decide +kernel
theorem dX12_passesAll_77 : decode cX12_passesAll 77 = .ok (.aload_n 0, 1) := by decide +kernel
theorem dX12_passesAll_78 : decode cX12_passesAll 78 = .ok (.aload_n 0, 1) := by decide +kernel
theorem dX12_passesAll_79 : decode cX12_passesAll 79 = .ok (.aload_n 0, 1) := by decide +kernel
theorem dX12_passesAll_80 : decode cX12_passesAll 80 = .ok (.getfield 115, 3) := by decide +kernel
theorem dX12_passesAll_83 : decode cX12_passesAll 83 = .ok (.invokevirtual 141, 3) := by decide +kernel
theorem dX12_passesAll_86 : decode cX12_passesAll 86 = .ok (.putfield 115, 3) := by decide +kernel
theorem dX12_passesAll_89 : decode cX12_passesAll 89 = .ok (.return_, 1) := by decide +kernel
theorem dX12_image_0 : decode cX12_image 0 = .ok (.aload_n 0, 1) := by decide +kernel
theorem dX12_image_1 : decode cX12_image 1 = .ok (.iconst 1, 1) := by decide +kernel
theorem dX12_image_2 : decode cX12_image 2 = .ok (.putfield 147, 3) := by decide +kernel
theorem dX12_image_5 : decode cX12_image 5 = .ok (.aload_n 0, 1) := by decide +kernel
theorem dX12_image_6 : decode cX12_image 6 = .ok (.iconst 0, 1) := by decide +kernel
theorem dX12_image_7 : decode cX12_image 7 = .ok (.iconst 1, 1) := by decide +kernel
theorem dX12_image_8 : decode cX12_image 8 = .ok (.invokevirtual 122, 3) := by decide +kernel
theorem dX12_image_11 : decode cX12_image 11 = .ok (.aload_n 0, 1) := by decide +kernel
theorem dX12_image_12 : decode cX12_image 12 = .ok (.getfield 82, 3) := by decide +kernel
theorem dX12_image_15 : decode cX12_image 15 = .ok (.ireturn, 1) := by decide +kernel
theorem dX12_restore_0 : decode cX12_restore 0 = .ok (.aload_n 0, 1) := by decide +kernel
theorem dX12_restore_1 : decode cX12_restore 1 = .ok (.getfield 147, 3) := by decide +kernel
theorem dX12_restore_4 : decode cX12_restore 4 = .ok (.ifCond .ne 10, 3) := by decide +kernel
theorem dX12_restore_7 : decode cX12_restore 7 = .ok (.aload_n 0, 1) := by decide +kernel
theorem dX12_restore_8 : decode cX12_restore 8 = .ok (.bipush (-3), 2) := by decide +kernel
theorem dX12_restore_10 : decode cX12_restore 10 = .ok (.invokevirtual 93, 3) := by decide +kernel
theorem dX12_restore_13 : decode cX12_restore 13 = .ok (.ireturn, 1) := by decide +kernel
theorem dX12_restore_14 : decode cX12_restore 14 = .ok (.aload_n 0, 1) := by decide +kernel
theorem dX12_restore_15 : decode cX12_restore 15 = .ok (.iconst 0, 1) := by decide +kernel
theorem dX12_restore_16 : decode cX12_restore 16 = .ok (.iconst 0, 1) := by decide +kernel
theorem dX12_restore_17 : decode cX12_restore 17 = .ok (.invokevirtual 122, 3) := by decide +kernel
theorem dX12_restore_20 : decode cX12_restore 20 = .ok (.aload_n 0, 1) := by decide +kernel
theorem dX12_restore_21 : decode cX12_restore 21 = .ok (.getfield 82, 3) := by decide +kernel
theorem dX12_restore_24 : decode cX12_restore 24 = .ok (.ireturn, 1) := by decide +kernel
theorem dX12_man_0 : decode cX12_man 0 = .ok (.aload_n 0, 1) := by decide +kernel
theorem dX12_man_1 : decode cX12_man 1 = .ok (.iload_n 1, 1) := by decide +kernel
theorem dX12_man_2 : decode cX12_man 2 = .ok (.invokevirtual 150, 3) := by decide +kernel
theorem dX12_man_5 : decode cX12_man 5 = .ok (.ifCond .ne 9, 3) := by decide +kernel
theorem dX12_man_8 : decode cX12_man 8 = .ok (.aload_n 0, 1) := by decide +kernel
theorem dX12_man_9 : decode cX12_man 9 = .ok (.iconst (-1), 1) := by decide +kernel
theorem dX12_man_10 : decode cX12_man 10 = .ok (.invokevirtual 93, 3) := by decide +kernel
theorem dX12_man_13 : decode cX12_man 13 = .ok (.ireturn, 1) := by decide +kernel
theorem dX12_man_14 : decode cX12_man 14 = .ok (.iload_n 2, 1) := by decide +kernel
theorem dX12_man_15 : decode cX12_man 15 = .ok (.iconst 0, 1) := by decide +kernel
theorem dX12_man_16 : decode cX12_man 16 = .ok (.iconst 2, 1) := by decide +kernel
theorem dX12_man_17 : decode cX12_man 17 = .ok (.invokestatic 104, 3) := by decide +kernel
theorem dX12_man_20 : decode cX12_man 20 = .ok (.ifCond .ne 10, 3) := by decide +kernel
theorem dX12_man_23 : decode cX12_man 23 = .ok (.aload_n 0, 1) := by decide +kernel
theorem dX12_man_24 : decode cX12_man 24 = .ok (.bipush (-2), 2) := by decide +kernel
theorem dX12_man_26 : decode cX12_man 26 = .ok (.invokevirtual 93, 3) := by decide +kernel
theorem dX12_man_29 : decode cX12_man 29 = .ok (.ireturn, 1) := by decide +kernel
theorem dX12_man_30 : decode cX12_man 30 = .ok (.iload_n 2, 1) := by decide +kernel
theorem dX12_man_31 : decode cX12_man 31 = .ok (.ifCond .ne 12, 3) := by decide +kernel
theorem dX12_man_34 : decode cX12_man 34 = .ok (.aload_n 0, 1) := by decide +kernel
theorem dX12_man_35 : decode cX12_man 35 = .ok (.getfield 13, 3) := by decide +kernel
theorem dX12_man_38 : decode cX12_man 38 = .ok (.iload_n 1, 1) := by decide +kernel
theorem dX12_man_39 : decode cX12_man 39 = .ok (.iaload, 1) := by decide +kernel
theorem dX12_man_40 : decode cX12_man 40 = .ok (.goto 23, 3) := by decide +kernel
theorem dX12_man_43 : decode cX12_man 43 = .ok (.iload_n 2, 1) := by decide +kernel
theorem dX12_man_44 : decode cX12_man 44 = .ok (.iconst 1, 1) := by decide +kernel
theorem dX12_man_45 : decode cX12_man 45 = .ok (.if_icmp .ne 12, 3) := by decide +kernel
theorem dX12_man_48 : decode cX12_man 48 = .ok (.aload_n 0, 1) := by decide +kernel
theorem dX12_man_49 : decode cX12_man 49 = .ok (.getfield 16, 3) := by decide +kernel
theorem dX12_man_52 : decode cX12_man 52 = .ok (.iload_n 1, 1) := by decide +kernel
theorem dX12_man_53 : decode cX12_man 53 = .ok (.iaload, 1) := by decide +kernel
theorem dX12_man_54 : decode cX12_man 54 = .ok (.goto 9, 3) := by decide +kernel
theorem dX12_man_57 : decode cX12_man 57 = .ok (.aload_n 0, 1) := by decide +kernel
theorem dX12_man_58 : decode cX12_man 58 = .ok (.getfield 19, 3) := by decide +kernel
theorem dX12_man_61 : decode cX12_man 61 = .ok (.iload_n 1, 1) := by decide +kernel
theorem dX12_man_62 : decode cX12_man 62 = .ok (.iaload, 1) := by decide +kernel
theorem dX12_man_63 : decode cX12_man 63 = .ok (.ireturn, 1) := by decide +kernel
theorem dX12_set_0 : decode cX12_set 0 = .ok (.iload_n 1, 1) := by decide +kernel
theorem dX12_set_1 : decode cX12_set 1 = .ok (.iconst 0, 1) := by decide +kernel
theorem dX12_set_2 : decode cX12_set 2 = .ok (.iconst 4, 1) := by decide +kernel
theorem dX12_set_3 : decode cX12_set 3 = .ok (.invokestatic 104, 3) := by decide +kernel
theorem dX12_set_6 : decode cX12_set 6 = .ok (.ifCond .ne 10, 3) := by decide +kernel
theorem dX12_set_9 : decode cX12_set 9 = .ok (.aload_n 0, 1) := by decide +kernel
theorem dX12_set_10 : decode cX12_set 10 = .ok (.bipush (-2), 2) := by decide +kernel
theorem dX12_set_12 : decode cX12_set 12 = .ok (.invokevirtual 93, 3) := by decide +kernel
theorem dX12_set_15 : decode cX12_set 15 = .ok (.ireturn, 1) := by decide +kernel
theorem dX12_set_16 : decode cX12_set 16 = .ok (.iload_n 2, 1) := by decide +kernel
theorem dX12_set_17 : decode cX12_set 17 = .ok (.iconst 0, 1) := by decide +kernel
theorem dX12_set_18 : decode cX12_set 18 = .ok (.getstatic 153, 3) := by decide +kernel
theorem dX12_set_21 : decode cX12_set 21 = .ok (.iload_n 1, 1) := by decide +kernel
theorem dX12_set_22 : decode cX12_set 22 = .ok (.iaload, 1) := by decide +kernel
theorem dX12_set_23 : decode cX12_set 23 = .ok (.invokestatic 86, 3) := by decide +kernel
theorem dX12_set_26 : decode cX12_set 26 = .ok (.istore_n 3, 1) := by decide +kernel
theorem dX12_set_27 : decode cX12_set 27 = .ok (.iload_n 3, 1) := by decide +kernel
theorem dX12_set_28 : decode cX12_set 28 = .ok (.ifCond .eq 9, 3) := by decide +kernel
theorem dX12_set_31 : decode cX12_set 31 = .ok (.aload_n 0, 1) := by decide +kernel
theorem dX12_set_32 : decode cX12_set 32 = .ok (.iload_n 3, 1) := by decide +kernel
theorem dX12_set_33 : decode cX12_set 33 = .ok (.invokevirtual 93, 3) := by decide +kernel
theorem dX12_set_36 : decode cX12_set 36 = .ok (.ireturn, 1) := by decide +kernel
theorem dX12_set_37 : decode cX12_set 37 = .ok (.aload_n 0, 1) := by decide +kernel
theorem dX12_set_38 : decode cX12_set 38 = .ok (.getfield 25, 3) := by decide +kernel
theorem dX12_set_41 : decode cX12_set 41 = .ok (.iload_n 1, 1) := by decide +kernel
theorem dX12_set_42 : decode cX12_set 42 = .ok (.iaload, 1) := by decide +kernel
theorem dX12_set_43 : decode cX12_set 43 = .ok (.istore 4, 2) := by decide +kernel
theorem dX12_set_45 : decode cX12_set 45 = .ok (.aload_n 0, 1) := by decide +kernel
theorem dX12_set_46 : decode cX12_set 46 = .ok (.getfield 25, 3) := by decide +kernel
theorem dX12_set_49 : decode cX12_set 49 = .ok (.iload_n 1, 1) := by decide +kernel
theorem dX12_set_50 : decode cX12_set 50 = .ok (.iload_n 2, 1) := by decide +kernel
theorem dX12_set_51 : decode cX12_set 51 = .ok (.iastore, 1) := by decide +kernel
theorem dX12_set_52 : decode cX12_set 52 = .ok (.iload 4, 2) := by decide +kernel
theorem dX12_set_54 : decode cX12_set 54 = .ok (.ireturn, 1) := by decide +kernel
theorem dX12_isCarried_0 : decode cX12_isCarried 0 = .ok (.iload_n 0, 1) := by decide +kernel
theorem dX12_isCarried_1 : decode cX12_isCarried 1 = .ok (.ifCond .ne 18, 3) := by decide +kernel
theorem dX12_isCarried_4 : decode cX12_isCarried 4 = .ok (.iconst 2, 1) := by decide +kernel
theorem dX12_isCarried_5 : decode cX12_isCarried 5 = .ok (.iload_n 1, 1) := by decide +kernel
theorem dX12_isCarried_6 : decode cX12_isCarried 6 = .ok (.imul, 1) := by decide +kernel
theorem dX12_isCarried_7 : decode cX12_isCarried 7 = .ok (.iload_n 2, 1) := by decide +kernel
theorem dX12_isCarried_8 : decode cX12_isCarried 8 = .ok (.if_icmp .lt 7, 3) := by decide +kernel
theorem dX12_isCarried_11 : decode cX12_isCarried 11 = .ok (.iconst 1, 1) := by decide +kernel
theorem dX12_isCarried_12 : decode cX12_isCarried 12 = .ok (.goto 41, 3) := by decide +kernel
theorem dX12_isCarried_15 : decode cX12_isCarried 15 = .ok (.iconst 0, 1) := by decide +kernel
theorem dX12_isCarried_16 : decode cX12_isCarried 16 = .ok (.goto 37, 3) := by decide +kernel
theorem dX12_isCarried_19 : decode cX12_isCarried 19 = .ok (.iload_n 0, 1) := by decide +kernel
