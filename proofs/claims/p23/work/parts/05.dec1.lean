theorem dX11_init_0 : decode cX11_init 0 = .ok (.aload_n 0, 1) := by decide +kernel
theorem dX11_init_1 : decode cX11_init 1 = .ok (.invokespecial 1, 3) := by decide +kernel
theorem dX11_init_4 : decode cX11_init 4 = .ok (.aload_n 0, 1) := by decide +kernel
theorem dX11_init_5 : decode cX11_init 5 = .ok (.new 7, 3) := by decide +kernel
theorem dX11_init_8 : decode cX11_init 8 = .ok (.dup, 1) := by decide +kernel
theorem dX11_init_9 : decode cX11_init 9 = .ok (.invokespecial 9, 3) := by decide +kernel
theorem dX11_init_12 : decode cX11_init 12 = .ok (.putfield 10, 3) := by decide +kernel
theorem dX11_init_15 : decode cX11_init 15 = .ok (.aload_n 0, 1) := by decide +kernel
theorem dX11_init_16 : decode cX11_init 16 = .ok (.new 16, 3) := by decide +kernel
theorem dX11_init_19 : decode cX11_init 19 = .ok (.dup, 1) := by decide +kernel
theorem dX11_init_20 : decode cX11_init 20 = .ok (.invokespecial 18, 3) := by decide +kernel
theorem dX11_init_23 : decode cX11_init 23 = .ok (.putfield 19, 3) := by decide +kernel
theorem dX11_init_26 : decode cX11_init 26 = .ok (.aload_n 0, 1) := by decide +kernel
theorem dX11_init_27 : decode cX11_init 27 = .ok (.bipush 8, 2) := by decide +kernel
theorem dX11_init_29 : decode cX11_init 29 = .ok (.newarray .int, 2) := by decide +kernel
theorem dX11_init_31 : decode cX11_init 31 = .ok (.putfield 23, 3) := by decide +kernel
theorem dX11_init_34 : decode cX11_init 34 = .ok (.aload_n 0, 1) := by decide +kernel
theorem dX11_init_35 : decode cX11_init 35 = .ok (.bipush 8, 2) := by decide +kernel
theorem dX11_init_37 : decode cX11_init 37 = .ok (.newarray .int, 2) := by decide +kernel
theorem dX11_init_39 : decode cX11_init 39 = .ok (.putfield 27, 3) := by decide +kernel
theorem dX11_init_42 : decode cX11_init 42 = .ok (.aload_n 0, 1) := by decide +kernel
theorem dX11_init_43 : decode cX11_init 43 = .ok (.bipush 7, 2) := by decide +kernel
theorem dX11_init_45 : decode cX11_init 45 = .ok (.newarray .int, 2) := by decide +kernel
theorem dX11_init_47 : decode cX11_init 47 = .ok (.putfield 30, 3) := by decide +kernel
theorem dX11_init_50 : decode cX11_init 50 = .ok (.aload_n 0, 1) := by decide +kernel
theorem dX11_init_51 : decode cX11_init 51 = .ok (.bipush 73, 2) := by decide +kernel
theorem dX11_init_53 : decode cX11_init 53 = .ok (.newarray .long, 2) := by decide +kernel
theorem dX11_init_55 : decode cX11_init 55 = .ok (.putfield 33, 3) := by decide +kernel
theorem dX11_init_58 : decode cX11_init 58 = .ok (.aload_n 0, 1) := by decide +kernel
theorem dX11_init_59 : decode cX11_init 59 = .ok (.iconst 1, 1) := by decide +kernel
theorem dX11_init_60 : decode cX11_init 60 = .ok (.putfield 37, 3) := by decide +kernel
theorem dX11_init_63 : decode cX11_init 63 = .ok (.new 41, 3) := by decide +kernel
theorem dX11_init_66 : decode cX11_init 66 = .ok (.dup, 1) := by decide +kernel
theorem dX11_init_67 : decode cX11_init 67 = .ok (.invokespecial 43, 3) := by decide +kernel
theorem dX11_init_70 : decode cX11_init 70 = .ok (.astore_n 1, 1) := by decide +kernel
theorem dX11_init_71 : decode cX11_init 71 = .ok (.bipush 7, 2) := by decide +kernel
theorem dX11_init_73 : decode cX11_init 73 = .ok (.anewarray 41, 3) := by decide +kernel
theorem dX11_init_76 : decode cX11_init 76 = .ok (.dup, 1) := by decide +kernel
theorem dX11_init_77 : decode cX11_init 77 = .ok (.iconst 0, 1) := by decide +kernel
theorem dX11_init_78 : decode cX11_init 78 = .ok (.aload_n 1, 1) := by decide +kernel
theorem dX11_init_79 : decode cX11_init 79 = .ok (.aastore, 1) := by decide +kernel
theorem dX11_init_80 : decode cX11_init 80 = .ok (.dup, 1) := by decide +kernel
theorem dX11_init_81 : decode cX11_init 81 = .ok (.iconst 1, 1) := by decide +kernel
theorem dX11_init_82 : decode cX11_init 82 = .ok (.new 44, 3) := by decide +kernel
theorem dX11_init_85 : decode cX11_init 85 = .ok (.dup, 1) := by decide +kernel
theorem dX11_init_86 : decode cX11_init 86 = .ok (.invokespecial 46, 3) := by decide +kernel
theorem dX11_init_89 : decode cX11_init 89 = .ok (.aastore, 1) := by decide +kernel
theorem dX11_init_90 : decode cX11_init 90 = .ok (.dup, 1) := by decide +kernel
theorem dX11_init_91 : decode cX11_init 91 = .ok (.iconst 2, 1) := by decide +kernel
theorem dX11_init_92 : decode cX11_init 92 = .ok (.new 47, 3) := by decide +kernel
theorem dX11_init_95 : decode cX11_init 95 = .ok (.dup, 1) := by decide +kernel
theorem dX11_init_96 : decode cX11_init 96 = .ok (.invokespecial 49, 3) := by decide +kernel
theorem dX11_init_99 : decode cX11_init 99 = .ok (.aastore, 1) := by decide +kernel
theorem dX11_init_100 : decode cX11_init 100 = .ok (.dup, 1) := by decide +kernel
theorem dX11_init_101 : decode cX11_init 101 = .ok (.iconst 3, 1) := by decide +kernel
theorem dX11_init_102 : decode cX11_init 102 = .ok (.new 50, 3) := by decide +kernel
theorem dX11_init_105 : decode cX11_init 105 = .ok (.dup, 1) := by decide +kernel
theorem dX11_init_106 : decode cX11_init 106 = .ok (.invokespecial 52, 3) := by decide +kernel
theorem dX11_init_109 : decode cX11_init 109 = .ok (.aastore, 1) := by decide +kernel
theorem dX11_init_110 : decode cX11_init 110 = .ok (.dup, 1) := by decide +kernel
theorem dX11_init_111 : decode cX11_init 111 = .ok (.iconst 4, 1) := by decide +kernel
theorem dX11_init_112 : decode cX11_init 112 = .ok (.new 53, 3) := by decide +kernel
theorem dX11_init_115 : decode cX11_init 115 = .ok (.dup, 1) := by decide +kernel
theorem dX11_init_116 : decode cX11_init 116 = .ok (.invokespecial 55, 3) := by decide +kernel
theorem dX11_init_119 : decode cX11_init 119 = .ok (.aastore, 1) := by decide +kernel
theorem dX11_init_120 : decode cX11_init 120 = .ok (.dup, 1) := by decide +kernel
theorem dX11_init_121 : decode cX11_init 121 = .ok (.iconst 5, 1) := by decide +kernel
theorem dX11_init_122 : decode cX11_init 122 = .ok (.new 56, 3) := by decide +kernel
theorem dX11_init_125 : decode cX11_init 125 = .ok (.dup, 1) := by decide +kernel
theorem dX11_init_126 : decode cX11_init 126 = .ok (.invokespecial 58, 3) := by decide +kernel
theorem dX11_init_129 : decode cX11_init 129 = .ok (.aastore, 1) := by decide +kernel
theorem dX11_init_130 : decode cX11_init 130 = .ok (.dup, 1) := by decide +kernel
theorem dX11_init_131 : decode cX11_init 131 = .ok (.bipush 6, 2) := by decide +kernel
theorem dX11_init_133 : decode cX11_init 133 = .ok (.new 59, 3) := by decide +kernel
theorem dX11_init_136 : decode cX11_init 136 = .ok (.dup, 1) := by decide +kernel
theorem dX11_init_137 : decode cX11_init 137 = .ok (.invokespecial 61, 3) := by decide +kernel
theorem dX11_init_140 : decode cX11_init 140 = .ok (.aastore, 1) := by decide +kernel
theorem dX11_init_141 : decode cX11_init 141 = .ok (.astore_n 2, 1) := by decide +kernel
theorem dX11_init_142 : decode cX11_init 142 = .ok (.aload_n 0, 1) := by decide +kernel
theorem dX11_init_143 : decode cX11_init 143 = .ok (.new 62, 3) := by decide +kernel
theorem dX11_init_146 : decode cX11_init 146 = .ok (.dup, 1) := by decide +kernel
theorem dX11_init_147 : decode cX11_init 147 = .ok (.aload_n 2, 1) := by decide +kernel
theorem dX11_init_148 : decode cX11_init 148 = .ok (.invokespecial 64, 3) := by decide +kernel
theorem dX11_init_151 : decode cX11_init 151 = .ok (.putfield 67, 3) := by decide +kernel
theorem dX11_init_154 : decode cX11_init 154 = .ok (.aload_n 0, 1) := by decide +kernel
theorem dX11_init_155 : decode cX11_init 155 = .ok (.new 62, 3) := by decide +kernel
theorem dX11_init_158 : decode cX11_init 158 = .ok (.dup, 1) := by decide +kernel
theorem dX11_init_159 : decode cX11_init 159 = .ok (.aload_n 2, 1) := by decide +kernel
theorem dX11_init_160 : decode cX11_init 160 = .ok (.invokespecial 64, 3) := by decide +kernel
theorem dX11_init_163 : decode cX11_init 163 = .ok (.putfield 71, 3) := by decide +kernel
theorem dX11_init_166 : decode cX11_init 166 = .ok (.aload_n 0, 1) := by decide +kernel
theorem dX11_init_167 : decode cX11_init 167 = .ok (.aload_n 0, 1) := by decide +kernel
theorem dX11_init_168 : decode cX11_init 168 = .ok (.getfield 67, 3) := by decide +kernel
theorem dX11_init_171 : decode cX11_init 171 = .ok (.getfield 74, 3) := by decide +kernel
theorem dX11_init_174 : decode cX11_init 174 = .ok (.putfield 77, 3) := by decide +kernel
theorem dX11_init_177 : decode cX11_init 177 = .ok (.aload_n 0, 1) := by decide +kernel
theorem dX11_init_178 : decode cX11_init 178 = .ok (.aload_n 0, 1) := by decide +kernel
theorem dX11_init_179 : decode cX11_init 179 = .ok (.getfield 71, 3) := by decide +kernel
theorem dX11_init_182 : decode cX11_init 182 = .ok (.getfield 74, 3) := by decide +kernel
theorem dX11_init_185 : decode cX11_init 185 = .ok (.putfield 80, 3) := by decide +kernel
theorem dX11_init_188 : decode cX11_init 188 = .ok (.aload_n 0, 1) := by decide +kernel
theorem dX11_init_189 : decode cX11_init 189 = .ok (.new 83, 3) := by decide +kernel
theorem dX11_init_192 : decode cX11_init 192 = .ok (.dup, 1) := by decide +kernel
theorem dX11_init_193 : decode cX11_init 193 = .ok (.aload_n 1, 1) := by decide +kernel
theorem dX11_init_194 : decode cX11_init 194 = .ok (.invokespecial 85, 3) := by decide +kernel
theorem dX11_init_197 : decode cX11_init 197 = .ok (.putfield 88, 3) := by decide +kernel
theorem dX11_init_200 : decode cX11_init 200 = .ok (.return_, 1) := by decide +kernel
theorem dX11_feed_0 : decode cX11_feed 0 = .ok (.iload_n 1, 1) := by decide +kernel
theorem dX11_feed_1 : decode cX11_feed 1 = .ok (.ifCond .ge 10, 3) := by decide +kernel
theorem dX11_feed_4 : decode cX11_feed 4 = .ok (.aload_n 0, 1) := by decide +kernel
theorem dX11_feed_5 : decode cX11_feed 5 = .ok (.bipush (-4), 2) := by decide +kernel
theorem dX11_feed_7 : decode cX11_feed 7 = .ok (.invokevirtual 92, 3) := by decide +kernel
theorem dX11_feed_10 : decode cX11_feed 10 = .ok (.ireturn, 1) := by decide +kernel
theorem dX11_feed_11 : decode cX11_feed 11 = .ok (.iload_n 1, 1) := by decide +kernel
theorem dX11_feed_12 : decode cX11_feed 12 = .ok (.sipush 255, 3) := by decide +kernel
theorem dX11_feed_15 : decode cX11_feed 15 = .ok (.if_icmp .gt 13, 3) := by decide +kernel
theorem dX11_feed_18 : decode cX11_feed 18 = .ok (.aload_n 0, 1) := by decide +kernel
theorem dX11_feed_19 : decode cX11_feed 19 = .ok (.getfield 19, 3) := by decide +kernel
theorem dX11_feed_22 : decode cX11_feed 22 = .ok (.invokevirtual 96, 3) := by decide +kernel
theorem dX11_feed_25 : decode cX11_feed 25 = .ok (.ifCond .eq 10, 3) := by decide +kernel
theorem dX11_feed_28 : decode cX11_feed 28 = .ok (.aload_n 0, 1) := by decide +kernel
theorem dX11_feed_29 : decode cX11_feed 29 = .ok (.bipush (-6), 2) := by decide +kernel
theorem dX11_feed_31 : decode cX11_feed 31 = .ok (.invokevirtual 92, 3) := by decide +kernel
theorem dX11_feed_34 : decode cX11_feed 34 = .ok (.ireturn, 1) := by decide +kernel
theorem dX11_feed_35 : decode cX11_feed 35 = .ok (.aload_n 0, 1) := by decide +kernel
theorem dX11_feed_36 : decode cX11_feed 36 = .ok (.getfield 19, 3) := by decide +kernel
theorem dX11_feed_39 : decode cX11_feed 39 = .ok (.iload_n 1, 1) := by decide +kernel
theorem dX11_feed_40 : decode cX11_feed 40 = .ok (.i2c, 1) := by decide +kernel
theorem dX11_feed_41 : decode cX11_feed 41 = .ok (.invokevirtual 100, 3) := by decide +kernel
theorem dX11_feed_44 : decode cX11_feed 44 = .ok (.ireturn, 1) := by decide +kernel
theorem dX11_beach_0 : decode cX11_beach 0 = .ok (.aload_n 0, 1) := by decide +kernel
theorem dX11_beach_1 : decode cX11_beach 1 = .ok (.getfield 19, 3) := by decide +kernel
theorem dX11_beach_4 : decode cX11_beach 4 = .ok (.aload_n 0, 1) := by decide +kernel
theorem dX11_beach_5 : decode cX11_beach 5 = .ok (.getfield 77, 3) := by decide +kernel
theorem dX11_beach_8 : decode cX11_beach 8 = .ok (.invokevirtual 104, 3) := by decide +kernel
theorem dX11_beach_11 : decode cX11_beach 11 = .ok (.istore_n 1, 1) := by decide +kernel
theorem dX11_beach_12 : decode cX11_beach 12 = .ok (.iload_n 1, 1) := by decide +kernel
theorem dX11_beach_13 : decode cX11_beach 13 = .ok (.ifCond .ne 20, 3) := by decide +kernel
theorem dX11_beach_16 : decode cX11_beach 16 = .ok (.aload_n 0, 1) := by decide +kernel
theorem dX11_beach_17 : decode cX11_beach 17 = .ok (.getfield 19, 3) := by decide +kernel
theorem dX11_beach_20 : decode cX11_beach 20 = .ok (.aload_n 0, 1) := by decide +kernel
theorem dX11_beach_21 : decode cX11_beach 21 = .ok (.getfield 77, 3) := by decide +kernel
theorem dX11_beach_24 : decode cX11_beach 24 = .ok (.invokevirtual 108, 3) := by decide +kernel
theorem dX11_beach_27 : decode cX11_beach 27 = .ok (.istore_n 1, 1) := by decide +kernel
theorem dX11_beach_28 : decode cX11_beach 28 = .ok (.aload_n 0, 1) := by decide +kernel
theorem dX11_beach_29 : decode cX11_beach 29 = .ok (.iconst 1, 1) := by decide +kernel
theorem dX11_beach_30 : decode cX11_beach 30 = .ok (.putfield 37, 3) := by decide +kernel
theorem dX11_beach_33 : decode cX11_beach 33 = .ok (.aload_n 0, 1) := by decide +kernel
theorem dX11_beach_34 : decode cX11_beach 34 = .ok (.getfield 19, 3) := by decide +kernel
theorem dX11_beach_37 : decode cX11_beach 37 = .ok (.invokevirtual 111, 3) := by decide +kernel
theorem dX11_beach_40 : decode cX11_beach 40 = .ok (.iload_n 1, 1) := by decide +kernel
theorem dX11_beach_41 : decode cX11_beach 41 = .ok (.ireturn, 1) := by decide +kernel
theorem dX11_man_0 : decode cX11_man 0 = .ok (.aload_n 0, 1) := by decide +kernel
theorem dX11_man_1 : decode cX11_man 1 = .ok (.getfield 77, 3) := by decide +kernel
theorem dX11_man_4 : decode cX11_man 4 = .ok (.iload_n 1, 1) := by decide +kernel
theorem dX11_man_5 : decode cX11_man 5 = .ok (.invokevirtual 114, 3) := by decide +kernel
theorem dX11_man_8 : decode cX11_man 8 = .ok (.ifCond .ne 9, 3) := by decide +kernel
theorem dX11_man_11 : decode cX11_man 11 = .ok (.aload_n 0, 1) := by decide +kernel
theorem dX11_man_12 : decode cX11_man 12 = .ok (.iconst (-1), 1) := by decide +kernel
theorem dX11_man_13 : decode cX11_man 13 = .ok (.invokevirtual 92, 3) := by decide +kernel
theorem dX11_man_16 : decode cX11_man 16 = .ok (.ireturn, 1) := by decide +kernel
theorem dX11_man_17 : decode cX11_man 17 = .ok (.iload_n 2, 1) := by decide +kernel
theorem dX11_man_18 : decode cX11_man 18 = .ok (.tableswitch 56 0 2 #[26, 36, 46], 26) := by decide +kernel
theorem dX11_man_44 : decode cX11_man 44 = .ok (.aload_n 0, 1) := by decide +kernel
theorem dX11_man_45 : decode cX11_man 45 = .ok (.getfield 77, 3) := by decide +kernel
theorem dX11_man_48 : decode cX11_man 48 = .ok (.getfield 118, 3) := by decide +kernel
theorem dX11_man_51 : decode cX11_man 51 = .ok (.iload_n 1, 1) := by decide +kernel
theorem dX11_man_52 : decode cX11_man 52 = .ok (.iaload, 1) := by decide +kernel
theorem dX11_man_53 : decode cX11_man 53 = .ok (.ireturn, 1) := by decide +kernel
theorem dX11_man_54 : decode cX11_man 54 = .ok (.aload_n 0, 1) := by decide +kernel
theorem dX11_man_55 : decode cX11_man 55 = .ok (.getfield 77, 3) := by decide +kernel
theorem dX11_man_58 : decode cX11_man 58 = .ok (.getfield 121, 3) := by decide +kernel
theorem dX11_man_61 : decode cX11_man 61 = .ok (.iload_n 1, 1) := by decide +kernel
theorem dX11_man_62 : decode cX11_man 62 = .ok (.iaload, 1) := by decide +kernel
theorem dX11_man_63 : decode cX11_man 63 = .ok (.ireturn, 1) := by decide +kernel
theorem dX11_man_64 : decode cX11_man 64 = .ok (.aload_n 0, 1) := by decide +kernel
theorem dX11_man_65 : decode cX11_man 65 = .ok (.getfield 77, 3) := by decide +kernel
theorem dX11_man_68 : decode cX11_man 68 = .ok (.getfield 124, 3) := by decide +kernel
theorem dX11_man_71 : decode cX11_man 71 = .ok (.iload_n 1, 1) := by decide +kernel
theorem dX11_man_72 : decode cX11_man 72 = .ok (.iaload, 1) := by decide +kernel
theorem dX11_man_73 : decode cX11_man 73 = .ok (.ireturn, 1) := by decide +kernel
theorem dX11_man_74 : decode cX11_man 74 = .ok (.aload_n 0, 1) := by decide +kernel
theorem dX11_man_75 : decode cX11_man 75 = .ok (.bipush (-2), 2) := by decide +kernel
theorem dX11_man_77 : decode cX11_man 77 = .ok (.invokevirtual 92, 3) := by decide +kernel
theorem dX11_man_80 : decode cX11_man 80 = .ok (.ireturn, 1) := by decide +kernel
theorem dX11_set_0 : decode cX11_set 0 = .ok (.iload_n 1, 1) := by decide +kernel
theorem dX11_set_1 : decode cX11_set 1 = .ok (.ifCond .lt 11, 3) := by decide +kernel
theorem dX11_set_4 : decode cX11_set 4 = .ok (.iload_n 1, 1) := by decide +kernel
theorem dX11_set_5 : decode cX11_set 5 = .ok (.getstatic 127, 3) := by decide +kernel
theorem dX11_set_8 : decode cX11_set 8 = .ok (.arraylength, 1) := by decide +kernel
theorem dX11_set_9 : decode cX11_set 9 = .ok (.if_icmp .lt 10, 3) := by decide +kernel
theorem dX11_set_12 : decode cX11_set 12 = .ok (.aload_n 0, 1) := by decide +kernel
theorem dX11_set_13 : decode cX11_set 13 = .ok (.bipush (-2), 2) := by decide +kernel
theorem dX11_set_15 : decode cX11_set 15 = .ok (.invokevirtual 92, 3) := by decide +kernel
theorem dX11_set_18 : decode cX11_set 18 = .ok (.ireturn, 1) := by decide +kernel
theorem dX11_set_19 : decode cX11_set 19 = .ok (.iload_n 2, 1) := by decide +kernel
theorem dX11_set_20 : decode cX11_set 20 = .ok (.ifCond .ge 10, 3) := by decide +kernel
theorem dX11_set_23 : decode cX11_set 23 = .ok (.aload_n 0, 1) := by decide +kernel
theorem dX11_set_24 : decode cX11_set 24 = .ok (.bipush (-4), 2) := by decide +kernel
theorem dX11_set_26 : decode cX11_set 26 = .ok (.invokevirtual 92, 3) := by decide +kernel
theorem dX11_set_29 : decode cX11_set 29 = .ok (.ireturn, 1) := by decide +kernel
theorem dX11_set_30 : decode cX11_set 30 = .ok (.iload_n 2, 1) := by decide +kernel
theorem dX11_set_31 : decode cX11_set 31 = .ok (.getstatic 127, 3) := by decide +kernel
theorem dX11_set_34 : decode cX11_set 34 = .ok (.iload_n 1, 1) := by decide +kernel
theorem dX11_set_35 : decode cX11_set 35 = .ok (.iaload, 1) := by decide +kernel
theorem dX11_set_36 : decode cX11_set 36 = .ok (.if_icmp .le 10, 3) := by decide +kernel
theorem dX11_set_39 : decode cX11_set 39 = .ok (.aload_n 0, 1) := by decide +kernel
theorem dX11_set_40 : decode cX11_set 40 = .ok (.bipush (-6), 2) := by decide +kernel
theorem dX11_set_42 : decode cX11_set 42 = .ok (.invokevirtual 92, 3) := by decide +kernel
theorem dX11_set_45 : decode cX11_set 45 = .ok (.ireturn, 1) := by decide +kernel
theorem dX11_set_46 : decode cX11_set 46 = .ok (.aload_n 0, 1) := by decide +kernel
theorem dX11_set_47 : decode cX11_set 47 = .ok (.getfield 77, 3) := by decide +kernel
theorem dX11_set_50 : decode cX11_set 50 = .ok (.getfield 130, 3) := by decide +kernel
theorem dX11_set_53 : decode cX11_set 53 = .ok (.iload_n 1, 1) := by decide +kernel
theorem dX11_set_54 : decode cX11_set 54 = .ok (.iaload, 1) := by decide +kernel
theorem dX11_set_55 : decode cX11_set 55 = .ok (.istore_n 3, 1) := by decide +kernel
theorem dX11_set_56 : decode cX11_set 56 = .ok (.aload_n 0, 1) := by decide +kernel
theorem dX11_set_57 : decode cX11_set 57 = .ok (.getfield 77, 3) := by decide +kernel
theorem dX11_set_60 : decode cX11_set 60 = .ok (.getfield 130, 3) := by decide +kernel
theorem dX11_set_63 : decode cX11_set 63 = .ok (.iload_n 1, 1) := by decide +kernel
theorem dX11_set_64 : decode cX11_set 64 = .ok (.iload_n 2, 1) := by decide +kernel
theorem dX11_set_65 : decode cX11_set 65 = .ok (.iastore, 1) := by decide +kernel
theorem dX11_set_66 : decode cX11_set 66 = .ok (.aload_n 0, 1) := by decide +kernel
theorem dX11_set_67 : decode cX11_set 67 = .ok (.iconst 1, 1) := by decide +kernel
theorem dX11_set_68 : decode cX11_set 68 = .ok (.putfield 37, 3) := by decide +kernel
theorem dX11_set_71 : decode cX11_set 71 = .ok (.iload_n 3, 1) := by decide +kernel
theorem dX11_set_72 : decode cX11_set 72 = .ok (.ireturn, 1) := by decide +kernel
theorem dX11_offered_0 : decode cX11_offered 0 = .ok (.aload_n 0, 1) := by decide +kernel
theorem dX11_offered_1 : decode cX11_offered 1 = .ok (.getfield 77, 3) := by decide +kernel
theorem dX11_offered_4 : decode cX11_offered 4 = .ok (.iload_n 1, 1) := by decide +kernel
theorem dX11_offered_5 : decode cX11_offered 5 = .ok (.invokevirtual 114, 3) := by decide +kernel
theorem dX11_offered_8 : decode cX11_offered 8 = .ok (.ifCond .eq 33, 3) := by decide +kernel
theorem dX11_offered_11 : decode cX11_offered 11 = .ok (.aload_n 0, 1) := by decide +kernel
theorem dX11_offered_12 : decode cX11_offered 12 = .ok (.getfield 77, 3) := by decide +kernel
theorem dX11_offered_15 : decode cX11_offered 15 = .ok (.iload_n 2, 1) := by decide +kernel
theorem dX11_offered_16 : decode cX11_offered 16 = .ok (.invokevirtual 114, 3) := by decide +kernel
theorem dX11_offered_19 : decode cX11_offered 19 = .ok (.ifCond .eq 22, 3) := by decide +kernel
theorem dX11_offered_22 : decode cX11_offered 22 = .ok (.iload_n 2, 1) := by decide +kernel
theorem dX11_offered_23 : decode cX11_offered 23 = .ok (.iload_n 1, 1) := by decide +kernel
theorem dX11_offered_24 : decode cX11_offered 24 = .ok (.if_icmp .lt 17, 3) := by decide +kernel
theorem dX11_offered_27 : decode cX11_offered 27 = .ok (.aload_n 0, 1) := by decide +kernel
theorem dX11_offered_28 : decode cX11_offered 28 = .ok (.invokevirtual 133, 3) := by decide +kernel
theorem dX11_offered_31 : decode cX11_offered 31 = .ok (.getfield 137, 3) := by decide +kernel
theorem dX11_offered_34 : decode cX11_offered 34 = .ok (.iload_n 1, 1) := by decide +kernel
theorem dX11_offered_35 : decode cX11_offered 35 = .ok (.aaload, 1) := by decide +kernel
theorem dX11_offered_36 : decode cX11_offered 36 = .ok (.iload_n 2, 1) := by decide +kernel
theorem dX11_offered_37 : decode cX11_offered 37 = .ok (.iaload, 1) := by decide +kernel
theorem dX11_offered_38 : decode cX11_offered 38 = .ok (.goto 8, 3) := by decide +kernel
theorem dX11_offered_41 : decode cX11_offered 41 = .ok (.aload_n 0, 1) := by decide +kernel
theorem dX11_offered_42 : decode cX11_offered 42 = .ok (.iconst (-1), 1) := by decide +kernel
theorem dX11_offered_43 : decode cX11_offered 43 = .ok (.invokevirtual 92, 3) := by decide +kernel
theorem dX11_offered_46 : decode cX11_offered 46 = .ok (.ireturn, 1) := by decide +kernel
theorem dX11_price_0 : decode cX11_price 0 = .ok (.aload_n 0, 1) := by decide +kernel
theorem dX11_price_1 : decode cX11_price 1 = .ok (.getfield 77, 3) := by decide +kernel
theorem dX11_price_4 : decode cX11_price 4 = .ok (.iload_n 1, 1) := by decide +kernel
theorem dX11_price_5 : decode cX11_price 5 = .ok (.invokevirtual 114, 3) := by decide +kernel
theorem dX11_price_8 : decode cX11_price 8 = .ok (.ifCond .eq 14, 3) := by decide +kernel
theorem dX11_price_11 : decode cX11_price 11 = .ok (.aload_n 0, 1) := by decide +kernel
theorem dX11_price_12 : decode cX11_price 12 = .ok (.getfield 77, 3) := by decide +kernel
theorem dX11_price_15 : decode cX11_price 15 = .ok (.iload_n 2, 1) := by decide +kernel
theorem dX11_price_16 : decode cX11_price 16 = .ok (.invokevirtual 114, 3) := by decide +kernel
theorem dX11_price_19 : decode cX11_price 19 = .ok (.ifCond .ne 9, 3) := by decide +kernel
theorem dX11_price_22 : decode cX11_price 22 = .ok (.aload_n 0, 1) := by decide +kernel
theorem dX11_price_23 : decode cX11_price 23 = .ok (.iconst (-1), 1) := by decide +kernel
theorem dX11_price_24 : decode cX11_price 24 = .ok (.invokevirtual 92, 3) := by decide +kernel
theorem dX11_price_27 : decode cX11_price 27 = .ok (.ireturn, 1) := by decide +kernel
theorem dX11_price_28 : decode cX11_price 28 = .ok (.iload_n 2, 1) := by decide +kernel
theorem dX11_price_29 : decode cX11_price 29 = .ok (.iload_n 1, 1) := by decide +kernel
theorem dX11_price_30 : decode cX11_price 30 = .ok (.if_icmp .le 17, 3) := by decide +kernel
theorem dX11_price_33 : decode cX11_price 33 = .ok (.aload_n 0, 1) := by decide +kernel
theorem dX11_price_34 : decode cX11_price 34 = .ok (.invokevirtual 133, 3) := by decide +kernel
theorem dX11_price_37 : decode cX11_price 37 = .ok (.getfield 141, 3) := by decide +kernel
theorem dX11_price_40 : decode cX11_price 40 = .ok (.iload_n 1, 1) := by decide +kernel
theorem dX11_price_41 : decode cX11_price 41 = .ok (.aaload, 1) := by decide +kernel
theorem dX11_price_42 : decode cX11_price 42 = .ok (.iload_n 2, 1) := by decide +kernel
theorem dX11_price_43 : decode cX11_price 43 = .ok (.iaload, 1) := by decide +kernel
theorem dX11_price_44 : decode cX11_price 44 = .ok (.goto 5, 3) := by decide +kernel
theorem dX11_price_47 : decode cX11_price 47 = .ok (.bipush (-9), 2) := by decide +kernel
theorem dX11_price_49 : decode cX11_price 49 = .ok (.ireturn, 1) := by decide +kernel
theorem dX11_votes_0 : decode cX11_votes 0 = .ok (.aload_n 0, 1) := by decide +kernel
theorem dX11_votes_1 : decode cX11_votes 1 = .ok (.getfield 77, 3) := by decide +kernel
theorem dX11_votes_4 : decode cX11_votes 4 = .ok (.iload_n 1, 1) := by decide +kernel
theorem dX11_votes_5 : decode cX11_votes 5 = .ok (.invokevirtual 114, 3) := by decide +kernel
theorem dX11_votes_8 : decode cX11_votes 8 = .ok (.ifCond .eq 15, 3) := by decide +kernel
theorem dX11_votes_11 : decode cX11_votes 11 = .ok (.aload_n 0, 1) := by decide +kernel
theorem dX11_votes_12 : decode cX11_votes 12 = .ok (.invokevirtual 133, 3) := by decide +kernel
theorem dX11_votes_15 : decode cX11_votes 15 = .ok (.getfield 144, 3) := by decide +kernel
theorem dX11_votes_18 : decode cX11_votes 18 = .ok (.iload_n 1, 1) := by decide +kernel
theorem dX11_votes_19 : decode cX11_votes 19 = .ok (.iaload, 1) := by decide +kernel
theorem dX11_votes_20 : decode cX11_votes 20 = .ok (.goto 8, 3) := by decide +kernel
theorem dX11_votes_23 : decode cX11_votes 23 = .ok (.aload_n 0, 1) := by decide +kernel
theorem dX11_votes_24 : decode cX11_votes 24 = .ok (.iconst (-1), 1) := by decide +kernel
theorem dX11_votes_25 : decode cX11_votes 25 = .ok (.invokevirtual 92, 3) := by decide +kernel
theorem dX11_votes_28 : decode cX11_votes 28 = .ok (.ireturn, 1) := by decide +kernel
theorem dX11_carries_0 : decode cX11_carries 0 = .ok (.aload_n 0, 1) := by decide +kernel
theorem dX11_carries_1 : decode cX11_carries 1 = .ok (.getfield 77, 3) := by decide +kernel
theorem dX11_carries_4 : decode cX11_carries 4 = .ok (.iload_n 1, 1) := by decide +kernel
theorem dX11_carries_5 : decode cX11_carries 5 = .ok (.invokevirtual 114, 3) := by decide +kernel
theorem dX11_carries_8 : decode cX11_carries 8 = .ok (.ifCond .ne 9, 3) := by decide +kernel
theorem dX11_carries_11 : decode cX11_carries 11 = .ok (.aload_n 0, 1) := by decide +kernel
theorem dX11_carries_12 : decode cX11_carries 12 = .ok (.iconst (-1), 1) := by decide +kernel
theorem dX11_carries_13 : decode cX11_carries 13 = .ok (.invokevirtual 92, 3) := by decide +kernel
theorem dX11_carries_16 : decode cX11_carries 16 = .ok (.ireturn, 1) := by decide +kernel
theorem dX11_carries_17 : decode cX11_carries 17 = .ok (.aload_n 0, 1) := by decide +kernel
theorem dX11_carries_18 : decode cX11_carries 18 = .ok (.invokevirtual 133, 3) := by decide +kernel
theorem dX11_carries_21 : decode cX11_carries 21 = .ok (.getfield 147, 3) := by decide +kernel
theorem dX11_carries_24 : decode cX11_carries 24 = .ok (.iload_n 1, 1) := by decide +kernel
theorem dX11_carries_25 : decode cX11_carries 25 = .ok (.iaload, 1) := by decide +kernel
theorem dX11_carries_26 : decode cX11_carries 26 = .ok (.iload_n 1, 1) := by decide +kernel
theorem dX11_carries_27 : decode cX11_carries 27 = .ok (.if_icmp .ne 7, 3) := by decide +kernel
theorem dX11_carries_30 : decode cX11_carries 30 = .ok (.iconst 1, 1) := by decide +kernel
theorem dX11_carries_31 : decode cX11_carries 31 = .ok (.goto 4, 3) := by decide +kernel
theorem dX11_carries_34 : decode cX11_carries 34 = .ok (.iconst 0, 1) := by decide +kernel
theorem dX11_carries_35 : decode cX11_carries 35 = .ok (.ireturn, 1) := by decide +kernel
theorem dX11_ends_0 : decode cX11_ends 0 = .ok (.aload_n 0, 1) := by decide +kernel
theorem dX11_ends_1 : decode cX11_ends 1 = .ok (.getfield 77, 3) := by decide +kernel
theorem dX11_ends_4 : decode cX11_ends 4 = .ok (.iload_n 1, 1) := by decide +kernel
theorem dX11_ends_5 : decode cX11_ends 5 = .ok (.invokevirtual 114, 3) := by decide +kernel
theorem dX11_ends_8 : decode cX11_ends 8 = .ok (.ifCond .eq 15, 3) := by decide +kernel
theorem dX11_ends_11 : decode cX11_ends 11 = .ok (.aload_n 0, 1) := by decide +kernel
theorem dX11_ends_12 : decode cX11_ends 12 = .ok (.invokevirtual 133, 3) := by decide +kernel
theorem dX11_ends_15 : decode cX11_ends 15 = .ok (.getfield 147, 3) := by decide +kernel
theorem dX11_ends_18 : decode cX11_ends 18 = .ok (.iload_n 1, 1) := by decide +kernel
theorem dX11_ends_19 : decode cX11_ends 19 = .ok (.iaload, 1) := by decide +kernel
theorem dX11_ends_20 : decode cX11_ends 20 = .ok (.goto 8, 3) := by decide +kernel
theorem dX11_ends_23 : decode cX11_ends 23 = .ok (.aload_n 0, 1) := by decide +kernel
theorem dX11_ends_24 : decode cX11_ends 24 = .ok (.iconst (-1), 1) := by decide +kernel
theorem dX11_ends_25 : decode cX11_ends 25 = .ok (.invokevirtual 92, 3) := by decide +kernel
theorem dX11_ends_28 : decode cX11_ends 28 = .ok (.ireturn, 1) := by decide +kernel
theorem dX11_gets_0 : decode cX11_gets 0 = .ok (.aload_n 0, 1) := by decide +kernel
theorem dX11_gets_1 : decode cX11_gets 1 = .ok (.getfield 77, 3) := by decide +kernel
theorem dX11_gets_4 : decode cX11_gets 4 = .ok (.iload_n 1, 1) := by decide +kernel
theorem dX11_gets_5 : decode cX11_gets 5 = .ok (.invokevirtual 114, 3) := by decide +kernel
theorem dX11_gets_8 : decode cX11_gets 8 = .ok (.ifCond .eq 19, 3) := by decide +kernel
theorem dX11_gets_11 : decode cX11_gets 11 = .ok (.aload_n 0, 1) := by decide +kernel
theorem dX11_gets_12 : decode cX11_gets 12 = .ok (.getfield 77, 3) := by decide +kernel
theorem dX11_gets_15 : decode cX11_gets 15 = .ok (.iload_n 2, 1) := by decide +kernel
theorem dX11_gets_16 : decode cX11_gets 16 = .ok (.invokevirtual 114, 3) := by decide +kernel
theorem dX11_gets_19 : decode cX11_gets 19 = .ok (.ifCond .eq 8, 3) := by decide +kernel
theorem dX11_gets_22 : decode cX11_gets 22 = .ok (.iload_n 2, 1) := by decide +kernel
theorem dX11_gets_23 : decode cX11_gets 23 = .ok (.iload_n 1, 1) := by decide +kernel
theorem dX11_gets_24 : decode cX11_gets 24 = .ok (.if_icmp .ge 12, 3) := by decide +kernel
theorem dX11_gets_27 : decode cX11_gets 27 = .ok (.ldc 150, 2) := by decide +kernel
theorem dX11_gets_29 : decode cX11_gets 29 = .ok (.aload_n 0, 1) := by decide +kernel
theorem dX11_gets_30 : decode cX11_gets 30 = .ok (.iconst (-1), 1) := by decide +kernel
theorem dX11_gets_31 : decode cX11_gets 31 = .ok (.invokevirtual 92, 3) := by decide +kernel
theorem dX11_gets_34 : decode cX11_gets 34 = .ok (.isub, 1) := by decide +kernel
theorem dX11_gets_35 : decode cX11_gets 35 = .ok (.ireturn, 1) := by decide +kernel
theorem dX11_gets_36 : decode cX11_gets 36 = .ok (.aload_n 0, 1) := by decide +kernel
theorem dX11_gets_37 : decode cX11_gets 37 = .ok (.invokevirtual 133, 3) := by decide +kernel
theorem dX11_gets_40 : decode cX11_gets 40 = .ok (.getfield 151, 3) := by decide +kernel
theorem dX11_gets_43 : decode cX11_gets 43 = .ok (.iload_n 1, 1) := by decide +kernel
theorem dX11_gets_44 : decode cX11_gets 44 = .ok (.aaload, 1) := by decide +kernel
theorem dX11_gets_45 : decode cX11_gets 45 = .ok (.iload_n 2, 1) := by decide +kernel
theorem dX11_gets_46 : decode cX11_gets 46 = .ok (.iaload, 1) := by decide +kernel
theorem dX11_gets_47 : decode cX11_gets 47 = .ok (.ireturn, 1) := by decide +kernel
theorem dX11_bought_0 : decode cX11_bought 0 = .ok (.aload_n 0, 1) := by decide +kernel
theorem dX11_bought_1 : decode cX11_bought 1 = .ok (.getfield 77, 3) := by decide +kernel
theorem dX11_bought_4 : decode cX11_bought 4 = .ok (.iload_n 1, 1) := by decide +kernel
theorem dX11_bought_5 : decode cX11_bought 5 = .ok (.invokevirtual 114, 3) := by decide +kernel
theorem dX11_bought_8 : decode cX11_bought 8 = .ok (.ifCond .eq 15, 3) := by decide +kernel
theorem dX11_bought_11 : decode cX11_bought 11 = .ok (.aload_n 0, 1) := by decide +kernel
theorem dX11_bought_12 : decode cX11_bought 12 = .ok (.invokevirtual 133, 3) := by decide +kernel
theorem dX11_bought_15 : decode cX11_bought 15 = .ok (.getfield 154, 3) := by decide +kernel
theorem dX11_bought_18 : decode cX11_bought 18 = .ok (.iload_n 1, 1) := by decide +kernel
theorem dX11_bought_19 : decode cX11_bought 19 = .ok (.iaload, 1) := by decide +kernel
theorem dX11_bought_20 : decode cX11_bought 20 = .ok (.goto 8, 3) := by decide +kernel
theorem dX11_bought_23 : decode cX11_bought 23 = .ok (.aload_n 0, 1) := by decide +kernel
theorem dX11_bought_24 : decode cX11_bought 24 = .ok (.iconst (-1), 1) := by decide +kernel
theorem dX11_bought_25 : decode cX11_bought 25 = .ok (.invokevirtual 92, 3) := by decide +kernel
theorem dX11_bought_28 : decode cX11_bought 28 = .ok (.ireturn, 1) := by decide +kernel
theorem dX11_row_0 : decode cX11_row 0 = .ok (.iload_n 1, 1) := by decide +kernel
theorem dX11_row_1 : decode cX11_row 1 = .ok (.ifCond .ge 10, 3) := by decide +kernel
theorem dX11_row_4 : decode cX11_row 4 = .ok (.aload_n 0, 1) := by decide +kernel
theorem dX11_row_5 : decode cX11_row 5 = .ok (.bipush (-4), 2) := by decide +kernel
theorem dX11_row_7 : decode cX11_row 7 = .ok (.invokevirtual 92, 3) := by decide +kernel
theorem dX11_row_10 : decode cX11_row 10 = .ok (.ireturn, 1) := by decide +kernel
theorem dX11_row_11 : decode cX11_row 11 = .ok (.iload_n 1, 1) := by decide +kernel
theorem dX11_row_12 : decode cX11_row 12 = .ok (.bipush 99, 2) := by decide +kernel
theorem dX11_row_14 : decode cX11_row 14 = .ok (.if_icmp .gt 12, 3) := by decide +kernel
theorem dX11_row_17 : decode cX11_row 17 = .ok (.aload_n 0, 1) := by decide +kernel
theorem dX11_row_18 : decode cX11_row 18 = .ok (.getfield 157, 3) := by decide +kernel
theorem dX11_row_21 : decode cX11_row 21 = .ok (.bipush 8, 2) := by decide +kernel
theorem dX11_row_23 : decode cX11_row 23 = .ok (.if_icmp .lt 10, 3) := by decide +kernel
theorem dX11_row_26 : decode cX11_row 26 = .ok (.aload_n 0, 1) := by decide +kernel
theorem dX11_row_27 : decode cX11_row 27 = .ok (.bipush (-6), 2) := by decide +kernel
theorem dX11_row_29 : decode cX11_row 29 = .ok (.invokevirtual 92, 3) := by decide +kernel
theorem dX11_row_32 : decode cX11_row 32 = .ok (.ireturn, 1) := by decide +kernel
theorem dX11_row_33 : decode cX11_row 33 = .ok (.aload_n 0, 1) := by decide +kernel
theorem dX11_row_34 : decode cX11_row 34 = .ok (.getfield 27, 3) := by decide +kernel
theorem dX11_row_37 : decode cX11_row 37 = .ok (.aload_n 0, 1) := by decide +kernel
theorem dX11_row_38 : decode cX11_row 38 = .ok (.getfield 157, 3) := by decide +kernel
theorem dX11_row_41 : decode cX11_row 41 = .ok (.iload_n 1, 1) := by decide +kernel
theorem dX11_row_42 : decode cX11_row 42 = .ok (.iastore, 1) := by decide +kernel
theorem dX11_row_43 : decode cX11_row 43 = .ok (.aload_n 0, 1) := by decide +kernel
theorem dX11_row_44 : decode cX11_row 44 = .ok (.dup, 1) := by decide +kernel
theorem dX11_row_45 : decode cX11_row 45 = .ok (.getfield 157, 3) := by decide +kernel
theorem dX11_row_48 : decode cX11_row 48 = .ok (.iconst 1, 1) := by decide +kernel
theorem dX11_row_49 : decode cX11_row 49 = .ok (.iadd, 1) := by decide +kernel
theorem dX11_row_50 : decode cX11_row 50 = .ok (.putfield 157, 3) := by decide +kernel
theorem dX11_row_53 : decode cX11_row 53 = .ok (.aload_n 0, 1) := by decide +kernel
theorem dX11_row_54 : decode cX11_row 54 = .ok (.getfield 157, 3) := by decide +kernel
theorem dX11_row_57 : decode cX11_row 57 = .ok (.ireturn, 1) := by decide +kernel
theorem dX11_judge_0 : decode cX11_judge 0 = .ok (.aload_n 0, 1) := by decide +kernel
theorem dX11_judge_1 : decode cX11_judge 1 = .ok (.getfield 77, 3) := by decide +kernel
theorem dX11_judge_4 : decode cX11_judge 4 = .ok (.invokevirtual 161, 3) := by decide +kernel
theorem dX11_judge_7 : decode cX11_judge 7 = .ok (.ifCond .eq 10, 3) := by decide +kernel
theorem dX11_judge_10 : decode cX11_judge 10 = .ok (.aload_n 0, 1) := by decide +kernel
theorem dX11_judge_11 : decode cX11_judge 11 = .ok (.bipush (-3), 2) := by decide +kernel
theorem dX11_judge_13 : decode cX11_judge 13 = .ok (.invokevirtual 92, 3) := by decide +kernel
theorem dX11_judge_16 : decode cX11_judge 16 = .ok (.ireturn, 1) := by decide +kernel
theorem dX11_judge_17 : decode cX11_judge 17 = .ok (.iload_n 1, 1) := by decide +kernel
theorem dX11_judge_18 : decode cX11_judge 18 = .ok (.ifCond .ge 10, 3) := by decide +kernel
theorem dX11_judge_21 : decode cX11_judge 21 = .ok (.aload_n 0, 1) := by decide +kernel
theorem dX11_judge_22 : decode cX11_judge 22 = .ok (.bipush (-4), 2) := by decide +kernel
theorem dX11_judge_24 : decode cX11_judge 24 = .ok (.invokevirtual 92, 3) := by decide +kernel
theorem dX11_judge_27 : decode cX11_judge 27 = .ok (.ireturn, 1) := by decide +kernel
theorem dX11_judge_28 : decode cX11_judge 28 = .ok (.aload_n 0, 1) := by decide +kernel
theorem dX11_judge_29 : decode cX11_judge 29 = .ok (.invokevirtual 164, 3) := by decide +kernel
theorem dX11_judge_32 : decode cX11_judge 32 = .ok (.ifCond .eq 11, 3) := by decide +kernel
theorem dX11_judge_35 : decode cX11_judge 35 = .ok (.aload_n 0, 1) := by decide +kernel
theorem dX11_judge_36 : decode cX11_judge 36 = .ok (.iload_n 1, 1) := by decide +kernel
theorem dX11_judge_37 : decode cX11_judge 37 = .ok (.invokevirtual 167, 3) := by decide +kernel
theorem dX11_judge_40 : decode cX11_judge 40 = .ok (.goto 4, 3) := by decide +kernel
theorem dX11_judge_43 : decode cX11_judge 43 = .ok (.iconst 0, 1) := by decide +kernel
theorem dX11_judge_44 : decode cX11_judge 44 = .ok (.ireturn, 1) := by decide +kernel
theorem dX11_goes_0 : decode cX11_goes 0 = .ok (.aload_n 0, 1) := by decide +kernel
theorem dX11_goes_1 : decode cX11_goes 1 = .ok (.getfield 77, 3) := by decide +kernel
theorem dX11_goes_4 : decode cX11_goes 4 = .ok (.invokevirtual 161, 3) := by decide +kernel
theorem dX11_goes_7 : decode cX11_goes 7 = .ok (.ifCond .ne 10, 3) := by decide +kernel
theorem dX11_goes_10 : decode cX11_goes 10 = .ok (.aload_n 0, 1) := by decide +kernel
theorem dX11_goes_11 : decode cX11_goes 11 = .ok (.invokevirtual 164, 3) := by decide +kernel
theorem dX11_goes_14 : decode cX11_goes 14 = .ok (.ifCond .ne 10, 3) := by decide +kernel
theorem dX11_goes_17 : decode cX11_goes 17 = .ok (.aload_n 0, 1) := by decide +kernel
theorem dX11_goes_18 : decode cX11_goes 18 = .ok (.bipush (-3), 2) := by decide +kernel
theorem dX11_goes_20 : decode cX11_goes 20 = .ok (.invokevirtual 92, 3) := by decide +kernel
theorem dX11_goes_23 : decode cX11_goes 23 = .ok (.ireturn, 1) := by decide +kernel
theorem dX11_goes_24 : decode cX11_goes 24 = .ok (.iload_n 1, 1) := by decide +kernel
theorem dX11_goes_25 : decode cX11_goes 25 = .ok (.ifCond .ge 10, 3) := by decide +kernel
theorem dX11_goes_28 : decode cX11_goes 28 = .ok (.aload_n 0, 1) := by decide +kernel
theorem dX11_goes_29 : decode cX11_goes 29 = .ok (.bipush (-4), 2) := by decide +kernel
theorem dX11_goes_31 : decode cX11_goes 31 = .ok (.invokevirtual 92, 3) := by decide +kernel
theorem dX11_goes_34 : decode cX11_goes 34 = .ok (.ireturn, 1) := by decide +kernel
theorem dX11_goes_35 : decode cX11_goes 35 = .ok (.aload_n 0, 1) := by decide +kernel
theorem dX11_goes_36 : decode cX11_goes 36 = .ok (.getfield 77, 3) := by decide +kernel
theorem dX11_goes_39 : decode cX11_goes 39 = .ok (.iload_n 1, 1) := by decide +kernel
theorem dX11_goes_40 : decode cX11_goes 40 = .ok (.aload_n 0, 1) := by decide +kernel
theorem dX11_goes_41 : decode cX11_goes 41 = .ok (.getfield 27, 3) := by decide +kernel
theorem dX11_goes_44 : decode cX11_goes 44 = .ok (.aload_n 0, 1) := by decide +kernel
theorem dX11_goes_45 : decode cX11_goes 45 = .ok (.getfield 77, 3) := by decide +kernel
theorem dX11_goes_48 : decode cX11_goes 48 = .ok (.getfield 170, 3) := by decide +kernel
theorem dX11_goes_51 : decode cX11_goes 51 = .ok (.invokevirtual 173, 3) := by decide +kernel
theorem dX11_goes_54 : decode cX11_goes 54 = .ok (.istore_n 2, 1) := by decide +kernel
theorem dX11_goes_55 : decode cX11_goes 55 = .ok (.aload_n 0, 1) := by decide +kernel
theorem dX11_goes_56 : decode cX11_goes 56 = .ok (.iconst 0, 1) := by decide +kernel
theorem dX11_goes_57 : decode cX11_goes 57 = .ok (.putfield 157, 3) := by decide +kernel
theorem dX11_goes_60 : decode cX11_goes 60 = .ok (.iload_n 2, 1) := by decide +kernel
theorem dX11_goes_61 : decode cX11_goes 61 = .ok (.ireturn, 1) := by decide +kernel
theorem dX11_says_0 : decode cX11_says 0 = .ok (.aload_n 0, 1) := by decide +kernel
theorem dX11_says_1 : decode cX11_says 1 = .ok (.getfield 77, 3) := by decide +kernel
theorem dX11_says_4 : decode cX11_says 4 = .ok (.invokevirtual 161, 3) := by decide +kernel
theorem dX11_says_7 : decode cX11_says 7 = .ok (.ifCond .eq 10, 3) := by decide +kernel
theorem dX11_says_10 : decode cX11_says 10 = .ok (.aload_n 0, 1) := by decide +kernel
theorem dX11_says_11 : decode cX11_says 11 = .ok (.bipush (-3), 2) := by decide +kernel
theorem dX11_says_13 : decode cX11_says 13 = .ok (.invokevirtual 92, 3) := by decide +kernel
theorem dX11_says_16 : decode cX11_says 16 = .ok (.ireturn, 1) := by decide +kernel
theorem dX11_says_17 : decode cX11_says 17 = .ok (.aload_n 0, 1) := by decide +kernel
theorem dX11_says_18 : decode cX11_says 18 = .ok (.invokevirtual 133, 3) := by decide +kernel
theorem dX11_says_21 : decode cX11_says 21 = .ok (.astore_n 1, 1) := by decide +kernel
theorem dX11_says_22 : decode cX11_says 22 = .ok (.aload_n 0, 1) := by decide +kernel
theorem dX11_says_23 : decode cX11_says 23 = .ok (.getfield 77, 3) := by decide +kernel
theorem dX11_says_26 : decode cX11_says 26 = .ok (.aload_n 1, 1) := by decide +kernel
theorem dX11_says_27 : decode cX11_says 27 = .ok (.getfield 144, 3) := by decide +kernel
theorem dX11_says_30 : decode cX11_says 30 = .ok (.aload_n 0, 1) := by decide +kernel
theorem dX11_says_31 : decode cX11_says 31 = .ok (.getfield 77, 3) := by decide +kernel
theorem dX11_says_34 : decode cX11_says 34 = .ok (.getfield 170, 3) := by decide +kernel
theorem dX11_says_37 : decode cX11_says 37 = .ok (.iaload, 1) := by decide +kernel
theorem dX11_says_38 : decode cX11_says 38 = .ok (.aload_n 1, 1) := by decide +kernel
theorem dX11_says_39 : decode cX11_says 39 = .ok (.getfield 137, 3) := by decide +kernel
theorem dX11_says_42 : decode cX11_says 42 = .ok (.aload_n 0, 1) := by decide +kernel
theorem dX11_says_43 : decode cX11_says 43 = .ok (.getfield 77, 3) := by decide +kernel
theorem dX11_says_46 : decode cX11_says 46 = .ok (.getfield 170, 3) := by decide +kernel
theorem dX11_says_49 : decode cX11_says 49 = .ok (.aaload, 1) := by decide +kernel
theorem dX11_says_50 : decode cX11_says 50 = .ok (.iconst 0, 1) := by decide +kernel
theorem dX11_says_51 : decode cX11_says 51 = .ok (.invokevirtual 173, 3) := by decide +kernel
theorem dX11_says_54 : decode cX11_says 54 = .ok (.ireturn, 1) := by decide +kernel
theorem dX11_got_0 : decode cX11_got 0 = .ok (.aload_n 0, 1) := by decide +kernel
theorem dX11_got_1 : decode cX11_got 1 = .ok (.getfield 77, 3) := by decide +kernel
theorem dX11_got_4 : decode cX11_got 4 = .ok (.iload_n 1, 1) := by decide +kernel
theorem dX11_got_5 : decode cX11_got 5 = .ok (.invokevirtual 114, 3) := by decide +kernel
theorem dX11_got_8 : decode cX11_got 8 = .ok (.ifCond .eq 15, 3) := by decide +kernel
theorem dX11_got_11 : decode cX11_got 11 = .ok (.aload_n 0, 1) := by decide +kernel
theorem dX11_got_12 : decode cX11_got 12 = .ok (.getfield 77, 3) := by decide +kernel
theorem dX11_got_15 : decode cX11_got 15 = .ok (.getfield 177, 3) := by decide +kernel
theorem dX11_got_18 : decode cX11_got 18 = .ok (.iload_n 1, 1) := by decide +kernel
theorem dX11_got_19 : decode cX11_got 19 = .ok (.iaload, 1) := by decide +kernel
theorem dX11_got_20 : decode cX11_got 20 = .ok (.goto 11, 3) := by decide +kernel
theorem dX11_got_23 : decode cX11_got 23 = .ok (.ldc 150, 2) := by decide +kernel
theorem dX11_got_25 : decode cX11_got 25 = .ok (.aload_n 0, 1) := by decide +kernel
theorem dX11_got_26 : decode cX11_got 26 = .ok (.iconst (-1), 1) := by decide +kernel
theorem dX11_got_27 : decode cX11_got 27 = .ok (.invokevirtual 92, 3) := by decide +kernel
theorem dX11_got_30 : decode cX11_got 30 = .ok (.isub, 1) := by decide +kernel
theorem dX11_got_31 : decode cX11_got 31 = .ok (.ireturn, 1) := by decide +kernel
theorem dX11_alike_0 : decode cX11_alike 0 = .ok (.iload_n 1, 1) := by decide +kernel
theorem dX11_alike_1 : decode cX11_alike 1 = .ok (.iconst 1, 1) := by decide +kernel
theorem dX11_alike_2 : decode cX11_alike 2 = .ok (.if_icmp .lt 11, 3) := by decide +kernel
theorem dX11_alike_5 : decode cX11_alike 5 = .ok (.iload_n 2, 1) := by decide +kernel
theorem dX11_alike_6 : decode cX11_alike 6 = .ok (.ifCond .lt 7, 3) := by decide +kernel
theorem dX11_alike_9 : decode cX11_alike 9 = .ok (.iload_n 3, 1) := by decide +kernel
theorem dX11_alike_10 : decode cX11_alike 10 = .ok (.ifCond .ge 13, 3) := by decide +kernel
theorem dX11_alike_13 : decode cX11_alike 13 = .ok (.ldc 150, 2) := by decide +kernel
theorem dX11_alike_15 : decode cX11_alike 15 = .ok (.aload_n 0, 1) := by decide +kernel
theorem dX11_alike_16 : decode cX11_alike 16 = .ok (.bipush (-4), 2) := by decide +kernel
theorem dX11_alike_18 : decode cX11_alike 18 = .ok (.invokevirtual 92, 3) := by decide +kernel
theorem dX11_alike_21 : decode cX11_alike 21 = .ok (.isub, 1) := by decide +kernel
theorem dX11_alike_22 : decode cX11_alike 22 = .ok (.ireturn, 1) := by decide +kernel
theorem dX11_alike_23 : decode cX11_alike 23 = .ok (.iload_n 1, 1) := by decide +kernel
theorem dX11_alike_24 : decode cX11_alike 24 = .ok (.bipush 60, 2) := by decide +kernel
theorem dX11_alike_26 : decode cX11_alike 26 = .ok (.if_icmp .gt 14, 3) := by decide +kernel
theorem dX11_alike_29 : decode cX11_alike 29 = .ok (.iload_n 2, 1) := by decide +kernel
theorem dX11_alike_30 : decode cX11_alike 30 = .ok (.bipush 99, 2) := by decide +kernel
theorem dX11_alike_32 : decode cX11_alike 32 = .ok (.if_icmp .gt 8, 3) := by decide +kernel
theorem dX11_alike_35 : decode cX11_alike 35 = .ok (.iload_n 3, 1) := by decide +kernel
theorem dX11_alike_36 : decode cX11_alike 36 = .ok (.iload_n 1, 1) := by decide +kernel
theorem dX11_alike_37 : decode cX11_alike 37 = .ok (.if_icmp .lt 13, 3) := by decide +kernel
theorem dX11_alike_40 : decode cX11_alike 40 = .ok (.ldc 150, 2) := by decide +kernel
theorem dX11_alike_42 : decode cX11_alike 42 = .ok (.aload_n 0, 1) := by decide +kernel
theorem dX11_alike_43 : decode cX11_alike 43 = .ok (.bipush (-6), 2) := by decide +kernel
theorem dX11_alike_45 : decode cX11_alike 45 = .ok (.invokevirtual 92, 3) := by decide +kernel
theorem dX11_alike_48 : decode cX11_alike 48 = .ok (.isub, 1) := by decide +kernel
theorem dX11_alike_49 : decode cX11_alike 49 = .ok (.ireturn, 1) := by decide +kernel
theorem dX11_alike_50 : decode cX11_alike 50 = .ok (.aload_n 0, 1) := by decide +kernel
theorem dX11_alike_51 : decode cX11_alike 51 = .ok (.getfield 88, 3) := by decide +kernel
theorem dX11_alike_54 : decode cX11_alike 54 = .ok (.iload_n 1, 1) := by decide +kernel
theorem dX11_alike_55 : decode cX11_alike 55 = .ok (.iload_n 2, 1) := by decide +kernel
theorem dX11_alike_56 : decode cX11_alike 56 = .ok (.aload_n 0, 1) := by decide +kernel
theorem dX11_alike_57 : decode cX11_alike 57 = .ok (.getfield 77, 3) := by decide +kernel
theorem dX11_alike_60 : decode cX11_alike 60 = .ok (.getfield 130, 3) := by decide +kernel
theorem dX11_alike_63 : decode cX11_alike 63 = .ok (.invokevirtual 180, 3) := by decide +kernel
theorem dX11_alike_66 : decode cX11_alike 66 = .ok (.iload 4, 2) := by decide +kernel
theorem dX11_alike_68 : decode cX11_alike 68 = .ok (.ifCond .eq 22, 3) := by decide +kernel
theorem dX11_alike_71 : decode cX11_alike 71 = .ok (.aload_n 0, 1) := by decide +kernel
theorem dX11_alike_72 : decode cX11_alike 72 = .ok (.getfield 88, 3) := by decide +kernel
theorem dX11_alike_75 : decode cX11_alike 75 = .ok (.getfield 184, 3) := by decide +kernel
theorem dX11_alike_78 : decode cX11_alike 78 = .ok (.iconst 0, 1) := by decide +kernel
theorem dX11_alike_79 : decode cX11_alike 79 = .ok (.iaload, 1) := by decide +kernel
theorem dX11_alike_80 : decode cX11_alike 80 = .ok (.iconst (-1), 1) := by decide +kernel
theorem dX11_alike_81 : decode cX11_alike 81 = .ok (.if_icmp .ne 7, 3) := by decide +kernel
theorem dX11_alike_84 : decode cX11_alike 84 = .ok (.iconst 0, 1) := by decide +kernel
theorem dX11_alike_85 : decode cX11_alike 85 = .ok (.goto 4, 3) := by decide +kernel
theorem dX11_alike_88 : decode cX11_alike 88 = .ok (.iconst 1, 1) := by decide +kernel
theorem dX11_alike_89 : decode cX11_alike 89 = .ok (.ireturn, 1) := by decide +kernel
theorem dX11_alike_90 : decode cX11_alike 90 = .ok (.aload_n 0, 1) := by decide +kernel
theorem dX11_alike_91 : decode cX11_alike 91 = .ok (.getfield 88, 3) := by decide +kernel
theorem dX11_alike_94 : decode cX11_alike 94 = .ok (.getfield 184, 3) := by decide +kernel
theorem dX11_alike_97 : decode cX11_alike 97 = .ok (.iload_n 3, 1) := by decide +kernel
theorem dX11_alike_98 : decode cX11_alike 98 = .ok (.iaload, 1) := by decide +kernel
theorem dX11_alike_99 : decode cX11_alike 99 = .ok (.ireturn, 1) := by decide +kernel
theorem dX11_fewest_0 : decode cX11_fewest 0 = .ok (.aload_n 0, 1) := by decide +kernel
theorem dX11_fewest_1 : decode cX11_fewest 1 = .ok (.getfield 77, 3) := by decide +kernel
theorem dX11_fewest_4 : decode cX11_fewest 4 = .ok (.invokevirtual 161, 3) := by decide +kernel
theorem dX11_fewest_7 : decode cX11_fewest 7 = .ok (.ifCond .eq 10, 3) := by decide +kernel
theorem dX11_fewest_10 : decode cX11_fewest 10 = .ok (.aload_n 0, 1) := by decide +kernel
theorem dX11_fewest_11 : decode cX11_fewest 11 = .ok (.bipush (-3), 2) := by decide +kernel
theorem dX11_fewest_13 : decode cX11_fewest 13 = .ok (.invokevirtual 92, 3) := by decide +kernel
theorem dX11_fewest_16 : decode cX11_fewest 16 = .ok (.ireturn, 1) := by decide +kernel
theorem dX11_fewest_17 : decode cX11_fewest 17 = .ok (.aload_n 0, 1) := by decide +kernel
theorem dX11_fewest_18 : decode cX11_fewest 18 = .ok (.getfield 80, 3) := by decide +kernel
theorem dX11_fewest_21 : decode cX11_fewest 21 = .ok (.aload_n 0, 1) := by decide +kernel
theorem dX11_fewest_22 : decode cX11_fewest 22 = .ok (.getfield 77, 3) := by decide +kernel
theorem dX11_fewest_25 : decode cX11_fewest 25 = .ok (.invokevirtual 186, 3) := by decide +kernel
theorem dX11_fewest_28 : decode cX11_fewest 28 = .ok (.iconst 0, 1) := by decide +kernel
theorem dX11_fewest_29 : decode cX11_fewest 29 = .ok (.istore_n 1, 1) := by decide +kernel
theorem dX11_fewest_30 : decode cX11_fewest 30 = .ok (.iload_n 1, 1) := by decide +kernel
theorem dX11_fewest_31 : decode cX11_fewest 31 = .ok (.bipush 99, 2) := by decide +kernel
theorem dX11_fewest_33 : decode cX11_fewest 33 = .ok (.if_icmp .gt 60, 3) := by decide +kernel
theorem dX11_fewest_36 : decode cX11_fewest 36 = .ok (.aload_n 0, 1) := by decide +kernel
theorem dX11_fewest_37 : decode cX11_fewest 37 = .ok (.getfield 80, 3) := by decide +kernel
theorem dX11_fewest_40 : decode cX11_fewest 40 = .ok (.getfield 130, 3) := by decide +kernel
theorem dX11_fewest_43 : decode cX11_fewest 43 = .ok (.iconst 0, 1) := by decide +kernel
theorem dX11_fewest_44 : decode cX11_fewest 44 = .ok (.iload_n 1, 1) := by decide +kernel
theorem dX11_fewest_45 : decode cX11_fewest 45 = .ok (.iastore, 1) := by decide +kernel
theorem dX11_fewest_46 : decode cX11_fewest 46 = .ok (.aload_n 0, 1) := by decide +kernel
theorem dX11_fewest_47 : decode cX11_fewest 47 = .ok (.getfield 71, 3) := by decide +kernel
theorem dX11_fewest_50 : decode cX11_fewest 50 = .ok (.aload_n 0, 1) := by decide +kernel
theorem dX11_fewest_51 : decode cX11_fewest 51 = .ok (.getfield 77, 3) := by decide +kernel
theorem dX11_fewest_54 : decode cX11_fewest 54 = .ok (.getfield 170, 3) := by decide +kernel
theorem dX11_fewest_57 : decode cX11_fewest 57 = .ok (.invokevirtual 190, 3) := by decide +kernel
theorem dX11_fewest_60 : decode cX11_fewest 60 = .ok (.aload_n 0, 1) := by decide +kernel
theorem dX11_fewest_61 : decode cX11_fewest 61 = .ok (.getfield 71, 3) := by decide +kernel
theorem dX11_fewest_64 : decode cX11_fewest 64 = .ok (.getfield 147, 3) := by decide +kernel
theorem dX11_fewest_67 : decode cX11_fewest 67 = .ok (.aload_n 0, 1) := by decide +kernel
theorem dX11_fewest_68 : decode cX11_fewest 68 = .ok (.getfield 77, 3) := by decide +kernel
theorem dX11_fewest_71 : decode cX11_fewest 71 = .ok (.getfield 170, 3) := by decide +kernel
theorem dX11_fewest_74 : decode cX11_fewest 74 = .ok (.iaload, 1) := by decide +kernel
theorem dX11_fewest_75 : decode cX11_fewest 75 = .ok (.aload_n 0, 1) := by decide +kernel
theorem dX11_fewest_76 : decode cX11_fewest 76 = .ok (.getfield 77, 3) := by decide +kernel
theorem dX11_fewest_79 : decode cX11_fewest 79 = .ok (.getfield 170, 3) := by decide +kernel
theorem dX11_fewest_82 : decode cX11_fewest 82 = .ok (.if_icmp .ne 5, 3) := by decide +kernel
theorem dX11_fewest_85 : decode cX11_fewest 85 = .ok (.iload_n 1, 1) := by decide +kernel
theorem dX11_fewest_86 : decode cX11_fewest 86 = .ok (.ireturn, 1) := by decide +kernel
theorem dX11_fewest_87 : decode cX11_fewest 87 = .ok (.iinc 1 1, 3) := by decide +kernel
theorem dX11_fewest_90 : decode cX11_fewest 90 = .ok (.goto (-60), 3) := by decide +kernel
theorem dX11_fewest_93 : decode cX11_fewest 93 = .ok (.bipush (-9), 2) := by decide +kernel
theorem dX11_fewest_95 : decode cX11_fewest 95 = .ok (.ireturn, 1) := by decide +kernel
theorem dX11_byLaw_0 : decode cX11_byLaw 0 = .ok (.iload_n 1, 1) := by decide +kernel
theorem dX11_byLaw_1 : decode cX11_byLaw 1 = .ok (.ifCond .lt 25, 3) := by decide +kernel
theorem dX11_byLaw_4 : decode cX11_byLaw 4 = .ok (.iload_n 1, 1) := by decide +kernel
theorem dX11_byLaw_5 : decode cX11_byLaw 5 = .ok (.getstatic 127, 3) := by decide +kernel
theorem dX11_byLaw_8 : decode cX11_byLaw 8 = .ok (.iconst 1, 1) := by decide +kernel
theorem dX11_byLaw_9 : decode cX11_byLaw 9 = .ok (.iaload, 1) := by decide +kernel
theorem dX11_byLaw_10 : decode cX11_byLaw 10 = .ok (.if_icmp .gt 16, 3) := by decide +kernel
theorem dX11_byLaw_13 : decode cX11_byLaw 13 = .ok (.iload_n 2, 1) := by decide +kernel
theorem dX11_byLaw_14 : decode cX11_byLaw 14 = .ok (.ifCond .lt 12, 3) := by decide +kernel
theorem dX11_byLaw_17 : decode cX11_byLaw 17 = .ok (.iload_n 2, 1) := by decide +kernel
theorem dX11_byLaw_18 : decode cX11_byLaw 18 = .ok (.getstatic 127, 3) := by decide +kernel
theorem dX11_byLaw_21 : decode cX11_byLaw 21 = .ok (.iconst 2, 1) := by decide +kernel
theorem dX11_byLaw_22 : decode cX11_byLaw 22 = .ok (.iaload, 1) := by decide +kernel
theorem dX11_byLaw_23 : decode cX11_byLaw 23 = .ok (.if_icmp .le 13, 3) := by decide +kernel
theorem dX11_byLaw_26 : decode cX11_byLaw 26 = .ok (.ldc 150, 2) := by decide +kernel
theorem dX11_byLaw_28 : decode cX11_byLaw 28 = .ok (.aload_n 0, 1) := by decide +kernel
theorem dX11_byLaw_29 : decode cX11_byLaw 29 = .ok (.bipush (-2), 2) := by decide +kernel
theorem dX11_byLaw_31 : decode cX11_byLaw 31 = .ok (.invokevirtual 92, 3) := by decide +kernel
theorem dX11_byLaw_34 : decode cX11_byLaw 34 = .ok (.isub, 1) := by decide +kernel
theorem dX11_byLaw_35 : decode cX11_byLaw 35 = .ok (.ireturn, 1) := by decide +kernel
theorem dX11_byLaw_36 : decode cX11_byLaw 36 = .ok (.aload_n 0, 1) := by decide +kernel
theorem dX11_byLaw_37 : decode cX11_byLaw 37 = .ok (.getfield 77, 3) := by decide +kernel
theorem dX11_byLaw_40 : decode cX11_byLaw 40 = .ok (.iload_n 3, 1) := by decide +kernel
theorem dX11_byLaw_41 : decode cX11_byLaw 41 = .ok (.invokevirtual 114, 3) := by decide +kernel
theorem dX11_byLaw_44 : decode cX11_byLaw 44 = .ok (.ifCond .eq 14, 3) := by decide +kernel
theorem dX11_byLaw_47 : decode cX11_byLaw 47 = .ok (.iload_n 3, 1) := by decide +kernel
theorem dX11_byLaw_48 : decode cX11_byLaw 48 = .ok (.aload_n 0, 1) := by decide +kernel
theorem dX11_byLaw_49 : decode cX11_byLaw 49 = .ok (.getfield 77, 3) := by decide +kernel
theorem dX11_byLaw_52 : decode cX11_byLaw 52 = .ok (.getfield 170, 3) := by decide +kernel
theorem dX11_byLaw_55 : decode cX11_byLaw 55 = .ok (.if_icmp .ge 12, 3) := by decide +kernel
theorem dX11_byLaw_58 : decode cX11_byLaw 58 = .ok (.ldc 150, 2) := by decide +kernel
theorem dX11_byLaw_60 : decode cX11_byLaw 60 = .ok (.aload_n 0, 1) := by decide +kernel
theorem dX11_byLaw_61 : decode cX11_byLaw 61 = .ok (.iconst (-1), 1) := by decide +kernel
theorem dX11_byLaw_62 : decode cX11_byLaw 62 = .ok (.invokevirtual 92, 3) := by decide +kernel
theorem dX11_byLaw_65 : decode cX11_byLaw 65 = .ok (.isub, 1) := by decide +kernel
theorem dX11_byLaw_66 : decode cX11_byLaw 66 = .ok (.ireturn, 1) := by decide +kernel
theorem dX11_byLaw_67 : decode cX11_byLaw 67 = .ok (.aload_n 0, 1) := by decide +kernel
theorem dX11_byLaw_68 : decode cX11_byLaw 68 = .ok (.getfield 77, 3) := by decide +kernel
theorem dX11_byLaw_71 : decode cX11_byLaw 71 = .ok (.invokevirtual 161, 3) := by decide +kernel
theorem dX11_byLaw_74 : decode cX11_byLaw 74 = .ok (.ifCond .eq 13, 3) := by decide +kernel
theorem dX11_byLaw_77 : decode cX11_byLaw 77 = .ok (.ldc 150, 2) := by decide +kernel
theorem dX11_byLaw_79 : decode cX11_byLaw 79 = .ok (.aload_n 0, 1) := by decide +kernel
theorem dX11_byLaw_80 : decode cX11_byLaw 80 = .ok (.bipush (-3), 2) := by decide +kernel
theorem dX11_byLaw_82 : decode cX11_byLaw 82 = .ok (.invokevirtual 92, 3) := by decide +kernel
theorem dX11_byLaw_85 : decode cX11_byLaw 85 = .ok (.isub, 1) := by decide +kernel
theorem dX11_byLaw_86 : decode cX11_byLaw 86 = .ok (.ireturn, 1) := by decide +kernel
theorem dX11_byLaw_87 : decode cX11_byLaw 87 = .ok (.aload_n 0, 1) := by decide +kernel
theorem dX11_byLaw_88 : decode cX11_byLaw 88 = .ok (.getfield 80, 3) := by decide +kernel
theorem dX11_byLaw_91 : decode cX11_byLaw 91 = .ok (.aload_n 0, 1) := by decide +kernel
theorem dX11_byLaw_92 : decode cX11_byLaw 92 = .ok (.getfield 77, 3) := by decide +kernel
theorem dX11_byLaw_95 : decode cX11_byLaw 95 = .ok (.invokevirtual 186, 3) := by decide +kernel
theorem dX11_byLaw_98 : decode cX11_byLaw 98 = .ok (.aload_n 0, 1) := by decide +kernel
theorem dX11_byLaw_99 : decode cX11_byLaw 99 = .ok (.getfield 80, 3) := by decide +kernel
theorem dX11_byLaw_102 : decode cX11_byLaw 102 = .ok (.getfield 130, 3) := by decide +kernel
theorem dX11_byLaw_105 : decode cX11_byLaw 105 = .ok (.iconst 1, 1) := by decide +kernel
theorem dX11_byLaw_106 : decode cX11_byLaw 106 = .ok (.iload_n 1, 1) := by decide +kernel
theorem dX11_byLaw_107 : decode cX11_byLaw 107 = .ok (.iastore, 1) := by decide +kernel
theorem dX11_byLaw_108 : decode cX11_byLaw 108 = .ok (.aload_n 0, 1) := by decide +kernel
theorem dX11_byLaw_109 : decode cX11_byLaw 109 = .ok (.getfield 80, 3) := by decide +kernel
theorem dX11_byLaw_112 : decode cX11_byLaw 112 = .ok (.getfield 130, 3) := by decide +kernel
theorem dX11_byLaw_115 : decode cX11_byLaw 115 = .ok (.iconst 2, 1) := by decide +kernel
theorem dX11_byLaw_116 : decode cX11_byLaw 116 = .ok (.iload_n 2, 1) := by decide +kernel
theorem dX11_byLaw_117 : decode cX11_byLaw 117 = .ok (.iastore, 1) := by decide +kernel
theorem dX11_byLaw_118 : decode cX11_byLaw 118 = .ok (.aload_n 0, 1) := by decide +kernel
theorem dX11_byLaw_119 : decode cX11_byLaw 119 = .ok (.getfield 71, 3) := by decide +kernel
theorem dX11_byLaw_122 : decode cX11_byLaw 122 = .ok (.aload_n 0, 1) := by decide +kernel
theorem dX11_byLaw_123 : decode cX11_byLaw 123 = .ok (.getfield 77, 3) := by decide +kernel
theorem dX11_byLaw_126 : decode cX11_byLaw 126 = .ok (.getfield 170, 3) := by decide +kernel
theorem dX11_byLaw_129 : decode cX11_byLaw 129 = .ok (.invokevirtual 190, 3) := by decide +kernel
theorem dX11_byLaw_132 : decode cX11_byLaw 132 = .ok (.aload_n 0, 1) := by decide +kernel
theorem dX11_byLaw_133 : decode cX11_byLaw 133 = .ok (.getfield 71, 3) := by decide +kernel
theorem dX11_byLaw_136 : decode cX11_byLaw 136 = .ok (.getfield 151, 3) := by decide +kernel
theorem dX11_byLaw_139 : decode cX11_byLaw 139 = .ok (.aload_n 0, 1) := by decide +kernel
theorem dX11_byLaw_140 : decode cX11_byLaw 140 = .ok (.getfield 77, 3) := by decide +kernel
theorem dX11_byLaw_143 : decode cX11_byLaw 143 = .ok (.getfield 170, 3) := by decide +kernel
theorem dX11_byLaw_146 : decode cX11_byLaw 146 = .ok (.aaload, 1) := by decide +kernel
theorem dX11_byLaw_147 : decode cX11_byLaw 147 = .ok (.iload_n 3, 1) := by decide +kernel
theorem dX11_byLaw_148 : decode cX11_byLaw 148 = .ok (.iaload, 1) := by decide +kernel
theorem dX11_byLaw_149 : decode cX11_byLaw 149 = .ok (.ireturn, 1) := by decide +kernel
theorem dX11_gains_0 : decode cX11_gains 0 = .ok (.aload_n 0, 1) := by decide +kernel
theorem dX11_gains_1 : decode cX11_gains 1 = .ok (.getfield 77, 3) := by decide +kernel
theorem dX11_gains_4 : decode cX11_gains 4 = .ok (.getfield 193, 3) := by decide +kernel
theorem dX11_gains_7 : decode cX11_gains 7 = .ok (.ifCond .eq 15, 3) := by decide +kernel
theorem dX11_gains_10 : decode cX11_gains 10 = .ok (.aload_n 0, 1) := by decide +kernel
theorem dX11_gains_11 : decode cX11_gains 11 = .ok (.getfield 77, 3) := by decide +kernel
theorem dX11_gains_14 : decode cX11_gains 14 = .ok (.getfield 193, 3) := by decide +kernel
theorem dX11_gains_17 : decode cX11_gains 17 = .ok (.bipush 8, 2) := by decide +kernel
theorem dX11_gains_19 : decode cX11_gains 19 = .ok (.if_icmp .lt 5, 3) := by decide +kernel
theorem dX11_gains_22 : decode cX11_gains 22 = .ok (.iconst 0, 1) := by decide +kernel
theorem dX11_gains_23 : decode cX11_gains 23 = .ok (.ireturn, 1) := by decide +kernel
theorem dX11_gains_24 : decode cX11_gains 24 = .ok (.aload_n 0, 1) := by decide +kernel
theorem dX11_gains_25 : decode cX11_gains 25 = .ok (.getfield 80, 3) := by decide +kernel
theorem dX11_gains_28 : decode cX11_gains 28 = .ok (.aload_n 0, 1) := by decide +kernel
theorem dX11_gains_29 : decode cX11_gains 29 = .ok (.getfield 77, 3) := by decide +kernel
theorem dX11_gains_32 : decode cX11_gains 32 = .ok (.invokevirtual 186, 3) := by decide +kernel
theorem dX11_gains_35 : decode cX11_gains 35 = .ok (.aload_n 0, 1) := by decide +kernel
theorem dX11_gains_36 : decode cX11_gains 36 = .ok (.getfield 80, 3) := by decide +kernel
theorem dX11_gains_39 : decode cX11_gains 39 = .ok (.iconst 0, 1) := by decide +kernel
theorem dX11_gains_40 : decode cX11_gains 40 = .ok (.putfield 193, 3) := by decide +kernel
theorem dX11_gains_43 : decode cX11_gains 43 = .ok (.aload_n 0, 1) := by decide +kernel
theorem dX11_gains_44 : decode cX11_gains 44 = .ok (.getfield 80, 3) := by decide +kernel
theorem dX11_gains_47 : decode cX11_gains 47 = .ok (.iconst 0, 1) := by decide +kernel
theorem dX11_gains_48 : decode cX11_gains 48 = .ok (.iconst 0, 1) := by decide +kernel
theorem dX11_gains_49 : decode cX11_gains 49 = .ok (.iconst 1, 1) := by decide +kernel
theorem dX11_gains_50 : decode cX11_gains 50 = .ok (.invokevirtual 196, 3) := by decide +kernel
theorem dX11_gains_53 : decode cX11_gains 53 = .ok (.iconst 0, 1) := by decide +kernel
theorem dX11_gains_54 : decode cX11_gains 54 = .ok (.istore_n 1, 1) := by decide +kernel
theorem dX11_gains_55 : decode cX11_gains 55 = .ok (.iload_n 1, 1) := by decide +kernel
theorem dX11_gains_56 : decode cX11_gains 56 = .ok (.aload_n 0, 1) := by decide +kernel
theorem dX11_gains_57 : decode cX11_gains 57 = .ok (.getfield 77, 3) := by decide +kernel
theorem dX11_gains_60 : decode cX11_gains 60 = .ok (.getfield 193, 3) := by decide +kernel
theorem dX11_gains_63 : decode cX11_gains 63 = .ok (.if_icmp .ge 43, 3) := by decide +kernel
theorem dX11_gains_66 : decode cX11_gains 66 = .ok (.aload_n 0, 1) := by decide +kernel
theorem dX11_gains_67 : decode cX11_gains 67 = .ok (.getfield 80, 3) := by decide +kernel
theorem dX11_gains_70 : decode cX11_gains 70 = .ok (.aload_n 0, 1) := by decide +kernel
theorem dX11_gains_71 : decode cX11_gains 71 = .ok (.getfield 77, 3) := by decide +kernel
theorem dX11_gains_74 : decode cX11_gains 74 = .ok (.getfield 118, 3) := by decide +kernel
theorem dX11_gains_77 : decode cX11_gains 77 = .ok (.iload_n 1, 1) := by decide +kernel
theorem dX11_gains_78 : decode cX11_gains 78 = .ok (.iaload, 1) := by decide +kernel
theorem dX11_gains_79 : decode cX11_gains 79 = .ok (.aload_n 0, 1) := by decide +kernel
theorem dX11_gains_80 : decode cX11_gains 80 = .ok (.getfield 77, 3) := by decide +kernel
theorem dX11_gains_83 : decode cX11_gains 83 = .ok (.getfield 121, 3) := by decide +kernel
theorem dX11_gains_86 : decode cX11_gains 86 = .ok (.iload_n 1, 1) := by decide +kernel
theorem dX11_gains_87 : decode cX11_gains 87 = .ok (.iaload, 1) := by decide +kernel
theorem dX11_gains_88 : decode cX11_gains 88 = .ok (.aload_n 0, 1) := by decide +kernel
theorem dX11_gains_89 : decode cX11_gains 89 = .ok (.getfield 77, 3) := by decide +kernel
theorem dX11_gains_92 : decode cX11_gains 92 = .ok (.getfield 124, 3) := by decide +kernel
theorem dX11_gains_95 : decode cX11_gains 95 = .ok (.iload_n 1, 1) := by decide +kernel
theorem dX11_gains_96 : decode cX11_gains 96 = .ok (.iaload, 1) := by decide +kernel
theorem dX11_gains_97 : decode cX11_gains 97 = .ok (.invokevirtual 196, 3) := by decide +kernel
theorem dX11_gains_100 : decode cX11_gains 100 = .ok (.iinc 1 1, 3) := by decide +kernel
theorem dX11_gains_103 : decode cX11_gains 103 = .ok (.goto (-48), 3) := by decide +kernel
theorem dX11_gains_106 : decode cX11_gains 106 = .ok (.aload_n 0, 1) := by decide +kernel
theorem dX11_gains_107 : decode cX11_gains 107 = .ok (.getfield 71, 3) := by decide +kernel
theorem dX11_gains_110 : decode cX11_gains 110 = .ok (.iconst 0, 1) := by decide +kernel
theorem dX11_gains_111 : decode cX11_gains 111 = .ok (.invokevirtual 190, 3) := by decide +kernel
theorem dX11_gains_114 : decode cX11_gains 114 = .ok (.aload_n 0, 1) := by decide +kernel
theorem dX11_gains_115 : decode cX11_gains 115 = .ok (.invokevirtual 133, 3) := by decide +kernel
theorem dX11_gains_118 : decode cX11_gains 118 = .ok (.astore_n 1, 1) := by decide +kernel
theorem dX11_gains_119 : decode cX11_gains 119 = .ok (.iconst 0, 1) := by decide +kernel
theorem dX11_gains_120 : decode cX11_gains 120 = .ok (.istore_n 2, 1) := by decide +kernel
theorem dX11_gains_121 : decode cX11_gains 121 = .ok (.iconst 0, 1) := by decide +kernel
theorem dX11_gains_122 : decode cX11_gains 122 = .ok (.istore_n 3, 1) := by decide +kernel
theorem dX11_gains_123 : decode cX11_gains 123 = .ok (.iload_n 3, 1) := by decide +kernel
theorem dX11_gains_124 : decode cX11_gains 124 = .ok (.aload_n 0, 1) := by decide +kernel
theorem dX11_gains_125 : decode cX11_gains 125 = .ok (.getfield 77, 3) := by decide +kernel
theorem dX11_gains_128 : decode cX11_gains 128 = .ok (.getfield 193, 3) := by decide +kernel
theorem dX11_gains_131 : decode cX11_gains 131 = .ok (.if_icmp .ge 39, 3) := by decide +kernel
theorem dX11_gains_134 : decode cX11_gains 134 = .ok (.aload_n 0, 1) := by decide +kernel
theorem dX11_gains_135 : decode cX11_gains 135 = .ok (.getfield 71, 3) := by decide +kernel
theorem dX11_gains_138 : decode cX11_gains 138 = .ok (.getfield 151, 3) := by decide +kernel
theorem dX11_gains_141 : decode cX11_gains 141 = .ok (.iconst 0, 1) := by decide +kernel
theorem dX11_gains_142 : decode cX11_gains 142 = .ok (.aaload, 1) := by decide +kernel
theorem dX11_gains_143 : decode cX11_gains 143 = .ok (.iload_n 3, 1) := by decide +kernel
theorem dX11_gains_144 : decode cX11_gains 144 = .ok (.iconst 1, 1) := by decide +kernel
theorem dX11_gains_145 : decode cX11_gains 145 = .ok (.iadd, 1) := by decide +kernel
theorem dX11_gains_146 : decode cX11_gains 146 = .ok (.iaload, 1) := by decide +kernel
theorem dX11_gains_147 : decode cX11_gains 147 = .ok (.aload_n 1, 1) := by decide +kernel
theorem dX11_gains_148 : decode cX11_gains 148 = .ok (.getfield 151, 3) := by decide +kernel
theorem dX11_gains_151 : decode cX11_gains 151 = .ok (.iconst 0, 1) := by decide +kernel
theorem dX11_gains_152 : decode cX11_gains 152 = .ok (.aaload, 1) := by decide +kernel
theorem dX11_gains_153 : decode cX11_gains 153 = .ok (.iload_n 3, 1) := by decide +kernel
theorem dX11_gains_154 : decode cX11_gains 154 = .ok (.iaload, 1) := by decide +kernel
theorem dX11_gains_155 : decode cX11_gains 155 = .ok (.if_icmp .le 9, 3) := by decide +kernel
theorem dX11_gains_158 : decode cX11_gains 158 = .ok (.iload_n 2, 1) := by decide +kernel
theorem dX11_gains_159 : decode cX11_gains 159 = .ok (.iconst 1, 1) := by decide +kernel
theorem dX11_gains_160 : decode cX11_gains 160 = .ok (.iload_n 3, 1) := by decide +kernel
theorem dX11_gains_161 : decode cX11_gains 161 = .ok (.ishl, 1) := by decide +kernel
theorem dX11_gains_162 : decode cX11_gains 162 = .ok (.ior, 1) := by decide +kernel
theorem dX11_gains_163 : decode cX11_gains 163 = .ok (.istore_n 2, 1) := by decide +kernel
theorem dX11_gains_164 : decode cX11_gains 164 = .ok (.iinc 3 1, 3) := by decide +kernel
theorem dX11_gains_167 : decode cX11_gains 167 = .ok (.goto (-44), 3) := by decide +kernel
theorem dX11_gains_170 : decode cX11_gains 170 = .ok (.iload_n 2, 1) := by decide +kernel
theorem dX11_gains_171 : decode cX11_gains 171 = .ok (.ireturn, 1) := by decide +kernel
theorem dX11_swap_0 : decode cX11_swap 0 = .ok (.aload_n 0, 1) := by decide +kernel
theorem dX11_swap_1 : decode cX11_swap 1 = .ok (.getfield 77, 3) := by decide +kernel
theorem dX11_swap_4 : decode cX11_swap 4 = .ok (.iload_n 1, 1) := by decide +kernel
theorem dX11_swap_5 : decode cX11_swap 5 = .ok (.invokevirtual 114, 3) := by decide +kernel
theorem dX11_swap_8 : decode cX11_swap 8 = .ok (.ifCond .eq 19, 3) := by decide +kernel
theorem dX11_swap_11 : decode cX11_swap 11 = .ok (.aload_n 0, 1) := by decide +kernel
theorem dX11_swap_12 : decode cX11_swap 12 = .ok (.getfield 77, 3) := by decide +kernel
theorem dX11_swap_15 : decode cX11_swap 15 = .ok (.iload_n 2, 1) := by decide +kernel
theorem dX11_swap_16 : decode cX11_swap 16 = .ok (.invokevirtual 114, 3) := by decide +kernel
theorem dX11_swap_19 : decode cX11_swap 19 = .ok (.ifCond .eq 8, 3) := by decide +kernel
theorem dX11_swap_22 : decode cX11_swap 22 = .ok (.iload_n 1, 1) := by decide +kernel
theorem dX11_swap_23 : decode cX11_swap 23 = .ok (.iload_n 2, 1) := by decide +kernel
theorem dX11_swap_24 : decode cX11_swap 24 = .ok (.if_icmp .ne 9, 3) := by decide +kernel
theorem dX11_swap_27 : decode cX11_swap 27 = .ok (.aload_n 0, 1) := by decide +kernel
theorem dX11_swap_28 : decode cX11_swap 28 = .ok (.iconst (-1), 1) := by decide +kernel
theorem dX11_swap_29 : decode cX11_swap 29 = .ok (.invokevirtual 92, 3) := by decide +kernel
theorem dX11_swap_32 : decode cX11_swap 32 = .ok (.ireturn, 1) := by decide +kernel
theorem dX11_swap_33 : decode cX11_swap 33 = .ok (.aload_n 0, 1) := by decide +kernel
theorem dX11_swap_34 : decode cX11_swap 34 = .ok (.getfield 77, 3) := by decide +kernel
theorem dX11_swap_37 : decode cX11_swap 37 = .ok (.invokevirtual 161, 3) := by decide +kernel
theorem dX11_swap_40 : decode cX11_swap 40 = .ok (.ifCond .ne 13, 3) := by decide +kernel
theorem dX11_swap_43 : decode cX11_swap 43 = .ok (.aload_n 0, 1) := by decide +kernel
theorem dX11_swap_44 : decode cX11_swap 44 = .ok (.getfield 77, 3) := by decide +kernel
theorem dX11_swap_47 : decode cX11_swap 47 = .ok (.getfield 170, 3) := by decide +kernel
theorem dX11_swap_50 : decode cX11_swap 50 = .ok (.ifCond .le 10, 3) := by decide +kernel
theorem dX11_swap_53 : decode cX11_swap 53 = .ok (.aload_n 0, 1) := by decide +kernel
theorem dX11_swap_54 : decode cX11_swap 54 = .ok (.bipush (-3), 2) := by decide +kernel
theorem dX11_swap_56 : decode cX11_swap 56 = .ok (.invokevirtual 92, 3) := by decide +kernel
theorem dX11_swap_59 : decode cX11_swap 59 = .ok (.ireturn, 1) := by decide +kernel
theorem dX11_swap_60 : decode cX11_swap 60 = .ok (.aload_n 0, 1) := by decide +kernel
theorem dX11_swap_61 : decode cX11_swap 61 = .ok (.invokevirtual 199, 3) := by decide +kernel
theorem dX11_swap_64 : decode cX11_swap 64 = .ok (.aload_n 0, 1) := by decide +kernel
theorem dX11_swap_65 : decode cX11_swap 65 = .ok (.getfield 23, 3) := by decide +kernel
theorem dX11_swap_68 : decode cX11_swap 68 = .ok (.iload_n 1, 1) := by decide +kernel
theorem dX11_swap_69 : decode cX11_swap 69 = .ok (.iload_n 2, 1) := by decide +kernel
theorem dX11_swap_70 : decode cX11_swap 70 = .ok (.iastore, 1) := by decide +kernel
theorem dX11_swap_71 : decode cX11_swap 71 = .ok (.aload_n 0, 1) := by decide +kernel
theorem dX11_swap_72 : decode cX11_swap 72 = .ok (.getfield 23, 3) := by decide +kernel
theorem dX11_swap_75 : decode cX11_swap 75 = .ok (.iload_n 2, 1) := by decide +kernel
theorem dX11_swap_76 : decode cX11_swap 76 = .ok (.iload_n 1, 1) := by decide +kernel
theorem dX11_swap_77 : decode cX11_swap 77 = .ok (.iastore, 1) := by decide +kernel
theorem dX11_swap_78 : decode cX11_swap 78 = .ok (.aload_n 0, 1) := by decide +kernel
theorem dX11_swap_79 : decode cX11_swap 79 = .ok (.invokevirtual 202, 3) := by decide +kernel
theorem dX11_swap_82 : decode cX11_swap 82 = .ok (.aload_n 0, 1) := by decide +kernel
theorem dX11_swap_83 : decode cX11_swap 83 = .ok (.getfield 77, 3) := by decide +kernel
theorem dX11_swap_86 : decode cX11_swap 86 = .ok (.aload_n 0, 1) := by decide +kernel
theorem dX11_swap_87 : decode cX11_swap 87 = .ok (.getfield 80, 3) := by decide +kernel
theorem dX11_swap_90 : decode cX11_swap 90 = .ok (.invokevirtual 186, 3) := by decide +kernel
theorem dX11_swap_93 : decode cX11_swap 93 = .ok (.aload_n 0, 1) := by decide +kernel
theorem dX11_swap_94 : decode cX11_swap 94 = .ok (.iconst 1, 1) := by decide +kernel
theorem dX11_swap_95 : decode cX11_swap 95 = .ok (.putfield 37, 3) := by decide +kernel
theorem dX11_swap_98 : decode cX11_swap 98 = .ok (.iconst 1, 1) := by decide +kernel
theorem dX11_swap_99 : decode cX11_swap 99 = .ok (.ireturn, 1) := by decide +kernel
theorem dX11_bestAge_0 : decode cX11_bestAge 0 = .ok (.aload_n 0, 1) := by decide +kernel
theorem dX11_bestAge_1 : decode cX11_bestAge 1 = .ok (.getfield 77, 3) := by decide +kernel
theorem dX11_bestAge_4 : decode cX11_bestAge 4 = .ok (.iload_n 1, 1) := by decide +kernel
theorem dX11_bestAge_5 : decode cX11_bestAge 5 = .ok (.invokevirtual 114, 3) := by decide +kernel
theorem dX11_bestAge_8 : decode cX11_bestAge 8 = .ok (.ifCond .ne 9, 3) := by decide +kernel
theorem dX11_bestAge_11 : decode cX11_bestAge 11 = .ok (.aload_n 0, 1) := by decide +kernel
theorem dX11_bestAge_12 : decode cX11_bestAge 12 = .ok (.iconst (-1), 1) := by decide +kernel
theorem dX11_bestAge_13 : decode cX11_bestAge 13 = .ok (.invokevirtual 92, 3) := by decide +kernel
theorem dX11_bestAge_16 : decode cX11_bestAge 16 = .ok (.ireturn, 1) := by decide +kernel
theorem dX11_bestAge_17 : decode cX11_bestAge 17 = .ok (.iconst 0, 1) := by decide +kernel
theorem dX11_bestAge_18 : decode cX11_bestAge 18 = .ok (.istore_n 2, 1) := by decide +kernel
theorem dX11_bestAge_19 : decode cX11_bestAge 19 = .ok (.iconst (-1), 1) := by decide +kernel
theorem dX11_bestAge_20 : decode cX11_bestAge 20 = .ok (.istore_n 3, 1) := by decide +kernel
theorem dX11_bestAge_21 : decode cX11_bestAge 21 = .ok (.iconst 0, 1) := by decide +kernel
theorem dX11_bestAge_22 : decode cX11_bestAge 22 = .ok (.istore 4, 2) := by decide +kernel
theorem dX11_bestAge_24 : decode cX11_bestAge 24 = .ok (.iload 4, 2) := by decide +kernel
theorem dX11_bestAge_26 : decode cX11_bestAge 26 = .ok (.aload_n 0, 1) := by decide +kernel
theorem dX11_bestAge_27 : decode cX11_bestAge 27 = .ok (.getfield 77, 3) := by decide +kernel
theorem dX11_bestAge_30 : decode cX11_bestAge 30 = .ok (.getfield 193, 3) := by decide +kernel
theorem dX11_bestAge_33 : decode cX11_bestAge 33 = .ok (.if_icmp .ge 60, 3) := by decide +kernel
theorem dX11_bestAge_36 : decode cX11_bestAge 36 = .ok (.aload_n 0, 1) := by decide +kernel
theorem dX11_bestAge_37 : decode cX11_bestAge 37 = .ok (.iload_n 1, 1) := by decide +kernel
theorem dX11_bestAge_38 : decode cX11_bestAge 38 = .ok (.iload 4, 2) := by decide +kernel
theorem dX11_bestAge_40 : decode cX11_bestAge 40 = .ok (.invokevirtual 205, 3) := by decide +kernel
theorem dX11_bestAge_43 : decode cX11_bestAge 43 = .ok (.aload_n 0, 1) := by decide +kernel
theorem dX11_bestAge_44 : decode cX11_bestAge 44 = .ok (.invokevirtual 202, 3) := by decide +kernel
theorem dX11_bestAge_47 : decode cX11_bestAge 47 = .ok (.aload_n 0, 1) := by decide +kernel
theorem dX11_bestAge_48 : decode cX11_bestAge 48 = .ok (.getfield 71, 3) := by decide +kernel
theorem dX11_bestAge_51 : decode cX11_bestAge 51 = .ok (.iconst 0, 1) := by decide +kernel
theorem dX11_bestAge_52 : decode cX11_bestAge 52 = .ok (.invokevirtual 190, 3) := by decide +kernel
theorem dX11_bestAge_55 : decode cX11_bestAge 55 = .ok (.aload_n 0, 1) := by decide +kernel
theorem dX11_bestAge_56 : decode cX11_bestAge 56 = .ok (.getfield 71, 3) := by decide +kernel
theorem dX11_bestAge_59 : decode cX11_bestAge 59 = .ok (.getfield 151, 3) := by decide +kernel
theorem dX11_bestAge_62 : decode cX11_bestAge 62 = .ok (.iconst 0, 1) := by decide +kernel
theorem dX11_bestAge_63 : decode cX11_bestAge 63 = .ok (.aaload, 1) := by decide +kernel
theorem dX11_bestAge_64 : decode cX11_bestAge 64 = .ok (.iload 4, 2) := by decide +kernel
theorem dX11_bestAge_66 : decode cX11_bestAge 66 = .ok (.iaload, 1) := by decide +kernel
theorem dX11_bestAge_67 : decode cX11_bestAge 67 = .ok (.iload_n 3, 1) := by decide +kernel
theorem dX11_bestAge_68 : decode cX11_bestAge 68 = .ok (.if_icmp .le 19, 3) := by decide +kernel
theorem dX11_bestAge_71 : decode cX11_bestAge 71 = .ok (.aload_n 0, 1) := by decide +kernel
theorem dX11_bestAge_72 : decode cX11_bestAge 72 = .ok (.getfield 71, 3) := by decide +kernel
theorem dX11_bestAge_75 : decode cX11_bestAge 75 = .ok (.getfield 151, 3) := by decide +kernel
theorem dX11_bestAge_78 : decode cX11_bestAge 78 = .ok (.iconst 0, 1) := by decide +kernel
theorem dX11_bestAge_79 : decode cX11_bestAge 79 = .ok (.aaload, 1) := by decide +kernel
theorem dX11_bestAge_80 : decode cX11_bestAge 80 = .ok (.iload 4, 2) := by decide +kernel
theorem dX11_bestAge_82 : decode cX11_bestAge 82 = .ok (.iaload, 1) := by decide +kernel
theorem dX11_bestAge_83 : decode cX11_bestAge 83 = .ok (.istore_n 3, 1) := by decide +kernel
theorem dX11_bestAge_84 : decode cX11_bestAge 84 = .ok (.iload 4, 2) := by decide +kernel
theorem dX11_bestAge_86 : decode cX11_bestAge 86 = .ok (.istore_n 2, 1) := by decide +kernel
theorem dX11_bestAge_87 : decode cX11_bestAge 87 = .ok (.iinc 4 1, 3) := by decide +kernel
theorem dX11_bestAge_90 : decode cX11_bestAge 90 = .ok (.goto (-66), 3) := by decide +kernel
theorem dX11_bestAge_93 : decode cX11_bestAge 93 = .ok (.iload_n 2, 1) := by decide +kernel
theorem dX11_bestAge_94 : decode cX11_bestAge 94 = .ok (.ireturn, 1) := by decide +kernel
theorem dX11_league_0 : decode cX11_league 0 = .ok (.aload_n 0, 1) := by decide +kernel
theorem dX11_league_1 : decode cX11_league 1 = .ok (.getfield 77, 3) := by decide +kernel
theorem dX11_league_4 : decode cX11_league 4 = .ok (.invokevirtual 161, 3) := by decide +kernel
theorem dX11_league_7 : decode cX11_league 7 = .ok (.ifCond .eq 10, 3) := by decide +kernel
theorem dX11_league_10 : decode cX11_league 10 = .ok (.aload_n 0, 1) := by decide +kernel
theorem dX11_league_11 : decode cX11_league 11 = .ok (.bipush (-3), 2) := by decide +kernel
theorem dX11_league_13 : decode cX11_league 13 = .ok (.invokevirtual 92, 3) := by decide +kernel
theorem dX11_league_16 : decode cX11_league 16 = .ok (.ireturn, 1) := by decide +kernel
theorem dX11_league_17 : decode cX11_league 17 = .ok (.iconst 1, 1) := by decide +kernel
theorem dX11_league_18 : decode cX11_league 18 = .ok (.aload_n 0, 1) := by decide +kernel
theorem dX11_league_19 : decode cX11_league 19 = .ok (.getfield 77, 3) := by decide +kernel
theorem dX11_league_22 : decode cX11_league 22 = .ok (.getfield 193, 3) := by decide +kernel
theorem dX11_league_25 : decode cX11_league 25 = .ok (.ishl, 1) := by decide +kernel
theorem dX11_league_26 : decode cX11_league 26 = .ok (.iconst 2, 1) := by decide +kernel
theorem dX11_league_27 : decode cX11_league 27 = .ok (.aload_n 0, 1) := by decide +kernel
theorem dX11_league_28 : decode cX11_league 28 = .ok (.getfield 77, 3) := by decide +kernel
theorem dX11_league_31 : decode cX11_league 31 = .ok (.getfield 170, 3) := by decide +kernel
theorem dX11_league_34 : decode cX11_league 34 = .ok (.ishl, 1) := by decide +kernel
theorem dX11_league_35 : decode cX11_league 35 = .ok (.isub, 1) := by decide +kernel
theorem dX11_league_36 : decode cX11_league 36 = .ok (.istore_n 2, 1) := by decide +kernel
theorem dX11_league_37 : decode cX11_league 37 = .ok (.iload_n 1, 1) := by decide +kernel
theorem dX11_league_38 : decode cX11_league 38 = .ok (.iload_n 2, 1) := by decide +kernel
theorem dX11_league_39 : decode cX11_league 39 = .ok (.iconst (-1), 1) := by decide +kernel
theorem dX11_league_40 : decode cX11_league 40 = .ok (.ixor, 1) := by decide +kernel
theorem dX11_league_41 : decode cX11_league 41 = .ok (.iand, 1) := by decide +kernel
theorem dX11_league_42 : decode cX11_league 42 = .ok (.ifCond .ne 11, 3) := by decide +kernel
theorem dX11_league_45 : decode cX11_league 45 = .ok (.iload_n 1, 1) := by decide +kernel
theorem dX11_league_46 : decode cX11_league 46 = .ok (.invokestatic 209, 3) := by decide +kernel
theorem dX11_league_49 : decode cX11_league 49 = .ok (.iconst 2, 1) := by decide +kernel
theorem dX11_league_50 : decode cX11_league 50 = .ok (.if_icmp .ge 9, 3) := by decide +kernel
theorem dX11_league_53 : decode cX11_league 53 = .ok (.aload_n 0, 1) := by decide +kernel
theorem dX11_league_54 : decode cX11_league 54 = .ok (.iconst (-1), 1) := by decide +kernel
theorem dX11_league_55 : decode cX11_league 55 = .ok (.invokevirtual 92, 3) := by decide +kernel
theorem dX11_league_58 : decode cX11_league 58 = .ok (.ireturn, 1) := by decide +kernel
theorem dX11_league_59 : decode cX11_league 59 = .ok (.aload_n 0, 1) := by decide +kernel
theorem dX11_league_60 : decode cX11_league 60 = .ok (.invokevirtual 133, 3) := by decide +kernel
theorem dX11_league_63 : decode cX11_league 63 = .ok (.aload_n 0, 1) := by decide +kernel
theorem dX11_league_64 : decode cX11_league 64 = .ok (.getfield 77, 3) := by decide +kernel
theorem dX11_league_67 : decode cX11_league 67 = .ok (.getfield 170, 3) := by decide +kernel
theorem dX11_league_70 : decode cX11_league 70 = .ok (.iload_n 1, 1) := by decide +kernel
theorem dX11_league_71 : decode cX11_league 71 = .ok (.invokevirtual 214, 3) := by decide +kernel
theorem dX11_league_74 : decode cX11_league 74 = .ok (.ifCond .eq 7, 3) := by decide +kernel
theorem dX11_league_77 : decode cX11_league 77 = .ok (.iconst 1, 1) := by decide +kernel
theorem dX11_league_78 : decode cX11_league 78 = .ok (.goto 4, 3) := by decide +kernel
theorem dX11_league_81 : decode cX11_league 81 = .ok (.iconst 0, 1) := by decide +kernel
theorem dX11_league_82 : decode cX11_league 82 = .ok (.ireturn, 1) := by decide +kernel
theorem dX11_shaken_0 : decode cX11_shaken 0 = .ok (.iload_n 1, 1) := by decide +kernel
theorem dX11_shaken_1 : decode cX11_shaken 1 = .ok (.ifCond .lt 8, 3) := by decide +kernel
theorem dX11_shaken_4 : decode cX11_shaken 4 = .ok (.iload_n 1, 1) := by decide +kernel
theorem dX11_shaken_5 : decode cX11_shaken 5 = .ok (.iconst 1, 1) := by decide +kernel
theorem dX11_shaken_6 : decode cX11_shaken 6 = .ok (.if_icmp .le 15, 3) := by decide +kernel
theorem dX11_shaken_9 : decode cX11_shaken 9 = .ok (.ldc2_w 218, 3) := by decide +kernel
theorem dX11_shaken_12 : decode cX11_shaken 12 = .ok (.aload_n 0, 1) := by decide +kernel
theorem dX11_shaken_13 : decode cX11_shaken 13 = .ok (.bipush (-2), 2) := by decide +kernel
theorem dX11_shaken_15 : decode cX11_shaken 15 = .ok (.invokevirtual 92, 3) := by decide +kernel
theorem dX11_shaken_18 : decode cX11_shaken 18 = .ok (.i2l, 1) := by decide +kernel
theorem dX11_shaken_19 : decode cX11_shaken 19 = .ok (.lsub, 1) := by decide +kernel
theorem dX11_shaken_20 : decode cX11_shaken 20 = .ok (.lreturn, 1) := by decide +kernel
theorem dX11_shaken_21 : decode cX11_shaken 21 = .ok (.aload_n 0, 1) := by decide +kernel
theorem dX11_shaken_22 : decode cX11_shaken 22 = .ok (.getfield 77, 3) := by decide +kernel
theorem dX11_shaken_25 : decode cX11_shaken 25 = .ok (.invokevirtual 161, 3) := by decide +kernel
theorem dX11_shaken_28 : decode cX11_shaken 28 = .ok (.ifCond .eq 15, 3) := by decide +kernel
theorem dX11_shaken_31 : decode cX11_shaken 31 = .ok (.ldc2_w 218, 3) := by decide +kernel
theorem dX11_shaken_34 : decode cX11_shaken 34 = .ok (.aload_n 0, 1) := by decide +kernel
theorem dX11_shaken_35 : decode cX11_shaken 35 = .ok (.bipush (-3), 2) := by decide +kernel
theorem dX11_shaken_37 : decode cX11_shaken 37 = .ok (.invokevirtual 92, 3) := by decide +kernel
theorem dX11_shaken_40 : decode cX11_shaken 40 = .ok (.i2l, 1) := by decide +kernel
theorem dX11_shaken_41 : decode cX11_shaken 41 = .ok (.lsub, 1) := by decide +kernel
theorem dX11_shaken_42 : decode cX11_shaken 42 = .ok (.lreturn, 1) := by decide +kernel
theorem dX11_shaken_43 : decode cX11_shaken 43 = .ok (.aload_n 0, 1) := by decide +kernel
theorem dX11_shaken_44 : decode cX11_shaken 44 = .ok (.aload_n 0, 1) := by decide +kernel
theorem dX11_shaken_45 : decode cX11_shaken 45 = .ok (.invokevirtual 133, 3) := by decide +kernel
theorem dX11_shaken_48 : decode cX11_shaken 48 = .ok (.getfield 144, 3) := by decide +kernel
theorem dX11_shaken_51 : decode cX11_shaken 51 = .ok (.aload_n 0, 1) := by decide +kernel
theorem dX11_shaken_52 : decode cX11_shaken 52 = .ok (.getfield 77, 3) := by decide +kernel
theorem dX11_shaken_55 : decode cX11_shaken 55 = .ok (.getfield 170, 3) := by decide +kernel
theorem dX11_shaken_58 : decode cX11_shaken 58 = .ok (.iaload, 1) := by decide +kernel
theorem dX11_shaken_59 : decode cX11_shaken 59 = .ok (.invokevirtual 220, 3) := by decide +kernel
theorem dX11_shaken_62 : decode cX11_shaken 62 = .ok (.lstore_n 2, 1) := by decide +kernel
theorem dX11_shaken_63 : decode cX11_shaken 63 = .ok (.aload_n 0, 1) := by decide +kernel
theorem dX11_shaken_64 : decode cX11_shaken 64 = .ok (.invokevirtual 224, 3) := by decide +kernel
theorem dX11_shaken_67 : decode cX11_shaken 67 = .ok (.lstore 4, 2) := by decide +kernel
theorem dX11_shaken_69 : decode cX11_shaken 69 = .ok (.lload 4, 2) := by decide +kernel
theorem dX11_shaken_71 : decode cX11_shaken 71 = .ok (.lload_n 2, 1) := by decide +kernel
theorem dX11_shaken_72 : decode cX11_shaken 72 = .ok (.invokestatic 228, 3) := by decide +kernel
theorem dX11_shaken_75 : decode cX11_shaken 75 = .ok (.lstore 6, 2) := by decide +kernel
theorem dX11_shaken_77 : decode cX11_shaken 77 = .ok (.lload 6, 2) := by decide +kernel
theorem dX11_shaken_79 : decode cX11_shaken 79 = .ok (.lconst 0, 1) := by decide +kernel
theorem dX11_shaken_80 : decode cX11_shaken 80 = .ok (.lcmp, 1) := by decide +kernel
theorem dX11_shaken_81 : decode cX11_shaken 81 = .ok (.ifCond .gt 5, 3) := by decide +kernel
theorem dX11_shaken_84 : decode cX11_shaken 84 = .ok (.lconst 0, 1) := by decide +kernel
theorem dX11_shaken_85 : decode cX11_shaken 85 = .ok (.lreturn, 1) := by decide +kernel
theorem dX11_shaken_86 : decode cX11_shaken 86 = .ok (.iload_n 1, 1) := by decide +kernel
theorem dX11_shaken_87 : decode cX11_shaken 87 = .ok (.ifCond .ne 8, 3) := by decide +kernel
theorem dX11_shaken_90 : decode cX11_shaken 90 = .ok (.lload 4, 2) := by decide +kernel
theorem dX11_shaken_92 : decode cX11_shaken 92 = .ok (.goto 4, 3) := by decide +kernel
theorem dX11_shaken_95 : decode cX11_shaken 95 = .ok (.lload_n 2, 1) := by decide +kernel
theorem dX11_shaken_96 : decode cX11_shaken 96 = .ok (.lload 6, 2) := by decide +kernel
theorem dX11_shaken_98 : decode cX11_shaken 98 = .ok (.ldiv, 1) := by decide +kernel
theorem dX11_shaken_99 : decode cX11_shaken 99 = .ok (.lreturn, 1) := by decide +kernel
theorem dX11_seeds_0 : decode cX11_seeds 0 = .ok (.aload_n 0, 1) := by decide +kernel
theorem dX11_seeds_1 : decode cX11_seeds 1 = .ok (.getfield 77, 3) := by decide +kernel
theorem dX11_seeds_4 : decode cX11_seeds 4 = .ok (.iload_n 1, 1) := by decide +kernel
theorem dX11_seeds_5 : decode cX11_seeds 5 = .ok (.invokevirtual 114, 3) := by decide +kernel
theorem dX11_seeds_8 : decode cX11_seeds 8 = .ok (.ifCond .ne 9, 3) := by decide +kernel
theorem dX11_seeds_11 : decode cX11_seeds 11 = .ok (.aload_n 0, 1) := by decide +kernel
theorem dX11_seeds_12 : decode cX11_seeds 12 = .ok (.iconst (-1), 1) := by decide +kernel
theorem dX11_seeds_13 : decode cX11_seeds 13 = .ok (.invokevirtual 92, 3) := by decide +kernel
theorem dX11_seeds_16 : decode cX11_seeds 16 = .ok (.ireturn, 1) := by decide +kernel
theorem dX11_seeds_17 : decode cX11_seeds 17 = .ok (.iload_n 2, 1) := by decide +kernel
theorem dX11_seeds_18 : decode cX11_seeds 18 = .ok (.iconst 1, 1) := by decide +kernel
theorem dX11_seeds_19 : decode cX11_seeds 19 = .ok (.if_icmp .ge 10, 3) := by decide +kernel
theorem dX11_seeds_22 : decode cX11_seeds 22 = .ok (.aload_n 0, 1) := by decide +kernel
theorem dX11_seeds_23 : decode cX11_seeds 23 = .ok (.bipush (-4), 2) := by decide +kernel
theorem dX11_seeds_25 : decode cX11_seeds 25 = .ok (.invokevirtual 92, 3) := by decide +kernel
theorem dX11_seeds_28 : decode cX11_seeds 28 = .ok (.ireturn, 1) := by decide +kernel
theorem dX11_seeds_29 : decode cX11_seeds 29 = .ok (.iload_n 2, 1) := by decide +kernel
theorem dX11_seeds_30 : decode cX11_seeds 30 = .ok (.bipush 30, 2) := by decide +kernel
theorem dX11_seeds_32 : decode cX11_seeds 32 = .ok (.if_icmp .le 10, 3) := by decide +kernel
theorem dX11_seeds_35 : decode cX11_seeds 35 = .ok (.aload_n 0, 1) := by decide +kernel
theorem dX11_seeds_36 : decode cX11_seeds 36 = .ok (.bipush (-6), 2) := by decide +kernel
theorem dX11_seeds_38 : decode cX11_seeds 38 = .ok (.invokevirtual 92, 3) := by decide +kernel
theorem dX11_seeds_41 : decode cX11_seeds 41 = .ok (.ireturn, 1) := by decide +kernel
theorem dX11_seeds_42 : decode cX11_seeds 42 = .ok (.iload_n 3, 1) := by decide +kernel
theorem dX11_seeds_43 : decode cX11_seeds 43 = .ok (.istore 4, 2) := by decide +kernel
theorem dX11_seeds_45 : decode cX11_seeds 45 = .ok (.iconst 0, 1) := by decide +kernel
theorem dX11_seeds_46 : decode cX11_seeds 46 = .ok (.istore 5, 2) := by decide +kernel
theorem dX11_seeds_48 : decode cX11_seeds 48 = .ok (.iconst 0, 1) := by decide +kernel
theorem dX11_seeds_49 : decode cX11_seeds 49 = .ok (.istore 6, 2) := by decide +kernel
theorem dX11_seeds_51 : decode cX11_seeds 51 = .ok (.iload 6, 2) := by decide +kernel
theorem dX11_seeds_53 : decode cX11_seeds 53 = .ok (.iload_n 2, 1) := by decide +kernel
theorem dX11_seeds_54 : decode cX11_seeds 54 = .ok (.if_icmp .ge 53, 3) := by decide +kernel
theorem dX11_seeds_57 : decode cX11_seeds 57 = .ok (.aload_n 0, 1) := by decide +kernel
theorem dX11_seeds_58 : decode cX11_seeds 58 = .ok (.iload 4, 2) := by decide +kernel
theorem dX11_seeds_60 : decode cX11_seeds 60 = .ok (.invokevirtual 232, 3) := by decide +kernel
theorem dX11_seeds_63 : decode cX11_seeds 63 = .ok (.istore 4, 2) := by decide +kernel
theorem dX11_seeds_65 : decode cX11_seeds 65 = .ok (.aload_n 0, 1) := by decide +kernel
theorem dX11_seeds_66 : decode cX11_seeds 66 = .ok (.invokevirtual 202, 3) := by decide +kernel
theorem dX11_seeds_69 : decode cX11_seeds 69 = .ok (.aload_n 0, 1) := by decide +kernel
theorem dX11_seeds_70 : decode cX11_seeds 70 = .ok (.getfield 71, 3) := by decide +kernel
theorem dX11_seeds_73 : decode cX11_seeds 73 = .ok (.iconst 0, 1) := by decide +kernel
theorem dX11_seeds_74 : decode cX11_seeds 74 = .ok (.invokevirtual 190, 3) := by decide +kernel
theorem dX11_seeds_77 : decode cX11_seeds 77 = .ok (.iload 5, 2) := by decide +kernel
theorem dX11_seeds_79 : decode cX11_seeds 79 = .ok (.iconst 0, 1) := by decide +kernel
theorem dX11_seeds_80 : decode cX11_seeds 80 = .ok (.aload_n 0, 1) := by decide +kernel
theorem dX11_seeds_81 : decode cX11_seeds 81 = .ok (.getfield 71, 3) := by decide +kernel
theorem dX11_seeds_84 : decode cX11_seeds 84 = .ok (.getfield 151, 3) := by decide +kernel
theorem dX11_seeds_87 : decode cX11_seeds 87 = .ok (.iconst 0, 1) := by decide +kernel
theorem dX11_seeds_88 : decode cX11_seeds 88 = .ok (.aaload, 1) := by decide +kernel
theorem dX11_seeds_89 : decode cX11_seeds 89 = .ok (.aload_n 0, 1) := by decide +kernel
theorem dX11_seeds_90 : decode cX11_seeds 90 = .ok (.iload_n 1, 1) := by decide +kernel
theorem dX11_seeds_91 : decode cX11_seeds 91 = .ok (.invokevirtual 235, 3) := by decide +kernel
theorem dX11_seeds_94 : decode cX11_seeds 94 = .ok (.iaload, 1) := by decide +kernel
theorem dX11_seeds_95 : decode cX11_seeds 95 = .ok (.invokestatic 238, 3) := by decide +kernel
theorem dX11_seeds_98 : decode cX11_seeds 98 = .ok (.iadd, 1) := by decide +kernel
theorem dX11_seeds_99 : decode cX11_seeds 99 = .ok (.istore 5, 2) := by decide +kernel
theorem dX11_seeds_101 : decode cX11_seeds 101 = .ok (.iinc 6 1, 3) := by decide +kernel
theorem dX11_seeds_104 : decode cX11_seeds 104 = .ok (.goto (-53), 3) := by decide +kernel
theorem dX11_seeds_107 : decode cX11_seeds 107 = .ok (.iload 5, 2) := by decide +kernel
theorem dX11_seeds_109 : decode cX11_seeds 109 = .ok (.ireturn, 1) := by decide +kernel
theorem dX11_clear_0 : decode cX11_clear 0 = .ok (.aload_n 0, 1) := by decide +kernel
theorem dX11_clear_1 : decode cX11_clear 1 = .ok (.getfield 157, 3) := by decide +kernel
theorem dX11_clear_4 : decode cX11_clear 4 = .ok (.istore_n 1, 1) := by decide +kernel
theorem dX11_clear_5 : decode cX11_clear 5 = .ok (.aload_n 0, 1) := by decide +kernel
theorem dX11_clear_6 : decode cX11_clear 6 = .ok (.iconst 0, 1) := by decide +kernel
theorem dX11_clear_7 : decode cX11_clear 7 = .ok (.putfield 157, 3) := by decide +kernel
theorem dX11_clear_10 : decode cX11_clear 10 = .ok (.iload_n 1, 1) := by decide +kernel
theorem dX11_clear_11 : decode cX11_clear 11 = .ok (.ireturn, 1) := by decide +kernel
theorem dX11_image_0 : decode cX11_image 0 = .ok (.aload_n 0, 1) := by decide +kernel
theorem dX11_image_1 : decode cX11_image 1 = .ok (.getfield 10, 3) := by decide +kernel
theorem dX11_image_4 : decode cX11_image 4 = .ok (.aload_n 0, 1) := by decide +kernel
theorem dX11_image_5 : decode cX11_image 5 = .ok (.getfield 77, 3) := by decide +kernel
theorem dX11_image_8 : decode cX11_image 8 = .ok (.invokevirtual 186, 3) := by decide +kernel
theorem dX11_image_11 : decode cX11_image 11 = .ok (.aload_n 0, 1) := by decide +kernel
theorem dX11_image_12 : decode cX11_image 12 = .ok (.iconst 1, 1) := by decide +kernel
theorem dX11_image_13 : decode cX11_image 13 = .ok (.putfield 244, 3) := by decide +kernel
theorem dX11_image_16 : decode cX11_image 16 = .ok (.aload_n 0, 1) := by decide +kernel
theorem dX11_image_17 : decode cX11_image 17 = .ok (.getfield 77, 3) := by decide +kernel
theorem dX11_image_20 : decode cX11_image 20 = .ok (.getfield 193, 3) := by decide +kernel
theorem dX11_image_23 : decode cX11_image 23 = .ok (.ireturn, 1) := by decide +kernel
theorem dX11_restore_0 : decode cX11_restore 0 = .ok (.aload_n 0, 1) := by decide +kernel
theorem dX11_restore_1 : decode cX11_restore 1 = .ok (.getfield 244, 3) := by decide +kernel
theorem dX11_restore_4 : decode cX11_restore 4 = .ok (.ifCond .ne 10, 3) := by decide +kernel
theorem dX11_restore_7 : decode cX11_restore 7 = .ok (.aload_n 0, 1) := by decide +kernel
theorem dX11_restore_8 : decode cX11_restore 8 = .ok (.bipush (-3), 2) := by decide +kernel
theorem dX11_restore_10 : decode cX11_restore 10 = .ok (.invokevirtual 92, 3) := by decide +kernel
theorem dX11_restore_13 : decode cX11_restore 13 = .ok (.ireturn, 1) := by decide +kernel
theorem dX11_restore_14 : decode cX11_restore 14 = .ok (.aload_n 0, 1) := by decide +kernel
theorem dX11_restore_15 : decode cX11_restore 15 = .ok (.getfield 77, 3) := by decide +kernel
theorem dX11_restore_18 : decode cX11_restore 18 = .ok (.aload_n 0, 1) := by decide +kernel
theorem dX11_restore_19 : decode cX11_restore 19 = .ok (.getfield 10, 3) := by decide +kernel
theorem dX11_restore_22 : decode cX11_restore 22 = .ok (.invokevirtual 186, 3) := by decide +kernel
theorem dX11_restore_25 : decode cX11_restore 25 = .ok (.aload_n 0, 1) := by decide +kernel
theorem dX11_restore_26 : decode cX11_restore 26 = .ok (.iconst 1, 1) := by decide +kernel
theorem dX11_restore_27 : decode cX11_restore 27 = .ok (.putfield 37, 3) := by decide +kernel
theorem dX11_restore_30 : decode cX11_restore 30 = .ok (.aload_n 0, 1) := by decide +kernel
theorem dX11_restore_31 : decode cX11_restore 31 = .ok (.getfield 77, 3) := by decide +kernel
theorem dX11_restore_34 : decode cX11_restore 34 = .ok (.getfield 193, 3) := by decide +kernel
theorem dX11_restore_37 : decode cX11_restore 37 = .ok (.ireturn, 1) := by decide +kernel
theorem dX11_count_0 : decode cX11_count 0 = .ok (.iload_n 1, 1) := by decide +kernel
theorem dX11_count_1 : decode cX11_count 1 = .ok (.tableswitch 134 0 6 #[43, 51, 59, 75, 83, 91, 96], 43) := by decide +kernel
theorem dX11_count_44 : decode cX11_count 44 = .ok (.aload_n 0, 1) := by decide +kernel
theorem dX11_count_45 : decode cX11_count 45 = .ok (.getfield 77, 3) := by decide +kernel
theorem dX11_count_48 : decode cX11_count 48 = .ok (.getfield 193, 3) := by decide +kernel
theorem dX11_count_51 : decode cX11_count 51 = .ok (.ireturn, 1) := by decide +kernel
theorem dX11_count_52 : decode cX11_count 52 = .ok (.aload_n 0, 1) := by decide +kernel
theorem dX11_count_53 : decode cX11_count 53 = .ok (.getfield 77, 3) := by decide +kernel
theorem dX11_count_56 : decode cX11_count 56 = .ok (.getfield 170, 3) := by decide +kernel
theorem dX11_count_59 : decode cX11_count 59 = .ok (.ireturn, 1) := by decide +kernel
theorem dX11_count_60 : decode cX11_count 60 = .ok (.aload_n 0, 1) := by decide +kernel
theorem dX11_count_61 : decode cX11_count 61 = .ok (.getfield 77, 3) := by decide +kernel
theorem dX11_count_64 : decode cX11_count 64 = .ok (.getfield 247, 3) := by decide +kernel
theorem dX11_count_67 : decode cX11_count 67 = .ok (.ifCond .eq 7, 3) := by decide +kernel
theorem dX11_count_70 : decode cX11_count 70 = .ok (.iconst 1, 1) := by decide +kernel
theorem dX11_count_71 : decode cX11_count 71 = .ok (.goto 4, 3) := by decide +kernel
theorem dX11_count_74 : decode cX11_count 74 = .ok (.iconst 0, 1) := by decide +kernel
theorem dX11_count_75 : decode cX11_count 75 = .ok (.ireturn, 1) := by decide +kernel
theorem dX11_count_76 : decode cX11_count 76 = .ok (.aload_n 0, 1) := by decide +kernel
theorem dX11_count_77 : decode cX11_count 77 = .ok (.getfield 77, 3) := by decide +kernel
theorem dX11_count_80 : decode cX11_count 80 = .ok (.invokevirtual 250, 3) := by decide +kernel
theorem dX11_count_83 : decode cX11_count 83 = .ok (.ireturn, 1) := by decide +kernel
theorem dX11_count_84 : decode cX11_count 84 = .ok (.aload_n 0, 1) := by decide +kernel
theorem dX11_count_85 : decode cX11_count 85 = .ok (.getfield 19, 3) := by decide +kernel
theorem dX11_count_88 : decode cX11_count 88 = .ok (.getfield 254, 3) := by decide +kernel
theorem dX11_count_91 : decode cX11_count 91 = .ok (.ireturn, 1) := by decide +kernel
theorem dX11_count_92 : decode cX11_count 92 = .ok (.aload_n 0, 1) := by decide +kernel
theorem dX11_count_93 : decode cX11_count 93 = .ok (.getfield 157, 3) := by decide +kernel
theorem dX11_count_96 : decode cX11_count 96 = .ok (.ireturn, 1) := by decide +kernel
theorem dX11_count_97 : decode cX11_count 97 = .ok (.aload_n 0, 1) := by decide +kernel
theorem dX11_count_98 : decode cX11_count 98 = .ok (.getfield 77, 3) := by decide +kernel
theorem dX11_count_101 : decode cX11_count 101 = .ok (.invokevirtual 161, 3) := by decide +kernel
theorem dX11_count_104 : decode cX11_count 104 = .ok (.ifCond .eq 7, 3) := by decide +kernel
theorem dX11_count_107 : decode cX11_count 107 = .ok (.iconst 0, 1) := by decide +kernel
theorem dX11_count_108 : decode cX11_count 108 = .ok (.goto 26, 3) := by decide +kernel
theorem dX11_count_111 : decode cX11_count 111 = .ok (.aload_n 0, 1) := by decide +kernel
theorem dX11_count_112 : decode cX11_count 112 = .ok (.invokevirtual 133, 3) := by decide +kernel
theorem dX11_count_115 : decode cX11_count 115 = .ok (.getfield 147, 3) := by decide +kernel
theorem dX11_count_118 : decode cX11_count 118 = .ok (.aload_n 0, 1) := by decide +kernel
theorem dX11_count_119 : decode cX11_count 119 = .ok (.getfield 77, 3) := by decide +kernel
theorem dX11_count_122 : decode cX11_count 122 = .ok (.getfield 170, 3) := by decide +kernel
theorem dX11_count_125 : decode cX11_count 125 = .ok (.iaload, 1) := by decide +kernel
theorem dX11_count_126 : decode cX11_count 126 = .ok (.aload_n 0, 1) := by decide +kernel
theorem dX11_count_127 : decode cX11_count 127 = .ok (.getfield 77, 3) := by decide +kernel
theorem dX11_count_130 : decode cX11_count 130 = .ok (.getfield 170, 3) := by decide +kernel
theorem dX11_count_133 : decode cX11_count 133 = .ok (.isub, 1) := by decide +kernel
theorem dX11_count_134 : decode cX11_count 134 = .ok (.ireturn, 1) := by decide +kernel
theorem dX11_count_135 : decode cX11_count 135 = .ok (.aload_n 0, 1) := by decide +kernel
theorem dX11_count_136 : decode cX11_count 136 = .ok (.iload_n 1, 1) := by decide +kernel
theorem dX11_count_137 : decode cX11_count 137 = .ok (.bipush 10, 2) := by decide +kernel
theorem dX11_count_139 : decode cX11_count 139 = .ok (.isub, 1) := by decide +kernel
theorem dX11_count_140 : decode cX11_count 140 = .ok (.invokevirtual 255, 3) := by decide +kernel
theorem dX11_count_143 : decode cX11_count 143 = .ok (.ireturn, 1) := by decide +kernel
theorem dX11_countRefusals_0 : decode cX11_countRefusals 0 = .ok (.iload_n 1, 1) := by decide +kernel
theorem dX11_countRefusals_1 : decode cX11_countRefusals 1 = .ok (.iconst 1, 1) := by decide +kernel
theorem dX11_countRefusals_2 : decode cX11_countRefusals 2 = .ok (.if_icmp .lt 18, 3) := by decide +kernel
theorem dX11_countRefusals_5 : decode cX11_countRefusals 5 = .ok (.iload_n 1, 1) := by decide +kernel
theorem dX11_countRefusals_6 : decode cX11_countRefusals 6 = .ok (.bipush 6, 2) := by decide +kernel
theorem dX11_countRefusals_8 : decode cX11_countRefusals 8 = .ok (.if_icmp .gt 12, 3) := by decide +kernel
theorem dX11_countRefusals_11 : decode cX11_countRefusals 11 = .ok (.aload_n 0, 1) := by decide +kernel
theorem dX11_countRefusals_12 : decode cX11_countRefusals 12 = .ok (.getfield 30, 3) := by decide +kernel
theorem dX11_countRefusals_15 : decode cX11_countRefusals 15 = .ok (.iload_n 1, 1) := by decide +kernel
theorem dX11_countRefusals_16 : decode cX11_countRefusals 16 = .ok (.iaload, 1) := by decide +kernel
theorem dX11_countRefusals_17 : decode cX11_countRefusals 17 = .ok (.goto 5, 3) := by decide +kernel
theorem dX11_countRefusals_20 : decode cX11_countRefusals 20 = .ok (.bipush (-9), 2) := by decide +kernel
theorem dX11_countRefusals_22 : decode cX11_countRefusals 22 = .ok (.ireturn, 1) := by decide +kernel
theorem dX11_refuse_0 : decode cX11_refuse 0 = .ok (.iload_n 1, 1) := by decide +kernel
theorem dX11_refuse_1 : decode cX11_refuse 1 = .ok (.ifCond .ge 20, 3) := by decide +kernel
theorem dX11_refuse_4 : decode cX11_refuse 4 = .ok (.iload_n 1, 1) := by decide +kernel
theorem dX11_refuse_5 : decode cX11_refuse 5 = .ok (.bipush (-6), 2) := by decide +kernel
theorem dX11_refuse_7 : decode cX11_refuse 7 = .ok (.if_icmp .lt 14, 3) := by decide +kernel
theorem dX11_refuse_10 : decode cX11_refuse 10 = .ok (.aload_n 0, 1) := by decide +kernel
theorem dX11_refuse_11 : decode cX11_refuse 11 = .ok (.getfield 30, 3) := by decide +kernel
theorem dX11_refuse_14 : decode cX11_refuse 14 = .ok (.iload_n 1, 1) := by decide +kernel
theorem dX11_refuse_15 : decode cX11_refuse 15 = .ok (.ineg, 1) := by decide +kernel
theorem dX11_refuse_16 : decode cX11_refuse 16 = .ok (.dup2, 1) := by decide +kernel
theorem dX11_refuse_17 : decode cX11_refuse 17 = .ok (.iaload, 1) := by decide +kernel
theorem dX11_refuse_18 : decode cX11_refuse 18 = .ok (.iconst 1, 1) := by decide +kernel
theorem dX11_refuse_19 : decode cX11_refuse 19 = .ok (.iadd, 1) := by decide +kernel
theorem dX11_refuse_20 : decode cX11_refuse 20 = .ok (.iastore, 1) := by decide +kernel
theorem dX11_refuse_21 : decode cX11_refuse 21 = .ok (.iload_n 1, 1) := by decide +kernel
theorem dX11_refuse_22 : decode cX11_refuse 22 = .ok (.ireturn, 1) := by decide +kernel
theorem dX11_solved_0 : decode cX11_solved 0 = .ok (.aload_n 0, 1) := by decide +kernel
theorem dX11_solved_1 : decode cX11_solved 1 = .ok (.getfield 37, 3) := by decide +kernel
theorem dX11_solved_4 : decode cX11_solved 4 = .ok (.ifCond .eq 16, 3) := by decide +kernel
theorem dX11_solved_7 : decode cX11_solved 7 = .ok (.aload_n 0, 1) := by decide +kernel
theorem dX11_solved_8 : decode cX11_solved 8 = .ok (.getfield 67, 3) := by decide +kernel
theorem dX11_solved_11 : decode cX11_solved 11 = .ok (.iconst 0, 1) := by decide +kernel
theorem dX11_solved_12 : decode cX11_solved 12 = .ok (.invokevirtual 190, 3) := by decide +kernel
theorem dX11_solved_15 : decode cX11_solved 15 = .ok (.aload_n 0, 1) := by decide +kernel
theorem dX11_solved_16 : decode cX11_solved 16 = .ok (.iconst 0, 1) := by decide +kernel
theorem dX11_solved_17 : decode cX11_solved 17 = .ok (.putfield 37, 3) := by decide +kernel
theorem dX11_solved_20 : decode cX11_solved 20 = .ok (.aload_n 0, 1) := by decide +kernel
theorem dX11_solved_21 : decode cX11_solved 21 = .ok (.getfield 67, 3) := by decide +kernel
theorem dX11_solved_24 : decode cX11_solved 24 = .ok (.areturn, 1) := by decide +kernel
theorem dX11_isRowRight_0 : decode cX11_isRowRight 0 = .ok (.aload_n 0, 1) := by decide +kernel
theorem dX11_isRowRight_1 : decode cX11_isRowRight 1 = .ok (.getfield 157, 3) := by decide +kernel
theorem dX11_isRowRight_4 : decode cX11_isRowRight 4 = .ok (.aload_n 0, 1) := by decide +kernel
theorem dX11_isRowRight_5 : decode cX11_isRowRight 5 = .ok (.getfield 77, 3) := by decide +kernel
theorem dX11_isRowRight_8 : decode cX11_isRowRight 8 = .ok (.getfield 193, 3) := by decide +kernel
theorem dX11_isRowRight_11 : decode cX11_isRowRight 11 = .ok (.aload_n 0, 1) := by decide +kernel
theorem dX11_isRowRight_12 : decode cX11_isRowRight 12 = .ok (.getfield 77, 3) := by decide +kernel
theorem dX11_isRowRight_15 : decode cX11_isRowRight 15 = .ok (.getfield 170, 3) := by decide +kernel
theorem dX11_isRowRight_18 : decode cX11_isRowRight 18 = .ok (.isub, 1) := by decide +kernel
theorem dX11_isRowRight_19 : decode cX11_isRowRight 19 = .ok (.if_icmp .eq 5, 3) := by decide +kernel
theorem dX11_isRowRight_22 : decode cX11_isRowRight 22 = .ok (.iconst 0, 1) := by decide +kernel
theorem dX11_isRowRight_23 : decode cX11_isRowRight 23 = .ok (.ireturn, 1) := by decide +kernel
theorem dX11_isRowRight_24 : decode cX11_isRowRight 24 = .ok (.iconst 0, 1) := by decide +kernel
theorem dX11_isRowRight_25 : decode cX11_isRowRight 25 = .ok (.istore_n 1, 1) := by decide +kernel
theorem dX11_isRowRight_26 : decode cX11_isRowRight 26 = .ok (.iconst 0, 1) := by decide +kernel
theorem dX11_isRowRight_27 : decode cX11_isRowRight 27 = .ok (.istore_n 2, 1) := by decide +kernel
theorem dX11_isRowRight_28 : decode cX11_isRowRight 28 = .ok (.iload_n 2, 1) := by decide +kernel
theorem dX11_isRowRight_29 : decode cX11_isRowRight 29 = .ok (.aload_n 0, 1) := by decide +kernel
theorem dX11_isRowRight_30 : decode cX11_isRowRight 30 = .ok (.getfield 157, 3) := by decide +kernel
theorem dX11_isRowRight_33 : decode cX11_isRowRight 33 = .ok (.if_icmp .ge 18, 3) := by decide +kernel
theorem dX11_isRowRight_36 : decode cX11_isRowRight 36 = .ok (.iload_n 1, 1) := by decide +kernel
theorem dX11_isRowRight_37 : decode cX11_isRowRight 37 = .ok (.aload_n 0, 1) := by decide +kernel
theorem dX11_isRowRight_38 : decode cX11_isRowRight 38 = .ok (.getfield 27, 3) := by decide +kernel
theorem dX11_isRowRight_41 : decode cX11_isRowRight 41 = .ok (.iload_n 2, 1) := by decide +kernel
theorem dX11_isRowRight_42 : decode cX11_isRowRight 42 = .ok (.iaload, 1) := by decide +kernel
theorem dX11_isRowRight_43 : decode cX11_isRowRight 43 = .ok (.iadd, 1) := by decide +kernel
