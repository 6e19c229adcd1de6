theorem dX12_byLaw_34 : decode cX12_byLaw 34 = .ok (.aload_n 0, 1) := by decide +kernel
theorem dX12_byLaw_35 : decode cX12_byLaw 35 = .ok (.getfield 144, 3) := by decide +kernel
theorem dX12_byLaw_38 : decode cX12_byLaw 38 = .ok (.if_icmp .ge 9, 3) := by decide +kernel
theorem dX12_byLaw_41 : decode cX12_byLaw 41 = .ok (.aload_n 0, 1) := by decide +kernel
theorem dX12_byLaw_42 : decode cX12_byLaw 42 = .ok (.iconst (-1), 1) := by decide +kernel
theorem dX12_byLaw_43 : decode cX12_byLaw 43 = .ok (.invokevirtual 207, 3) := by decide +kernel
theorem dX12_byLaw_46 : decode cX12_byLaw 46 = .ok (.ireturn, 1) := by decide +kernel
theorem dX12_byLaw_47 : decode cX12_byLaw 47 = .ok (.aload_n 0, 1) := by decide +kernel
theorem dX12_byLaw_48 : decode cX12_byLaw 48 = .ok (.getfield 115, 3) := by decide +kernel
theorem dX12_byLaw_51 : decode cX12_byLaw 51 = .ok (.iconst 1, 1) := by decide +kernel
theorem dX12_byLaw_52 : decode cX12_byLaw 52 = .ok (.if_icmp .ne 10, 3) := by decide +kernel
theorem dX12_byLaw_55 : decode cX12_byLaw 55 = .ok (.aload_n 0, 1) := by decide +kernel
theorem dX12_byLaw_56 : decode cX12_byLaw 56 = .ok (.bipush (-3), 2) := by decide +kernel
theorem dX12_byLaw_58 : decode cX12_byLaw 58 = .ok (.invokevirtual 207, 3) := by decide +kernel
theorem dX12_byLaw_61 : decode cX12_byLaw 61 = .ok (.ireturn, 1) := by decide +kernel
theorem dX12_byLaw_62 : decode cX12_byLaw 62 = .ok (.aload_n 0, 1) := by decide +kernel
theorem dX12_byLaw_63 : decode cX12_byLaw 63 = .ok (.getfield 25, 3) := by decide +kernel
theorem dX12_byLaw_66 : decode cX12_byLaw 66 = .ok (.iconst 1, 1) := by decide +kernel
theorem dX12_byLaw_67 : decode cX12_byLaw 67 = .ok (.iaload, 1) := by decide +kernel
theorem dX12_byLaw_68 : decode cX12_byLaw 68 = .ok (.istore 4, 2) := by decide +kernel
theorem dX12_byLaw_70 : decode cX12_byLaw 70 = .ok (.aload_n 0, 1) := by decide +kernel
theorem dX12_byLaw_71 : decode cX12_byLaw 71 = .ok (.getfield 25, 3) := by decide +kernel
theorem dX12_byLaw_74 : decode cX12_byLaw 74 = .ok (.iconst 2, 1) := by decide +kernel
theorem dX12_byLaw_75 : decode cX12_byLaw 75 = .ok (.iaload, 1) := by decide +kernel
theorem dX12_byLaw_76 : decode cX12_byLaw 76 = .ok (.istore 5, 2) := by decide +kernel
theorem dX12_byLaw_78 : decode cX12_byLaw 78 = .ok (.aload_n 0, 1) := by decide +kernel
theorem dX12_byLaw_79 : decode cX12_byLaw 79 = .ok (.getfield 25, 3) := by decide +kernel
theorem dX12_byLaw_82 : decode cX12_byLaw 82 = .ok (.iconst 1, 1) := by decide +kernel
theorem dX12_byLaw_83 : decode cX12_byLaw 83 = .ok (.iload_n 1, 1) := by decide +kernel
theorem dX12_byLaw_84 : decode cX12_byLaw 84 = .ok (.iastore, 1) := by decide +kernel
theorem dX12_byLaw_85 : decode cX12_byLaw 85 = .ok (.aload_n 0, 1) := by decide +kernel
theorem dX12_byLaw_86 : decode cX12_byLaw 86 = .ok (.getfield 25, 3) := by decide +kernel
theorem dX12_byLaw_89 : decode cX12_byLaw 89 = .ok (.iconst 2, 1) := by decide +kernel
theorem dX12_byLaw_90 : decode cX12_byLaw 90 = .ok (.iload_n 2, 1) := by decide +kernel
theorem dX12_byLaw_91 : decode cX12_byLaw 91 = .ok (.iastore, 1) := by decide +kernel
theorem dX12_byLaw_92 : decode cX12_byLaw 92 = .ok (.aload_n 0, 1) := by decide +kernel
theorem dX12_byLaw_93 : decode cX12_byLaw 93 = .ok (.invokevirtual 204, 3) := by decide +kernel
theorem dX12_byLaw_96 : decode cX12_byLaw 96 = .ok (.aload_n 0, 1) := by decide +kernel
theorem dX12_byLaw_97 : decode cX12_byLaw 97 = .ok (.getfield 25, 3) := by decide +kernel
theorem dX12_byLaw_100 : decode cX12_byLaw 100 = .ok (.iconst 1, 1) := by decide +kernel
theorem dX12_byLaw_101 : decode cX12_byLaw 101 = .ok (.iload 4, 2) := by decide +kernel
theorem dX12_byLaw_103 : decode cX12_byLaw 103 = .ok (.iastore, 1) := by decide +kernel
theorem dX12_byLaw_104 : decode cX12_byLaw 104 = .ok (.aload_n 0, 1) := by decide +kernel
theorem dX12_byLaw_105 : decode cX12_byLaw 105 = .ok (.getfield 25, 3) := by decide +kernel
theorem dX12_byLaw_108 : decode cX12_byLaw 108 = .ok (.iconst 2, 1) := by decide +kernel
theorem dX12_byLaw_109 : decode cX12_byLaw 109 = .ok (.iload 5, 2) := by decide +kernel
theorem dX12_byLaw_111 : decode cX12_byLaw 111 = .ok (.iastore, 1) := by decide +kernel
theorem dX12_byLaw_112 : decode cX12_byLaw 112 = .ok (.aload_n 0, 1) := by decide +kernel
theorem dX12_byLaw_113 : decode cX12_byLaw 113 = .ok (.getfield 49, 3) := by decide +kernel
theorem dX12_byLaw_116 : decode cX12_byLaw 116 = .ok (.bipush 9, 2) := by decide +kernel
theorem dX12_byLaw_118 : decode cX12_byLaw 118 = .ok (.aload_n 0, 1) := by decide +kernel
theorem dX12_byLaw_119 : decode cX12_byLaw 119 = .ok (.getfield 144, 3) := by decide +kernel
theorem dX12_byLaw_122 : decode cX12_byLaw 122 = .ok (.imul, 1) := by decide +kernel
theorem dX12_byLaw_123 : decode cX12_byLaw 123 = .ok (.iload_n 3, 1) := by decide +kernel
theorem dX12_byLaw_124 : decode cX12_byLaw 124 = .ok (.iadd, 1) := by decide +kernel
theorem dX12_byLaw_125 : decode cX12_byLaw 125 = .ok (.iaload, 1) := by decide +kernel
theorem dX12_byLaw_126 : decode cX12_byLaw 126 = .ok (.ireturn, 1) := by decide +kernel
theorem dX12_gains_0 : decode cX12_gains 0 = .ok (.aload_n 0, 1) := by decide +kernel
theorem dX12_gains_1 : decode cX12_gains 1 = .ok (.getfield 82, 3) := by decide +kernel
theorem dX12_gains_4 : decode cX12_gains 4 = .ok (.ifCond .eq 12, 3) := by decide +kernel
theorem dX12_gains_7 : decode cX12_gains 7 = .ok (.aload_n 0, 1) := by decide +kernel
theorem dX12_gains_8 : decode cX12_gains 8 = .ok (.getfield 82, 3) := by decide +kernel
theorem dX12_gains_11 : decode cX12_gains 11 = .ok (.bipush 8, 2) := by decide +kernel
theorem dX12_gains_13 : decode cX12_gains 13 = .ok (.if_icmp .ne 5, 3) := by decide +kernel
theorem dX12_gains_16 : decode cX12_gains 16 = .ok (.iconst 0, 1) := by decide +kernel
theorem dX12_gains_17 : decode cX12_gains 17 = .ok (.ireturn, 1) := by decide +kernel
theorem dX12_gains_18 : decode cX12_gains 18 = .ok (.aload_n 0, 1) := by decide +kernel
theorem dX12_gains_19 : decode cX12_gains 19 = .ok (.invokevirtual 204, 3) := by decide +kernel
theorem dX12_gains_22 : decode cX12_gains 22 = .ok (.iconst 0, 1) := by decide +kernel
theorem dX12_gains_23 : decode cX12_gains 23 = .ok (.istore_n 1, 1) := by decide +kernel
theorem dX12_gains_24 : decode cX12_gains 24 = .ok (.iload_n 1, 1) := by decide +kernel
theorem dX12_gains_25 : decode cX12_gains 25 = .ok (.aload_n 0, 1) := by decide +kernel
theorem dX12_gains_26 : decode cX12_gains 26 = .ok (.getfield 82, 3) := by decide +kernel
theorem dX12_gains_29 : decode cX12_gains 29 = .ok (.if_icmp .ge 21, 3) := by decide +kernel
theorem dX12_gains_32 : decode cX12_gains 32 = .ok (.aload_n 0, 1) := by decide +kernel
theorem dX12_gains_33 : decode cX12_gains 33 = .ok (.getfield 76, 3) := by decide +kernel
theorem dX12_gains_36 : decode cX12_gains 36 = .ok (.iload_n 1, 1) := by decide +kernel
theorem dX12_gains_37 : decode cX12_gains 37 = .ok (.aload_n 0, 1) := by decide +kernel
theorem dX12_gains_38 : decode cX12_gains 38 = .ok (.getfield 49, 3) := by decide +kernel
theorem dX12_gains_41 : decode cX12_gains 41 = .ok (.iload_n 1, 1) := by decide +kernel
theorem dX12_gains_42 : decode cX12_gains 42 = .ok (.iaload, 1) := by decide +kernel
theorem dX12_gains_43 : decode cX12_gains 43 = .ok (.iastore, 1) := by decide +kernel
theorem dX12_gains_44 : decode cX12_gains 44 = .ok (.iinc 1 1, 3) := by decide +kernel
theorem dX12_gains_47 : decode cX12_gains 47 = .ok (.goto (-23), 3) := by decide +kernel
theorem dX12_gains_50 : decode cX12_gains 50 = .ok (.aload_n 0, 1) := by decide +kernel
theorem dX12_gains_51 : decode cX12_gains 51 = .ok (.iconst 1, 1) := by decide +kernel
theorem dX12_gains_52 : decode cX12_gains 52 = .ok (.iconst 1, 1) := by decide +kernel
theorem dX12_gains_53 : decode cX12_gains 53 = .ok (.invokevirtual 122, 3) := by decide +kernel
theorem dX12_gains_56 : decode cX12_gains 56 = .ok (.aload_n 0, 1) := by decide +kernel
theorem dX12_gains_57 : decode cX12_gains 57 = .ok (.getfield 82, 3) := by decide +kernel
theorem dX12_gains_60 : decode cX12_gains 60 = .ok (.istore_n 1, 1) := by decide +kernel
theorem dX12_gains_61 : decode cX12_gains 61 = .ok (.iload_n 1, 1) := by decide +kernel
theorem dX12_gains_62 : decode cX12_gains 62 = .ok (.ifCond .le 17, 3) := by decide +kernel
theorem dX12_gains_65 : decode cX12_gains 65 = .ok (.aload_n 0, 1) := by decide +kernel
theorem dX12_gains_66 : decode cX12_gains 66 = .ok (.iload_n 1, 1) := by decide +kernel
theorem dX12_gains_67 : decode cX12_gains 67 = .ok (.iconst 1, 1) := by decide +kernel
theorem dX12_gains_68 : decode cX12_gains 68 = .ok (.isub, 1) := by decide +kernel
theorem dX12_gains_69 : decode cX12_gains 69 = .ok (.iload_n 1, 1) := by decide +kernel
theorem dX12_gains_70 : decode cX12_gains 70 = .ok (.invokevirtual 235, 3) := by decide +kernel
theorem dX12_gains_73 : decode cX12_gains 73 = .ok (.iinc 1 (-1), 3) := by decide +kernel
theorem dX12_gains_76 : decode cX12_gains 76 = .ok (.goto (-15), 3) := by decide +kernel
theorem dX12_gains_79 : decode cX12_gains 79 = .ok (.aload_n 0, 1) := by decide +kernel
theorem dX12_gains_80 : decode cX12_gains 80 = .ok (.getfield 13, 3) := by decide +kernel
theorem dX12_gains_83 : decode cX12_gains 83 = .ok (.iconst 0, 1) := by decide +kernel
theorem dX12_gains_84 : decode cX12_gains 84 = .ok (.iconst 0, 1) := by decide +kernel
theorem dX12_gains_85 : decode cX12_gains 85 = .ok (.iastore, 1) := by decide +kernel
theorem dX12_gains_86 : decode cX12_gains 86 = .ok (.aload_n 0, 1) := by decide +kernel
theorem dX12_gains_87 : decode cX12_gains 87 = .ok (.getfield 16, 3) := by decide +kernel
theorem dX12_gains_90 : decode cX12_gains 90 = .ok (.iconst 0, 1) := by decide +kernel
theorem dX12_gains_91 : decode cX12_gains 91 = .ok (.iconst 0, 1) := by decide +kernel
theorem dX12_gains_92 : decode cX12_gains 92 = .ok (.iastore, 1) := by decide +kernel
theorem dX12_gains_93 : decode cX12_gains 93 = .ok (.aload_n 0, 1) := by decide +kernel
theorem dX12_gains_94 : decode cX12_gains 94 = .ok (.getfield 19, 3) := by decide +kernel
theorem dX12_gains_97 : decode cX12_gains 97 = .ok (.iconst 0, 1) := by decide +kernel
theorem dX12_gains_98 : decode cX12_gains 98 = .ok (.iconst 1, 1) := by decide +kernel
theorem dX12_gains_99 : decode cX12_gains 99 = .ok (.iastore, 1) := by decide +kernel
theorem dX12_gains_100 : decode cX12_gains 100 = .ok (.aload_n 0, 1) := by decide +kernel
theorem dX12_gains_101 : decode cX12_gains 101 = .ok (.dup, 1) := by decide +kernel
theorem dX12_gains_102 : decode cX12_gains 102 = .ok (.getfield 82, 3) := by decide +kernel
theorem dX12_gains_105 : decode cX12_gains 105 = .ok (.iconst 1, 1) := by decide +kernel
theorem dX12_gains_106 : decode cX12_gains 106 = .ok (.iadd, 1) := by decide +kernel
theorem dX12_gains_107 : decode cX12_gains 107 = .ok (.putfield 82, 3) := by decide +kernel
theorem dX12_gains_110 : decode cX12_gains 110 = .ok (.aload_n 0, 1) := by decide +kernel
theorem dX12_gains_111 : decode cX12_gains 111 = .ok (.invokevirtual 204, 3) := by decide +kernel
theorem dX12_gains_114 : decode cX12_gains 114 = .ok (.iconst 0, 1) := by decide +kernel
theorem dX12_gains_115 : decode cX12_gains 115 = .ok (.istore_n 1, 1) := by decide +kernel
theorem dX12_gains_116 : decode cX12_gains 116 = .ok (.iconst 1, 1) := by decide +kernel
theorem dX12_gains_117 : decode cX12_gains 117 = .ok (.istore_n 2, 1) := by decide +kernel
theorem dX12_gains_118 : decode cX12_gains 118 = .ok (.iload_n 2, 1) := by decide +kernel
theorem dX12_gains_119 : decode cX12_gains 119 = .ok (.aload_n 0, 1) := by decide +kernel
theorem dX12_gains_120 : decode cX12_gains 120 = .ok (.getfield 82, 3) := by decide +kernel
theorem dX12_gains_123 : decode cX12_gains 123 = .ok (.if_icmp .ge 38, 3) := by decide +kernel
theorem dX12_gains_126 : decode cX12_gains 126 = .ok (.iload_n 1, 1) := by decide +kernel
theorem dX12_gains_127 : decode cX12_gains 127 = .ok (.aload_n 0, 1) := by decide +kernel
theorem dX12_gains_128 : decode cX12_gains 128 = .ok (.getfield 49, 3) := by decide +kernel
theorem dX12_gains_131 : decode cX12_gains 131 = .ok (.iload_n 2, 1) := by decide +kernel
theorem dX12_gains_132 : decode cX12_gains 132 = .ok (.iaload, 1) := by decide +kernel
theorem dX12_gains_133 : decode cX12_gains 133 = .ok (.aload_n 0, 1) := by decide +kernel
theorem dX12_gains_134 : decode cX12_gains 134 = .ok (.getfield 76, 3) := by decide +kernel
theorem dX12_gains_137 : decode cX12_gains 137 = .ok (.iload_n 2, 1) := by decide +kernel
theorem dX12_gains_138 : decode cX12_gains 138 = .ok (.iconst 1, 1) := by decide +kernel
theorem dX12_gains_139 : decode cX12_gains 139 = .ok (.isub, 1) := by decide +kernel
theorem dX12_gains_140 : decode cX12_gains 140 = .ok (.iaload, 1) := by decide +kernel
theorem dX12_gains_141 : decode cX12_gains 141 = .ok (.if_icmp .le 11, 3) := by decide +kernel
theorem dX12_gains_144 : decode cX12_gains 144 = .ok (.iconst 1, 1) := by decide +kernel
theorem dX12_gains_145 : decode cX12_gains 145 = .ok (.iload_n 2, 1) := by decide +kernel
theorem dX12_gains_146 : decode cX12_gains 146 = .ok (.iconst 1, 1) := by decide +kernel
theorem dX12_gains_147 : decode cX12_gains 147 = .ok (.isub, 1) := by decide +kernel
theorem dX12_gains_148 : decode cX12_gains 148 = .ok (.ishl, 1) := by decide +kernel
theorem dX12_gains_149 : decode cX12_gains 149 = .ok (.goto 4, 3) := by decide +kernel
theorem dX12_gains_152 : decode cX12_gains 152 = .ok (.iconst 0, 1) := by decide +kernel
theorem dX12_gains_153 : decode cX12_gains 153 = .ok (.ior, 1) := by decide +kernel
theorem dX12_gains_154 : decode cX12_gains 154 = .ok (.istore_n 1, 1) := by decide +kernel
theorem dX12_gains_155 : decode cX12_gains 155 = .ok (.iinc 2 1, 3) := by decide +kernel
theorem dX12_gains_158 : decode cX12_gains 158 = .ok (.goto (-40), 3) := by decide +kernel
theorem dX12_gains_161 : decode cX12_gains 161 = .ok (.aload_n 0, 1) := by decide +kernel
theorem dX12_gains_162 : decode cX12_gains 162 = .ok (.iconst 1, 1) := by decide +kernel
theorem dX12_gains_163 : decode cX12_gains 163 = .ok (.iconst 0, 1) := by decide +kernel
theorem dX12_gains_164 : decode cX12_gains 164 = .ok (.invokevirtual 122, 3) := by decide +kernel
theorem dX12_gains_167 : decode cX12_gains 167 = .ok (.iload_n 1, 1) := by decide +kernel
theorem dX12_gains_168 : decode cX12_gains 168 = .ok (.ireturn, 1) := by decide +kernel
theorem dX12_moves_0 : decode cX12_moves 0 = .ok (.aload_n 0, 1) := by decide +kernel
theorem dX12_moves_1 : decode cX12_moves 1 = .ok (.getfield 13, 3) := by decide +kernel
theorem dX12_moves_4 : decode cX12_moves 4 = .ok (.iload_n 2, 1) := by decide +kernel
theorem dX12_moves_5 : decode cX12_moves 5 = .ok (.aload_n 0, 1) := by decide +kernel
theorem dX12_moves_6 : decode cX12_moves 6 = .ok (.getfield 13, 3) := by decide +kernel
theorem dX12_moves_9 : decode cX12_moves 9 = .ok (.iload_n 1, 1) := by decide +kernel
theorem dX12_moves_10 : decode cX12_moves 10 = .ok (.iaload, 1) := by decide +kernel
theorem dX12_moves_11 : decode cX12_moves 11 = .ok (.iastore, 1) := by decide +kernel
theorem dX12_moves_12 : decode cX12_moves 12 = .ok (.aload_n 0, 1) := by decide +kernel
theorem dX12_moves_13 : decode cX12_moves 13 = .ok (.getfield 16, 3) := by decide +kernel
theorem dX12_moves_16 : decode cX12_moves 16 = .ok (.iload_n 2, 1) := by decide +kernel
theorem dX12_moves_17 : decode cX12_moves 17 = .ok (.aload_n 0, 1) := by decide +kernel
theorem dX12_moves_18 : decode cX12_moves 18 = .ok (.getfield 16, 3) := by decide +kernel
theorem dX12_moves_21 : decode cX12_moves 21 = .ok (.iload_n 1, 1) := by decide +kernel
theorem dX12_moves_22 : decode cX12_moves 22 = .ok (.iaload, 1) := by decide +kernel
theorem dX12_moves_23 : decode cX12_moves 23 = .ok (.iastore, 1) := by decide +kernel
theorem dX12_moves_24 : decode cX12_moves 24 = .ok (.aload_n 0, 1) := by decide +kernel
theorem dX12_moves_25 : decode cX12_moves 25 = .ok (.getfield 19, 3) := by decide +kernel
theorem dX12_moves_28 : decode cX12_moves 28 = .ok (.iload_n 2, 1) := by decide +kernel
theorem dX12_moves_29 : decode cX12_moves 29 = .ok (.aload_n 0, 1) := by decide +kernel
theorem dX12_moves_30 : decode cX12_moves 30 = .ok (.getfield 19, 3) := by decide +kernel
theorem dX12_moves_33 : decode cX12_moves 33 = .ok (.iload_n 1, 1) := by decide +kernel
theorem dX12_moves_34 : decode cX12_moves 34 = .ok (.iaload, 1) := by decide +kernel
theorem dX12_moves_35 : decode cX12_moves 35 = .ok (.iastore, 1) := by decide +kernel
theorem dX12_moves_36 : decode cX12_moves 36 = .ok (.return_, 1) := by decide +kernel
theorem dX12_swaps_0 : decode cX12_swaps 0 = .ok (.aload_n 0, 1) := by decide +kernel
theorem dX12_swaps_1 : decode cX12_swaps 1 = .ok (.iload_n 1, 1) := by decide +kernel
theorem dX12_swaps_2 : decode cX12_swaps 2 = .ok (.bipush 8, 2) := by decide +kernel
theorem dX12_swaps_4 : decode cX12_swaps 4 = .ok (.invokevirtual 235, 3) := by decide +kernel
theorem dX12_swaps_7 : decode cX12_swaps 7 = .ok (.aload_n 0, 1) := by decide +kernel
theorem dX12_swaps_8 : decode cX12_swaps 8 = .ok (.iload_n 2, 1) := by decide +kernel
theorem dX12_swaps_9 : decode cX12_swaps 9 = .ok (.iload_n 1, 1) := by decide +kernel
theorem dX12_swaps_10 : decode cX12_swaps 10 = .ok (.invokevirtual 235, 3) := by decide +kernel
theorem dX12_swaps_13 : decode cX12_swaps 13 = .ok (.aload_n 0, 1) := by decide +kernel
theorem dX12_swaps_14 : decode cX12_swaps 14 = .ok (.bipush 8, 2) := by decide +kernel
theorem dX12_swaps_16 : decode cX12_swaps 16 = .ok (.iload_n 2, 1) := by decide +kernel
theorem dX12_swaps_17 : decode cX12_swaps 17 = .ok (.invokevirtual 235, 3) := by decide +kernel
theorem dX12_swaps_20 : decode cX12_swaps 20 = .ok (.return_, 1) := by decide +kernel
theorem dX12_swap_0 : decode cX12_swap 0 = .ok (.aload_n 0, 1) := by decide +kernel
theorem dX12_swap_1 : decode cX12_swap 1 = .ok (.iload_n 1, 1) := by decide +kernel
theorem dX12_swap_2 : decode cX12_swap 2 = .ok (.invokevirtual 150, 3) := by decide +kernel
theorem dX12_swap_5 : decode cX12_swap 5 = .ok (.ifCond .eq 16, 3) := by decide +kernel
theorem dX12_swap_8 : decode cX12_swap 8 = .ok (.aload_n 0, 1) := by decide +kernel
theorem dX12_swap_9 : decode cX12_swap 9 = .ok (.iload_n 2, 1) := by decide +kernel
theorem dX12_swap_10 : decode cX12_swap 10 = .ok (.invokevirtual 150, 3) := by decide +kernel
theorem dX12_swap_13 : decode cX12_swap 13 = .ok (.ifCond .eq 8, 3) := by decide +kernel
theorem dX12_swap_16 : decode cX12_swap 16 = .ok (.iload_n 1, 1) := by decide +kernel
theorem dX12_swap_17 : decode cX12_swap 17 = .ok (.iload_n 2, 1) := by decide +kernel
theorem dX12_swap_18 : decode cX12_swap 18 = .ok (.if_icmp .ne 9, 3) := by decide +kernel
theorem dX12_swap_21 : decode cX12_swap 21 = .ok (.aload_n 0, 1) := by decide +kernel
theorem dX12_swap_22 : decode cX12_swap 22 = .ok (.iconst (-1), 1) := by decide +kernel
theorem dX12_swap_23 : decode cX12_swap 23 = .ok (.invokevirtual 93, 3) := by decide +kernel
theorem dX12_swap_26 : decode cX12_swap 26 = .ok (.ireturn, 1) := by decide +kernel
theorem dX12_swap_27 : decode cX12_swap 27 = .ok (.aload_n 0, 1) := by decide +kernel
theorem dX12_swap_28 : decode cX12_swap 28 = .ok (.getfield 144, 3) := by decide +kernel
theorem dX12_swap_31 : decode cX12_swap 31 = .ok (.ifCond .gt 11, 3) := by decide +kernel
theorem dX12_swap_34 : decode cX12_swap 34 = .ok (.aload_n 0, 1) := by decide +kernel
theorem dX12_swap_35 : decode cX12_swap 35 = .ok (.getfield 115, 3) := by decide +kernel
theorem dX12_swap_38 : decode cX12_swap 38 = .ok (.iconst 1, 1) := by decide +kernel
theorem dX12_swap_39 : decode cX12_swap 39 = .ok (.if_icmp .ne 10, 3) := by decide +kernel
theorem dX12_swap_42 : decode cX12_swap 42 = .ok (.aload_n 0, 1) := by decide +kernel
theorem dX12_swap_43 : decode cX12_swap 43 = .ok (.bipush (-3), 2) := by decide +kernel
theorem dX12_swap_45 : decode cX12_swap 45 = .ok (.invokevirtual 93, 3) := by decide +kernel
theorem dX12_swap_48 : decode cX12_swap 48 = .ok (.ireturn, 1) := by decide +kernel
theorem dX12_swap_49 : decode cX12_swap 49 = .ok (.aload_n 0, 1) := by decide +kernel
theorem dX12_swap_50 : decode cX12_swap 50 = .ok (.iload_n 1, 1) := by decide +kernel
theorem dX12_swap_51 : decode cX12_swap 51 = .ok (.iload_n 2, 1) := by decide +kernel
theorem dX12_swap_52 : decode cX12_swap 52 = .ok (.invokevirtual 239, 3) := by decide +kernel
theorem dX12_swap_55 : decode cX12_swap 55 = .ok (.iconst 1, 1) := by decide +kernel
theorem dX12_swap_56 : decode cX12_swap 56 = .ok (.ireturn, 1) := by decide +kernel
theorem dX12_bestAge_0 : decode cX12_bestAge 0 = .ok (.aload_n 0, 1) := by decide +kernel
theorem dX12_bestAge_1 : decode cX12_bestAge 1 = .ok (.iload_n 1, 1) := by decide +kernel
theorem dX12_bestAge_2 : decode cX12_bestAge 2 = .ok (.invokevirtual 150, 3) := by decide +kernel
theorem dX12_bestAge_5 : decode cX12_bestAge 5 = .ok (.ifCond .ne 9, 3) := by decide +kernel
theorem dX12_bestAge_8 : decode cX12_bestAge 8 = .ok (.aload_n 0, 1) := by decide +kernel
theorem dX12_bestAge_9 : decode cX12_bestAge 9 = .ok (.iconst (-1), 1) := by decide +kernel
theorem dX12_bestAge_10 : decode cX12_bestAge 10 = .ok (.invokevirtual 93, 3) := by decide +kernel
theorem dX12_bestAge_13 : decode cX12_bestAge 13 = .ok (.ireturn, 1) := by decide +kernel
theorem dX12_bestAge_14 : decode cX12_bestAge 14 = .ok (.iconst 0, 1) := by decide +kernel
theorem dX12_bestAge_15 : decode cX12_bestAge 15 = .ok (.istore_n 2, 1) := by decide +kernel
theorem dX12_bestAge_16 : decode cX12_bestAge 16 = .ok (.bipush (-2), 2) := by decide +kernel
theorem dX12_bestAge_18 : decode cX12_bestAge 18 = .ok (.istore_n 3, 1) := by decide +kernel
theorem dX12_bestAge_19 : decode cX12_bestAge 19 = .ok (.iconst 0, 1) := by decide +kernel
theorem dX12_bestAge_20 : decode cX12_bestAge 20 = .ok (.istore 4, 2) := by decide +kernel
theorem dX12_bestAge_22 : decode cX12_bestAge 22 = .ok (.iload 4, 2) := by decide +kernel
theorem dX12_bestAge_24 : decode cX12_bestAge 24 = .ok (.aload_n 0, 1) := by decide +kernel
theorem dX12_bestAge_25 : decode cX12_bestAge 25 = .ok (.getfield 82, 3) := by decide +kernel
theorem dX12_bestAge_28 : decode cX12_bestAge 28 = .ok (.if_icmp .ge 99, 3) := by decide +kernel
theorem dX12_bestAge_31 : decode cX12_bestAge 31 = .ok (.aload_n 0, 1) := by decide +kernel
theorem dX12_bestAge_32 : decode cX12_bestAge 32 = .ok (.iconst 1, 1) := by decide +kernel
theorem dX12_bestAge_33 : decode cX12_bestAge 33 = .ok (.iconst 1, 1) := by decide +kernel
theorem dX12_bestAge_34 : decode cX12_bestAge 34 = .ok (.invokevirtual 122, 3) := by decide +kernel
theorem dX12_bestAge_37 : decode cX12_bestAge 37 = .ok (.iload_n 1, 1) := by decide +kernel
theorem dX12_bestAge_38 : decode cX12_bestAge 38 = .ok (.istore 5, 2) := by decide +kernel
theorem dX12_bestAge_40 : decode cX12_bestAge 40 = .ok (.iload 5, 2) := by decide +kernel
theorem dX12_bestAge_42 : decode cX12_bestAge 42 = .ok (.iload 4, 2) := by decide +kernel
theorem dX12_bestAge_44 : decode cX12_bestAge 44 = .ok (.if_icmp .ge 19, 3) := by decide +kernel
theorem dX12_bestAge_47 : decode cX12_bestAge 47 = .ok (.aload_n 0, 1) := by decide +kernel
theorem dX12_bestAge_48 : decode cX12_bestAge 48 = .ok (.iload 5, 2) := by decide +kernel
theorem dX12_bestAge_50 : decode cX12_bestAge 50 = .ok (.iload 5, 2) := by decide +kernel
theorem dX12_bestAge_52 : decode cX12_bestAge 52 = .ok (.iconst 1, 1) := by decide +kernel
theorem dX12_bestAge_53 : decode cX12_bestAge 53 = .ok (.iadd, 1) := by decide +kernel
theorem dX12_bestAge_54 : decode cX12_bestAge 54 = .ok (.invokevirtual 239, 3) := by decide +kernel
theorem dX12_bestAge_57 : decode cX12_bestAge 57 = .ok (.iinc 5 1, 3) := by decide +kernel
theorem dX12_bestAge_60 : decode cX12_bestAge 60 = .ok (.goto (-20), 3) := by decide +kernel
theorem dX12_bestAge_63 : decode cX12_bestAge 63 = .ok (.iload_n 1, 1) := by decide +kernel
theorem dX12_bestAge_64 : decode cX12_bestAge 64 = .ok (.istore 5, 2) := by decide +kernel
theorem dX12_bestAge_66 : decode cX12_bestAge 66 = .ok (.iload 5, 2) := by decide +kernel
theorem dX12_bestAge_68 : decode cX12_bestAge 68 = .ok (.iload 4, 2) := by decide +kernel
theorem dX12_bestAge_70 : decode cX12_bestAge 70 = .ok (.if_icmp .le 19, 3) := by decide +kernel
theorem dX12_bestAge_73 : decode cX12_bestAge 73 = .ok (.aload_n 0, 1) := by decide +kernel
theorem dX12_bestAge_74 : decode cX12_bestAge 74 = .ok (.iload 5, 2) := by decide +kernel
theorem dX12_bestAge_76 : decode cX12_bestAge 76 = .ok (.iload 5, 2) := by decide +kernel
theorem dX12_bestAge_78 : decode cX12_bestAge 78 = .ok (.iconst 1, 1) := by decide +kernel
theorem dX12_bestAge_79 : decode cX12_bestAge 79 = .ok (.isub, 1) := by decide +kernel
theorem dX12_bestAge_80 : decode cX12_bestAge 80 = .ok (.invokevirtual 239, 3) := by decide +kernel
theorem dX12_bestAge_83 : decode cX12_bestAge 83 = .ok (.iinc 5 (-1), 3) := by decide +kernel
theorem dX12_bestAge_86 : decode cX12_bestAge 86 = .ok (.goto (-20), 3) := by decide +kernel
theorem dX12_bestAge_89 : decode cX12_bestAge 89 = .ok (.aload_n 0, 1) := by decide +kernel
theorem dX12_bestAge_90 : decode cX12_bestAge 90 = .ok (.invokevirtual 204, 3) := by decide +kernel
theorem dX12_bestAge_93 : decode cX12_bestAge 93 = .ok (.aload_n 0, 1) := by decide +kernel
theorem dX12_bestAge_94 : decode cX12_bestAge 94 = .ok (.getfield 49, 3) := by decide +kernel
theorem dX12_bestAge_97 : decode cX12_bestAge 97 = .ok (.iload 4, 2) := by decide +kernel
theorem dX12_bestAge_99 : decode cX12_bestAge 99 = .ok (.iaload, 1) := by decide +kernel
theorem dX12_bestAge_100 : decode cX12_bestAge 100 = .ok (.iload_n 3, 1) := by decide +kernel
theorem dX12_bestAge_101 : decode cX12_bestAge 101 = .ok (.if_icmp .le 14, 3) := by decide +kernel
theorem dX12_bestAge_104 : decode cX12_bestAge 104 = .ok (.iload 4, 2) := by decide +kernel
theorem dX12_bestAge_106 : decode cX12_bestAge 106 = .ok (.istore_n 2, 1) := by decide +kernel
theorem dX12_bestAge_107 : decode cX12_bestAge 107 = .ok (.aload_n 0, 1) := by decide +kernel
theorem dX12_bestAge_108 : decode cX12_bestAge 108 = .ok (.getfield 49, 3) := by decide +kernel
theorem dX12_bestAge_111 : decode cX12_bestAge 111 = .ok (.iload 4, 2) := by decide +kernel
theorem dX12_bestAge_113 : decode cX12_bestAge 113 = .ok (.iaload, 1) := by decide +kernel
theorem dX12_bestAge_114 : decode cX12_bestAge 114 = .ok (.istore_n 3, 1) := by decide +kernel
theorem dX12_bestAge_115 : decode cX12_bestAge 115 = .ok (.aload_n 0, 1) := by decide +kernel
theorem dX12_bestAge_116 : decode cX12_bestAge 116 = .ok (.iconst 1, 1) := by decide +kernel
theorem dX12_bestAge_117 : decode cX12_bestAge 117 = .ok (.iconst 0, 1) := by decide +kernel
theorem dX12_bestAge_118 : decode cX12_bestAge 118 = .ok (.invokevirtual 122, 3) := by decide +kernel
theorem dX12_bestAge_121 : decode cX12_bestAge 121 = .ok (.iinc 4 1, 3) := by decide +kernel
theorem dX12_bestAge_124 : decode cX12_bestAge 124 = .ok (.goto (-102), 3) := by decide +kernel
theorem dX12_bestAge_127 : decode cX12_bestAge 127 = .ok (.iload_n 2, 1) := by decide +kernel
theorem dX12_bestAge_128 : decode cX12_bestAge 128 = .ok (.ireturn, 1) := by decide +kernel
theorem dX12_isFree_0 : decode cX12_isFree 0 = .ok (.aload_n 0, 1) := by decide +kernel
theorem dX12_isFree_1 : decode cX12_isFree 1 = .ok (.getfield 144, 3) := by decide +kernel
theorem dX12_isFree_4 : decode cX12_isFree 4 = .ok (.iconst 1, 1) := by decide +kernel
theorem dX12_isFree_5 : decode cX12_isFree 5 = .ok (.iadd, 1) := by decide +kernel
theorem dX12_isFree_6 : decode cX12_isFree 6 = .ok (.istore_n 2, 1) := by decide +kernel
theorem dX12_isFree_7 : decode cX12_isFree 7 = .ok (.iload_n 2, 1) := by decide +kernel
theorem dX12_isFree_8 : decode cX12_isFree 8 = .ok (.aload_n 0, 1) := by decide +kernel
theorem dX12_isFree_9 : decode cX12_isFree 9 = .ok (.getfield 82, 3) := by decide +kernel
theorem dX12_isFree_12 : decode cX12_isFree 12 = .ok (.if_icmp .ge 37, 3) := by decide +kernel
theorem dX12_isFree_15 : decode cX12_isFree 15 = .ok (.iload_n 1, 1) := by decide +kernel
theorem dX12_isFree_16 : decode cX12_isFree 16 = .ok (.iload_n 2, 1) := by decide +kernel
theorem dX12_isFree_17 : decode cX12_isFree 17 = .ok (.ishr, 1) := by decide +kernel
theorem dX12_isFree_18 : decode cX12_isFree 18 = .ok (.iconst 1, 1) := by decide +kernel
theorem dX12_isFree_19 : decode cX12_isFree 19 = .ok (.iand, 1) := by decide +kernel
theorem dX12_isFree_20 : decode cX12_isFree 20 = .ok (.iconst 1, 1) := by decide +kernel
theorem dX12_isFree_21 : decode cX12_isFree 21 = .ok (.if_icmp .ne 22, 3) := by decide +kernel
theorem dX12_isFree_24 : decode cX12_isFree 24 = .ok (.aload_n 0, 1) := by decide +kernel
theorem dX12_isFree_25 : decode cX12_isFree 25 = .ok (.getfield 43, 3) := by decide +kernel
theorem dX12_isFree_28 : decode cX12_isFree 28 = .ok (.bipush 9, 2) := by decide +kernel
theorem dX12_isFree_30 : decode cX12_isFree 30 = .ok (.aload_n 0, 1) := by decide +kernel
theorem dX12_isFree_31 : decode cX12_isFree 31 = .ok (.getfield 144, 3) := by decide +kernel
theorem dX12_isFree_34 : decode cX12_isFree 34 = .ok (.imul, 1) := by decide +kernel
theorem dX12_isFree_35 : decode cX12_isFree 35 = .ok (.iload_n 2, 1) := by decide +kernel
theorem dX12_isFree_36 : decode cX12_isFree 36 = .ok (.iadd, 1) := by decide +kernel
theorem dX12_isFree_37 : decode cX12_isFree 37 = .ok (.iaload, 1) := by decide +kernel
theorem dX12_isFree_38 : decode cX12_isFree 38 = .ok (.ifCond .le 5, 3) := by decide +kernel
theorem dX12_isFree_41 : decode cX12_isFree 41 = .ok (.iconst 0, 1) := by decide +kernel
theorem dX12_isFree_42 : decode cX12_isFree 42 = .ok (.ireturn, 1) := by decide +kernel
theorem dX12_isFree_43 : decode cX12_isFree 43 = .ok (.iinc 2 1, 3) := by decide +kernel
theorem dX12_isFree_46 : decode cX12_isFree 46 = .ok (.goto (-39), 3) := by decide +kernel
theorem dX12_isFree_49 : decode cX12_isFree 49 = .ok (.iconst 1, 1) := by decide +kernel
theorem dX12_isFree_50 : decode cX12_isFree 50 = .ok (.ireturn, 1) := by decide +kernel
theorem dX12_bits_0 : decode cX12_bits 0 = .ok (.iconst 0, 1) := by decide +kernel
theorem dX12_bits_1 : decode cX12_bits 1 = .ok (.istore_n 1, 1) := by decide +kernel
theorem dX12_bits_2 : decode cX12_bits 2 = .ok (.iconst 0, 1) := by decide +kernel
theorem dX12_bits_3 : decode cX12_bits 3 = .ok (.istore_n 2, 1) := by decide +kernel
theorem dX12_bits_4 : decode cX12_bits 4 = .ok (.iload_n 2, 1) := by decide +kernel
theorem dX12_bits_5 : decode cX12_bits 5 = .ok (.bipush 31, 2) := by decide +kernel
theorem dX12_bits_7 : decode cX12_bits 7 = .ok (.if_icmp .ge 17, 3) := by decide +kernel
theorem dX12_bits_10 : decode cX12_bits 10 = .ok (.iload_n 1, 1) := by decide +kernel
theorem dX12_bits_11 : decode cX12_bits 11 = .ok (.iload_n 0, 1) := by decide +kernel
theorem dX12_bits_12 : decode cX12_bits 12 = .ok (.iload_n 2, 1) := by decide +kernel
theorem dX12_bits_13 : decode cX12_bits 13 = .ok (.ishr, 1) := by decide +kernel
theorem dX12_bits_14 : decode cX12_bits 14 = .ok (.iconst 1, 1) := by decide +kernel
theorem dX12_bits_15 : decode cX12_bits 15 = .ok (.iand, 1) := by decide +kernel
theorem dX12_bits_16 : decode cX12_bits 16 = .ok (.iadd, 1) := by decide +kernel
theorem dX12_bits_17 : decode cX12_bits 17 = .ok (.istore_n 1, 1) := by decide +kernel
theorem dX12_bits_18 : decode cX12_bits 18 = .ok (.iinc 2 1, 3) := by decide +kernel
theorem dX12_bits_21 : decode cX12_bits 21 = .ok (.goto (-17), 3) := by decide +kernel
theorem dX12_bits_24 : decode cX12_bits 24 = .ok (.iload_n 1, 1) := by decide +kernel
theorem dX12_bits_25 : decode cX12_bits 25 = .ok (.ireturn, 1) := by decide +kernel
theorem dX12_league_0 : decode cX12_league 0 = .ok (.aload_n 0, 1) := by decide +kernel
theorem dX12_league_1 : decode cX12_league 1 = .ok (.invokevirtual 213, 3) := by decide +kernel
theorem dX12_league_4 : decode cX12_league 4 = .ok (.ifCond .eq 10, 3) := by decide +kernel
theorem dX12_league_7 : decode cX12_league 7 = .ok (.aload_n 0, 1) := by decide +kernel
theorem dX12_league_8 : decode cX12_league 8 = .ok (.bipush (-3), 2) := by decide +kernel
theorem dX12_league_10 : decode cX12_league 10 = .ok (.invokevirtual 93, 3) := by decide +kernel
theorem dX12_league_13 : decode cX12_league 13 = .ok (.ireturn, 1) := by decide +kernel
theorem dX12_league_14 : decode cX12_league 14 = .ok (.aload_n 0, 1) := by decide +kernel
theorem dX12_league_15 : decode cX12_league 15 = .ok (.aload_n 0, 1) := by decide +kernel
theorem dX12_league_16 : decode cX12_league 16 = .ok (.getfield 144, 3) := by decide +kernel
theorem dX12_league_19 : decode cX12_league 19 = .ok (.invokevirtual 159, 3) := by decide +kernel
theorem dX12_league_22 : decode cX12_league 22 = .ok (.iconst 1, 1) := by decide +kernel
theorem dX12_league_23 : decode cX12_league 23 = .ok (.aload_n 0, 1) := by decide +kernel
theorem dX12_league_24 : decode cX12_league 24 = .ok (.getfield 144, 3) := by decide +kernel
theorem dX12_league_27 : decode cX12_league 27 = .ok (.ishl, 1) := by decide +kernel
theorem dX12_league_28 : decode cX12_league 28 = .ok (.iconst (-1), 1) := by decide +kernel
theorem dX12_league_29 : decode cX12_league 29 = .ok (.ixor, 1) := by decide +kernel
theorem dX12_league_30 : decode cX12_league 30 = .ok (.iand, 1) := by decide +kernel
theorem dX12_league_31 : decode cX12_league 31 = .ok (.istore_n 2, 1) := by decide +kernel
theorem dX12_league_32 : decode cX12_league 32 = .ok (.iload_n 1, 1) := by decide +kernel
theorem dX12_league_33 : decode cX12_league 33 = .ok (.ifCond .lt 19, 3) := by decide +kernel
theorem dX12_league_36 : decode cX12_league 36 = .ok (.iload_n 1, 1) := by decide +kernel
theorem dX12_league_37 : decode cX12_league 37 = .ok (.iload_n 2, 1) := by decide +kernel
theorem dX12_league_38 : decode cX12_league 38 = .ok (.iconst (-1), 1) := by decide +kernel
theorem dX12_league_39 : decode cX12_league 39 = .ok (.ixor, 1) := by decide +kernel
theorem dX12_league_40 : decode cX12_league 40 = .ok (.iand, 1) := by decide +kernel
theorem dX12_league_41 : decode cX12_league 41 = .ok (.ifCond .ne 11, 3) := by decide +kernel
theorem dX12_league_44 : decode cX12_league 44 = .ok (.iload_n 1, 1) := by decide +kernel
theorem dX12_league_45 : decode cX12_league 45 = .ok (.invokestatic 242, 3) := by decide +kernel
theorem dX12_league_48 : decode cX12_league 48 = .ok (.iconst 2, 1) := by decide +kernel
theorem dX12_league_49 : decode cX12_league 49 = .ok (.if_icmp .ge 9, 3) := by decide +kernel
theorem dX12_league_52 : decode cX12_league 52 = .ok (.aload_n 0, 1) := by decide +kernel
theorem dX12_league_53 : decode cX12_league 53 = .ok (.iconst (-1), 1) := by decide +kernel
theorem dX12_league_54 : decode cX12_league 54 = .ok (.invokevirtual 93, 3) := by decide +kernel
theorem dX12_league_57 : decode cX12_league 57 = .ok (.ireturn, 1) := by decide +kernel
theorem dX12_league_58 : decode cX12_league 58 = .ok (.aload_n 0, 1) := by decide +kernel
theorem dX12_league_59 : decode cX12_league 59 = .ok (.invokevirtual 204, 3) := by decide +kernel
theorem dX12_league_62 : decode cX12_league 62 = .ok (.aload_n 0, 1) := by decide +kernel
theorem dX12_league_63 : decode cX12_league 63 = .ok (.aload_n 0, 1) := by decide +kernel
theorem dX12_league_64 : decode cX12_league 64 = .ok (.getfield 144, 3) := by decide +kernel
theorem dX12_league_67 : decode cX12_league 67 = .ok (.invokevirtual 162, 3) := by decide +kernel
theorem dX12_league_70 : decode cX12_league 70 = .ok (.iload_n 1, 1) := by decide +kernel
theorem dX12_league_71 : decode cX12_league 71 = .ok (.iconst (-1), 1) := by decide +kernel
theorem dX12_league_72 : decode cX12_league 72 = .ok (.ixor, 1) := by decide +kernel
theorem dX12_league_73 : decode cX12_league 73 = .ok (.iand, 1) := by decide +kernel
theorem dX12_league_74 : decode cX12_league 74 = .ok (.istore_n 3, 1) := by decide +kernel
theorem dX12_league_75 : decode cX12_league 75 = .ok (.iconst 0, 1) := by decide +kernel
theorem dX12_league_76 : decode cX12_league 76 = .ok (.istore 4, 2) := by decide +kernel
theorem dX12_league_78 : decode cX12_league 78 = .ok (.iload 4, 2) := by decide +kernel
theorem dX12_league_80 : decode cX12_league 80 = .ok (.iconst 1, 1) := by decide +kernel
theorem dX12_league_81 : decode cX12_league 81 = .ok (.aload_n 0, 1) := by decide +kernel
theorem dX12_league_82 : decode cX12_league 82 = .ok (.getfield 82, 3) := by decide +kernel
theorem dX12_league_85 : decode cX12_league 85 = .ok (.ishl, 1) := by decide +kernel
theorem dX12_league_86 : decode cX12_league 86 = .ok (.if_icmp .ge 115, 3) := by decide +kernel
theorem dX12_league_89 : decode cX12_league 89 = .ok (.iload 4, 2) := by decide +kernel
theorem dX12_league_91 : decode cX12_league 91 = .ok (.iload_n 2, 1) := by decide +kernel
theorem dX12_league_92 : decode cX12_league 92 = .ok (.iconst (-1), 1) := by decide +kernel
theorem dX12_league_93 : decode cX12_league 93 = .ok (.ixor, 1) := by decide +kernel
theorem dX12_league_94 : decode cX12_league 94 = .ok (.iand, 1) := by decide +kernel
theorem dX12_league_95 : decode cX12_league 95 = .ok (.ifCond .ne 100, 3) := by decide +kernel
theorem dX12_league_98 : decode cX12_league 98 = .ok (.iload 4, 2) := by decide +kernel
theorem dX12_league_100 : decode cX12_league 100 = .ok (.iload_n 1, 1) := by decide +kernel
theorem dX12_league_101 : decode cX12_league 101 = .ok (.iand, 1) := by decide +kernel
theorem dX12_league_102 : decode cX12_league 102 = .ok (.ifCond .eq 15, 3) := by decide +kernel
theorem dX12_league_105 : decode cX12_league 105 = .ok (.iload_n 1, 1) := by decide +kernel
theorem dX12_league_106 : decode cX12_league 106 = .ok (.iload 4, 2) := by decide +kernel
theorem dX12_league_108 : decode cX12_league 108 = .ok (.iconst (-1), 1) := by decide +kernel
theorem dX12_league_109 : decode cX12_league 109 = .ok (.ixor, 1) := by decide +kernel
theorem dX12_league_110 : decode cX12_league 110 = .ok (.iand, 1) := by decide +kernel
theorem dX12_league_111 : decode cX12_league 111 = .ok (.ifCond .eq 6, 3) := by decide +kernel
theorem dX12_league_114 : decode cX12_league 114 = .ok (.goto 81, 3) := by decide +kernel
theorem dX12_league_117 : decode cX12_league 117 = .ok (.iload 4, 2) := by decide +kernel
theorem dX12_league_119 : decode cX12_league 119 = .ok (.iload_n 3, 1) := by decide +kernel
theorem dX12_league_120 : decode cX12_league 120 = .ok (.ior, 1) := by decide +kernel
theorem dX12_league_121 : decode cX12_league 121 = .ok (.iconst 1, 1) := by decide +kernel
theorem dX12_league_122 : decode cX12_league 122 = .ok (.aload_n 0, 1) := by decide +kernel
theorem dX12_league_123 : decode cX12_league 123 = .ok (.getfield 144, 3) := by decide +kernel
theorem dX12_league_126 : decode cX12_league 126 = .ok (.ishl, 1) := by decide +kernel
theorem dX12_league_127 : decode cX12_league 127 = .ok (.ior, 1) := by decide +kernel
theorem dX12_league_128 : decode cX12_league 128 = .ok (.aload_n 0, 1) := by decide +kernel
theorem dX12_league_129 : decode cX12_league 129 = .ok (.iload_n 1, 1) := by decide +kernel
theorem dX12_league_130 : decode cX12_league 130 = .ok (.invokevirtual 245, 3) := by decide +kernel
theorem dX12_league_133 : decode cX12_league 133 = .ok (.ifCond .eq 7, 3) := by decide +kernel
theorem dX12_league_136 : decode cX12_league 136 = .ok (.iload_n 1, 1) := by decide +kernel
theorem dX12_league_137 : decode cX12_league 137 = .ok (.goto 4, 3) := by decide +kernel
theorem dX12_league_140 : decode cX12_league 140 = .ok (.iconst 0, 1) := by decide +kernel
theorem dX12_league_141 : decode cX12_league 141 = .ok (.ior, 1) := by decide +kernel
theorem dX12_league_142 : decode cX12_league 142 = .ok (.istore 5, 2) := by decide +kernel
theorem dX12_league_144 : decode cX12_league 144 = .ok (.aload_n 0, 1) := by decide +kernel
theorem dX12_league_145 : decode cX12_league 145 = .ok (.aload_n 0, 1) := by decide +kernel
theorem dX12_league_146 : decode cX12_league 146 = .ok (.getfield 144, 3) := by decide +kernel
theorem dX12_league_149 : decode cX12_league 149 = .ok (.iload 4, 2) := by decide +kernel
theorem dX12_league_151 : decode cX12_league 151 = .ok (.invokevirtual 171, 3) := by decide +kernel
theorem dX12_league_154 : decode cX12_league 154 = .ok (.aload_n 0, 1) := by decide +kernel
theorem dX12_league_155 : decode cX12_league 155 = .ok (.getfield 25, 3) := by decide +kernel
theorem dX12_league_158 : decode cX12_league 158 = .ok (.iconst 0, 1) := by decide +kernel
theorem dX12_league_159 : decode cX12_league 159 = .ok (.iaload, 1) := by decide +kernel
theorem dX12_league_160 : decode cX12_league 160 = .ok (.if_icmp .gt 35, 3) := by decide +kernel
theorem dX12_league_163 : decode cX12_league 163 = .ok (.aload_n 0, 1) := by decide +kernel
theorem dX12_league_164 : decode cX12_league 164 = .ok (.getfield 25, 3) := by decide +kernel
theorem dX12_league_167 : decode cX12_league 167 = .ok (.iconst 1, 1) := by decide +kernel
theorem dX12_league_168 : decode cX12_league 168 = .ok (.iaload, 1) := by decide +kernel
theorem dX12_league_169 : decode cX12_league 169 = .ok (.aload_n 0, 1) := by decide +kernel
theorem dX12_league_170 : decode cX12_league 170 = .ok (.iload 5, 2) := by decide +kernel
theorem dX12_league_172 : decode cX12_league 172 = .ok (.invokevirtual 165, 3) := by decide +kernel
theorem dX12_league_175 : decode cX12_league 175 = .ok (.aload_n 0, 1) := by decide +kernel
theorem dX12_league_176 : decode cX12_league 176 = .ok (.aload_n 0, 1) := by decide +kernel
theorem dX12_league_177 : decode cX12_league 177 = .ok (.aload_n 0, 1) := by decide +kernel
theorem dX12_league_178 : decode cX12_league 178 = .ok (.getfield 144, 3) := by decide +kernel
theorem dX12_league_181 : decode cX12_league 181 = .ok (.invokevirtual 159, 3) := by decide +kernel
theorem dX12_league_184 : decode cX12_league 184 = .ok (.invokevirtual 165, 3) := by decide +kernel
theorem dX12_league_187 : decode cX12_league 187 = .ok (.invokestatic 168, 3) := by decide +kernel
theorem dX12_league_190 : decode cX12_league 190 = .ok (.ifCond .eq 5, 3) := by decide +kernel
theorem dX12_league_193 : decode cX12_league 193 = .ok (.iconst 1, 1) := by decide +kernel
theorem dX12_league_194 : decode cX12_league 194 = .ok (.ireturn, 1) := by decide +kernel
theorem dX12_league_195 : decode cX12_league 195 = .ok (.iinc 4 1, 3) := by decide +kernel
theorem dX12_league_198 : decode cX12_league 198 = .ok (.goto (-120), 3) := by decide +kernel
theorem dX12_league_201 : decode cX12_league 201 = .ok (.iconst 0, 1) := by decide +kernel
theorem dX12_league_202 : decode cX12_league 202 = .ok (.ireturn, 1) := by decide +kernel
theorem dX12_divisor_0 : decode cX12_divisor 0 = .ok (.lload_n 0, 1) := by decide +kernel
theorem dX12_divisor_1 : decode cX12_divisor 1 = .ok (.lstore 4, 2) := by decide +kernel
theorem dX12_divisor_3 : decode cX12_divisor 3 = .ok (.lload_n 2, 1) := by decide +kernel
theorem dX12_divisor_4 : decode cX12_divisor 4 = .ok (.lstore 6, 2) := by decide +kernel
theorem dX12_divisor_6 : decode cX12_divisor 6 = .ok (.lload 6, 2) := by decide +kernel
theorem dX12_divisor_8 : decode cX12_divisor 8 = .ok (.lconst 0, 1) := by decide +kernel
theorem dX12_divisor_9 : decode cX12_divisor 9 = .ok (.lcmp, 1) := by decide +kernel
theorem dX12_divisor_10 : decode cX12_divisor 10 = .ok (.ifCond .eq 21, 3) := by decide +kernel
theorem dX12_divisor_13 : decode cX12_divisor 13 = .ok (.lload 4, 2) := by decide +kernel
theorem dX12_divisor_15 : decode cX12_divisor 15 = .ok (.lload 6, 2) := by decide +kernel
theorem dX12_divisor_17 : decode cX12_divisor 17 = .ok (.lrem, 1) := by decide +kernel
theorem dX12_divisor_18 : decode cX12_divisor 18 = .ok (.lstore 8, 2) := by decide +kernel
theorem dX12_divisor_20 : decode cX12_divisor 20 = .ok (.lload 6, 2) := by decide +kernel
theorem dX12_divisor_22 : decode cX12_divisor 22 = .ok (.lstore 4, 2) := by decide +kernel
theorem dX12_divisor_24 : decode cX12_divisor 24 = .ok (.lload 8, 2) := by decide +kernel
theorem dX12_divisor_26 : decode cX12_divisor 26 = .ok (.lstore 6, 2) := by decide +kernel
theorem dX12_divisor_28 : decode cX12_divisor 28 = .ok (.goto (-22), 3) := by decide +kernel
theorem dX12_divisor_31 : decode cX12_divisor 31 = .ok (.lload 4, 2) := by decide +kernel
theorem dX12_divisor_33 : decode cX12_divisor 33 = .ok (.lreturn, 1) := by decide +kernel
theorem dX12_shaken_0 : decode cX12_shaken 0 = .ok (.iload_n 1, 1) := by decide +kernel
theorem dX12_shaken_1 : decode cX12_shaken 1 = .ok (.iconst 0, 1) := by decide +kernel
theorem dX12_shaken_2 : decode cX12_shaken 2 = .ok (.iconst 1, 1) := by decide +kernel
theorem dX12_shaken_3 : decode cX12_shaken 3 = .ok (.invokestatic 104, 3) := by decide +kernel
theorem dX12_shaken_6 : decode cX12_shaken 6 = .ok (.ifCond .ne 10, 3) := by decide +kernel
theorem dX12_shaken_9 : decode cX12_shaken 9 = .ok (.aload_n 0, 1) := by decide +kernel
theorem dX12_shaken_10 : decode cX12_shaken 10 = .ok (.bipush (-2), 2) := by decide +kernel
theorem dX12_shaken_12 : decode cX12_shaken 12 = .ok (.invokevirtual 248, 3) := by decide +kernel
theorem dX12_shaken_15 : decode cX12_shaken 15 = .ok (.lreturn, 1) := by decide +kernel
theorem dX12_shaken_16 : decode cX12_shaken 16 = .ok (.aload_n 0, 1) := by decide +kernel
theorem dX12_shaken_17 : decode cX12_shaken 17 = .ok (.invokevirtual 213, 3) := by decide +kernel
theorem dX12_shaken_20 : decode cX12_shaken 20 = .ok (.ifCond .eq 10, 3) := by decide +kernel
theorem dX12_shaken_23 : decode cX12_shaken 23 = .ok (.aload_n 0, 1) := by decide +kernel
theorem dX12_shaken_24 : decode cX12_shaken 24 = .ok (.bipush (-3), 2) := by decide +kernel
theorem dX12_shaken_26 : decode cX12_shaken 26 = .ok (.invokevirtual 248, 3) := by decide +kernel
theorem dX12_shaken_29 : decode cX12_shaken 29 = .ok (.lreturn, 1) := by decide +kernel
theorem dX12_shaken_30 : decode cX12_shaken 30 = .ok (.aload_n 0, 1) := by decide +kernel
theorem dX12_shaken_31 : decode cX12_shaken 31 = .ok (.invokevirtual 204, 3) := by decide +kernel
theorem dX12_shaken_34 : decode cX12_shaken 34 = .ok (.aload_n 0, 1) := by decide +kernel
theorem dX12_shaken_35 : decode cX12_shaken 35 = .ok (.aload_n 0, 1) := by decide +kernel
theorem dX12_shaken_36 : decode cX12_shaken 36 = .ok (.getfield 144, 3) := by decide +kernel
theorem dX12_shaken_39 : decode cX12_shaken 39 = .ok (.invokevirtual 159, 3) := by decide +kernel
theorem dX12_shaken_42 : decode cX12_shaken 42 = .ok (.iconst 1, 1) := by decide +kernel
theorem dX12_shaken_43 : decode cX12_shaken 43 = .ok (.aload_n 0, 1) := by decide +kernel
theorem dX12_shaken_44 : decode cX12_shaken 44 = .ok (.getfield 144, 3) := by decide +kernel
theorem dX12_shaken_47 : decode cX12_shaken 47 = .ok (.ishl, 1) := by decide +kernel
theorem dX12_shaken_48 : decode cX12_shaken 48 = .ok (.iconst (-1), 1) := by decide +kernel
theorem dX12_shaken_49 : decode cX12_shaken 49 = .ok (.ixor, 1) := by decide +kernel
theorem dX12_shaken_50 : decode cX12_shaken 50 = .ok (.iand, 1) := by decide +kernel
theorem dX12_shaken_51 : decode cX12_shaken 51 = .ok (.istore_n 2, 1) := by decide +kernel
theorem dX12_shaken_52 : decode cX12_shaken 52 = .ok (.lconst 0, 1) := by decide +kernel
theorem dX12_shaken_53 : decode cX12_shaken 53 = .ok (.lstore_n 3, 1) := by decide +kernel
theorem dX12_shaken_54 : decode cX12_shaken 54 = .ok (.lconst 1, 1) := by decide +kernel
theorem dX12_shaken_55 : decode cX12_shaken 55 = .ok (.lstore 5, 2) := by decide +kernel
theorem dX12_shaken_57 : decode cX12_shaken 57 = .ok (.aload_n 0, 1) := by decide +kernel
theorem dX12_shaken_58 : decode cX12_shaken 58 = .ok (.getfield 144, 3) := by decide +kernel
theorem dX12_shaken_61 : decode cX12_shaken 61 = .ok (.iconst 1, 1) := by decide +kernel
theorem dX12_shaken_62 : decode cX12_shaken 62 = .ok (.iadd, 1) := by decide +kernel
theorem dX12_shaken_63 : decode cX12_shaken 63 = .ok (.istore 7, 2) := by decide +kernel
theorem dX12_shaken_65 : decode cX12_shaken 65 = .ok (.iload 7, 2) := by decide +kernel
theorem dX12_shaken_67 : decode cX12_shaken 67 = .ok (.aload_n 0, 1) := by decide +kernel
theorem dX12_shaken_68 : decode cX12_shaken 68 = .ok (.getfield 82, 3) := by decide +kernel
theorem dX12_shaken_71 : decode cX12_shaken 71 = .ok (.if_icmp .ge 17, 3) := by decide +kernel
theorem dX12_shaken_74 : decode cX12_shaken 74 = .ok (.lload 5, 2) := by decide +kernel
theorem dX12_shaken_76 : decode cX12_shaken 76 = .ok (.ldc2_w 252, 3) := by decide +kernel
theorem dX12_shaken_79 : decode cX12_shaken 79 = .ok (.lmul, 1) := by decide +kernel
theorem dX12_shaken_80 : decode cX12_shaken 80 = .ok (.lstore 5, 2) := by decide +kernel
theorem dX12_shaken_82 : decode cX12_shaken 82 = .ok (.iinc 7 1, 3) := by decide +kernel
theorem dX12_shaken_85 : decode cX12_shaken 85 = .ok (.goto (-20), 3) := by decide +kernel
theorem dX12_shaken_88 : decode cX12_shaken 88 = .ok (.iconst 0, 1) := by decide +kernel
theorem dX12_shaken_89 : decode cX12_shaken 89 = .ok (.istore 7, 2) := by decide +kernel
theorem dX12_shaken_91 : decode cX12_shaken 91 = .ok (.iload 7, 2) := by decide +kernel
theorem dX12_shaken_93 : decode cX12_shaken 93 = .ok (.iconst 1, 1) := by decide +kernel
theorem dX12_shaken_94 : decode cX12_shaken 94 = .ok (.aload_n 0, 1) := by decide +kernel
theorem dX12_shaken_95 : decode cX12_shaken 95 = .ok (.getfield 82, 3) := by decide +kernel
theorem dX12_shaken_98 : decode cX12_shaken 98 = .ok (.ishl, 1) := by decide +kernel
theorem dX12_shaken_99 : decode cX12_shaken 99 = .ok (.if_icmp .ge 128, 3) := by decide +kernel
theorem dX12_shaken_102 : decode cX12_shaken 102 = .ok (.iload 7, 2) := by decide +kernel
theorem dX12_shaken_104 : decode cX12_shaken 104 = .ok (.iload_n 2, 1) := by decide +kernel
theorem dX12_shaken_105 : decode cX12_shaken 105 = .ok (.iconst (-1), 1) := by decide +kernel
theorem dX12_shaken_106 : decode cX12_shaken 106 = .ok (.ixor, 1) := by decide +kernel
theorem dX12_shaken_107 : decode cX12_shaken 107 = .ok (.iand, 1) := by decide +kernel
theorem dX12_shaken_108 : decode cX12_shaken 108 = .ok (.ifCond .ne 113, 3) := by decide +kernel
theorem dX12_shaken_111 : decode cX12_shaken 111 = .ok (.aload_n 0, 1) := by decide +kernel
theorem dX12_shaken_112 : decode cX12_shaken 112 = .ok (.getfield 25, 3) := by decide +kernel
theorem dX12_shaken_115 : decode cX12_shaken 115 = .ok (.iconst 1, 1) := by decide +kernel
theorem dX12_shaken_116 : decode cX12_shaken 116 = .ok (.iaload, 1) := by decide +kernel
theorem dX12_shaken_117 : decode cX12_shaken 117 = .ok (.aload_n 0, 1) := by decide +kernel
theorem dX12_shaken_118 : decode cX12_shaken 118 = .ok (.aload_n 0, 1) := by decide +kernel
theorem dX12_shaken_119 : decode cX12_shaken 119 = .ok (.getfield 52, 3) := by decide +kernel
theorem dX12_shaken_122 : decode cX12_shaken 122 = .ok (.aload_n 0, 1) := by decide +kernel
theorem dX12_shaken_123 : decode cX12_shaken 123 = .ok (.getfield 144, 3) := by decide +kernel
theorem dX12_shaken_126 : decode cX12_shaken 126 = .ok (.iaload, 1) := by decide +kernel
theorem dX12_shaken_127 : decode cX12_shaken 127 = .ok (.iload 7, 2) := by decide +kernel
theorem dX12_shaken_129 : decode cX12_shaken 129 = .ok (.ixor, 1) := by decide +kernel
theorem dX12_shaken_130 : decode cX12_shaken 130 = .ok (.invokevirtual 165, 3) := by decide +kernel
theorem dX12_shaken_133 : decode cX12_shaken 133 = .ok (.aload_n 0, 1) := by decide +kernel
theorem dX12_shaken_134 : decode cX12_shaken 134 = .ok (.aload_n 0, 1) := by decide +kernel
theorem dX12_shaken_135 : decode cX12_shaken 135 = .ok (.aload_n 0, 1) := by decide +kernel
theorem dX12_shaken_136 : decode cX12_shaken 136 = .ok (.getfield 144, 3) := by decide +kernel
theorem dX12_shaken_139 : decode cX12_shaken 139 = .ok (.invokevirtual 159, 3) := by decide +kernel
theorem dX12_shaken_142 : decode cX12_shaken 142 = .ok (.invokevirtual 165, 3) := by decide +kernel
theorem dX12_shaken_145 : decode cX12_shaken 145 = .ok (.invokestatic 168, 3) := by decide +kernel
theorem dX12_shaken_148 : decode cX12_shaken 148 = .ok (.ifCond .ne 6, 3) := by decide +kernel
theorem dX12_shaken_151 : decode cX12_shaken 151 = .ok (.goto 70, 3) := by decide +kernel
theorem dX12_shaken_154 : decode cX12_shaken 154 = .ok (.lconst 1, 1) := by decide +kernel
theorem dX12_shaken_155 : decode cX12_shaken 155 = .ok (.lstore 8, 2) := by decide +kernel
theorem dX12_shaken_157 : decode cX12_shaken 157 = .ok (.aload_n 0, 1) := by decide +kernel
theorem dX12_shaken_158 : decode cX12_shaken 158 = .ok (.getfield 144, 3) := by decide +kernel
theorem dX12_shaken_161 : decode cX12_shaken 161 = .ok (.iconst 1, 1) := by decide +kernel
theorem dX12_shaken_162 : decode cX12_shaken 162 = .ok (.iadd, 1) := by decide +kernel
theorem dX12_shaken_163 : decode cX12_shaken 163 = .ok (.istore 10, 2) := by decide +kernel
theorem dX12_shaken_165 : decode cX12_shaken 165 = .ok (.iload 10, 2) := by decide +kernel
theorem dX12_shaken_167 : decode cX12_shaken 167 = .ok (.aload_n 0, 1) := by decide +kernel
theorem dX12_shaken_168 : decode cX12_shaken 168 = .ok (.getfield 82, 3) := by decide +kernel
theorem dX12_shaken_171 : decode cX12_shaken 171 = .ok (.if_icmp .ge 45, 3) := by decide +kernel
theorem dX12_shaken_174 : decode cX12_shaken 174 = .ok (.lload 8, 2) := by decide +kernel
theorem dX12_shaken_176 : decode cX12_shaken 176 = .ok (.iload 7, 2) := by decide +kernel
theorem dX12_shaken_178 : decode cX12_shaken 178 = .ok (.iload 10, 2) := by decide +kernel
theorem dX12_shaken_180 : decode cX12_shaken 180 = .ok (.ishr, 1) := by decide +kernel
theorem dX12_shaken_181 : decode cX12_shaken 181 = .ok (.iconst 1, 1) := by decide +kernel
theorem dX12_shaken_182 : decode cX12_shaken 182 = .ok (.iand, 1) := by decide +kernel
theorem dX12_shaken_183 : decode cX12_shaken 183 = .ok (.iconst 1, 1) := by decide +kernel
theorem dX12_shaken_184 : decode cX12_shaken 184 = .ok (.if_icmp .ne 13, 3) := by decide +kernel
theorem dX12_shaken_187 : decode cX12_shaken 187 = .ok (.aload_n 0, 1) := by decide +kernel
theorem dX12_shaken_188 : decode cX12_shaken 188 = .ok (.getfield 25, 3) := by decide +kernel
theorem dX12_shaken_191 : decode cX12_shaken 191 = .ok (.iconst 4, 1) := by decide +kernel
theorem dX12_shaken_192 : decode cX12_shaken 192 = .ok (.iaload, 1) := by decide +kernel
theorem dX12_shaken_193 : decode cX12_shaken 193 = .ok (.i2l, 1) := by decide +kernel
theorem dX12_shaken_194 : decode cX12_shaken 194 = .ok (.goto 13, 3) := by decide +kernel
theorem dX12_shaken_197 : decode cX12_shaken 197 = .ok (.bipush 100, 2) := by decide +kernel
theorem dX12_shaken_199 : decode cX12_shaken 199 = .ok (.aload_n 0, 1) := by decide +kernel
theorem dX12_shaken_200 : decode cX12_shaken 200 = .ok (.getfield 25, 3) := by decide +kernel
theorem dX12_shaken_203 : decode cX12_shaken 203 = .ok (.iconst 4, 1) := by decide +kernel
theorem dX12_shaken_204 : decode cX12_shaken 204 = .ok (.iaload, 1) := by decide +kernel
theorem dX12_shaken_205 : decode cX12_shaken 205 = .ok (.isub, 1) := by decide +kernel
theorem dX12_shaken_206 : decode cX12_shaken 206 = .ok (.i2l, 1) := by decide +kernel
theorem dX12_shaken_207 : decode cX12_shaken 207 = .ok (.lmul, 1) := by decide +kernel
theorem dX12_shaken_208 : decode cX12_shaken 208 = .ok (.lstore 8, 2) := by decide +kernel
theorem dX12_shaken_210 : decode cX12_shaken 210 = .ok (.iinc 10 1, 3) := by decide +kernel
theorem dX12_shaken_213 : decode cX12_shaken 213 = .ok (.goto (-48), 3) := by decide +kernel
theorem dX12_shaken_216 : decode cX12_shaken 216 = .ok (.lload_n 3, 1) := by decide +kernel
theorem dX12_shaken_217 : decode cX12_shaken 217 = .ok (.lload 8, 2) := by decide +kernel
theorem dX12_shaken_219 : decode cX12_shaken 219 = .ok (.ladd, 1) := by decide +kernel
theorem dX12_shaken_220 : decode cX12_shaken 220 = .ok (.lstore_n 3, 1) := by decide +kernel
theorem dX12_shaken_221 : decode cX12_shaken 221 = .ok (.iinc 7 1, 3) := by decide +kernel
theorem dX12_shaken_224 : decode cX12_shaken 224 = .ok (.goto (-133), 3) := by decide +kernel
theorem dX12_shaken_227 : decode cX12_shaken 227 = .ok (.iload_n 1, 1) := by decide +kernel
theorem dX12_shaken_228 : decode cX12_shaken 228 = .ok (.ifCond .ne 7, 3) := by decide +kernel
theorem dX12_shaken_231 : decode cX12_shaken 231 = .ok (.lload_n 3, 1) := by decide +kernel
theorem dX12_shaken_232 : decode cX12_shaken 232 = .ok (.goto 5, 3) := by decide +kernel
theorem dX12_shaken_235 : decode cX12_shaken 235 = .ok (.lload 5, 2) := by decide +kernel
theorem dX12_shaken_237 : decode cX12_shaken 237 = .ok (.lload_n 3, 1) := by decide +kernel
theorem dX12_shaken_238 : decode cX12_shaken 238 = .ok (.lload 5, 2) := by decide +kernel
theorem dX12_shaken_240 : decode cX12_shaken 240 = .ok (.invokestatic 254, 3) := by decide +kernel
theorem dX12_shaken_243 : decode cX12_shaken 243 = .ok (.ldiv, 1) := by decide +kernel
theorem dX12_shaken_244 : decode cX12_shaken 244 = .ok (.lreturn, 1) := by decide +kernel
theorem dX12_seeds_0 : decode cX12_seeds 0 = .ok (.aload_n 0, 1) := by decide +kernel
theorem dX12_seeds_1 : decode cX12_seeds 1 = .ok (.iload_n 1, 1) := by decide +kernel
theorem dX12_seeds_2 : decode cX12_seeds 2 = .ok (.invokevirtual 150, 3) := by decide +kernel
theorem dX12_seeds_5 : decode cX12_seeds 5 = .ok (.ifCond .ne 9, 3) := by decide +kernel
theorem dX12_seeds_8 : decode cX12_seeds 8 = .ok (.aload_n 0, 1) := by decide +kernel
theorem dX12_seeds_9 : decode cX12_seeds 9 = .ok (.iconst (-1), 1) := by decide +kernel
theorem dX12_seeds_10 : decode cX12_seeds 10 = .ok (.invokevirtual 93, 3) := by decide +kernel
theorem dX12_seeds_13 : decode cX12_seeds 13 = .ok (.ireturn, 1) := by decide +kernel
theorem dX12_seeds_14 : decode cX12_seeds 14 = .ok (.iload_n 2, 1) := by decide +kernel
theorem dX12_seeds_15 : decode cX12_seeds 15 = .ok (.iconst 1, 1) := by decide +kernel
theorem dX12_seeds_16 : decode cX12_seeds 16 = .ok (.bipush 30, 2) := by decide +kernel
theorem dX12_seeds_18 : decode cX12_seeds 18 = .ok (.invokestatic 86, 3) := by decide +kernel
theorem dX12_seeds_21 : decode cX12_seeds 21 = .ok (.istore 4, 2) := by decide +kernel
theorem dX12_seeds_23 : decode cX12_seeds 23 = .ok (.iload 4, 2) := by decide +kernel
theorem dX12_seeds_25 : decode cX12_seeds 25 = .ok (.ifCond .eq 10, 3) := by decide +kernel
theorem dX12_seeds_28 : decode cX12_seeds 28 = .ok (.aload_n 0, 1) := by decide +kernel
theorem dX12_seeds_29 : decode cX12_seeds 29 = .ok (.iload 4, 2) := by decide +kernel
theorem dX12_seeds_31 : decode cX12_seeds 31 = .ok (.invokevirtual 93, 3) := by decide +kernel
theorem dX12_seeds_34 : decode cX12_seeds 34 = .ok (.ireturn, 1) := by decide +kernel
theorem dX12_seeds_35 : decode cX12_seeds 35 = .ok (.iload_n 3, 1) := by decide +kernel
theorem dX12_seeds_36 : decode cX12_seeds 36 = .ok (.istore 5, 2) := by decide +kernel
theorem dX12_seeds_38 : decode cX12_seeds 38 = .ok (.iconst 0, 1) := by decide +kernel
theorem dX12_seeds_39 : decode cX12_seeds 39 = .ok (.istore 6, 2) := by decide +kernel
theorem dX12_seeds_41 : decode cX12_seeds 41 = .ok (.iconst 0, 1) := by decide +kernel
theorem dX12_seeds_42 : decode cX12_seeds 42 = .ok (.istore 7, 2) := by decide +kernel
theorem dX12_seeds_44 : decode cX12_seeds 44 = .ok (.iload 7, 2) := by decide +kernel
theorem dX12_seeds_46 : decode cX12_seeds 46 = .ok (.iload_n 2, 1) := by decide +kernel
theorem dX12_seeds_47 : decode cX12_seeds 47 = .ok (.if_icmp .ge 134, 3) := by decide +kernel
theorem dX12_seeds_50 : decode cX12_seeds 50 = .ok (.aload_n 0, 1) := by decide +kernel
theorem dX12_seeds_51 : decode cX12_seeds 51 = .ok (.iconst 1, 1) := by decide +kernel
theorem dX12_seeds_52 : decode cX12_seeds 52 = .ok (.iconst 1, 1) := by decide +kernel
theorem dX12_seeds_53 : decode cX12_seeds 53 = .ok (.invokevirtual 122, 3) := by decide +kernel
theorem dX12_seeds_56 : decode cX12_seeds 56 = .ok (.iload_n 1, 1) := by decide +kernel
theorem dX12_seeds_57 : decode cX12_seeds 57 = .ok (.istore 8, 2) := by decide +kernel
theorem dX12_seeds_59 : decode cX12_seeds 59 = .ok (.aload_n 0, 1) := by decide +kernel
theorem dX12_seeds_60 : decode cX12_seeds 60 = .ok (.getfield 82, 3) := by decide +kernel
theorem dX12_seeds_63 : decode cX12_seeds 63 = .ok (.iconst 1, 1) := by decide +kernel
theorem dX12_seeds_64 : decode cX12_seeds 64 = .ok (.isub, 1) := by decide +kernel
theorem dX12_seeds_65 : decode cX12_seeds 65 = .ok (.istore 9, 2) := by decide +kernel
theorem dX12_seeds_67 : decode cX12_seeds 67 = .ok (.iload 9, 2) := by decide +kernel
theorem dX12_seeds_69 : decode cX12_seeds 69 = .ok (.ifCond .le 81, 3) := by decide +kernel
theorem dX12_seeds_72 : decode cX12_seeds 72 = .ok (.iload 5, 2) := by decide +kernel
theorem dX12_seeds_74 : decode cX12_seeds 74 = .ok (.ldc_w 258, 3) := by decide +kernel
theorem dX12_seeds_77 : decode cX12_seeds 77 = .ok (.imul, 1) := by decide +kernel
theorem dX12_seeds_78 : decode cX12_seeds 78 = .ok (.sipush 12345, 3) := by decide +kernel
theorem dX12_seeds_81 : decode cX12_seeds 81 = .ok (.iadd, 1) := by decide +kernel
theorem dX12_seeds_82 : decode cX12_seeds 82 = .ok (.istore 5, 2) := by decide +kernel
theorem dX12_seeds_84 : decode cX12_seeds 84 = .ok (.iload 5, 2) := by decide +kernel
theorem dX12_seeds_86 : decode cX12_seeds 86 = .ok (.ldc_w 259, 3) := by decide +kernel
theorem dX12_seeds_89 : decode cX12_seeds 89 = .ok (.iand, 1) := by decide +kernel
theorem dX12_seeds_90 : decode cX12_seeds 90 = .ok (.ldc_w 260, 3) := by decide +kernel
theorem dX12_seeds_93 : decode cX12_seeds 93 = .ok (.idiv, 1) := by decide +kernel
theorem dX12_seeds_94 : decode cX12_seeds 94 = .ok (.iload 9, 2) := by decide +kernel
theorem dX12_seeds_96 : decode cX12_seeds 96 = .ok (.iconst 1, 1) := by decide +kernel
theorem dX12_seeds_97 : decode cX12_seeds 97 = .ok (.iadd, 1) := by decide +kernel
theorem dX12_seeds_98 : decode cX12_seeds 98 = .ok (.irem, 1) := by decide +kernel
theorem dX12_seeds_99 : decode cX12_seeds 99 = .ok (.istore 10, 2) := by decide +kernel
theorem dX12_seeds_101 : decode cX12_seeds 101 = .ok (.iload 9, 2) := by decide +kernel
theorem dX12_seeds_103 : decode cX12_seeds 103 = .ok (.iload 10, 2) := by decide +kernel
theorem dX12_seeds_105 : decode cX12_seeds 105 = .ok (.if_icmp .eq 11, 3) := by decide +kernel
theorem dX12_seeds_108 : decode cX12_seeds 108 = .ok (.aload_n 0, 1) := by decide +kernel
theorem dX12_seeds_109 : decode cX12_seeds 109 = .ok (.iload 9, 2) := by decide +kernel
theorem dX12_seeds_111 : decode cX12_seeds 111 = .ok (.iload 10, 2) := by decide +kernel
theorem dX12_seeds_113 : decode cX12_seeds 113 = .ok (.invokevirtual 239, 3) := by decide +kernel
theorem dX12_seeds_116 : decode cX12_seeds 116 = .ok (.iload 8, 2) := by decide +kernel
theorem dX12_seeds_118 : decode cX12_seeds 118 = .ok (.iload 9, 2) := by decide +kernel
theorem dX12_seeds_120 : decode cX12_seeds 120 = .ok (.if_icmp .ne 8, 3) := by decide +kernel
theorem dX12_seeds_123 : decode cX12_seeds 123 = .ok (.iload 10, 2) := by decide +kernel
theorem dX12_seeds_125 : decode cX12_seeds 125 = .ok (.goto 17, 3) := by decide +kernel
theorem dX12_seeds_128 : decode cX12_seeds 128 = .ok (.iload 8, 2) := by decide +kernel
theorem dX12_seeds_130 : decode cX12_seeds 130 = .ok (.iload 10, 2) := by decide +kernel
theorem dX12_seeds_132 : decode cX12_seeds 132 = .ok (.if_icmp .ne 8, 3) := by decide +kernel
theorem dX12_seeds_135 : decode cX12_seeds 135 = .ok (.iload 9, 2) := by decide +kernel
theorem dX12_seeds_137 : decode cX12_seeds 137 = .ok (.goto 5, 3) := by decide +kernel
theorem dX12_seeds_140 : decode cX12_seeds 140 = .ok (.iload 8, 2) := by decide +kernel
theorem dX12_seeds_142 : decode cX12_seeds 142 = .ok (.istore 8, 2) := by decide +kernel
theorem dX12_seeds_144 : decode cX12_seeds 144 = .ok (.iinc 9 (-1), 3) := by decide +kernel
theorem dX12_seeds_147 : decode cX12_seeds 147 = .ok (.goto (-80), 3) := by decide +kernel
theorem dX12_seeds_150 : decode cX12_seeds 150 = .ok (.aload_n 0, 1) := by decide +kernel
theorem dX12_seeds_151 : decode cX12_seeds 151 = .ok (.invokevirtual 204, 3) := by decide +kernel
theorem dX12_seeds_154 : decode cX12_seeds 154 = .ok (.iload 6, 2) := by decide +kernel
theorem dX12_seeds_156 : decode cX12_seeds 156 = .ok (.aload_n 0, 1) := by decide +kernel
theorem dX12_seeds_157 : decode cX12_seeds 157 = .ok (.getfield 49, 3) := by decide +kernel
theorem dX12_seeds_160 : decode cX12_seeds 160 = .ok (.iload 8, 2) := by decide +kernel
theorem dX12_seeds_162 : decode cX12_seeds 162 = .ok (.iaload, 1) := by decide +kernel
theorem dX12_seeds_163 : decode cX12_seeds 163 = .ok (.invokestatic 156, 3) := by decide +kernel
theorem dX12_seeds_166 : decode cX12_seeds 166 = .ok (.iadd, 1) := by decide +kernel
theorem dX12_seeds_167 : decode cX12_seeds 167 = .ok (.istore 6, 2) := by decide +kernel
theorem dX12_seeds_169 : decode cX12_seeds 169 = .ok (.aload_n 0, 1) := by decide +kernel
theorem dX12_seeds_170 : decode cX12_seeds 170 = .ok (.iconst 1, 1) := by decide +kernel
theorem dX12_seeds_171 : decode cX12_seeds 171 = .ok (.iconst 0, 1) := by decide +kernel
theorem dX12_seeds_172 : decode cX12_seeds 172 = .ok (.invokevirtual 122, 3) := by decide +kernel
theorem dX12_seeds_175 : decode cX12_seeds 175 = .ok (.iinc 7 1, 3) := by decide +kernel
theorem dX12_seeds_178 : decode cX12_seeds 178 = .ok (.goto (-134), 3) := by decide +kernel
theorem dX12_seeds_181 : decode cX12_seeds 181 = .ok (.iload 6, 2) := by decide +kernel
theorem dX12_seeds_183 : decode cX12_seeds 183 = .ok (.ireturn, 1) := by decide +kernel
theorem dX12_count_0 : decode cX12_count 0 = .ok (.iload_n 1, 1) := by decide +kernel
theorem dX12_count_1 : decode cX12_count 1 = .ok (.bipush 11, 2) := by decide +kernel
theorem dX12_count_3 : decode cX12_count 3 = .ok (.bipush 16, 2) := by decide +kernel
theorem dX12_count_5 : decode cX12_count 5 = .ok (.invokestatic 104, 3) := by decide +kernel
theorem dX12_count_8 : decode cX12_count 8 = .ok (.ifCond .eq 13, 3) := by decide +kernel
theorem dX12_count_11 : decode cX12_count 11 = .ok (.aload_n 0, 1) := by decide +kernel
theorem dX12_count_12 : decode cX12_count 12 = .ok (.getfield 7, 3) := by decide +kernel
theorem dX12_count_15 : decode cX12_count 15 = .ok (.iload_n 1, 1) := by decide +kernel
theorem dX12_count_16 : decode cX12_count 16 = .ok (.bipush 10, 2) := by decide +kernel
theorem dX12_count_18 : decode cX12_count 18 = .ok (.isub, 1) := by decide +kernel
theorem dX12_count_19 : decode cX12_count 19 = .ok (.iaload, 1) := by decide +kernel
theorem dX12_count_20 : decode cX12_count 20 = .ok (.ireturn, 1) := by decide +kernel
theorem dX12_count_21 : decode cX12_count 21 = .ok (.iload_n 1, 1) := by decide +kernel
theorem dX12_count_22 : decode cX12_count 22 = .ok (.tableswitch 108 0 6 #[42, 47, 52, 57, 70, 75, 80], 42) := by decide +kernel
theorem dX12_count_64 : decode cX12_count 64 = .ok (.aload_n 0, 1) := by decide +kernel
theorem dX12_count_65 : decode cX12_count 65 = .ok (.getfield 82, 3) := by decide +kernel
theorem dX12_count_68 : decode cX12_count 68 = .ok (.ireturn, 1) := by decide +kernel
theorem dX12_count_69 : decode cX12_count 69 = .ok (.aload_n 0, 1) := by decide +kernel
theorem dX12_count_70 : decode cX12_count 70 = .ok (.getfield 144, 3) := by decide +kernel
theorem dX12_count_73 : decode cX12_count 73 = .ok (.ireturn, 1) := by decide +kernel
theorem dX12_count_74 : decode cX12_count 74 = .ok (.aload_n 0, 1) := by decide +kernel
theorem dX12_count_75 : decode cX12_count 75 = .ok (.getfield 115, 3) := by decide +kernel
theorem dX12_count_78 : decode cX12_count 78 = .ok (.ireturn, 1) := by decide +kernel
theorem dX12_count_79 : decode cX12_count 79 = .ok (.aload_n 0, 1) := by decide +kernel
theorem dX12_count_80 : decode cX12_count 80 = .ok (.aload_n 0, 1) := by decide +kernel
theorem dX12_count_81 : decode cX12_count 81 = .ok (.aload_n 0, 1) := by decide +kernel
theorem dX12_count_82 : decode cX12_count 82 = .ok (.getfield 144, 3) := by decide +kernel
theorem dX12_count_85 : decode cX12_count 85 = .ok (.invokevirtual 159, 3) := by decide +kernel
theorem dX12_count_88 : decode cX12_count 88 = .ok (.invokevirtual 165, 3) := by decide +kernel
theorem dX12_count_91 : decode cX12_count 91 = .ok (.ireturn, 1) := by decide +kernel
theorem dX12_count_92 : decode cX12_count 92 = .ok (.aload_n 0, 1) := by decide +kernel
theorem dX12_count_93 : decode cX12_count 93 = .ok (.getfield 90, 3) := by decide +kernel
theorem dX12_count_96 : decode cX12_count 96 = .ok (.ireturn, 1) := by decide +kernel
theorem dX12_count_97 : decode cX12_count 97 = .ok (.aload_n 0, 1) := by decide +kernel
theorem dX12_count_98 : decode cX12_count 98 = .ok (.getfield 210, 3) := by decide +kernel
theorem dX12_count_101 : decode cX12_count 101 = .ok (.ireturn, 1) := by decide +kernel
theorem dX12_count_102 : decode cX12_count 102 = .ok (.aload_n 0, 1) := by decide +kernel
theorem dX12_count_103 : decode cX12_count 103 = .ok (.invokevirtual 213, 3) := by decide +kernel
theorem dX12_count_106 : decode cX12_count 106 = .ok (.ifCond .eq 5, 3) := by decide +kernel
theorem dX12_count_109 : decode cX12_count 109 = .ok (.iconst 0, 1) := by decide +kernel
theorem dX12_count_110 : decode cX12_count 110 = .ok (.ireturn, 1) := by decide +kernel
theorem dX12_count_111 : decode cX12_count 111 = .ok (.aload_n 0, 1) := by decide +kernel
theorem dX12_count_112 : decode cX12_count 112 = .ok (.invokevirtual 204, 3) := by decide +kernel
theorem dX12_count_115 : decode cX12_count 115 = .ok (.aload_n 0, 1) := by decide +kernel
theorem dX12_count_116 : decode cX12_count 116 = .ok (.getfield 58, 3) := by decide +kernel
theorem dX12_count_119 : decode cX12_count 119 = .ok (.aload_n 0, 1) := by decide +kernel
theorem dX12_count_120 : decode cX12_count 120 = .ok (.getfield 144, 3) := by decide +kernel
theorem dX12_count_123 : decode cX12_count 123 = .ok (.iaload, 1) := by decide +kernel
theorem dX12_count_124 : decode cX12_count 124 = .ok (.aload_n 0, 1) := by decide +kernel
theorem dX12_count_125 : decode cX12_count 125 = .ok (.getfield 144, 3) := by decide +kernel
theorem dX12_count_128 : decode cX12_count 128 = .ok (.isub, 1) := by decide +kernel
theorem dX12_count_129 : decode cX12_count 129 = .ok (.ireturn, 1) := by decide +kernel
theorem dX12_count_130 : decode cX12_count 130 = .ok (.bipush (-9), 2) := by decide +kernel
theorem dX12_count_132 : decode cX12_count 132 = .ok (.ireturn, 1) := by decide +kernel
