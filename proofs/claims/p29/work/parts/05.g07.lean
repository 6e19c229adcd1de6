section
/-! 05.dec6 -/
theorem dX12_byLaw_26 : decode cX12_byLaw 26 = .ok (.iload_n 3, 1) := op_29 (bl_at (d := 0) bl_cX12_byLaw_0 26 rfl)
theorem dX12_byLaw_27 : decode cX12_byLaw 27 = .ok (.invokevirtual 150, 3) := op_182 (bl_at (d := 0) bl_cX12_byLaw_0 27 rfl) (bl_at (d := 0) bl_cX12_byLaw_0 28 rfl) (bl_at (d := 0) bl_cX12_byLaw_0 29 rfl)
theorem dX12_byLaw_30 : decode cX12_byLaw 30 = .ok (.ifCond .eq 11, 3) := op_153 (bl_at (d := 0) bl_cX12_byLaw_0 30 rfl) (bl_at (d := 0) bl_cX12_byLaw_0 31 rfl) (bl_at (d := 32) bl_cX12_byLaw_32 0 rfl)
theorem dX12_byLaw_33 : decode cX12_byLaw 33 = .ok (.iload_n 3, 1) := op_29 (bl_at (d := 32) bl_cX12_byLaw_32 1 rfl)
theorem dX12_byLaw_34 : decode cX12_byLaw 34 = .ok (.aload_n 0, 1) := op_42 (bl_at (d := 32) bl_cX12_byLaw_32 2 rfl)
theorem dX12_byLaw_35 : decode cX12_byLaw 35 = .ok (.getfield 144, 3) := op_180 (bl_at (d := 32) bl_cX12_byLaw_32 3 rfl) (bl_at (d := 32) bl_cX12_byLaw_32 4 rfl) (bl_at (d := 32) bl_cX12_byLaw_32 5 rfl)
theorem dX12_byLaw_38 : decode cX12_byLaw 38 = .ok (.if_icmp .ge 9, 3) := op_162 (bl_at (d := 32) bl_cX12_byLaw_32 6 rfl) (bl_at (d := 32) bl_cX12_byLaw_32 7 rfl) (bl_at (d := 32) bl_cX12_byLaw_32 8 rfl)
theorem dX12_byLaw_41 : decode cX12_byLaw 41 = .ok (.aload_n 0, 1) := op_42 (bl_at (d := 32) bl_cX12_byLaw_32 9 rfl)
theorem dX12_byLaw_42 : decode cX12_byLaw 42 = .ok (.iconst (-1), 1) := op_2 (bl_at (d := 32) bl_cX12_byLaw_32 10 rfl)
theorem dX12_byLaw_43 : decode cX12_byLaw 43 = .ok (.invokevirtual 207, 3) := op_182 (bl_at (d := 32) bl_cX12_byLaw_32 11 rfl) (bl_at (d := 32) bl_cX12_byLaw_32 12 rfl) (bl_at (d := 32) bl_cX12_byLaw_32 13 rfl)
theorem dX12_byLaw_46 : decode cX12_byLaw 46 = .ok (.ireturn, 1) := op_172 (bl_at (d := 32) bl_cX12_byLaw_32 14 rfl)
theorem dX12_byLaw_47 : decode cX12_byLaw 47 = .ok (.aload_n 0, 1) := op_42 (bl_at (d := 32) bl_cX12_byLaw_32 15 rfl)
theorem dX12_byLaw_48 : decode cX12_byLaw 48 = .ok (.getfield 115, 3) := op_180 (bl_at (d := 32) bl_cX12_byLaw_32 16 rfl) (bl_at (d := 32) bl_cX12_byLaw_32 17 rfl) (bl_at (d := 32) bl_cX12_byLaw_32 18 rfl)
theorem dX12_byLaw_51 : decode cX12_byLaw 51 = .ok (.iconst 1, 1) := op_4 (bl_at (d := 32) bl_cX12_byLaw_32 19 rfl)
theorem dX12_byLaw_52 : decode cX12_byLaw 52 = .ok (.if_icmp .ne 10, 3) := op_160 (bl_at (d := 32) bl_cX12_byLaw_32 20 rfl) (bl_at (d := 32) bl_cX12_byLaw_32 21 rfl) (bl_at (d := 32) bl_cX12_byLaw_32 22 rfl)
theorem dX12_byLaw_55 : decode cX12_byLaw 55 = .ok (.aload_n 0, 1) := op_42 (bl_at (d := 32) bl_cX12_byLaw_32 23 rfl)
theorem dX12_byLaw_56 : decode cX12_byLaw 56 = .ok (.bipush (-3), 2) := op_16 (bl_at (d := 32) bl_cX12_byLaw_32 24 rfl) (bl_at (d := 32) bl_cX12_byLaw_32 25 rfl)
theorem dX12_byLaw_58 : decode cX12_byLaw 58 = .ok (.invokevirtual 207, 3) := op_182 (bl_at (d := 32) bl_cX12_byLaw_32 26 rfl) (bl_at (d := 32) bl_cX12_byLaw_32 27 rfl) (bl_at (d := 32) bl_cX12_byLaw_32 28 rfl)
theorem dX12_byLaw_61 : decode cX12_byLaw 61 = .ok (.ireturn, 1) := op_172 (bl_at (d := 32) bl_cX12_byLaw_32 29 rfl)
theorem dX12_byLaw_62 : decode cX12_byLaw 62 = .ok (.aload_n 0, 1) := op_42 (bl_at (d := 32) bl_cX12_byLaw_32 30 rfl)
theorem dX12_byLaw_63 : decode cX12_byLaw 63 = .ok (.getfield 25, 3) := op_180 (bl_at (d := 32) bl_cX12_byLaw_32 31 rfl) (bl_at (d := 64) bl_cX12_byLaw_64 0 rfl) (bl_at (d := 64) bl_cX12_byLaw_64 1 rfl)
theorem dX12_byLaw_66 : decode cX12_byLaw 66 = .ok (.iconst 1, 1) := op_4 (bl_at (d := 64) bl_cX12_byLaw_64 2 rfl)
theorem dX12_byLaw_67 : decode cX12_byLaw 67 = .ok (.iaload, 1) := op_46 (bl_at (d := 64) bl_cX12_byLaw_64 3 rfl)
theorem dX12_byLaw_68 : decode cX12_byLaw 68 = .ok (.istore 4, 2) := op_54 (bl_at (d := 64) bl_cX12_byLaw_64 4 rfl) (bl_at (d := 64) bl_cX12_byLaw_64 5 rfl)
theorem dX12_byLaw_70 : decode cX12_byLaw 70 = .ok (.aload_n 0, 1) := op_42 (bl_at (d := 64) bl_cX12_byLaw_64 6 rfl)
theorem dX12_byLaw_71 : decode cX12_byLaw 71 = .ok (.getfield 25, 3) := op_180 (bl_at (d := 64) bl_cX12_byLaw_64 7 rfl) (bl_at (d := 64) bl_cX12_byLaw_64 8 rfl) (bl_at (d := 64) bl_cX12_byLaw_64 9 rfl)
theorem dX12_byLaw_74 : decode cX12_byLaw 74 = .ok (.iconst 2, 1) := op_5 (bl_at (d := 64) bl_cX12_byLaw_64 10 rfl)
theorem dX12_byLaw_75 : decode cX12_byLaw 75 = .ok (.iaload, 1) := op_46 (bl_at (d := 64) bl_cX12_byLaw_64 11 rfl)
theorem dX12_byLaw_76 : decode cX12_byLaw 76 = .ok (.istore 5, 2) := op_54 (bl_at (d := 64) bl_cX12_byLaw_64 12 rfl) (bl_at (d := 64) bl_cX12_byLaw_64 13 rfl)
theorem dX12_byLaw_78 : decode cX12_byLaw 78 = .ok (.aload_n 0, 1) := op_42 (bl_at (d := 64) bl_cX12_byLaw_64 14 rfl)
theorem dX12_byLaw_79 : decode cX12_byLaw 79 = .ok (.getfield 25, 3) := op_180 (bl_at (d := 64) bl_cX12_byLaw_64 15 rfl) (bl_at (d := 64) bl_cX12_byLaw_64 16 rfl) (bl_at (d := 64) bl_cX12_byLaw_64 17 rfl)
theorem dX12_byLaw_82 : decode cX12_byLaw 82 = .ok (.iconst 1, 1) := op_4 (bl_at (d := 64) bl_cX12_byLaw_64 18 rfl)
theorem dX12_byLaw_83 : decode cX12_byLaw 83 = .ok (.iload_n 1, 1) := op_27 (bl_at (d := 64) bl_cX12_byLaw_64 19 rfl)
theorem dX12_byLaw_84 : decode cX12_byLaw 84 = .ok (.iastore, 1) := op_79 (bl_at (d := 64) bl_cX12_byLaw_64 20 rfl)
theorem dX12_byLaw_85 : decode cX12_byLaw 85 = .ok (.aload_n 0, 1) := op_42 (bl_at (d := 64) bl_cX12_byLaw_64 21 rfl)
theorem dX12_byLaw_86 : decode cX12_byLaw 86 = .ok (.getfield 25, 3) := op_180 (bl_at (d := 64) bl_cX12_byLaw_64 22 rfl) (bl_at (d := 64) bl_cX12_byLaw_64 23 rfl) (bl_at (d := 64) bl_cX12_byLaw_64 24 rfl)
theorem dX12_byLaw_89 : decode cX12_byLaw 89 = .ok (.iconst 2, 1) := op_5 (bl_at (d := 64) bl_cX12_byLaw_64 25 rfl)
theorem dX12_byLaw_90 : decode cX12_byLaw 90 = .ok (.iload_n 2, 1) := op_28 (bl_at (d := 64) bl_cX12_byLaw_64 26 rfl)
theorem dX12_byLaw_91 : decode cX12_byLaw 91 = .ok (.iastore, 1) := op_79 (bl_at (d := 64) bl_cX12_byLaw_64 27 rfl)
theorem dX12_byLaw_92 : decode cX12_byLaw 92 = .ok (.aload_n 0, 1) := op_42 (bl_at (d := 64) bl_cX12_byLaw_64 28 rfl)
theorem dX12_byLaw_93 : decode cX12_byLaw 93 = .ok (.invokevirtual 204, 3) := op_182 (bl_at (d := 64) bl_cX12_byLaw_64 29 rfl) (bl_at (d := 64) bl_cX12_byLaw_64 30 rfl) (bl_at (d := 64) bl_cX12_byLaw_64 31 rfl)
theorem dX12_byLaw_96 : decode cX12_byLaw 96 = .ok (.aload_n 0, 1) := op_42 (bl_at (d := 96) bl_cX12_byLaw_96 0 rfl)
theorem dX12_byLaw_97 : decode cX12_byLaw 97 = .ok (.getfield 25, 3) := op_180 (bl_at (d := 96) bl_cX12_byLaw_96 1 rfl) (bl_at (d := 96) bl_cX12_byLaw_96 2 rfl) (bl_at (d := 96) bl_cX12_byLaw_96 3 rfl)
theorem dX12_byLaw_100 : decode cX12_byLaw 100 = .ok (.iconst 1, 1) := op_4 (bl_at (d := 96) bl_cX12_byLaw_96 4 rfl)
theorem dX12_byLaw_101 : decode cX12_byLaw 101 = .ok (.iload 4, 2) := op_21 (bl_at (d := 96) bl_cX12_byLaw_96 5 rfl) (bl_at (d := 96) bl_cX12_byLaw_96 6 rfl)
theorem dX12_byLaw_103 : decode cX12_byLaw 103 = .ok (.iastore, 1) := op_79 (bl_at (d := 96) bl_cX12_byLaw_96 7 rfl)
theorem dX12_byLaw_104 : decode cX12_byLaw 104 = .ok (.aload_n 0, 1) := op_42 (bl_at (d := 96) bl_cX12_byLaw_96 8 rfl)
theorem dX12_byLaw_105 : decode cX12_byLaw 105 = .ok (.getfield 25, 3) := op_180 (bl_at (d := 96) bl_cX12_byLaw_96 9 rfl) (bl_at (d := 96) bl_cX12_byLaw_96 10 rfl) (bl_at (d := 96) bl_cX12_byLaw_96 11 rfl)
theorem dX12_byLaw_108 : decode cX12_byLaw 108 = .ok (.iconst 2, 1) := op_5 (bl_at (d := 96) bl_cX12_byLaw_96 12 rfl)
theorem dX12_byLaw_109 : decode cX12_byLaw 109 = .ok (.iload 5, 2) := op_21 (bl_at (d := 96) bl_cX12_byLaw_96 13 rfl) (bl_at (d := 96) bl_cX12_byLaw_96 14 rfl)
theorem dX12_byLaw_111 : decode cX12_byLaw 111 = .ok (.iastore, 1) := op_79 (bl_at (d := 96) bl_cX12_byLaw_96 15 rfl)
theorem dX12_byLaw_112 : decode cX12_byLaw 112 = .ok (.aload_n 0, 1) := op_42 (bl_at (d := 96) bl_cX12_byLaw_96 16 rfl)
theorem dX12_byLaw_113 : decode cX12_byLaw 113 = .ok (.getfield 49, 3) := op_180 (bl_at (d := 96) bl_cX12_byLaw_96 17 rfl) (bl_at (d := 96) bl_cX12_byLaw_96 18 rfl) (bl_at (d := 96) bl_cX12_byLaw_96 19 rfl)
theorem dX12_byLaw_116 : decode cX12_byLaw 116 = .ok (.bipush 9, 2) := op_16 (bl_at (d := 96) bl_cX12_byLaw_96 20 rfl) (bl_at (d := 96) bl_cX12_byLaw_96 21 rfl)
theorem dX12_byLaw_118 : decode cX12_byLaw 118 = .ok (.aload_n 0, 1) := op_42 (bl_at (d := 96) bl_cX12_byLaw_96 22 rfl)
theorem dX12_byLaw_119 : decode cX12_byLaw 119 = .ok (.getfield 144, 3) := op_180 (bl_at (d := 96) bl_cX12_byLaw_96 23 rfl) (bl_at (d := 96) bl_cX12_byLaw_96 24 rfl) (bl_at (d := 96) bl_cX12_byLaw_96 25 rfl)
theorem dX12_byLaw_122 : decode cX12_byLaw 122 = .ok (.imul, 1) := op_104 (bl_at (d := 96) bl_cX12_byLaw_96 26 rfl)
theorem dX12_byLaw_123 : decode cX12_byLaw 123 = .ok (.iload_n 3, 1) := op_29 (bl_at (d := 96) bl_cX12_byLaw_96 27 rfl)
theorem dX12_byLaw_124 : decode cX12_byLaw 124 = .ok (.iadd, 1) := op_96 (bl_at (d := 96) bl_cX12_byLaw_96 28 rfl)
theorem dX12_byLaw_125 : decode cX12_byLaw 125 = .ok (.iaload, 1) := op_46 (bl_at (d := 96) bl_cX12_byLaw_96 29 rfl)
theorem dX12_byLaw_126 : decode cX12_byLaw 126 = .ok (.ireturn, 1) := op_172 (bl_at (d := 96) bl_cX12_byLaw_96 30 rfl)
theorem bl_cX12_gains_0 : ((bys cX12_gains).drop 0).take 32 = [42, 180, 0, 82, 153, 0, 12, 42, 180, 0, 82, 16, 8, 160, 0, 5, 3, 172, 42, 182, 0, 204, 3, 60, 27, 42, 180, 0, 82, 162, 0, 21] := by decide +kernel
theorem bl_cX12_gains_32 : ((bys cX12_gains).drop 32).take 32 = [42, 180, 0, 76, 27, 42, 180, 0, 49, 27, 46, 79, 132, 1, 1, 167, 255, 233, 42, 4, 4, 182, 0, 122, 42, 180, 0, 82, 60, 27, 158, 0] := by decide +kernel
theorem bl_cX12_gains_64 : ((bys cX12_gains).drop 64).take 32 = [17, 42, 27, 4, 100, 27, 182, 0, 235, 132, 1, 255, 167, 255, 241, 42, 180, 0, 13, 3, 3, 79, 42, 180, 0, 16, 3, 3, 79, 42, 180, 0] := by decide +kernel
theorem bl_cX12_gains_96 : ((bys cX12_gains).drop 96).take 32 = [19, 3, 4, 79, 42, 89, 180, 0, 82, 4, 96, 181, 0, 82, 42, 182, 0, 204, 3, 60, 4, 61, 28, 42, 180, 0, 82, 162, 0, 38, 27, 42] := by decide +kernel
theorem bl_cX12_gains_128 : ((bys cX12_gains).drop 128).take 32 = [180, 0, 49, 28, 46, 42, 180, 0, 76, 28, 4, 100, 46, 164, 0, 11, 4, 28, 4, 100, 120, 167, 0, 4, 3, 128, 60, 132, 2, 1, 167, 255] := by decide +kernel
theorem bl_cX12_gains_160 : ((bys cX12_gains).drop 160).take 32 = [216, 42, 4, 3, 182, 0, 122, 27, 172] := by decide +kernel
theorem dX12_gains_0 : decode cX12_gains 0 = .ok (.aload_n 0, 1) := op_42 (bl_at (d := 0) bl_cX12_gains_0 0 rfl)
theorem dX12_gains_1 : decode cX12_gains 1 = .ok (.getfield 82, 3) := op_180 (bl_at (d := 0) bl_cX12_gains_0 1 rfl) (bl_at (d := 0) bl_cX12_gains_0 2 rfl) (bl_at (d := 0) bl_cX12_gains_0 3 rfl)
theorem dX12_gains_4 : decode cX12_gains 4 = .ok (.ifCond .eq 12, 3) := op_153 (bl_at (d := 0) bl_cX12_gains_0 4 rfl) (bl_at (d := 0) bl_cX12_gains_0 5 rfl) (bl_at (d := 0) bl_cX12_gains_0 6 rfl)
theorem dX12_gains_7 : decode cX12_gains 7 = .ok (.aload_n 0, 1) := op_42 (bl_at (d := 0) bl_cX12_gains_0 7 rfl)
theorem dX12_gains_8 : decode cX12_gains 8 = .ok (.getfield 82, 3) := op_180 (bl_at (d := 0) bl_cX12_gains_0 8 rfl) (bl_at (d := 0) bl_cX12_gains_0 9 rfl) (bl_at (d := 0) bl_cX12_gains_0 10 rfl)
theorem dX12_gains_11 : decode cX12_gains 11 = .ok (.bipush 8, 2) := op_16 (bl_at (d := 0) bl_cX12_gains_0 11 rfl) (bl_at (d := 0) bl_cX12_gains_0 12 rfl)
theorem dX12_gains_13 : decode cX12_gains 13 = .ok (.if_icmp .ne 5, 3) := op_160 (bl_at (d := 0) bl_cX12_gains_0 13 rfl) (bl_at (d := 0) bl_cX12_gains_0 14 rfl) (bl_at (d := 0) bl_cX12_gains_0 15 rfl)
theorem dX12_gains_16 : decode cX12_gains 16 = .ok (.iconst 0, 1) := op_3 (bl_at (d := 0) bl_cX12_gains_0 16 rfl)
theorem dX12_gains_17 : decode cX12_gains 17 = .ok (.ireturn, 1) := op_172 (bl_at (d := 0) bl_cX12_gains_0 17 rfl)
theorem dX12_gains_18 : decode cX12_gains 18 = .ok (.aload_n 0, 1) := op_42 (bl_at (d := 0) bl_cX12_gains_0 18 rfl)
theorem dX12_gains_19 : decode cX12_gains 19 = .ok (.invokevirtual 204, 3) := op_182 (bl_at (d := 0) bl_cX12_gains_0 19 rfl) (bl_at (d := 0) bl_cX12_gains_0 20 rfl) (bl_at (d := 0) bl_cX12_gains_0 21 rfl)
theorem dX12_gains_22 : decode cX12_gains 22 = .ok (.iconst 0, 1) := op_3 (bl_at (d := 0) bl_cX12_gains_0 22 rfl)
theorem dX12_gains_23 : decode cX12_gains 23 = .ok (.istore_n 1, 1) := op_60 (bl_at (d := 0) bl_cX12_gains_0 23 rfl)
theorem dX12_gains_24 : decode cX12_gains 24 = .ok (.iload_n 1, 1) := op_27 (bl_at (d := 0) bl_cX12_gains_0 24 rfl)
theorem dX12_gains_25 : decode cX12_gains 25 = .ok (.aload_n 0, 1) := op_42 (bl_at (d := 0) bl_cX12_gains_0 25 rfl)
theorem dX12_gains_26 : decode cX12_gains 26 = .ok (.getfield 82, 3) := op_180 (bl_at (d := 0) bl_cX12_gains_0 26 rfl) (bl_at (d := 0) bl_cX12_gains_0 27 rfl) (bl_at (d := 0) bl_cX12_gains_0 28 rfl)
theorem dX12_gains_29 : decode cX12_gains 29 = .ok (.if_icmp .ge 21, 3) := op_162 (bl_at (d := 0) bl_cX12_gains_0 29 rfl) (bl_at (d := 0) bl_cX12_gains_0 30 rfl) (bl_at (d := 0) bl_cX12_gains_0 31 rfl)
theorem dX12_gains_32 : decode cX12_gains 32 = .ok (.aload_n 0, 1) := op_42 (bl_at (d := 32) bl_cX12_gains_32 0 rfl)
theorem dX12_gains_33 : decode cX12_gains 33 = .ok (.getfield 76, 3) := op_180 (bl_at (d := 32) bl_cX12_gains_32 1 rfl) (bl_at (d := 32) bl_cX12_gains_32 2 rfl) (bl_at (d := 32) bl_cX12_gains_32 3 rfl)
theorem dX12_gains_36 : decode cX12_gains 36 = .ok (.iload_n 1, 1) := op_27 (bl_at (d := 32) bl_cX12_gains_32 4 rfl)
theorem dX12_gains_37 : decode cX12_gains 37 = .ok (.aload_n 0, 1) := op_42 (bl_at (d := 32) bl_cX12_gains_32 5 rfl)
theorem dX12_gains_38 : decode cX12_gains 38 = .ok (.getfield 49, 3) := op_180 (bl_at (d := 32) bl_cX12_gains_32 6 rfl) (bl_at (d := 32) bl_cX12_gains_32 7 rfl) (bl_at (d := 32) bl_cX12_gains_32 8 rfl)
theorem dX12_gains_41 : decode cX12_gains 41 = .ok (.iload_n 1, 1) := op_27 (bl_at (d := 32) bl_cX12_gains_32 9 rfl)
theorem dX12_gains_42 : decode cX12_gains 42 = .ok (.iaload, 1) := op_46 (bl_at (d := 32) bl_cX12_gains_32 10 rfl)
theorem dX12_gains_43 : decode cX12_gains 43 = .ok (.iastore, 1) := op_79 (bl_at (d := 32) bl_cX12_gains_32 11 rfl)
theorem dX12_gains_44 : decode cX12_gains 44 = .ok (.iinc 1 1, 3) := op_132 (bl_at (d := 32) bl_cX12_gains_32 12 rfl) (bl_at (d := 32) bl_cX12_gains_32 13 rfl) (bl_at (d := 32) bl_cX12_gains_32 14 rfl)
theorem dX12_gains_47 : decode cX12_gains 47 = .ok (.goto (-23), 3) := op_167 (bl_at (d := 32) bl_cX12_gains_32 15 rfl) (bl_at (d := 32) bl_cX12_gains_32 16 rfl) (bl_at (d := 32) bl_cX12_gains_32 17 rfl)
theorem dX12_gains_50 : decode cX12_gains 50 = .ok (.aload_n 0, 1) := op_42 (bl_at (d := 32) bl_cX12_gains_32 18 rfl)
theorem dX12_gains_51 : decode cX12_gains 51 = .ok (.iconst 1, 1) := op_4 (bl_at (d := 32) bl_cX12_gains_32 19 rfl)
theorem dX12_gains_52 : decode cX12_gains 52 = .ok (.iconst 1, 1) := op_4 (bl_at (d := 32) bl_cX12_gains_32 20 rfl)
theorem dX12_gains_53 : decode cX12_gains 53 = .ok (.invokevirtual 122, 3) := op_182 (bl_at (d := 32) bl_cX12_gains_32 21 rfl) (bl_at (d := 32) bl_cX12_gains_32 22 rfl) (bl_at (d := 32) bl_cX12_gains_32 23 rfl)
theorem dX12_gains_56 : decode cX12_gains 56 = .ok (.aload_n 0, 1) := op_42 (bl_at (d := 32) bl_cX12_gains_32 24 rfl)
theorem dX12_gains_57 : decode cX12_gains 57 = .ok (.getfield 82, 3) := op_180 (bl_at (d := 32) bl_cX12_gains_32 25 rfl) (bl_at (d := 32) bl_cX12_gains_32 26 rfl) (bl_at (d := 32) bl_cX12_gains_32 27 rfl)
theorem dX12_gains_60 : decode cX12_gains 60 = .ok (.istore_n 1, 1) := op_60 (bl_at (d := 32) bl_cX12_gains_32 28 rfl)
theorem dX12_gains_61 : decode cX12_gains 61 = .ok (.iload_n 1, 1) := op_27 (bl_at (d := 32) bl_cX12_gains_32 29 rfl)
theorem dX12_gains_62 : decode cX12_gains 62 = .ok (.ifCond .le 17, 3) := op_158 (bl_at (d := 32) bl_cX12_gains_32 30 rfl) (bl_at (d := 32) bl_cX12_gains_32 31 rfl) (bl_at (d := 64) bl_cX12_gains_64 0 rfl)
theorem dX12_gains_65 : decode cX12_gains 65 = .ok (.aload_n 0, 1) := op_42 (bl_at (d := 64) bl_cX12_gains_64 1 rfl)
theorem dX12_gains_66 : decode cX12_gains 66 = .ok (.iload_n 1, 1) := op_27 (bl_at (d := 64) bl_cX12_gains_64 2 rfl)
theorem dX12_gains_67 : decode cX12_gains 67 = .ok (.iconst 1, 1) := op_4 (bl_at (d := 64) bl_cX12_gains_64 3 rfl)
theorem dX12_gains_68 : decode cX12_gains 68 = .ok (.isub, 1) := op_100 (bl_at (d := 64) bl_cX12_gains_64 4 rfl)
theorem dX12_gains_69 : decode cX12_gains 69 = .ok (.iload_n 1, 1) := op_27 (bl_at (d := 64) bl_cX12_gains_64 5 rfl)
theorem dX12_gains_70 : decode cX12_gains 70 = .ok (.invokevirtual 235, 3) := op_182 (bl_at (d := 64) bl_cX12_gains_64 6 rfl) (bl_at (d := 64) bl_cX12_gains_64 7 rfl) (bl_at (d := 64) bl_cX12_gains_64 8 rfl)
theorem dX12_gains_73 : decode cX12_gains 73 = .ok (.iinc 1 (-1), 3) := op_132 (bl_at (d := 64) bl_cX12_gains_64 9 rfl) (bl_at (d := 64) bl_cX12_gains_64 10 rfl) (bl_at (d := 64) bl_cX12_gains_64 11 rfl)
theorem dX12_gains_76 : decode cX12_gains 76 = .ok (.goto (-15), 3) := op_167 (bl_at (d := 64) bl_cX12_gains_64 12 rfl) (bl_at (d := 64) bl_cX12_gains_64 13 rfl) (bl_at (d := 64) bl_cX12_gains_64 14 rfl)
theorem dX12_gains_79 : decode cX12_gains 79 = .ok (.aload_n 0, 1) := op_42 (bl_at (d := 64) bl_cX12_gains_64 15 rfl)
theorem dX12_gains_80 : decode cX12_gains 80 = .ok (.getfield 13, 3) := op_180 (bl_at (d := 64) bl_cX12_gains_64 16 rfl) (bl_at (d := 64) bl_cX12_gains_64 17 rfl) (bl_at (d := 64) bl_cX12_gains_64 18 rfl)
theorem dX12_gains_83 : decode cX12_gains 83 = .ok (.iconst 0, 1) := op_3 (bl_at (d := 64) bl_cX12_gains_64 19 rfl)
theorem dX12_gains_84 : decode cX12_gains 84 = .ok (.iconst 0, 1) := op_3 (bl_at (d := 64) bl_cX12_gains_64 20 rfl)
theorem dX12_gains_85 : decode cX12_gains 85 = .ok (.iastore, 1) := op_79 (bl_at (d := 64) bl_cX12_gains_64 21 rfl)
theorem dX12_gains_86 : decode cX12_gains 86 = .ok (.aload_n 0, 1) := op_42 (bl_at (d := 64) bl_cX12_gains_64 22 rfl)
theorem dX12_gains_87 : decode cX12_gains 87 = .ok (.getfield 16, 3) := op_180 (bl_at (d := 64) bl_cX12_gains_64 23 rfl) (bl_at (d := 64) bl_cX12_gains_64 24 rfl) (bl_at (d := 64) bl_cX12_gains_64 25 rfl)
theorem dX12_gains_90 : decode cX12_gains 90 = .ok (.iconst 0, 1) := op_3 (bl_at (d := 64) bl_cX12_gains_64 26 rfl)
theorem dX12_gains_91 : decode cX12_gains 91 = .ok (.iconst 0, 1) := op_3 (bl_at (d := 64) bl_cX12_gains_64 27 rfl)
theorem dX12_gains_92 : decode cX12_gains 92 = .ok (.iastore, 1) := op_79 (bl_at (d := 64) bl_cX12_gains_64 28 rfl)
theorem dX12_gains_93 : decode cX12_gains 93 = .ok (.aload_n 0, 1) := op_42 (bl_at (d := 64) bl_cX12_gains_64 29 rfl)
theorem dX12_gains_94 : decode cX12_gains 94 = .ok (.getfield 19, 3) := op_180 (bl_at (d := 64) bl_cX12_gains_64 30 rfl) (bl_at (d := 64) bl_cX12_gains_64 31 rfl) (bl_at (d := 96) bl_cX12_gains_96 0 rfl)
theorem dX12_gains_97 : decode cX12_gains 97 = .ok (.iconst 0, 1) := op_3 (bl_at (d := 96) bl_cX12_gains_96 1 rfl)
theorem dX12_gains_98 : decode cX12_gains 98 = .ok (.iconst 1, 1) := op_4 (bl_at (d := 96) bl_cX12_gains_96 2 rfl)
theorem dX12_gains_99 : decode cX12_gains 99 = .ok (.iastore, 1) := op_79 (bl_at (d := 96) bl_cX12_gains_96 3 rfl)
theorem dX12_gains_100 : decode cX12_gains 100 = .ok (.aload_n 0, 1) := op_42 (bl_at (d := 96) bl_cX12_gains_96 4 rfl)
theorem dX12_gains_101 : decode cX12_gains 101 = .ok (.dup, 1) := op_89 (bl_at (d := 96) bl_cX12_gains_96 5 rfl)
theorem dX12_gains_102 : decode cX12_gains 102 = .ok (.getfield 82, 3) := op_180 (bl_at (d := 96) bl_cX12_gains_96 6 rfl) (bl_at (d := 96) bl_cX12_gains_96 7 rfl) (bl_at (d := 96) bl_cX12_gains_96 8 rfl)
theorem dX12_gains_105 : decode cX12_gains 105 = .ok (.iconst 1, 1) := op_4 (bl_at (d := 96) bl_cX12_gains_96 9 rfl)
theorem dX12_gains_106 : decode cX12_gains 106 = .ok (.iadd, 1) := op_96 (bl_at (d := 96) bl_cX12_gains_96 10 rfl)
theorem dX12_gains_107 : decode cX12_gains 107 = .ok (.putfield 82, 3) := op_181 (bl_at (d := 96) bl_cX12_gains_96 11 rfl) (bl_at (d := 96) bl_cX12_gains_96 12 rfl) (bl_at (d := 96) bl_cX12_gains_96 13 rfl)
theorem dX12_gains_110 : decode cX12_gains 110 = .ok (.aload_n 0, 1) := op_42 (bl_at (d := 96) bl_cX12_gains_96 14 rfl)
theorem dX12_gains_111 : decode cX12_gains 111 = .ok (.invokevirtual 204, 3) := op_182 (bl_at (d := 96) bl_cX12_gains_96 15 rfl) (bl_at (d := 96) bl_cX12_gains_96 16 rfl) (bl_at (d := 96) bl_cX12_gains_96 17 rfl)
theorem dX12_gains_114 : decode cX12_gains 114 = .ok (.iconst 0, 1) := op_3 (bl_at (d := 96) bl_cX12_gains_96 18 rfl)
theorem dX12_gains_115 : decode cX12_gains 115 = .ok (.istore_n 1, 1) := op_60 (bl_at (d := 96) bl_cX12_gains_96 19 rfl)
theorem dX12_gains_116 : decode cX12_gains 116 = .ok (.iconst 1, 1) := op_4 (bl_at (d := 96) bl_cX12_gains_96 20 rfl)
theorem dX12_gains_117 : decode cX12_gains 117 = .ok (.istore_n 2, 1) := op_61 (bl_at (d := 96) bl_cX12_gains_96 21 rfl)
theorem dX12_gains_118 : decode cX12_gains 118 = .ok (.iload_n 2, 1) := op_28 (bl_at (d := 96) bl_cX12_gains_96 22 rfl)
theorem dX12_gains_119 : decode cX12_gains 119 = .ok (.aload_n 0, 1) := op_42 (bl_at (d := 96) bl_cX12_gains_96 23 rfl)
theorem dX12_gains_120 : decode cX12_gains 120 = .ok (.getfield 82, 3) := op_180 (bl_at (d := 96) bl_cX12_gains_96 24 rfl) (bl_at (d := 96) bl_cX12_gains_96 25 rfl) (bl_at (d := 96) bl_cX12_gains_96 26 rfl)
theorem dX12_gains_123 : decode cX12_gains 123 = .ok (.if_icmp .ge 38, 3) := op_162 (bl_at (d := 96) bl_cX12_gains_96 27 rfl) (bl_at (d := 96) bl_cX12_gains_96 28 rfl) (bl_at (d := 96) bl_cX12_gains_96 29 rfl)
theorem dX12_gains_126 : decode cX12_gains 126 = .ok (.iload_n 1, 1) := op_27 (bl_at (d := 96) bl_cX12_gains_96 30 rfl)
theorem dX12_gains_127 : decode cX12_gains 127 = .ok (.aload_n 0, 1) := op_42 (bl_at (d := 96) bl_cX12_gains_96 31 rfl)
theorem dX12_gains_128 : decode cX12_gains 128 = .ok (.getfield 49, 3) := op_180 (bl_at (d := 128) bl_cX12_gains_128 0 rfl) (bl_at (d := 128) bl_cX12_gains_128 1 rfl) (bl_at (d := 128) bl_cX12_gains_128 2 rfl)
theorem dX12_gains_131 : decode cX12_gains 131 = .ok (.iload_n 2, 1) := op_28 (bl_at (d := 128) bl_cX12_gains_128 3 rfl)
theorem dX12_gains_132 : decode cX12_gains 132 = .ok (.iaload, 1) := op_46 (bl_at (d := 128) bl_cX12_gains_128 4 rfl)
theorem dX12_gains_133 : decode cX12_gains 133 = .ok (.aload_n 0, 1) := op_42 (bl_at (d := 128) bl_cX12_gains_128 5 rfl)
theorem dX12_gains_134 : decode cX12_gains 134 = .ok (.getfield 76, 3) := op_180 (bl_at (d := 128) bl_cX12_gains_128 6 rfl) (bl_at (d := 128) bl_cX12_gains_128 7 rfl) (bl_at (d := 128) bl_cX12_gains_128 8 rfl)
theorem dX12_gains_137 : decode cX12_gains 137 = .ok (.iload_n 2, 1) := op_28 (bl_at (d := 128) bl_cX12_gains_128 9 rfl)
theorem dX12_gains_138 : decode cX12_gains 138 = .ok (.iconst 1, 1) := op_4 (bl_at (d := 128) bl_cX12_gains_128 10 rfl)
theorem dX12_gains_139 : decode cX12_gains 139 = .ok (.isub, 1) := op_100 (bl_at (d := 128) bl_cX12_gains_128 11 rfl)
theorem dX12_gains_140 : decode cX12_gains 140 = .ok (.iaload, 1) := op_46 (bl_at (d := 128) bl_cX12_gains_128 12 rfl)
theorem dX12_gains_141 : decode cX12_gains 141 = .ok (.if_icmp .le 11, 3) := op_164 (bl_at (d := 128) bl_cX12_gains_128 13 rfl) (bl_at (d := 128) bl_cX12_gains_128 14 rfl) (bl_at (d := 128) bl_cX12_gains_128 15 rfl)
theorem dX12_gains_144 : decode cX12_gains 144 = .ok (.iconst 1, 1) := op_4 (bl_at (d := 128) bl_cX12_gains_128 16 rfl)
theorem dX12_gains_145 : decode cX12_gains 145 = .ok (.iload_n 2, 1) := op_28 (bl_at (d := 128) bl_cX12_gains_128 17 rfl)
theorem dX12_gains_146 : decode cX12_gains 146 = .ok (.iconst 1, 1) := op_4 (bl_at (d := 128) bl_cX12_gains_128 18 rfl)
theorem dX12_gains_147 : decode cX12_gains 147 = .ok (.isub, 1) := op_100 (bl_at (d := 128) bl_cX12_gains_128 19 rfl)
theorem dX12_gains_148 : decode cX12_gains 148 = .ok (.ishl, 1) := op_120 (bl_at (d := 128) bl_cX12_gains_128 20 rfl)
theorem dX12_gains_149 : decode cX12_gains 149 = .ok (.goto 4, 3) := op_167 (bl_at (d := 128) bl_cX12_gains_128 21 rfl) (bl_at (d := 128) bl_cX12_gains_128 22 rfl) (bl_at (d := 128) bl_cX12_gains_128 23 rfl)
theorem dX12_gains_152 : decode cX12_gains 152 = .ok (.iconst 0, 1) := op_3 (bl_at (d := 128) bl_cX12_gains_128 24 rfl)
theorem dX12_gains_153 : decode cX12_gains 153 = .ok (.ior, 1) := op_128 (bl_at (d := 128) bl_cX12_gains_128 25 rfl)
theorem dX12_gains_154 : decode cX12_gains 154 = .ok (.istore_n 1, 1) := op_60 (bl_at (d := 128) bl_cX12_gains_128 26 rfl)
theorem dX12_gains_155 : decode cX12_gains 155 = .ok (.iinc 2 1, 3) := op_132 (bl_at (d := 128) bl_cX12_gains_128 27 rfl) (bl_at (d := 128) bl_cX12_gains_128 28 rfl) (bl_at (d := 128) bl_cX12_gains_128 29 rfl)
theorem dX12_gains_158 : decode cX12_gains 158 = .ok (.goto (-40), 3) := op_167 (bl_at (d := 128) bl_cX12_gains_128 30 rfl) (bl_at (d := 128) bl_cX12_gains_128 31 rfl) (bl_at (d := 160) bl_cX12_gains_160 0 rfl)
theorem dX12_gains_161 : decode cX12_gains 161 = .ok (.aload_n 0, 1) := op_42 (bl_at (d := 160) bl_cX12_gains_160 1 rfl)
theorem dX12_gains_162 : decode cX12_gains 162 = .ok (.iconst 1, 1) := op_4 (bl_at (d := 160) bl_cX12_gains_160 2 rfl)
theorem dX12_gains_163 : decode cX12_gains 163 = .ok (.iconst 0, 1) := op_3 (bl_at (d := 160) bl_cX12_gains_160 3 rfl)
theorem dX12_gains_164 : decode cX12_gains 164 = .ok (.invokevirtual 122, 3) := op_182 (bl_at (d := 160) bl_cX12_gains_160 4 rfl) (bl_at (d := 160) bl_cX12_gains_160 5 rfl) (bl_at (d := 160) bl_cX12_gains_160 6 rfl)
theorem dX12_gains_167 : decode cX12_gains 167 = .ok (.iload_n 1, 1) := op_27 (bl_at (d := 160) bl_cX12_gains_160 7 rfl)
theorem dX12_gains_168 : decode cX12_gains 168 = .ok (.ireturn, 1) := op_172 (bl_at (d := 160) bl_cX12_gains_160 8 rfl)
theorem bl_cX12_moves_0 : ((bys cX12_moves).drop 0).take 32 = [42, 180, 0, 13, 28, 42, 180, 0, 13, 27, 46, 79, 42, 180, 0, 16, 28, 42, 180, 0, 16, 27, 46, 79, 42, 180, 0, 19, 28, 42, 180, 0] := by decide +kernel
theorem bl_cX12_moves_32 : ((bys cX12_moves).drop 32).take 32 = [19, 27, 46, 79, 177] := by decide +kernel
theorem dX12_moves_0 : decode cX12_moves 0 = .ok (.aload_n 0, 1) := op_42 (bl_at (d := 0) bl_cX12_moves_0 0 rfl)
theorem dX12_moves_1 : decode cX12_moves 1 = .ok (.getfield 13, 3) := op_180 (bl_at (d := 0) bl_cX12_moves_0 1 rfl) (bl_at (d := 0) bl_cX12_moves_0 2 rfl) (bl_at (d := 0) bl_cX12_moves_0 3 rfl)
theorem dX12_moves_4 : decode cX12_moves 4 = .ok (.iload_n 2, 1) := op_28 (bl_at (d := 0) bl_cX12_moves_0 4 rfl)
theorem dX12_moves_5 : decode cX12_moves 5 = .ok (.aload_n 0, 1) := op_42 (bl_at (d := 0) bl_cX12_moves_0 5 rfl)
theorem dX12_moves_6 : decode cX12_moves 6 = .ok (.getfield 13, 3) := op_180 (bl_at (d := 0) bl_cX12_moves_0 6 rfl) (bl_at (d := 0) bl_cX12_moves_0 7 rfl) (bl_at (d := 0) bl_cX12_moves_0 8 rfl)
theorem dX12_moves_9 : decode cX12_moves 9 = .ok (.iload_n 1, 1) := op_27 (bl_at (d := 0) bl_cX12_moves_0 9 rfl)
theorem dX12_moves_10 : decode cX12_moves 10 = .ok (.iaload, 1) := op_46 (bl_at (d := 0) bl_cX12_moves_0 10 rfl)
theorem dX12_moves_11 : decode cX12_moves 11 = .ok (.iastore, 1) := op_79 (bl_at (d := 0) bl_cX12_moves_0 11 rfl)
theorem dX12_moves_12 : decode cX12_moves 12 = .ok (.aload_n 0, 1) := op_42 (bl_at (d := 0) bl_cX12_moves_0 12 rfl)
theorem dX12_moves_13 : decode cX12_moves 13 = .ok (.getfield 16, 3) := op_180 (bl_at (d := 0) bl_cX12_moves_0 13 rfl) (bl_at (d := 0) bl_cX12_moves_0 14 rfl) (bl_at (d := 0) bl_cX12_moves_0 15 rfl)
theorem dX12_moves_16 : decode cX12_moves 16 = .ok (.iload_n 2, 1) := op_28 (bl_at (d := 0) bl_cX12_moves_0 16 rfl)
theorem dX12_moves_17 : decode cX12_moves 17 = .ok (.aload_n 0, 1) := op_42 (bl_at (d := 0) bl_cX12_moves_0 17 rfl)
theorem dX12_moves_18 : decode cX12_moves 18 = .ok (.getfield 16, 3) := op_180 (bl_at (d := 0) bl_cX12_moves_0 18 rfl) (bl_at (d := 0) bl_cX12_moves_0 19 rfl) (bl_at (d := 0) bl_cX12_moves_0 20 rfl)
theorem dX12_moves_21 : decode cX12_moves 21 = .ok (.iload_n 1, 1) := op_27 (bl_at (d := 0) bl_cX12_moves_0 21 rfl)
theorem dX12_moves_22 : decode cX12_moves 22 = .ok (.iaload, 1) := op_46 (bl_at (d := 0) bl_cX12_moves_0 22 rfl)
theorem dX12_moves_23 : decode cX12_moves 23 = .ok (.iastore, 1) := op_79 (bl_at (d := 0) bl_cX12_moves_0 23 rfl)
theorem dX12_moves_24 : decode cX12_moves 24 = .ok (.aload_n 0, 1) := op_42 (bl_at (d := 0) bl_cX12_moves_0 24 rfl)
theorem dX12_moves_25 : decode cX12_moves 25 = .ok (.getfield 19, 3) := op_180 (bl_at (d := 0) bl_cX12_moves_0 25 rfl) (bl_at (d := 0) bl_cX12_moves_0 26 rfl) (bl_at (d := 0) bl_cX12_moves_0 27 rfl)
theorem dX12_moves_28 : decode cX12_moves 28 = .ok (.iload_n 2, 1) := op_28 (bl_at (d := 0) bl_cX12_moves_0 28 rfl)
theorem dX12_moves_29 : decode cX12_moves 29 = .ok (.aload_n 0, 1) := op_42 (bl_at (d := 0) bl_cX12_moves_0 29 rfl)
theorem dX12_moves_30 : decode cX12_moves 30 = .ok (.getfield 19, 3) := op_180 (bl_at (d := 0) bl_cX12_moves_0 30 rfl) (bl_at (d := 0) bl_cX12_moves_0 31 rfl) (bl_at (d := 32) bl_cX12_moves_32 0 rfl)
theorem dX12_moves_33 : decode cX12_moves 33 = .ok (.iload_n 1, 1) := op_27 (bl_at (d := 32) bl_cX12_moves_32 1 rfl)
theorem dX12_moves_34 : decode cX12_moves 34 = .ok (.iaload, 1) := op_46 (bl_at (d := 32) bl_cX12_moves_32 2 rfl)
theorem dX12_moves_35 : decode cX12_moves 35 = .ok (.iastore, 1) := op_79 (bl_at (d := 32) bl_cX12_moves_32 3 rfl)
theorem dX12_moves_36 : decode cX12_moves 36 = .ok (.return_, 1) := op_177 (bl_at (d := 32) bl_cX12_moves_32 4 rfl)
theorem bl_cX12_swaps_0 : ((bys cX12_swaps).drop 0).take 32 = [42, 27, 16, 8, 182, 0, 235, 42, 28, 27, 182, 0, 235, 42, 16, 8, 28, 182, 0, 235, 177] := by decide +kernel
theorem dX12_swaps_0 : decode cX12_swaps 0 = .ok (.aload_n 0, 1) := op_42 (bl_at (d := 0) bl_cX12_swaps_0 0 rfl)
theorem dX12_swaps_1 : decode cX12_swaps 1 = .ok (.iload_n 1, 1) := op_27 (bl_at (d := 0) bl_cX12_swaps_0 1 rfl)
theorem dX12_swaps_2 : decode cX12_swaps 2 = .ok (.bipush 8, 2) := op_16 (bl_at (d := 0) bl_cX12_swaps_0 2 rfl) (bl_at (d := 0) bl_cX12_swaps_0 3 rfl)
theorem dX12_swaps_4 : decode cX12_swaps 4 = .ok (.invokevirtual 235, 3) := op_182 (bl_at (d := 0) bl_cX12_swaps_0 4 rfl) (bl_at (d := 0) bl_cX12_swaps_0 5 rfl) (bl_at (d := 0) bl_cX12_swaps_0 6 rfl)
theorem dX12_swaps_7 : decode cX12_swaps 7 = .ok (.aload_n 0, 1) := op_42 (bl_at (d := 0) bl_cX12_swaps_0 7 rfl)
theorem dX12_swaps_8 : decode cX12_swaps 8 = .ok (.iload_n 2, 1) := op_28 (bl_at (d := 0) bl_cX12_swaps_0 8 rfl)
theorem dX12_swaps_9 : decode cX12_swaps 9 = .ok (.iload_n 1, 1) := op_27 (bl_at (d := 0) bl_cX12_swaps_0 9 rfl)
theorem dX12_swaps_10 : decode cX12_swaps 10 = .ok (.invokevirtual 235, 3) := op_182 (bl_at (d := 0) bl_cX12_swaps_0 10 rfl) (bl_at (d := 0) bl_cX12_swaps_0 11 rfl) (bl_at (d := 0) bl_cX12_swaps_0 12 rfl)
theorem dX12_swaps_13 : decode cX12_swaps 13 = .ok (.aload_n 0, 1) := op_42 (bl_at (d := 0) bl_cX12_swaps_0 13 rfl)
theorem dX12_swaps_14 : decode cX12_swaps 14 = .ok (.bipush 8, 2) := op_16 (bl_at (d := 0) bl_cX12_swaps_0 14 rfl) (bl_at (d := 0) bl_cX12_swaps_0 15 rfl)
theorem dX12_swaps_16 : decode cX12_swaps 16 = .ok (.iload_n 2, 1) := op_28 (bl_at (d := 0) bl_cX12_swaps_0 16 rfl)
theorem dX12_swaps_17 : decode cX12_swaps 17 = .ok (.invokevirtual 235, 3) := op_182 (bl_at (d := 0) bl_cX12_swaps_0 17 rfl) (bl_at (d := 0) bl_cX12_swaps_0 18 rfl) (bl_at (d := 0) bl_cX12_swaps_0 19 rfl)
theorem dX12_swaps_20 : decode cX12_swaps 20 = .ok (.return_, 1) := op_177 (bl_at (d := 0) bl_cX12_swaps_0 20 rfl)
theorem bl_cX12_swap_0 : ((bys cX12_swap).drop 0).take 32 = [42, 27, 182, 0, 150, 153, 0, 16, 42, 28, 182, 0, 150, 153, 0, 8, 27, 28, 160, 0, 9, 42, 2, 182, 0, 93, 172, 42, 180, 0, 144, 157] := by decide +kernel
theorem bl_cX12_swap_32 : ((bys cX12_swap).drop 32).take 32 = [0, 11, 42, 180, 0, 115, 4, 160, 0, 10, 42, 16, 253, 182, 0, 93, 172, 42, 27, 28, 182, 0, 239, 4, 172] := by decide +kernel
theorem dX12_swap_0 : decode cX12_swap 0 = .ok (.aload_n 0, 1) := op_42 (bl_at (d := 0) bl_cX12_swap_0 0 rfl)
theorem dX12_swap_1 : decode cX12_swap 1 = .ok (.iload_n 1, 1) := op_27 (bl_at (d := 0) bl_cX12_swap_0 1 rfl)
theorem dX12_swap_2 : decode cX12_swap 2 = .ok (.invokevirtual 150, 3) := op_182 (bl_at (d := 0) bl_cX12_swap_0 2 rfl) (bl_at (d := 0) bl_cX12_swap_0 3 rfl) (bl_at (d := 0) bl_cX12_swap_0 4 rfl)
theorem dX12_swap_5 : decode cX12_swap 5 = .ok (.ifCond .eq 16, 3) := op_153 (bl_at (d := 0) bl_cX12_swap_0 5 rfl) (bl_at (d := 0) bl_cX12_swap_0 6 rfl) (bl_at (d := 0) bl_cX12_swap_0 7 rfl)
theorem dX12_swap_8 : decode cX12_swap 8 = .ok (.aload_n 0, 1) := op_42 (bl_at (d := 0) bl_cX12_swap_0 8 rfl)
theorem dX12_swap_9 : decode cX12_swap 9 = .ok (.iload_n 2, 1) := op_28 (bl_at (d := 0) bl_cX12_swap_0 9 rfl)
theorem dX12_swap_10 : decode cX12_swap 10 = .ok (.invokevirtual 150, 3) := op_182 (bl_at (d := 0) bl_cX12_swap_0 10 rfl) (bl_at (d := 0) bl_cX12_swap_0 11 rfl) (bl_at (d := 0) bl_cX12_swap_0 12 rfl)
theorem dX12_swap_13 : decode cX12_swap 13 = .ok (.ifCond .eq 8, 3) := op_153 (bl_at (d := 0) bl_cX12_swap_0 13 rfl) (bl_at (d := 0) bl_cX12_swap_0 14 rfl) (bl_at (d := 0) bl_cX12_swap_0 15 rfl)
theorem dX12_swap_16 : decode cX12_swap 16 = .ok (.iload_n 1, 1) := op_27 (bl_at (d := 0) bl_cX12_swap_0 16 rfl)
theorem dX12_swap_17 : decode cX12_swap 17 = .ok (.iload_n 2, 1) := op_28 (bl_at (d := 0) bl_cX12_swap_0 17 rfl)
theorem dX12_swap_18 : decode cX12_swap 18 = .ok (.if_icmp .ne 9, 3) := op_160 (bl_at (d := 0) bl_cX12_swap_0 18 rfl) (bl_at (d := 0) bl_cX12_swap_0 19 rfl) (bl_at (d := 0) bl_cX12_swap_0 20 rfl)
theorem dX12_swap_21 : decode cX12_swap 21 = .ok (.aload_n 0, 1) := op_42 (bl_at (d := 0) bl_cX12_swap_0 21 rfl)
theorem dX12_swap_22 : decode cX12_swap 22 = .ok (.iconst (-1), 1) := op_2 (bl_at (d := 0) bl_cX12_swap_0 22 rfl)
theorem dX12_swap_23 : decode cX12_swap 23 = .ok (.invokevirtual 93, 3) := op_182 (bl_at (d := 0) bl_cX12_swap_0 23 rfl) (bl_at (d := 0) bl_cX12_swap_0 24 rfl) (bl_at (d := 0) bl_cX12_swap_0 25 rfl)
theorem dX12_swap_26 : decode cX12_swap 26 = .ok (.ireturn, 1) := op_172 (bl_at (d := 0) bl_cX12_swap_0 26 rfl)
theorem dX12_swap_27 : decode cX12_swap 27 = .ok (.aload_n 0, 1) := op_42 (bl_at (d := 0) bl_cX12_swap_0 27 rfl)
theorem dX12_swap_28 : decode cX12_swap 28 = .ok (.getfield 144, 3) := op_180 (bl_at (d := 0) bl_cX12_swap_0 28 rfl) (bl_at (d := 0) bl_cX12_swap_0 29 rfl) (bl_at (d := 0) bl_cX12_swap_0 30 rfl)
theorem dX12_swap_31 : decode cX12_swap 31 = .ok (.ifCond .gt 11, 3) := op_157 (bl_at (d := 0) bl_cX12_swap_0 31 rfl) (bl_at (d := 32) bl_cX12_swap_32 0 rfl) (bl_at (d := 32) bl_cX12_swap_32 1 rfl)
theorem dX12_swap_34 : decode cX12_swap 34 = .ok (.aload_n 0, 1) := op_42 (bl_at (d := 32) bl_cX12_swap_32 2 rfl)
theorem dX12_swap_35 : decode cX12_swap 35 = .ok (.getfield 115, 3) := op_180 (bl_at (d := 32) bl_cX12_swap_32 3 rfl) (bl_at (d := 32) bl_cX12_swap_32 4 rfl) (bl_at (d := 32) bl_cX12_swap_32 5 rfl)
theorem dX12_swap_38 : decode cX12_swap 38 = .ok (.iconst 1, 1) := op_4 (bl_at (d := 32) bl_cX12_swap_32 6 rfl)
theorem dX12_swap_39 : decode cX12_swap 39 = .ok (.if_icmp .ne 10, 3) := op_160 (bl_at (d := 32) bl_cX12_swap_32 7 rfl) (bl_at (d := 32) bl_cX12_swap_32 8 rfl) (bl_at (d := 32) bl_cX12_swap_32 9 rfl)
theorem dX12_swap_42 : decode cX12_swap 42 = .ok (.aload_n 0, 1) := op_42 (bl_at (d := 32) bl_cX12_swap_32 10 rfl)
theorem dX12_swap_43 : decode cX12_swap 43 = .ok (.bipush (-3), 2) := op_16 (bl_at (d := 32) bl_cX12_swap_32 11 rfl) (bl_at (d := 32) bl_cX12_swap_32 12 rfl)
theorem dX12_swap_45 : decode cX12_swap 45 = .ok (.invokevirtual 93, 3) := op_182 (bl_at (d := 32) bl_cX12_swap_32 13 rfl) (bl_at (d := 32) bl_cX12_swap_32 14 rfl) (bl_at (d := 32) bl_cX12_swap_32 15 rfl)
theorem dX12_swap_48 : decode cX12_swap 48 = .ok (.ireturn, 1) := op_172 (bl_at (d := 32) bl_cX12_swap_32 16 rfl)
theorem dX12_swap_49 : decode cX12_swap 49 = .ok (.aload_n 0, 1) := op_42 (bl_at (d := 32) bl_cX12_swap_32 17 rfl)
theorem dX12_swap_50 : decode cX12_swap 50 = .ok (.iload_n 1, 1) := op_27 (bl_at (d := 32) bl_cX12_swap_32 18 rfl)
theorem dX12_swap_51 : decode cX12_swap 51 = .ok (.iload_n 2, 1) := op_28 (bl_at (d := 32) bl_cX12_swap_32 19 rfl)
theorem dX12_swap_52 : decode cX12_swap 52 = .ok (.invokevirtual 239, 3) := op_182 (bl_at (d := 32) bl_cX12_swap_32 20 rfl) (bl_at (d := 32) bl_cX12_swap_32 21 rfl) (bl_at (d := 32) bl_cX12_swap_32 22 rfl)
theorem dX12_swap_55 : decode cX12_swap 55 = .ok (.iconst 1, 1) := op_4 (bl_at (d := 32) bl_cX12_swap_32 23 rfl)
theorem dX12_swap_56 : decode cX12_swap 56 = .ok (.ireturn, 1) := op_172 (bl_at (d := 32) bl_cX12_swap_32 24 rfl)
theorem bl_cX12_bestAge_0 : ((bys cX12_bestAge).drop 0).take 32 = [42, 27, 182, 0, 150, 154, 0, 9, 42, 2, 182, 0, 93, 172, 3, 61, 16, 254, 62, 3, 54, 4, 21, 4, 42, 180, 0, 82, 162, 0, 99, 42] := by decide +kernel
theorem bl_cX12_bestAge_32 : ((bys cX12_bestAge).drop 32).take 32 = [4, 4, 182, 0, 122, 27, 54, 5, 21, 5, 21, 4, 162, 0, 19, 42, 21, 5, 21, 5, 4, 96, 182, 0, 239, 132, 5, 1, 167, 255, 236, 27] := by decide +kernel
theorem bl_cX12_bestAge_64 : ((bys cX12_bestAge).drop 64).take 32 = [54, 5, 21, 5, 21, 4, 164, 0, 19, 42, 21, 5, 21, 5, 4, 100, 182, 0, 239, 132, 5, 255, 167, 255, 236, 42, 182, 0, 204, 42, 180, 0] := by decide +kernel
theorem bl_cX12_bestAge_96 : ((bys cX12_bestAge).drop 96).take 32 = [49, 21, 4, 46, 29, 164, 0, 14, 21, 4, 61, 42, 180, 0, 49, 21, 4, 46, 62, 42, 4, 3, 182, 0, 122, 132, 4, 1, 167, 255, 154, 28] := by decide +kernel
theorem bl_cX12_bestAge_128 : ((bys cX12_bestAge).drop 128).take 32 = [172] := by decide +kernel
theorem dX12_bestAge_0 : decode cX12_bestAge 0 = .ok (.aload_n 0, 1) := op_42 (bl_at (d := 0) bl_cX12_bestAge_0 0 rfl)
theorem dX12_bestAge_1 : decode cX12_bestAge 1 = .ok (.iload_n 1, 1) := op_27 (bl_at (d := 0) bl_cX12_bestAge_0 1 rfl)
theorem dX12_bestAge_2 : decode cX12_bestAge 2 = .ok (.invokevirtual 150, 3) := op_182 (bl_at (d := 0) bl_cX12_bestAge_0 2 rfl) (bl_at (d := 0) bl_cX12_bestAge_0 3 rfl) (bl_at (d := 0) bl_cX12_bestAge_0 4 rfl)
theorem dX12_bestAge_5 : decode cX12_bestAge 5 = .ok (.ifCond .ne 9, 3) := op_154 (bl_at (d := 0) bl_cX12_bestAge_0 5 rfl) (bl_at (d := 0) bl_cX12_bestAge_0 6 rfl) (bl_at (d := 0) bl_cX12_bestAge_0 7 rfl)
theorem dX12_bestAge_8 : decode cX12_bestAge 8 = .ok (.aload_n 0, 1) := op_42 (bl_at (d := 0) bl_cX12_bestAge_0 8 rfl)
theorem dX12_bestAge_9 : decode cX12_bestAge 9 = .ok (.iconst (-1), 1) := op_2 (bl_at (d := 0) bl_cX12_bestAge_0 9 rfl)
theorem dX12_bestAge_10 : decode cX12_bestAge 10 = .ok (.invokevirtual 93, 3) := op_182 (bl_at (d := 0) bl_cX12_bestAge_0 10 rfl) (bl_at (d := 0) bl_cX12_bestAge_0 11 rfl) (bl_at (d := 0) bl_cX12_bestAge_0 12 rfl)
theorem dX12_bestAge_13 : decode cX12_bestAge 13 = .ok (.ireturn, 1) := op_172 (bl_at (d := 0) bl_cX12_bestAge_0 13 rfl)
theorem dX12_bestAge_14 : decode cX12_bestAge 14 = .ok (.iconst 0, 1) := op_3 (bl_at (d := 0) bl_cX12_bestAge_0 14 rfl)
theorem dX12_bestAge_15 : decode cX12_bestAge 15 = .ok (.istore_n 2, 1) := op_61 (bl_at (d := 0) bl_cX12_bestAge_0 15 rfl)
theorem dX12_bestAge_16 : decode cX12_bestAge 16 = .ok (.bipush (-2), 2) := op_16 (bl_at (d := 0) bl_cX12_bestAge_0 16 rfl) (bl_at (d := 0) bl_cX12_bestAge_0 17 rfl)
theorem dX12_bestAge_18 : decode cX12_bestAge 18 = .ok (.istore_n 3, 1) := op_62 (bl_at (d := 0) bl_cX12_bestAge_0 18 rfl)
theorem dX12_bestAge_19 : decode cX12_bestAge 19 = .ok (.iconst 0, 1) := op_3 (bl_at (d := 0) bl_cX12_bestAge_0 19 rfl)
theorem dX12_bestAge_20 : decode cX12_bestAge 20 = .ok (.istore 4, 2) := op_54 (bl_at (d := 0) bl_cX12_bestAge_0 20 rfl) (bl_at (d := 0) bl_cX12_bestAge_0 21 rfl)
theorem dX12_bestAge_22 : decode cX12_bestAge 22 = .ok (.iload 4, 2) := op_21 (bl_at (d := 0) bl_cX12_bestAge_0 22 rfl) (bl_at (d := 0) bl_cX12_bestAge_0 23 rfl)
theorem dX12_bestAge_24 : decode cX12_bestAge 24 = .ok (.aload_n 0, 1) := op_42 (bl_at (d := 0) bl_cX12_bestAge_0 24 rfl)
theorem dX12_bestAge_25 : decode cX12_bestAge 25 = .ok (.getfield 82, 3) := op_180 (bl_at (d := 0) bl_cX12_bestAge_0 25 rfl) (bl_at (d := 0) bl_cX12_bestAge_0 26 rfl) (bl_at (d := 0) bl_cX12_bestAge_0 27 rfl)
theorem dX12_bestAge_28 : decode cX12_bestAge 28 = .ok (.if_icmp .ge 99, 3) := op_162 (bl_at (d := 0) bl_cX12_bestAge_0 28 rfl) (bl_at (d := 0) bl_cX12_bestAge_0 29 rfl) (bl_at (d := 0) bl_cX12_bestAge_0 30 rfl)
theorem dX12_bestAge_31 : decode cX12_bestAge 31 = .ok (.aload_n 0, 1) := op_42 (bl_at (d := 0) bl_cX12_bestAge_0 31 rfl)
theorem dX12_bestAge_32 : decode cX12_bestAge 32 = .ok (.iconst 1, 1) := op_4 (bl_at (d := 32) bl_cX12_bestAge_32 0 rfl)
theorem dX12_bestAge_33 : decode cX12_bestAge 33 = .ok (.iconst 1, 1) := op_4 (bl_at (d := 32) bl_cX12_bestAge_32 1 rfl)
theorem dX12_bestAge_34 : decode cX12_bestAge 34 = .ok (.invokevirtual 122, 3) := op_182 (bl_at (d := 32) bl_cX12_bestAge_32 2 rfl) (bl_at (d := 32) bl_cX12_bestAge_32 3 rfl) (bl_at (d := 32) bl_cX12_bestAge_32 4 rfl)
theorem dX12_bestAge_37 : decode cX12_bestAge 37 = .ok (.iload_n 1, 1) := op_27 (bl_at (d := 32) bl_cX12_bestAge_32 5 rfl)
theorem dX12_bestAge_38 : decode cX12_bestAge 38 = .ok (.istore 5, 2) := op_54 (bl_at (d := 32) bl_cX12_bestAge_32 6 rfl) (bl_at (d := 32) bl_cX12_bestAge_32 7 rfl)
theorem dX12_bestAge_40 : decode cX12_bestAge 40 = .ok (.iload 5, 2) := op_21 (bl_at (d := 32) bl_cX12_bestAge_32 8 rfl) (bl_at (d := 32) bl_cX12_bestAge_32 9 rfl)
theorem dX12_bestAge_42 : decode cX12_bestAge 42 = .ok (.iload 4, 2) := op_21 (bl_at (d := 32) bl_cX12_bestAge_32 10 rfl) (bl_at (d := 32) bl_cX12_bestAge_32 11 rfl)
theorem dX12_bestAge_44 : decode cX12_bestAge 44 = .ok (.if_icmp .ge 19, 3) := op_162 (bl_at (d := 32) bl_cX12_bestAge_32 12 rfl) (bl_at (d := 32) bl_cX12_bestAge_32 13 rfl) (bl_at (d := 32) bl_cX12_bestAge_32 14 rfl)
theorem dX12_bestAge_47 : decode cX12_bestAge 47 = .ok (.aload_n 0, 1) := op_42 (bl_at (d := 32) bl_cX12_bestAge_32 15 rfl)
theorem dX12_bestAge_48 : decode cX12_bestAge 48 = .ok (.iload 5, 2) := op_21 (bl_at (d := 32) bl_cX12_bestAge_32 16 rfl) (bl_at (d := 32) bl_cX12_bestAge_32 17 rfl)
theorem dX12_bestAge_50 : decode cX12_bestAge 50 = .ok (.iload 5, 2) := op_21 (bl_at (d := 32) bl_cX12_bestAge_32 18 rfl) (bl_at (d := 32) bl_cX12_bestAge_32 19 rfl)
theorem dX12_bestAge_52 : decode cX12_bestAge 52 = .ok (.iconst 1, 1) := op_4 (bl_at (d := 32) bl_cX12_bestAge_32 20 rfl)
theorem dX12_bestAge_53 : decode cX12_bestAge 53 = .ok (.iadd, 1) := op_96 (bl_at (d := 32) bl_cX12_bestAge_32 21 rfl)
theorem dX12_bestAge_54 : decode cX12_bestAge 54 = .ok (.invokevirtual 239, 3) := op_182 (bl_at (d := 32) bl_cX12_bestAge_32 22 rfl) (bl_at (d := 32) bl_cX12_bestAge_32 23 rfl) (bl_at (d := 32) bl_cX12_bestAge_32 24 rfl)
theorem dX12_bestAge_57 : decode cX12_bestAge 57 = .ok (.iinc 5 1, 3) := op_132 (bl_at (d := 32) bl_cX12_bestAge_32 25 rfl) (bl_at (d := 32) bl_cX12_bestAge_32 26 rfl) (bl_at (d := 32) bl_cX12_bestAge_32 27 rfl)
theorem dX12_bestAge_60 : decode cX12_bestAge 60 = .ok (.goto (-20), 3) := op_167 (bl_at (d := 32) bl_cX12_bestAge_32 28 rfl) (bl_at (d := 32) bl_cX12_bestAge_32 29 rfl) (bl_at (d := 32) bl_cX12_bestAge_32 30 rfl)
theorem dX12_bestAge_63 : decode cX12_bestAge 63 = .ok (.iload_n 1, 1) := op_27 (bl_at (d := 32) bl_cX12_bestAge_32 31 rfl)
theorem dX12_bestAge_64 : decode cX12_bestAge 64 = .ok (.istore 5, 2) := op_54 (bl_at (d := 64) bl_cX12_bestAge_64 0 rfl) (bl_at (d := 64) bl_cX12_bestAge_64 1 rfl)
theorem dX12_bestAge_66 : decode cX12_bestAge 66 = .ok (.iload 5, 2) := op_21 (bl_at (d := 64) bl_cX12_bestAge_64 2 rfl) (bl_at (d := 64) bl_cX12_bestAge_64 3 rfl)
theorem dX12_bestAge_68 : decode cX12_bestAge 68 = .ok (.iload 4, 2) := op_21 (bl_at (d := 64) bl_cX12_bestAge_64 4 rfl) (bl_at (d := 64) bl_cX12_bestAge_64 5 rfl)
theorem dX12_bestAge_70 : decode cX12_bestAge 70 = .ok (.if_icmp .le 19, 3) := op_164 (bl_at (d := 64) bl_cX12_bestAge_64 6 rfl) (bl_at (d := 64) bl_cX12_bestAge_64 7 rfl) (bl_at (d := 64) bl_cX12_bestAge_64 8 rfl)
theorem dX12_bestAge_73 : decode cX12_bestAge 73 = .ok (.aload_n 0, 1) := op_42 (bl_at (d := 64) bl_cX12_bestAge_64 9 rfl)
theorem dX12_bestAge_74 : decode cX12_bestAge 74 = .ok (.iload 5, 2) := op_21 (bl_at (d := 64) bl_cX12_bestAge_64 10 rfl) (bl_at (d := 64) bl_cX12_bestAge_64 11 rfl)
theorem dX12_bestAge_76 : decode cX12_bestAge 76 = .ok (.iload 5, 2) := op_21 (bl_at (d := 64) bl_cX12_bestAge_64 12 rfl) (bl_at (d := 64) bl_cX12_bestAge_64 13 rfl)
theorem dX12_bestAge_78 : decode cX12_bestAge 78 = .ok (.iconst 1, 1) := op_4 (bl_at (d := 64) bl_cX12_bestAge_64 14 rfl)
theorem dX12_bestAge_79 : decode cX12_bestAge 79 = .ok (.isub, 1) := op_100 (bl_at (d := 64) bl_cX12_bestAge_64 15 rfl)
theorem dX12_bestAge_80 : decode cX12_bestAge 80 = .ok (.invokevirtual 239, 3) := op_182 (bl_at (d := 64) bl_cX12_bestAge_64 16 rfl) (bl_at (d := 64) bl_cX12_bestAge_64 17 rfl) (bl_at (d := 64) bl_cX12_bestAge_64 18 rfl)
theorem dX12_bestAge_83 : decode cX12_bestAge 83 = .ok (.iinc 5 (-1), 3) := op_132 (bl_at (d := 64) bl_cX12_bestAge_64 19 rfl) (bl_at (d := 64) bl_cX12_bestAge_64 20 rfl) (bl_at (d := 64) bl_cX12_bestAge_64 21 rfl)
theorem dX12_bestAge_86 : decode cX12_bestAge 86 = .ok (.goto (-20), 3) := op_167 (bl_at (d := 64) bl_cX12_bestAge_64 22 rfl) (bl_at (d := 64) bl_cX12_bestAge_64 23 rfl) (bl_at (d := 64) bl_cX12_bestAge_64 24 rfl)
theorem dX12_bestAge_89 : decode cX12_bestAge 89 = .ok (.aload_n 0, 1) := op_42 (bl_at (d := 64) bl_cX12_bestAge_64 25 rfl)
theorem dX12_bestAge_90 : decode cX12_bestAge 90 = .ok (.invokevirtual 204, 3) := op_182 (bl_at (d := 64) bl_cX12_bestAge_64 26 rfl) (bl_at (d := 64) bl_cX12_bestAge_64 27 rfl) (bl_at (d := 64) bl_cX12_bestAge_64 28 rfl)
theorem dX12_bestAge_93 : decode cX12_bestAge 93 = .ok (.aload_n 0, 1) := op_42 (bl_at (d := 64) bl_cX12_bestAge_64 29 rfl)
theorem dX12_bestAge_94 : decode cX12_bestAge 94 = .ok (.getfield 49, 3) := op_180 (bl_at (d := 64) bl_cX12_bestAge_64 30 rfl) (bl_at (d := 64) bl_cX12_bestAge_64 31 rfl) (bl_at (d := 96) bl_cX12_bestAge_96 0 rfl)
theorem dX12_bestAge_97 : decode cX12_bestAge 97 = .ok (.iload 4, 2) := op_21 (bl_at (d := 96) bl_cX12_bestAge_96 1 rfl) (bl_at (d := 96) bl_cX12_bestAge_96 2 rfl)
theorem dX12_bestAge_99 : decode cX12_bestAge 99 = .ok (.iaload, 1) := op_46 (bl_at (d := 96) bl_cX12_bestAge_96 3 rfl)
theorem dX12_bestAge_100 : decode cX12_bestAge 100 = .ok (.iload_n 3, 1) := op_29 (bl_at (d := 96) bl_cX12_bestAge_96 4 rfl)
theorem dX12_bestAge_101 : decode cX12_bestAge 101 = .ok (.if_icmp .le 14, 3) := op_164 (bl_at (d := 96) bl_cX12_bestAge_96 5 rfl) (bl_at (d := 96) bl_cX12_bestAge_96 6 rfl) (bl_at (d := 96) bl_cX12_bestAge_96 7 rfl)
theorem dX12_bestAge_104 : decode cX12_bestAge 104 = .ok (.iload 4, 2) := op_21 (bl_at (d := 96) bl_cX12_bestAge_96 8 rfl) (bl_at (d := 96) bl_cX12_bestAge_96 9 rfl)
theorem dX12_bestAge_106 : decode cX12_bestAge 106 = .ok (.istore_n 2, 1) := op_61 (bl_at (d := 96) bl_cX12_bestAge_96 10 rfl)
theorem dX12_bestAge_107 : decode cX12_bestAge 107 = .ok (.aload_n 0, 1) := op_42 (bl_at (d := 96) bl_cX12_bestAge_96 11 rfl)
theorem dX12_bestAge_108 : decode cX12_bestAge 108 = .ok (.getfield 49, 3) := op_180 (bl_at (d := 96) bl_cX12_bestAge_96 12 rfl) (bl_at (d := 96) bl_cX12_bestAge_96 13 rfl) (bl_at (d := 96) bl_cX12_bestAge_96 14 rfl)
theorem dX12_bestAge_111 : decode cX12_bestAge 111 = .ok (.iload 4, 2) := op_21 (bl_at (d := 96) bl_cX12_bestAge_96 15 rfl) (bl_at (d := 96) bl_cX12_bestAge_96 16 rfl)
theorem dX12_bestAge_113 : decode cX12_bestAge 113 = .ok (.iaload, 1) := op_46 (bl_at (d := 96) bl_cX12_bestAge_96 17 rfl)
theorem dX12_bestAge_114 : decode cX12_bestAge 114 = .ok (.istore_n 3, 1) := op_62 (bl_at (d := 96) bl_cX12_bestAge_96 18 rfl)
theorem dX12_bestAge_115 : decode cX12_bestAge 115 = .ok (.aload_n 0, 1) := op_42 (bl_at (d := 96) bl_cX12_bestAge_96 19 rfl)
theorem dX12_bestAge_116 : decode cX12_bestAge 116 = .ok (.iconst 1, 1) := op_4 (bl_at (d := 96) bl_cX12_bestAge_96 20 rfl)
theorem dX12_bestAge_117 : decode cX12_bestAge 117 = .ok (.iconst 0, 1) := op_3 (bl_at (d := 96) bl_cX12_bestAge_96 21 rfl)
theorem dX12_bestAge_118 : decode cX12_bestAge 118 = .ok (.invokevirtual 122, 3) := op_182 (bl_at (d := 96) bl_cX12_bestAge_96 22 rfl) (bl_at (d := 96) bl_cX12_bestAge_96 23 rfl) (bl_at (d := 96) bl_cX12_bestAge_96 24 rfl)
theorem dX12_bestAge_121 : decode cX12_bestAge 121 = .ok (.iinc 4 1, 3) := op_132 (bl_at (d := 96) bl_cX12_bestAge_96 25 rfl) (bl_at (d := 96) bl_cX12_bestAge_96 26 rfl) (bl_at (d := 96) bl_cX12_bestAge_96 27 rfl)
theorem dX12_bestAge_124 : decode cX12_bestAge 124 = .ok (.goto (-102), 3) := op_167 (bl_at (d := 96) bl_cX12_bestAge_96 28 rfl) (bl_at (d := 96) bl_cX12_bestAge_96 29 rfl) (bl_at (d := 96) bl_cX12_bestAge_96 30 rfl)
theorem dX12_bestAge_127 : decode cX12_bestAge 127 = .ok (.iload_n 2, 1) := op_28 (bl_at (d := 96) bl_cX12_bestAge_96 31 rfl)
theorem dX12_bestAge_128 : decode cX12_bestAge 128 = .ok (.ireturn, 1) := op_172 (bl_at (d := 128) bl_cX12_bestAge_128 0 rfl)
theorem bl_cX12_isFree_0 : ((bys cX12_isFree).drop 0).take 32 = [42, 180, 0, 144, 4, 96, 61, 28, 42, 180, 0, 82, 162, 0, 37, 27, 28, 122, 4, 126, 4, 160, 0, 22, 42, 180, 0, 43, 16, 9, 42, 180] := by decide +kernel
theorem bl_cX12_isFree_32 : ((bys cX12_isFree).drop 32).take 32 = [0, 144, 104, 28, 96, 46, 158, 0, 5, 3, 172, 132, 2, 1, 167, 255, 217, 4, 172] := by decide +kernel
theorem dX12_isFree_0 : decode cX12_isFree 0 = .ok (.aload_n 0, 1) := op_42 (bl_at (d := 0) bl_cX12_isFree_0 0 rfl)
theorem dX12_isFree_1 : decode cX12_isFree 1 = .ok (.getfield 144, 3) := op_180 (bl_at (d := 0) bl_cX12_isFree_0 1 rfl) (bl_at (d := 0) bl_cX12_isFree_0 2 rfl) (bl_at (d := 0) bl_cX12_isFree_0 3 rfl)
theorem dX12_isFree_4 : decode cX12_isFree 4 = .ok (.iconst 1, 1) := op_4 (bl_at (d := 0) bl_cX12_isFree_0 4 rfl)
theorem dX12_isFree_5 : decode cX12_isFree 5 = .ok (.iadd, 1) := op_96 (bl_at (d := 0) bl_cX12_isFree_0 5 rfl)
theorem dX12_isFree_6 : decode cX12_isFree 6 = .ok (.istore_n 2, 1) := op_61 (bl_at (d := 0) bl_cX12_isFree_0 6 rfl)
theorem dX12_isFree_7 : decode cX12_isFree 7 = .ok (.iload_n 2, 1) := op_28 (bl_at (d := 0) bl_cX12_isFree_0 7 rfl)
theorem dX12_isFree_8 : decode cX12_isFree 8 = .ok (.aload_n 0, 1) := op_42 (bl_at (d := 0) bl_cX12_isFree_0 8 rfl)
theorem dX12_isFree_9 : decode cX12_isFree 9 = .ok (.getfield 82, 3) := op_180 (bl_at (d := 0) bl_cX12_isFree_0 9 rfl) (bl_at (d := 0) bl_cX12_isFree_0 10 rfl) (bl_at (d := 0) bl_cX12_isFree_0 11 rfl)
theorem dX12_isFree_12 : decode cX12_isFree 12 = .ok (.if_icmp .ge 37, 3) := op_162 (bl_at (d := 0) bl_cX12_isFree_0 12 rfl) (bl_at (d := 0) bl_cX12_isFree_0 13 rfl) (bl_at (d := 0) bl_cX12_isFree_0 14 rfl)
theorem dX12_isFree_15 : decode cX12_isFree 15 = .ok (.iload_n 1, 1) := op_27 (bl_at (d := 0) bl_cX12_isFree_0 15 rfl)
theorem dX12_isFree_16 : decode cX12_isFree 16 = .ok (.iload_n 2, 1) := op_28 (bl_at (d := 0) bl_cX12_isFree_0 16 rfl)
theorem dX12_isFree_17 : decode cX12_isFree 17 = .ok (.ishr, 1) := op_122 (bl_at (d := 0) bl_cX12_isFree_0 17 rfl)
theorem dX12_isFree_18 : decode cX12_isFree 18 = .ok (.iconst 1, 1) := op_4 (bl_at (d := 0) bl_cX12_isFree_0 18 rfl)
theorem dX12_isFree_19 : decode cX12_isFree 19 = .ok (.iand, 1) := op_126 (bl_at (d := 0) bl_cX12_isFree_0 19 rfl)
theorem dX12_isFree_20 : decode cX12_isFree 20 = .ok (.iconst 1, 1) := op_4 (bl_at (d := 0) bl_cX12_isFree_0 20 rfl)
theorem dX12_isFree_21 : decode cX12_isFree 21 = .ok (.if_icmp .ne 22, 3) := op_160 (bl_at (d := 0) bl_cX12_isFree_0 21 rfl) (bl_at (d := 0) bl_cX12_isFree_0 22 rfl) (bl_at (d := 0) bl_cX12_isFree_0 23 rfl)
theorem dX12_isFree_24 : decode cX12_isFree 24 = .ok (.aload_n 0, 1) := op_42 (bl_at (d := 0) bl_cX12_isFree_0 24 rfl)
theorem dX12_isFree_25 : decode cX12_isFree 25 = .ok (.getfield 43, 3) := op_180 (bl_at (d := 0) bl_cX12_isFree_0 25 rfl) (bl_at (d := 0) bl_cX12_isFree_0 26 rfl) (bl_at (d := 0) bl_cX12_isFree_0 27 rfl)
theorem dX12_isFree_28 : decode cX12_isFree 28 = .ok (.bipush 9, 2) := op_16 (bl_at (d := 0) bl_cX12_isFree_0 28 rfl) (bl_at (d := 0) bl_cX12_isFree_0 29 rfl)
theorem dX12_isFree_30 : decode cX12_isFree 30 = .ok (.aload_n 0, 1) := op_42 (bl_at (d := 0) bl_cX12_isFree_0 30 rfl)
theorem dX12_isFree_31 : decode cX12_isFree 31 = .ok (.getfield 144, 3) := op_180 (bl_at (d := 0) bl_cX12_isFree_0 31 rfl) (bl_at (d := 32) bl_cX12_isFree_32 0 rfl) (bl_at (d := 32) bl_cX12_isFree_32 1 rfl)
theorem dX12_isFree_34 : decode cX12_isFree 34 = .ok (.imul, 1) := op_104 (bl_at (d := 32) bl_cX12_isFree_32 2 rfl)
theorem dX12_isFree_35 : decode cX12_isFree 35 = .ok (.iload_n 2, 1) := op_28 (bl_at (d := 32) bl_cX12_isFree_32 3 rfl)
theorem dX12_isFree_36 : decode cX12_isFree 36 = .ok (.iadd, 1) := op_96 (bl_at (d := 32) bl_cX12_isFree_32 4 rfl)
theorem dX12_isFree_37 : decode cX12_isFree 37 = .ok (.iaload, 1) := op_46 (bl_at (d := 32) bl_cX12_isFree_32 5 rfl)
theorem dX12_isFree_38 : decode cX12_isFree 38 = .ok (.ifCond .le 5, 3) := op_158 (bl_at (d := 32) bl_cX12_isFree_32 6 rfl) (bl_at (d := 32) bl_cX12_isFree_32 7 rfl) (bl_at (d := 32) bl_cX12_isFree_32 8 rfl)
theorem dX12_isFree_41 : decode cX12_isFree 41 = .ok (.iconst 0, 1) := op_3 (bl_at (d := 32) bl_cX12_isFree_32 9 rfl)
theorem dX12_isFree_42 : decode cX12_isFree 42 = .ok (.ireturn, 1) := op_172 (bl_at (d := 32) bl_cX12_isFree_32 10 rfl)
theorem dX12_isFree_43 : decode cX12_isFree 43 = .ok (.iinc 2 1, 3) := op_132 (bl_at (d := 32) bl_cX12_isFree_32 11 rfl) (bl_at (d := 32) bl_cX12_isFree_32 12 rfl) (bl_at (d := 32) bl_cX12_isFree_32 13 rfl)
theorem dX12_isFree_46 : decode cX12_isFree 46 = .ok (.goto (-39), 3) := op_167 (bl_at (d := 32) bl_cX12_isFree_32 14 rfl) (bl_at (d := 32) bl_cX12_isFree_32 15 rfl) (bl_at (d := 32) bl_cX12_isFree_32 16 rfl)
theorem dX12_isFree_49 : decode cX12_isFree 49 = .ok (.iconst 1, 1) := op_4 (bl_at (d := 32) bl_cX12_isFree_32 17 rfl)
theorem dX12_isFree_50 : decode cX12_isFree 50 = .ok (.ireturn, 1) := op_172 (bl_at (d := 32) bl_cX12_isFree_32 18 rfl)
theorem bl_cX12_bits_0 : ((bys cX12_bits).drop 0).take 32 = [3, 60, 3, 61, 28, 16, 31, 162, 0, 17, 27, 26, 28, 122, 4, 126, 96, 60, 132, 2, 1, 167, 255, 239, 27, 172] := by decide +kernel
theorem dX12_bits_0 : decode cX12_bits 0 = .ok (.iconst 0, 1) := op_3 (bl_at (d := 0) bl_cX12_bits_0 0 rfl)
theorem dX12_bits_1 : decode cX12_bits 1 = .ok (.istore_n 1, 1) := op_60 (bl_at (d := 0) bl_cX12_bits_0 1 rfl)
theorem dX12_bits_2 : decode cX12_bits 2 = .ok (.iconst 0, 1) := op_3 (bl_at (d := 0) bl_cX12_bits_0 2 rfl)
theorem dX12_bits_3 : decode cX12_bits 3 = .ok (.istore_n 2, 1) := op_61 (bl_at (d := 0) bl_cX12_bits_0 3 rfl)
theorem dX12_bits_4 : decode cX12_bits 4 = .ok (.iload_n 2, 1) := op_28 (bl_at (d := 0) bl_cX12_bits_0 4 rfl)
theorem dX12_bits_5 : decode cX12_bits 5 = .ok (.bipush 31, 2) := op_16 (bl_at (d := 0) bl_cX12_bits_0 5 rfl) (bl_at (d := 0) bl_cX12_bits_0 6 rfl)
theorem dX12_bits_7 : decode cX12_bits 7 = .ok (.if_icmp .ge 17, 3) := op_162 (bl_at (d := 0) bl_cX12_bits_0 7 rfl) (bl_at (d := 0) bl_cX12_bits_0 8 rfl) (bl_at (d := 0) bl_cX12_bits_0 9 rfl)
theorem dX12_bits_10 : decode cX12_bits 10 = .ok (.iload_n 1, 1) := op_27 (bl_at (d := 0) bl_cX12_bits_0 10 rfl)
theorem dX12_bits_11 : decode cX12_bits 11 = .ok (.iload_n 0, 1) := op_26 (bl_at (d := 0) bl_cX12_bits_0 11 rfl)
theorem dX12_bits_12 : decode cX12_bits 12 = .ok (.iload_n 2, 1) := op_28 (bl_at (d := 0) bl_cX12_bits_0 12 rfl)
theorem dX12_bits_13 : decode cX12_bits 13 = .ok (.ishr, 1) := op_122 (bl_at (d := 0) bl_cX12_bits_0 13 rfl)
theorem dX12_bits_14 : decode cX12_bits 14 = .ok (.iconst 1, 1) := op_4 (bl_at (d := 0) bl_cX12_bits_0 14 rfl)
theorem dX12_bits_15 : decode cX12_bits 15 = .ok (.iand, 1) := op_126 (bl_at (d := 0) bl_cX12_bits_0 15 rfl)
theorem dX12_bits_16 : decode cX12_bits 16 = .ok (.iadd, 1) := op_96 (bl_at (d := 0) bl_cX12_bits_0 16 rfl)
theorem dX12_bits_17 : decode cX12_bits 17 = .ok (.istore_n 1, 1) := op_60 (bl_at (d := 0) bl_cX12_bits_0 17 rfl)
theorem dX12_bits_18 : decode cX12_bits 18 = .ok (.iinc 2 1, 3) := op_132 (bl_at (d := 0) bl_cX12_bits_0 18 rfl) (bl_at (d := 0) bl_cX12_bits_0 19 rfl) (bl_at (d := 0) bl_cX12_bits_0 20 rfl)
theorem dX12_bits_21 : decode cX12_bits 21 = .ok (.goto (-17), 3) := op_167 (bl_at (d := 0) bl_cX12_bits_0 21 rfl) (bl_at (d := 0) bl_cX12_bits_0 22 rfl) (bl_at (d := 0) bl_cX12_bits_0 23 rfl)
theorem dX12_bits_24 : decode cX12_bits 24 = .ok (.iload_n 1, 1) := op_27 (bl_at (d := 0) bl_cX12_bits_0 24 rfl)
theorem dX12_bits_25 : decode cX12_bits 25 = .ok (.ireturn, 1) := op_172 (bl_at (d := 0) bl_cX12_bits_0 25 rfl)
theorem bl_cX12_league_0 : ((bys cX12_league).drop 0).take 32 = [42, 182, 0, 213, 153, 0, 10, 42, 16, 253, 182, 0, 93, 172, 42, 42, 180, 0, 144, 182, 0, 159, 4, 42, 180, 0, 144, 120, 2, 130, 126, 61] := by decide +kernel
theorem bl_cX12_league_32 : ((bys cX12_league).drop 32).take 32 = [27, 155, 0, 19, 27, 28, 2, 130, 126, 154, 0, 11, 27, 184, 0, 242, 5, 162, 0, 9, 42, 2, 182, 0, 93, 172, 42, 182, 0, 204, 42, 42] := by decide +kernel
theorem bl_cX12_league_64 : ((bys cX12_league).drop 64).take 32 = [180, 0, 144, 182, 0, 162, 27, 2, 130, 126, 62, 3, 54, 4, 21, 4, 4, 42, 180, 0, 82, 120, 162, 0, 115, 21, 4, 28, 2, 130, 126, 154] := by decide +kernel
theorem bl_cX12_league_96 : ((bys cX12_league).drop 96).take 32 = [0, 100, 21, 4, 27, 126, 153, 0, 15, 27, 21, 4, 2, 130, 126, 153, 0, 6, 167, 0, 81, 21, 4, 29, 128, 4, 42, 180, 0, 144, 120, 128] := by decide +kernel
theorem bl_cX12_league_128 : ((bys cX12_league).drop 128).take 32 = [42, 27, 182, 0, 245, 153, 0, 7, 27, 167, 0, 4, 3, 128, 54, 5, 42, 42, 180, 0, 144, 21, 4, 182, 0, 171, 42, 180, 0, 25, 3, 46] := by decide +kernel
theorem bl_cX12_league_160 : ((bys cX12_league).drop 160).take 32 = [163, 0, 35, 42, 180, 0, 25, 4, 46, 42, 21, 5, 182, 0, 165, 42, 42, 42, 180, 0, 144, 182, 0, 159, 182, 0, 165, 184, 0, 168, 153, 0] := by decide +kernel
theorem bl_cX12_league_192 : ((bys cX12_league).drop 192).take 32 = [5, 4, 172, 132, 4, 1, 167, 255, 136, 3, 172] := by decide +kernel
theorem dX12_league_0 : decode cX12_league 0 = .ok (.aload_n 0, 1) := op_42 (bl_at (d := 0) bl_cX12_league_0 0 rfl)
theorem dX12_league_1 : decode cX12_league 1 = .ok (.invokevirtual 213, 3) := op_182 (bl_at (d := 0) bl_cX12_league_0 1 rfl) (bl_at (d := 0) bl_cX12_league_0 2 rfl) (bl_at (d := 0) bl_cX12_league_0 3 rfl)
theorem dX12_league_4 : decode cX12_league 4 = .ok (.ifCond .eq 10, 3) := op_153 (bl_at (d := 0) bl_cX12_league_0 4 rfl) (bl_at (d := 0) bl_cX12_league_0 5 rfl) (bl_at (d := 0) bl_cX12_league_0 6 rfl)
theorem dX12_league_7 : decode cX12_league 7 = .ok (.aload_n 0, 1) := op_42 (bl_at (d := 0) bl_cX12_league_0 7 rfl)
theorem dX12_league_8 : decode cX12_league 8 = .ok (.bipush (-3), 2) := op_16 (bl_at (d := 0) bl_cX12_league_0 8 rfl) (bl_at (d := 0) bl_cX12_league_0 9 rfl)
theorem dX12_league_10 : decode cX12_league 10 = .ok (.invokevirtual 93, 3) := op_182 (bl_at (d := 0) bl_cX12_league_0 10 rfl) (bl_at (d := 0) bl_cX12_league_0 11 rfl) (bl_at (d := 0) bl_cX12_league_0 12 rfl)
theorem dX12_league_13 : decode cX12_league 13 = .ok (.ireturn, 1) := op_172 (bl_at (d := 0) bl_cX12_league_0 13 rfl)
theorem dX12_league_14 : decode cX12_league 14 = .ok (.aload_n 0, 1) := op_42 (bl_at (d := 0) bl_cX12_league_0 14 rfl)
theorem dX12_league_15 : decode cX12_league 15 = .ok (.aload_n 0, 1) := op_42 (bl_at (d := 0) bl_cX12_league_0 15 rfl)
theorem dX12_league_16 : decode cX12_league 16 = .ok (.getfield 144, 3) := op_180 (bl_at (d := 0) bl_cX12_league_0 16 rfl) (bl_at (d := 0) bl_cX12_league_0 17 rfl) (bl_at (d := 0) bl_cX12_league_0 18 rfl)
theorem dX12_league_19 : decode cX12_league 19 = .ok (.invokevirtual 159, 3) := op_182 (bl_at (d := 0) bl_cX12_league_0 19 rfl) (bl_at (d := 0) bl_cX12_league_0 20 rfl) (bl_at (d := 0) bl_cX12_league_0 21 rfl)
theorem dX12_league_22 : decode cX12_league 22 = .ok (.iconst 1, 1) := op_4 (bl_at (d := 0) bl_cX12_league_0 22 rfl)
theorem dX12_league_23 : decode cX12_league 23 = .ok (.aload_n 0, 1) := op_42 (bl_at (d := 0) bl_cX12_league_0 23 rfl)
theorem dX12_league_24 : decode cX12_league 24 = .ok (.getfield 144, 3) := op_180 (bl_at (d := 0) bl_cX12_league_0 24 rfl) (bl_at (d := 0) bl_cX12_league_0 25 rfl) (bl_at (d := 0) bl_cX12_league_0 26 rfl)
theorem dX12_league_27 : decode cX12_league 27 = .ok (.ishl, 1) := op_120 (bl_at (d := 0) bl_cX12_league_0 27 rfl)
theorem dX12_league_28 : decode cX12_league 28 = .ok (.iconst (-1), 1) := op_2 (bl_at (d := 0) bl_cX12_league_0 28 rfl)
theorem dX12_league_29 : decode cX12_league 29 = .ok (.ixor, 1) := op_130 (bl_at (d := 0) bl_cX12_league_0 29 rfl)
theorem dX12_league_30 : decode cX12_league 30 = .ok (.iand, 1) := op_126 (bl_at (d := 0) bl_cX12_league_0 30 rfl)
theorem dX12_league_31 : decode cX12_league 31 = .ok (.istore_n 2, 1) := op_61 (bl_at (d := 0) bl_cX12_league_0 31 rfl)
theorem dX12_league_32 : decode cX12_league 32 = .ok (.iload_n 1, 1) := op_27 (bl_at (d := 32) bl_cX12_league_32 0 rfl)
theorem dX12_league_33 : decode cX12_league 33 = .ok (.ifCond .lt 19, 3) := op_155 (bl_at (d := 32) bl_cX12_league_32 1 rfl) (bl_at (d := 32) bl_cX12_league_32 2 rfl) (bl_at (d := 32) bl_cX12_league_32 3 rfl)
theorem dX12_league_36 : decode cX12_league 36 = .ok (.iload_n 1, 1) := op_27 (bl_at (d := 32) bl_cX12_league_32 4 rfl)
theorem dX12_league_37 : decode cX12_league 37 = .ok (.iload_n 2, 1) := op_28 (bl_at (d := 32) bl_cX12_league_32 5 rfl)
theorem dX12_league_38 : decode cX12_league 38 = .ok (.iconst (-1), 1) := op_2 (bl_at (d := 32) bl_cX12_league_32 6 rfl)
theorem dX12_league_39 : decode cX12_league 39 = .ok (.ixor, 1) := op_130 (bl_at (d := 32) bl_cX12_league_32 7 rfl)
theorem dX12_league_40 : decode cX12_league 40 = .ok (.iand, 1) := op_126 (bl_at (d := 32) bl_cX12_league_32 8 rfl)
theorem dX12_league_41 : decode cX12_league 41 = .ok (.ifCond .ne 11, 3) := op_154 (bl_at (d := 32) bl_cX12_league_32 9 rfl) (bl_at (d := 32) bl_cX12_league_32 10 rfl) (bl_at (d := 32) bl_cX12_league_32 11 rfl)
theorem dX12_league_44 : decode cX12_league 44 = .ok (.iload_n 1, 1) := op_27 (bl_at (d := 32) bl_cX12_league_32 12 rfl)
theorem dX12_league_45 : decode cX12_league 45 = .ok (.invokestatic 242, 3) := op_184 (bl_at (d := 32) bl_cX12_league_32 13 rfl) (bl_at (d := 32) bl_cX12_league_32 14 rfl) (bl_at (d := 32) bl_cX12_league_32 15 rfl)
theorem dX12_league_48 : decode cX12_league 48 = .ok (.iconst 2, 1) := op_5 (bl_at (d := 32) bl_cX12_league_32 16 rfl)
theorem dX12_league_49 : decode cX12_league 49 = .ok (.if_icmp .ge 9, 3) := op_162 (bl_at (d := 32) bl_cX12_league_32 17 rfl) (bl_at (d := 32) bl_cX12_league_32 18 rfl) (bl_at (d := 32) bl_cX12_league_32 19 rfl)
theorem dX12_league_52 : decode cX12_league 52 = .ok (.aload_n 0, 1) := op_42 (bl_at (d := 32) bl_cX12_league_32 20 rfl)
theorem dX12_league_53 : decode cX12_league 53 = .ok (.iconst (-1), 1) := op_2 (bl_at (d := 32) bl_cX12_league_32 21 rfl)
theorem dX12_league_54 : decode cX12_league 54 = .ok (.invokevirtual 93, 3) := op_182 (bl_at (d := 32) bl_cX12_league_32 22 rfl) (bl_at (d := 32) bl_cX12_league_32 23 rfl) (bl_at (d := 32) bl_cX12_league_32 24 rfl)
theorem dX12_league_57 : decode cX12_league 57 = .ok (.ireturn, 1) := op_172 (bl_at (d := 32) bl_cX12_league_32 25 rfl)
theorem dX12_league_58 : decode cX12_league 58 = .ok (.aload_n 0, 1) := op_42 (bl_at (d := 32) bl_cX12_league_32 26 rfl)
theorem dX12_league_59 : decode cX12_league 59 = .ok (.invokevirtual 204, 3) := op_182 (bl_at (d := 32) bl_cX12_league_32 27 rfl) (bl_at (d := 32) bl_cX12_league_32 28 rfl) (bl_at (d := 32) bl_cX12_league_32 29 rfl)
theorem dX12_league_62 : decode cX12_league 62 = .ok (.aload_n 0, 1) := op_42 (bl_at (d := 32) bl_cX12_league_32 30 rfl)
theorem dX12_league_63 : decode cX12_league 63 = .ok (.aload_n 0, 1) := op_42 (bl_at (d := 32) bl_cX12_league_32 31 rfl)
theorem dX12_league_64 : decode cX12_league 64 = .ok (.getfield 144, 3) := op_180 (bl_at (d := 64) bl_cX12_league_64 0 rfl) (bl_at (d := 64) bl_cX12_league_64 1 rfl) (bl_at (d := 64) bl_cX12_league_64 2 rfl)
theorem dX12_league_67 : decode cX12_league 67 = .ok (.invokevirtual 162, 3) := op_182 (bl_at (d := 64) bl_cX12_league_64 3 rfl) (bl_at (d := 64) bl_cX12_league_64 4 rfl) (bl_at (d := 64) bl_cX12_league_64 5 rfl)
theorem dX12_league_70 : decode cX12_league 70 = .ok (.iload_n 1, 1) := op_27 (bl_at (d := 64) bl_cX12_league_64 6 rfl)
theorem dX12_league_71 : decode cX12_league 71 = .ok (.iconst (-1), 1) := op_2 (bl_at (d := 64) bl_cX12_league_64 7 rfl)
theorem dX12_league_72 : decode cX12_league 72 = .ok (.ixor, 1) := op_130 (bl_at (d := 64) bl_cX12_league_64 8 rfl)
theorem dX12_league_73 : decode cX12_league 73 = .ok (.iand, 1) := op_126 (bl_at (d := 64) bl_cX12_league_64 9 rfl)
theorem dX12_league_74 : decode cX12_league 74 = .ok (.istore_n 3, 1) := op_62 (bl_at (d := 64) bl_cX12_league_64 10 rfl)
theorem dX12_league_75 : decode cX12_league 75 = .ok (.iconst 0, 1) := op_3 (bl_at (d := 64) bl_cX12_league_64 11 rfl)
theorem dX12_league_76 : decode cX12_league 76 = .ok (.istore 4, 2) := op_54 (bl_at (d := 64) bl_cX12_league_64 12 rfl) (bl_at (d := 64) bl_cX12_league_64 13 rfl)
theorem dX12_league_78 : decode cX12_league 78 = .ok (.iload 4, 2) := op_21 (bl_at (d := 64) bl_cX12_league_64 14 rfl) (bl_at (d := 64) bl_cX12_league_64 15 rfl)
theorem dX12_league_80 : decode cX12_league 80 = .ok (.iconst 1, 1) := op_4 (bl_at (d := 64) bl_cX12_league_64 16 rfl)
theorem dX12_league_81 : decode cX12_league 81 = .ok (.aload_n 0, 1) := op_42 (bl_at (d := 64) bl_cX12_league_64 17 rfl)
theorem dX12_league_82 : decode cX12_league 82 = .ok (.getfield 82, 3) := op_180 (bl_at (d := 64) bl_cX12_league_64 18 rfl) (bl_at (d := 64) bl_cX12_league_64 19 rfl) (bl_at (d := 64) bl_cX12_league_64 20 rfl)
theorem dX12_league_85 : decode cX12_league 85 = .ok (.ishl, 1) := op_120 (bl_at (d := 64) bl_cX12_league_64 21 rfl)
theorem dX12_league_86 : decode cX12_league 86 = .ok (.if_icmp .ge 115, 3) := op_162 (bl_at (d := 64) bl_cX12_league_64 22 rfl) (bl_at (d := 64) bl_cX12_league_64 23 rfl) (bl_at (d := 64) bl_cX12_league_64 24 rfl)
theorem dX12_league_89 : decode cX12_league 89 = .ok (.iload 4, 2) := op_21 (bl_at (d := 64) bl_cX12_league_64 25 rfl) (bl_at (d := 64) bl_cX12_league_64 26 rfl)
theorem dX12_league_91 : decode cX12_league 91 = .ok (.iload_n 2, 1) := op_28 (bl_at (d := 64) bl_cX12_league_64 27 rfl)
theorem dX12_league_92 : decode cX12_league 92 = .ok (.iconst (-1), 1) := op_2 (bl_at (d := 64) bl_cX12_league_64 28 rfl)
theorem dX12_league_93 : decode cX12_league 93 = .ok (.ixor, 1) := op_130 (bl_at (d := 64) bl_cX12_league_64 29 rfl)
theorem dX12_league_94 : decode cX12_league 94 = .ok (.iand, 1) := op_126 (bl_at (d := 64) bl_cX12_league_64 30 rfl)
theorem dX12_league_95 : decode cX12_league 95 = .ok (.ifCond .ne 100, 3) := op_154 (bl_at (d := 64) bl_cX12_league_64 31 rfl) (bl_at (d := 96) bl_cX12_league_96 0 rfl) (bl_at (d := 96) bl_cX12_league_96 1 rfl)
theorem dX12_league_98 : decode cX12_league 98 = .ok (.iload 4, 2) := op_21 (bl_at (d := 96) bl_cX12_league_96 2 rfl) (bl_at (d := 96) bl_cX12_league_96 3 rfl)
theorem dX12_league_100 : decode cX12_league 100 = .ok (.iload_n 1, 1) := op_27 (bl_at (d := 96) bl_cX12_league_96 4 rfl)
theorem dX12_league_101 : decode cX12_league 101 = .ok (.iand, 1) := op_126 (bl_at (d := 96) bl_cX12_league_96 5 rfl)
theorem dX12_league_102 : decode cX12_league 102 = .ok (.ifCond .eq 15, 3) := op_153 (bl_at (d := 96) bl_cX12_league_96 6 rfl) (bl_at (d := 96) bl_cX12_league_96 7 rfl) (bl_at (d := 96) bl_cX12_league_96 8 rfl)
theorem dX12_league_105 : decode cX12_league 105 = .ok (.iload_n 1, 1) := op_27 (bl_at (d := 96) bl_cX12_league_96 9 rfl)
theorem dX12_league_106 : decode cX12_league 106 = .ok (.iload 4, 2) := op_21 (bl_at (d := 96) bl_cX12_league_96 10 rfl) (bl_at (d := 96) bl_cX12_league_96 11 rfl)
theorem dX12_league_108 : decode cX12_league 108 = .ok (.iconst (-1), 1) := op_2 (bl_at (d := 96) bl_cX12_league_96 12 rfl)
theorem dX12_league_109 : decode cX12_league 109 = .ok (.ixor, 1) := op_130 (bl_at (d := 96) bl_cX12_league_96 13 rfl)
theorem dX12_league_110 : decode cX12_league 110 = .ok (.iand, 1) := op_126 (bl_at (d := 96) bl_cX12_league_96 14 rfl)
theorem dX12_league_111 : decode cX12_league 111 = .ok (.ifCond .eq 6, 3) := op_153 (bl_at (d := 96) bl_cX12_league_96 15 rfl) (bl_at (d := 96) bl_cX12_league_96 16 rfl) (bl_at (d := 96) bl_cX12_league_96 17 rfl)
theorem dX12_league_114 : decode cX12_league 114 = .ok (.goto 81, 3) := op_167 (bl_at (d := 96) bl_cX12_league_96 18 rfl) (bl_at (d := 96) bl_cX12_league_96 19 rfl) (bl_at (d := 96) bl_cX12_league_96 20 rfl)
theorem dX12_league_117 : decode cX12_league 117 = .ok (.iload 4, 2) := op_21 (bl_at (d := 96) bl_cX12_league_96 21 rfl) (bl_at (d := 96) bl_cX12_league_96 22 rfl)
theorem dX12_league_119 : decode cX12_league 119 = .ok (.iload_n 3, 1) := op_29 (bl_at (d := 96) bl_cX12_league_96 23 rfl)
theorem dX12_league_120 : decode cX12_league 120 = .ok (.ior, 1) := op_128 (bl_at (d := 96) bl_cX12_league_96 24 rfl)
theorem dX12_league_121 : decode cX12_league 121 = .ok (.iconst 1, 1) := op_4 (bl_at (d := 96) bl_cX12_league_96 25 rfl)
theorem dX12_league_122 : decode cX12_league 122 = .ok (.aload_n 0, 1) := op_42 (bl_at (d := 96) bl_cX12_league_96 26 rfl)
theorem dX12_league_123 : decode cX12_league 123 = .ok (.getfield 144, 3) := op_180 (bl_at (d := 96) bl_cX12_league_96 27 rfl) (bl_at (d := 96) bl_cX12_league_96 28 rfl) (bl_at (d := 96) bl_cX12_league_96 29 rfl)
theorem dX12_league_126 : decode cX12_league 126 = .ok (.ishl, 1) := op_120 (bl_at (d := 96) bl_cX12_league_96 30 rfl)
theorem dX12_league_127 : decode cX12_league 127 = .ok (.ior, 1) := op_128 (bl_at (d := 96) bl_cX12_league_96 31 rfl)
theorem dX12_league_128 : decode cX12_league 128 = .ok (.aload_n 0, 1) := op_42 (bl_at (d := 128) bl_cX12_league_128 0 rfl)
theorem dX12_league_129 : decode cX12_league 129 = .ok (.iload_n 1, 1) := op_27 (bl_at (d := 128) bl_cX12_league_128 1 rfl)
theorem dX12_league_130 : decode cX12_league 130 = .ok (.invokevirtual 245, 3) := op_182 (bl_at (d := 128) bl_cX12_league_128 2 rfl) (bl_at (d := 128) bl_cX12_league_128 3 rfl) (bl_at (d := 128) bl_cX12_league_128 4 rfl)
theorem dX12_league_133 : decode cX12_league 133 = .ok (.ifCond .eq 7, 3) := op_153 (bl_at (d := 128) bl_cX12_league_128 5 rfl) (bl_at (d := 128) bl_cX12_league_128 6 rfl) (bl_at (d := 128) bl_cX12_league_128 7 rfl)
theorem dX12_league_136 : decode cX12_league 136 = .ok (.iload_n 1, 1) := op_27 (bl_at (d := 128) bl_cX12_league_128 8 rfl)
theorem dX12_league_137 : decode cX12_league 137 = .ok (.goto 4, 3) := op_167 (bl_at (d := 128) bl_cX12_league_128 9 rfl) (bl_at (d := 128) bl_cX12_league_128 10 rfl) (bl_at (d := 128) bl_cX12_league_128 11 rfl)
theorem dX12_league_140 : decode cX12_league 140 = .ok (.iconst 0, 1) := op_3 (bl_at (d := 128) bl_cX12_league_128 12 rfl)
theorem dX12_league_141 : decode cX12_league 141 = .ok (.ior, 1) := op_128 (bl_at (d := 128) bl_cX12_league_128 13 rfl)
theorem dX12_league_142 : decode cX12_league 142 = .ok (.istore 5, 2) := op_54 (bl_at (d := 128) bl_cX12_league_128 14 rfl) (bl_at (d := 128) bl_cX12_league_128 15 rfl)
theorem dX12_league_144 : decode cX12_league 144 = .ok (.aload_n 0, 1) := op_42 (bl_at (d := 128) bl_cX12_league_128 16 rfl)
theorem dX12_league_145 : decode cX12_league 145 = .ok (.aload_n 0, 1) := op_42 (bl_at (d := 128) bl_cX12_league_128 17 rfl)
theorem dX12_league_146 : decode cX12_league 146 = .ok (.getfield 144, 3) := op_180 (bl_at (d := 128) bl_cX12_league_128 18 rfl) (bl_at (d := 128) bl_cX12_league_128 19 rfl) (bl_at (d := 128) bl_cX12_league_128 20 rfl)
theorem dX12_league_149 : decode cX12_league 149 = .ok (.iload 4, 2) := op_21 (bl_at (d := 128) bl_cX12_league_128 21 rfl) (bl_at (d := 128) bl_cX12_league_128 22 rfl)
theorem dX12_league_151 : decode cX12_league 151 = .ok (.invokevirtual 171, 3) := op_182 (bl_at (d := 128) bl_cX12_league_128 23 rfl) (bl_at (d := 128) bl_cX12_league_128 24 rfl) (bl_at (d := 128) bl_cX12_league_128 25 rfl)
theorem dX12_league_154 : decode cX12_league 154 = .ok (.aload_n 0, 1) := op_42 (bl_at (d := 128) bl_cX12_league_128 26 rfl)
theorem dX12_league_155 : decode cX12_league 155 = .ok (.getfield 25, 3) := op_180 (bl_at (d := 128) bl_cX12_league_128 27 rfl) (bl_at (d := 128) bl_cX12_league_128 28 rfl) (bl_at (d := 128) bl_cX12_league_128 29 rfl)
theorem dX12_league_158 : decode cX12_league 158 = .ok (.iconst 0, 1) := op_3 (bl_at (d := 128) bl_cX12_league_128 30 rfl)
theorem dX12_league_159 : decode cX12_league 159 = .ok (.iaload, 1) := op_46 (bl_at (d := 128) bl_cX12_league_128 31 rfl)
theorem dX12_league_160 : decode cX12_league 160 = .ok (.if_icmp .gt 35, 3) := op_163 (bl_at (d := 160) bl_cX12_league_160 0 rfl) (bl_at (d := 160) bl_cX12_league_160 1 rfl) (bl_at (d := 160) bl_cX12_league_160 2 rfl)
theorem dX12_league_163 : decode cX12_league 163 = .ok (.aload_n 0, 1) := op_42 (bl_at (d := 160) bl_cX12_league_160 3 rfl)
theorem dX12_league_164 : decode cX12_league 164 = .ok (.getfield 25, 3) := op_180 (bl_at (d := 160) bl_cX12_league_160 4 rfl) (bl_at (d := 160) bl_cX12_league_160 5 rfl) (bl_at (d := 160) bl_cX12_league_160 6 rfl)
theorem dX12_league_167 : decode cX12_league 167 = .ok (.iconst 1, 1) := op_4 (bl_at (d := 160) bl_cX12_league_160 7 rfl)
theorem dX12_league_168 : decode cX12_league 168 = .ok (.iaload, 1) := op_46 (bl_at (d := 160) bl_cX12_league_160 8 rfl)
theorem dX12_league_169 : decode cX12_league 169 = .ok (.aload_n 0, 1) := op_42 (bl_at (d := 160) bl_cX12_league_160 9 rfl)
theorem dX12_league_170 : decode cX12_league 170 = .ok (.iload 5, 2) := op_21 (bl_at (d := 160) bl_cX12_league_160 10 rfl) (bl_at (d := 160) bl_cX12_league_160 11 rfl)
theorem dX12_league_172 : decode cX12_league 172 = .ok (.invokevirtual 165, 3) := op_182 (bl_at (d := 160) bl_cX12_league_160 12 rfl) (bl_at (d := 160) bl_cX12_league_160 13 rfl) (bl_at (d := 160) bl_cX12_league_160 14 rfl)
theorem dX12_league_175 : decode cX12_league 175 = .ok (.aload_n 0, 1) := op_42 (bl_at (d := 160) bl_cX12_league_160 15 rfl)
theorem dX12_league_176 : decode cX12_league 176 = .ok (.aload_n 0, 1) := op_42 (bl_at (d := 160) bl_cX12_league_160 16 rfl)
theorem dX12_league_177 : decode cX12_league 177 = .ok (.aload_n 0, 1) := op_42 (bl_at (d := 160) bl_cX12_league_160 17 rfl)
theorem dX12_league_178 : decode cX12_league 178 = .ok (.getfield 144, 3) := op_180 (bl_at (d := 160) bl_cX12_league_160 18 rfl) (bl_at (d := 160) bl_cX12_league_160 19 rfl) (bl_at (d := 160) bl_cX12_league_160 20 rfl)
theorem dX12_league_181 : decode cX12_league 181 = .ok (.invokevirtual 159, 3) := op_182 (bl_at (d := 160) bl_cX12_league_160 21 rfl) (bl_at (d := 160) bl_cX12_league_160 22 rfl) (bl_at (d := 160) bl_cX12_league_160 23 rfl)
theorem dX12_league_184 : decode cX12_league 184 = .ok (.invokevirtual 165, 3) := op_182 (bl_at (d := 160) bl_cX12_league_160 24 rfl) (bl_at (d := 160) bl_cX12_league_160 25 rfl) (bl_at (d := 160) bl_cX12_league_160 26 rfl)
theorem dX12_league_187 : decode cX12_league 187 = .ok (.invokestatic 168, 3) := op_184 (bl_at (d := 160) bl_cX12_league_160 27 rfl) (bl_at (d := 160) bl_cX12_league_160 28 rfl) (bl_at (d := 160) bl_cX12_league_160 29 rfl)
theorem dX12_league_190 : decode cX12_league 190 = .ok (.ifCond .eq 5, 3) := op_153 (bl_at (d := 160) bl_cX12_league_160 30 rfl) (bl_at (d := 160) bl_cX12_league_160 31 rfl) (bl_at (d := 192) bl_cX12_league_192 0 rfl)
theorem dX12_league_193 : decode cX12_league 193 = .ok (.iconst 1, 1) := op_4 (bl_at (d := 192) bl_cX12_league_192 1 rfl)
theorem dX12_league_194 : decode cX12_league 194 = .ok (.ireturn, 1) := op_172 (bl_at (d := 192) bl_cX12_league_192 2 rfl)
theorem dX12_league_195 : decode cX12_league 195 = .ok (.iinc 4 1, 3) := op_132 (bl_at (d := 192) bl_cX12_league_192 3 rfl) (bl_at (d := 192) bl_cX12_league_192 4 rfl) (bl_at (d := 192) bl_cX12_league_192 5 rfl)
theorem dX12_league_198 : decode cX12_league 198 = .ok (.goto (-120), 3) := op_167 (bl_at (d := 192) bl_cX12_league_192 6 rfl) (bl_at (d := 192) bl_cX12_league_192 7 rfl) (bl_at (d := 192) bl_cX12_league_192 8 rfl)
theorem dX12_league_201 : decode cX12_league 201 = .ok (.iconst 0, 1) := op_3 (bl_at (d := 192) bl_cX12_league_192 9 rfl)
theorem dX12_league_202 : decode cX12_league 202 = .ok (.ireturn, 1) := op_172 (bl_at (d := 192) bl_cX12_league_192 10 rfl)
theorem bl_cX12_divisor_0 : ((bys cX12_divisor).drop 0).take 32 = [30, 55, 4, 32, 55, 6, 22, 6, 9, 148, 153, 0, 21, 22, 4, 22, 6, 113, 55, 8, 22, 6, 55, 4, 22, 8, 55, 6, 167, 255, 234, 22] := by decide +kernel
theorem bl_cX12_divisor_32 : ((bys cX12_divisor).drop 32).take 32 = [4, 173] := by decide +kernel
theorem dX12_divisor_0 : decode cX12_divisor 0 = .ok (.lload_n 0, 1) := op_30 (bl_at (d := 0) bl_cX12_divisor_0 0 rfl)
theorem dX12_divisor_1 : decode cX12_divisor 1 = .ok (.lstore 4, 2) := op_55 (bl_at (d := 0) bl_cX12_divisor_0 1 rfl) (bl_at (d := 0) bl_cX12_divisor_0 2 rfl)
theorem dX12_divisor_3 : decode cX12_divisor 3 = .ok (.lload_n 2, 1) := op_32 (bl_at (d := 0) bl_cX12_divisor_0 3 rfl)
theorem dX12_divisor_4 : decode cX12_divisor 4 = .ok (.lstore 6, 2) := op_55 (bl_at (d := 0) bl_cX12_divisor_0 4 rfl) (bl_at (d := 0) bl_cX12_divisor_0 5 rfl)
theorem dX12_divisor_6 : decode cX12_divisor 6 = .ok (.lload 6, 2) := op_22 (bl_at (d := 0) bl_cX12_divisor_0 6 rfl) (bl_at (d := 0) bl_cX12_divisor_0 7 rfl)
theorem dX12_divisor_8 : decode cX12_divisor 8 = .ok (.lconst 0, 1) := op_9 (bl_at (d := 0) bl_cX12_divisor_0 8 rfl)
theorem dX12_divisor_9 : decode cX12_divisor 9 = .ok (.lcmp, 1) := op_148 (bl_at (d := 0) bl_cX12_divisor_0 9 rfl)
theorem dX12_divisor_10 : decode cX12_divisor 10 = .ok (.ifCond .eq 21, 3) := op_153 (bl_at (d := 0) bl_cX12_divisor_0 10 rfl) (bl_at (d := 0) bl_cX12_divisor_0 11 rfl) (bl_at (d := 0) bl_cX12_divisor_0 12 rfl)
theorem dX12_divisor_13 : decode cX12_divisor 13 = .ok (.lload 4, 2) := op_22 (bl_at (d := 0) bl_cX12_divisor_0 13 rfl) (bl_at (d := 0) bl_cX12_divisor_0 14 rfl)
theorem dX12_divisor_15 : decode cX12_divisor 15 = .ok (.lload 6, 2) := op_22 (bl_at (d := 0) bl_cX12_divisor_0 15 rfl) (bl_at (d := 0) bl_cX12_divisor_0 16 rfl)
theorem dX12_divisor_17 : decode cX12_divisor 17 = .ok (.lrem, 1) := op_113 (bl_at (d := 0) bl_cX12_divisor_0 17 rfl)
theorem dX12_divisor_18 : decode cX12_divisor 18 = .ok (.lstore 8, 2) := op_55 (bl_at (d := 0) bl_cX12_divisor_0 18 rfl) (bl_at (d := 0) bl_cX12_divisor_0 19 rfl)
theorem dX12_divisor_20 : decode cX12_divisor 20 = .ok (.lload 6, 2) := op_22 (bl_at (d := 0) bl_cX12_divisor_0 20 rfl) (bl_at (d := 0) bl_cX12_divisor_0 21 rfl)
theorem dX12_divisor_22 : decode cX12_divisor 22 = .ok (.lstore 4, 2) := op_55 (bl_at (d := 0) bl_cX12_divisor_0 22 rfl) (bl_at (d := 0) bl_cX12_divisor_0 23 rfl)
theorem dX12_divisor_24 : decode cX12_divisor 24 = .ok (.lload 8, 2) := op_22 (bl_at (d := 0) bl_cX12_divisor_0 24 rfl) (bl_at (d := 0) bl_cX12_divisor_0 25 rfl)
theorem dX12_divisor_26 : decode cX12_divisor 26 = .ok (.lstore 6, 2) := op_55 (bl_at (d := 0) bl_cX12_divisor_0 26 rfl) (bl_at (d := 0) bl_cX12_divisor_0 27 rfl)
theorem dX12_divisor_28 : decode cX12_divisor 28 = .ok (.goto (-22), 3) := op_167 (bl_at (d := 0) bl_cX12_divisor_0 28 rfl) (bl_at (d := 0) bl_cX12_divisor_0 29 rfl) (bl_at (d := 0) bl_cX12_divisor_0 30 rfl)
theorem dX12_divisor_31 : decode cX12_divisor 31 = .ok (.lload 4, 2) := op_22 (bl_at (d := 0) bl_cX12_divisor_0 31 rfl) (bl_at (d := 32) bl_cX12_divisor_32 0 rfl)
theorem dX12_divisor_33 : decode cX12_divisor 33 = .ok (.lreturn, 1) := op_173 (bl_at (d := 32) bl_cX12_divisor_32 1 rfl)
theorem bl_cX12_shaken_0 : ((bys cX12_shaken).drop 0).take 32 = [27, 3, 4, 184, 0, 104, 154, 0, 10, 42, 16, 254, 182, 0, 248, 173, 42, 182, 0, 213, 153, 0, 10, 42, 16, 253, 182, 0, 248, 173, 42, 182] := by decide +kernel
theorem bl_cX12_shaken_32 : ((bys cX12_shaken).drop 32).take 32 = [0, 204, 42, 42, 180, 0, 144, 182, 0, 159, 4, 42, 180, 0, 144, 120, 2, 130, 126, 61, 9, 66, 10, 55, 5, 42, 180, 0, 144, 4, 96, 54] := by decide +kernel
theorem bl_cX12_shaken_64 : ((bys cX12_shaken).drop 64).take 32 = [7, 21, 7, 42, 180, 0, 82, 162, 0, 17, 22, 5, 20, 0, 252, 105, 55, 5, 132, 7, 1, 167, 255, 236, 3, 54, 7, 21, 7, 4, 42, 180] := by decide +kernel
theorem bl_cX12_shaken_96 : ((bys cX12_shaken).drop 96).take 32 = [0, 82, 120, 162, 0, 128, 21, 7, 28, 2, 130, 126, 154, 0, 113, 42, 180, 0, 25, 4, 46, 42, 42, 180, 0, 52, 42, 180, 0, 144, 46, 21] := by decide +kernel
theorem bl_cX12_shaken_128 : ((bys cX12_shaken).drop 128).take 32 = [7, 130, 182, 0, 165, 42, 42, 42, 180, 0, 144, 182, 0, 159, 182, 0, 165, 184, 0, 168, 154, 0, 6, 167, 0, 70, 10, 55, 8, 42, 180, 0] := by decide +kernel
theorem bl_cX12_shaken_160 : ((bys cX12_shaken).drop 160).take 32 = [144, 4, 96, 54, 10, 21, 10, 42, 180, 0, 82, 162, 0, 45, 22, 8, 21, 7, 21, 10, 122, 4, 126, 4, 160, 0, 13, 42, 180, 0, 25, 7] := by decide +kernel
theorem bl_cX12_shaken_192 : ((bys cX12_shaken).drop 192).take 32 = [46, 133, 167, 0, 13, 16, 100, 42, 180, 0, 25, 7, 46, 100, 133, 105, 55, 8, 132, 10, 1, 167, 255, 208, 33, 22, 8, 97, 66, 132, 7, 1] := by decide +kernel
theorem bl_cX12_shaken_224 : ((bys cX12_shaken).drop 224).take 32 = [167, 255, 123, 27, 154, 0, 7, 33, 167, 0, 5, 22, 5, 33, 22, 5, 184, 0, 254, 109, 173] := by decide +kernel
theorem dX12_shaken_0 : decode cX12_shaken 0 = .ok (.iload_n 1, 1) := op_27 (bl_at (d := 0) bl_cX12_shaken_0 0 rfl)
theorem dX12_shaken_1 : decode cX12_shaken 1 = .ok (.iconst 0, 1) := op_3 (bl_at (d := 0) bl_cX12_shaken_0 1 rfl)
theorem dX12_shaken_2 : decode cX12_shaken 2 = .ok (.iconst 1, 1) := op_4 (bl_at (d := 0) bl_cX12_shaken_0 2 rfl)
theorem dX12_shaken_3 : decode cX12_shaken 3 = .ok (.invokestatic 104, 3) := op_184 (bl_at (d := 0) bl_cX12_shaken_0 3 rfl) (bl_at (d := 0) bl_cX12_shaken_0 4 rfl) (bl_at (d := 0) bl_cX12_shaken_0 5 rfl)
theorem dX12_shaken_6 : decode cX12_shaken 6 = .ok (.ifCond .ne 10, 3) := op_154 (bl_at (d := 0) bl_cX12_shaken_0 6 rfl) (bl_at (d := 0) bl_cX12_shaken_0 7 rfl) (bl_at (d := 0) bl_cX12_shaken_0 8 rfl)
theorem dX12_shaken_9 : decode cX12_shaken 9 = .ok (.aload_n 0, 1) := op_42 (bl_at (d := 0) bl_cX12_shaken_0 9 rfl)
theorem dX12_shaken_10 : decode cX12_shaken 10 = .ok (.bipush (-2), 2) := op_16 (bl_at (d := 0) bl_cX12_shaken_0 10 rfl) (bl_at (d := 0) bl_cX12_shaken_0 11 rfl)
theorem dX12_shaken_12 : decode cX12_shaken 12 = .ok (.invokevirtual 248, 3) := op_182 (bl_at (d := 0) bl_cX12_shaken_0 12 rfl) (bl_at (d := 0) bl_cX12_shaken_0 13 rfl) (bl_at (d := 0) bl_cX12_shaken_0 14 rfl)
theorem dX12_shaken_15 : decode cX12_shaken 15 = .ok (.lreturn, 1) := op_173 (bl_at (d := 0) bl_cX12_shaken_0 15 rfl)
theorem dX12_shaken_16 : decode cX12_shaken 16 = .ok (.aload_n 0, 1) := op_42 (bl_at (d := 0) bl_cX12_shaken_0 16 rfl)
theorem dX12_shaken_17 : decode cX12_shaken 17 = .ok (.invokevirtual 213, 3) := op_182 (bl_at (d := 0) bl_cX12_shaken_0 17 rfl) (bl_at (d := 0) bl_cX12_shaken_0 18 rfl) (bl_at (d := 0) bl_cX12_shaken_0 19 rfl)
theorem dX12_shaken_20 : decode cX12_shaken 20 = .ok (.ifCond .eq 10, 3) := op_153 (bl_at (d := 0) bl_cX12_shaken_0 20 rfl) (bl_at (d := 0) bl_cX12_shaken_0 21 rfl) (bl_at (d := 0) bl_cX12_shaken_0 22 rfl)
theorem dX12_shaken_23 : decode cX12_shaken 23 = .ok (.aload_n 0, 1) := op_42 (bl_at (d := 0) bl_cX12_shaken_0 23 rfl)
theorem dX12_shaken_24 : decode cX12_shaken 24 = .ok (.bipush (-3), 2) := op_16 (bl_at (d := 0) bl_cX12_shaken_0 24 rfl) (bl_at (d := 0) bl_cX12_shaken_0 25 rfl)
theorem dX12_shaken_26 : decode cX12_shaken 26 = .ok (.invokevirtual 248, 3) := op_182 (bl_at (d := 0) bl_cX12_shaken_0 26 rfl) (bl_at (d := 0) bl_cX12_shaken_0 27 rfl) (bl_at (d := 0) bl_cX12_shaken_0 28 rfl)
theorem dX12_shaken_29 : decode cX12_shaken 29 = .ok (.lreturn, 1) := op_173 (bl_at (d := 0) bl_cX12_shaken_0 29 rfl)
theorem dX12_shaken_30 : decode cX12_shaken 30 = .ok (.aload_n 0, 1) := op_42 (bl_at (d := 0) bl_cX12_shaken_0 30 rfl)
theorem dX12_shaken_31 : decode cX12_shaken 31 = .ok (.invokevirtual 204, 3) := op_182 (bl_at (d := 0) bl_cX12_shaken_0 31 rfl) (bl_at (d := 32) bl_cX12_shaken_32 0 rfl) (bl_at (d := 32) bl_cX12_shaken_32 1 rfl)
theorem dX12_shaken_34 : decode cX12_shaken 34 = .ok (.aload_n 0, 1) := op_42 (bl_at (d := 32) bl_cX12_shaken_32 2 rfl)
theorem dX12_shaken_35 : decode cX12_shaken 35 = .ok (.aload_n 0, 1) := op_42 (bl_at (d := 32) bl_cX12_shaken_32 3 rfl)
theorem dX12_shaken_36 : decode cX12_shaken 36 = .ok (.getfield 144, 3) := op_180 (bl_at (d := 32) bl_cX12_shaken_32 4 rfl) (bl_at (d := 32) bl_cX12_shaken_32 5 rfl) (bl_at (d := 32) bl_cX12_shaken_32 6 rfl)
theorem dX12_shaken_39 : decode cX12_shaken 39 = .ok (.invokevirtual 159, 3) := op_182 (bl_at (d := 32) bl_cX12_shaken_32 7 rfl) (bl_at (d := 32) bl_cX12_shaken_32 8 rfl) (bl_at (d := 32) bl_cX12_shaken_32 9 rfl)
theorem dX12_shaken_42 : decode cX12_shaken 42 = .ok (.iconst 1, 1) := op_4 (bl_at (d := 32) bl_cX12_shaken_32 10 rfl)
theorem dX12_shaken_43 : decode cX12_shaken 43 = .ok (.aload_n 0, 1) := op_42 (bl_at (d := 32) bl_cX12_shaken_32 11 rfl)
theorem dX12_shaken_44 : decode cX12_shaken 44 = .ok (.getfield 144, 3) := op_180 (bl_at (d := 32) bl_cX12_shaken_32 12 rfl) (bl_at (d := 32) bl_cX12_shaken_32 13 rfl) (bl_at (d := 32) bl_cX12_shaken_32 14 rfl)
theorem dX12_shaken_47 : decode cX12_shaken 47 = .ok (.ishl, 1) := op_120 (bl_at (d := 32) bl_cX12_shaken_32 15 rfl)
theorem dX12_shaken_48 : decode cX12_shaken 48 = .ok (.iconst (-1), 1) := op_2 (bl_at (d := 32) bl_cX12_shaken_32 16 rfl)
theorem dX12_shaken_49 : decode cX12_shaken 49 = .ok (.ixor, 1) := op_130 (bl_at (d := 32) bl_cX12_shaken_32 17 rfl)
theorem dX12_shaken_50 : decode cX12_shaken 50 = .ok (.iand, 1) := op_126 (bl_at (d := 32) bl_cX12_shaken_32 18 rfl)
theorem dX12_shaken_51 : decode cX12_shaken 51 = .ok (.istore_n 2, 1) := op_61 (bl_at (d := 32) bl_cX12_shaken_32 19 rfl)
theorem dX12_shaken_52 : decode cX12_shaken 52 = .ok (.lconst 0, 1) := op_9 (bl_at (d := 32) bl_cX12_shaken_32 20 rfl)
theorem dX12_shaken_53 : decode cX12_shaken 53 = .ok (.lstore_n 3, 1) := op_66 (bl_at (d := 32) bl_cX12_shaken_32 21 rfl)
theorem dX12_shaken_54 : decode cX12_shaken 54 = .ok (.lconst 1, 1) := op_10 (bl_at (d := 32) bl_cX12_shaken_32 22 rfl)
theorem dX12_shaken_55 : decode cX12_shaken 55 = .ok (.lstore 5, 2) := op_55 (bl_at (d := 32) bl_cX12_shaken_32 23 rfl) (bl_at (d := 32) bl_cX12_shaken_32 24 rfl)
theorem dX12_shaken_57 : decode cX12_shaken 57 = .ok (.aload_n 0, 1) := op_42 (bl_at (d := 32) bl_cX12_shaken_32 25 rfl)
theorem dX12_shaken_58 : decode cX12_shaken 58 = .ok (.getfield 144, 3) := op_180 (bl_at (d := 32) bl_cX12_shaken_32 26 rfl) (bl_at (d := 32) bl_cX12_shaken_32 27 rfl) (bl_at (d := 32) bl_cX12_shaken_32 28 rfl)
theorem dX12_shaken_61 : decode cX12_shaken 61 = .ok (.iconst 1, 1) := op_4 (bl_at (d := 32) bl_cX12_shaken_32 29 rfl)
theorem dX12_shaken_62 : decode cX12_shaken 62 = .ok (.iadd, 1) := op_96 (bl_at (d := 32) bl_cX12_shaken_32 30 rfl)
theorem dX12_shaken_63 : decode cX12_shaken 63 = .ok (.istore 7, 2) := op_54 (bl_at (d := 32) bl_cX12_shaken_32 31 rfl) (bl_at (d := 64) bl_cX12_shaken_64 0 rfl)
theorem dX12_shaken_65 : decode cX12_shaken 65 = .ok (.iload 7, 2) := op_21 (bl_at (d := 64) bl_cX12_shaken_64 1 rfl) (bl_at (d := 64) bl_cX12_shaken_64 2 rfl)
theorem dX12_shaken_67 : decode cX12_shaken 67 = .ok (.aload_n 0, 1) := op_42 (bl_at (d := 64) bl_cX12_shaken_64 3 rfl)
theorem dX12_shaken_68 : decode cX12_shaken 68 = .ok (.getfield 82, 3) := op_180 (bl_at (d := 64) bl_cX12_shaken_64 4 rfl) (bl_at (d := 64) bl_cX12_shaken_64 5 rfl) (bl_at (d := 64) bl_cX12_shaken_64 6 rfl)
theorem dX12_shaken_71 : decode cX12_shaken 71 = .ok (.if_icmp .ge 17, 3) := op_162 (bl_at (d := 64) bl_cX12_shaken_64 7 rfl) (bl_at (d := 64) bl_cX12_shaken_64 8 rfl) (bl_at (d := 64) bl_cX12_shaken_64 9 rfl)
theorem dX12_shaken_74 : decode cX12_shaken 74 = .ok (.lload 5, 2) := op_22 (bl_at (d := 64) bl_cX12_shaken_64 10 rfl) (bl_at (d := 64) bl_cX12_shaken_64 11 rfl)
theorem dX12_shaken_76 : decode cX12_shaken 76 = .ok (.ldc2_w 252, 3) := op_20 (bl_at (d := 64) bl_cX12_shaken_64 12 rfl) (bl_at (d := 64) bl_cX12_shaken_64 13 rfl) (bl_at (d := 64) bl_cX12_shaken_64 14 rfl)
theorem dX12_shaken_79 : decode cX12_shaken 79 = .ok (.lmul, 1) := op_105 (bl_at (d := 64) bl_cX12_shaken_64 15 rfl)
theorem dX12_shaken_80 : decode cX12_shaken 80 = .ok (.lstore 5, 2) := op_55 (bl_at (d := 64) bl_cX12_shaken_64 16 rfl) (bl_at (d := 64) bl_cX12_shaken_64 17 rfl)
theorem dX12_shaken_82 : decode cX12_shaken 82 = .ok (.iinc 7 1, 3) := op_132 (bl_at (d := 64) bl_cX12_shaken_64 18 rfl) (bl_at (d := 64) bl_cX12_shaken_64 19 rfl) (bl_at (d := 64) bl_cX12_shaken_64 20 rfl)
theorem dX12_shaken_85 : decode cX12_shaken 85 = .ok (.goto (-20), 3) := op_167 (bl_at (d := 64) bl_cX12_shaken_64 21 rfl) (bl_at (d := 64) bl_cX12_shaken_64 22 rfl) (bl_at (d := 64) bl_cX12_shaken_64 23 rfl)
theorem dX12_shaken_88 : decode cX12_shaken 88 = .ok (.iconst 0, 1) := op_3 (bl_at (d := 64) bl_cX12_shaken_64 24 rfl)
theorem dX12_shaken_89 : decode cX12_shaken 89 = .ok (.istore 7, 2) := op_54 (bl_at (d := 64) bl_cX12_shaken_64 25 rfl) (bl_at (d := 64) bl_cX12_shaken_64 26 rfl)
theorem dX12_shaken_91 : decode cX12_shaken 91 = .ok (.iload 7, 2) := op_21 (bl_at (d := 64) bl_cX12_shaken_64 27 rfl) (bl_at (d := 64) bl_cX12_shaken_64 28 rfl)
theorem dX12_shaken_93 : decode cX12_shaken 93 = .ok (.iconst 1, 1) := op_4 (bl_at (d := 64) bl_cX12_shaken_64 29 rfl)
theorem dX12_shaken_94 : decode cX12_shaken 94 = .ok (.aload_n 0, 1) := op_42 (bl_at (d := 64) bl_cX12_shaken_64 30 rfl)
theorem dX12_shaken_95 : decode cX12_shaken 95 = .ok (.getfield 82, 3) := op_180 (bl_at (d := 64) bl_cX12_shaken_64 31 rfl) (bl_at (d := 96) bl_cX12_shaken_96 0 rfl) (bl_at (d := 96) bl_cX12_shaken_96 1 rfl)
theorem dX12_shaken_98 : decode cX12_shaken 98 = .ok (.ishl, 1) := op_120 (bl_at (d := 96) bl_cX12_shaken_96 2 rfl)
theorem dX12_shaken_99 : decode cX12_shaken 99 = .ok (.if_icmp .ge 128, 3) := op_162 (bl_at (d := 96) bl_cX12_shaken_96 3 rfl) (bl_at (d := 96) bl_cX12_shaken_96 4 rfl) (bl_at (d := 96) bl_cX12_shaken_96 5 rfl)
theorem dX12_shaken_102 : decode cX12_shaken 102 = .ok (.iload 7, 2) := op_21 (bl_at (d := 96) bl_cX12_shaken_96 6 rfl) (bl_at (d := 96) bl_cX12_shaken_96 7 rfl)
theorem dX12_shaken_104 : decode cX12_shaken 104 = .ok (.iload_n 2, 1) := op_28 (bl_at (d := 96) bl_cX12_shaken_96 8 rfl)
theorem dX12_shaken_105 : decode cX12_shaken 105 = .ok (.iconst (-1), 1) := op_2 (bl_at (d := 96) bl_cX12_shaken_96 9 rfl)
theorem dX12_shaken_106 : decode cX12_shaken 106 = .ok (.ixor, 1) := op_130 (bl_at (d := 96) bl_cX12_shaken_96 10 rfl)
theorem dX12_shaken_107 : decode cX12_shaken 107 = .ok (.iand, 1) := op_126 (bl_at (d := 96) bl_cX12_shaken_96 11 rfl)
theorem dX12_shaken_108 : decode cX12_shaken 108 = .ok (.ifCond .ne 113, 3) := op_154 (bl_at (d := 96) bl_cX12_shaken_96 12 rfl) (bl_at (d := 96) bl_cX12_shaken_96 13 rfl) (bl_at (d := 96) bl_cX12_shaken_96 14 rfl)
theorem dX12_shaken_111 : decode cX12_shaken 111 = .ok (.aload_n 0, 1) := op_42 (bl_at (d := 96) bl_cX12_shaken_96 15 rfl)
theorem dX12_shaken_112 : decode cX12_shaken 112 = .ok (.getfield 25, 3) := op_180 (bl_at (d := 96) bl_cX12_shaken_96 16 rfl) (bl_at (d := 96) bl_cX12_shaken_96 17 rfl) (bl_at (d := 96) bl_cX12_shaken_96 18 rfl)
theorem dX12_shaken_115 : decode cX12_shaken 115 = .ok (.iconst 1, 1) := op_4 (bl_at (d := 96) bl_cX12_shaken_96 19 rfl)
theorem dX12_shaken_116 : decode cX12_shaken 116 = .ok (.iaload, 1) := op_46 (bl_at (d := 96) bl_cX12_shaken_96 20 rfl)
theorem dX12_shaken_117 : decode cX12_shaken 117 = .ok (.aload_n 0, 1) := op_42 (bl_at (d := 96) bl_cX12_shaken_96 21 rfl)
theorem dX12_shaken_118 : decode cX12_shaken 118 = .ok (.aload_n 0, 1) := op_42 (bl_at (d := 96) bl_cX12_shaken_96 22 rfl)
theorem dX12_shaken_119 : decode cX12_shaken 119 = .ok (.getfield 52, 3) := op_180 (bl_at (d := 96) bl_cX12_shaken_96 23 rfl) (bl_at (d := 96) bl_cX12_shaken_96 24 rfl) (bl_at (d := 96) bl_cX12_shaken_96 25 rfl)
theorem dX12_shaken_122 : decode cX12_shaken 122 = .ok (.aload_n 0, 1) := op_42 (bl_at (d := 96) bl_cX12_shaken_96 26 rfl)
theorem dX12_shaken_123 : decode cX12_shaken 123 = .ok (.getfield 144, 3) := op_180 (bl_at (d := 96) bl_cX12_shaken_96 27 rfl) (bl_at (d := 96) bl_cX12_shaken_96 28 rfl) (bl_at (d := 96) bl_cX12_shaken_96 29 rfl)
theorem dX12_shaken_126 : decode cX12_shaken 126 = .ok (.iaload, 1) := op_46 (bl_at (d := 96) bl_cX12_shaken_96 30 rfl)
theorem dX12_shaken_127 : decode cX12_shaken 127 = .ok (.iload 7, 2) := op_21 (bl_at (d := 96) bl_cX12_shaken_96 31 rfl) (bl_at (d := 128) bl_cX12_shaken_128 0 rfl)
theorem dX12_shaken_129 : decode cX12_shaken 129 = .ok (.ixor, 1) := op_130 (bl_at (d := 128) bl_cX12_shaken_128 1 rfl)
theorem dX12_shaken_130 : decode cX12_shaken 130 = .ok (.invokevirtual 165, 3) := op_182 (bl_at (d := 128) bl_cX12_shaken_128 2 rfl) (bl_at (d := 128) bl_cX12_shaken_128 3 rfl) (bl_at (d := 128) bl_cX12_shaken_128 4 rfl)
theorem dX12_shaken_133 : decode cX12_shaken 133 = .ok (.aload_n 0, 1) := op_42 (bl_at (d := 128) bl_cX12_shaken_128 5 rfl)
theorem dX12_shaken_134 : decode cX12_shaken 134 = .ok (.aload_n 0, 1) := op_42 (bl_at (d := 128) bl_cX12_shaken_128 6 rfl)
theorem dX12_shaken_135 : decode cX12_shaken 135 = .ok (.aload_n 0, 1) := op_42 (bl_at (d := 128) bl_cX12_shaken_128 7 rfl)
theorem dX12_shaken_136 : decode cX12_shaken 136 = .ok (.getfield 144, 3) := op_180 (bl_at (d := 128) bl_cX12_shaken_128 8 rfl) (bl_at (d := 128) bl_cX12_shaken_128 9 rfl) (bl_at (d := 128) bl_cX12_shaken_128 10 rfl)
theorem dX12_shaken_139 : decode cX12_shaken 139 = .ok (.invokevirtual 159, 3) := op_182 (bl_at (d := 128) bl_cX12_shaken_128 11 rfl) (bl_at (d := 128) bl_cX12_shaken_128 12 rfl) (bl_at (d := 128) bl_cX12_shaken_128 13 rfl)
theorem dX12_shaken_142 : decode cX12_shaken 142 = .ok (.invokevirtual 165, 3) := op_182 (bl_at (d := 128) bl_cX12_shaken_128 14 rfl) (bl_at (d := 128) bl_cX12_shaken_128 15 rfl) (bl_at (d := 128) bl_cX12_shaken_128 16 rfl)
theorem dX12_shaken_145 : decode cX12_shaken 145 = .ok (.invokestatic 168, 3) := op_184 (bl_at (d := 128) bl_cX12_shaken_128 17 rfl) (bl_at (d := 128) bl_cX12_shaken_128 18 rfl) (bl_at (d := 128) bl_cX12_shaken_128 19 rfl)
theorem dX12_shaken_148 : decode cX12_shaken 148 = .ok (.ifCond .ne 6, 3) := op_154 (bl_at (d := 128) bl_cX12_shaken_128 20 rfl) (bl_at (d := 128) bl_cX12_shaken_128 21 rfl) (bl_at (d := 128) bl_cX12_shaken_128 22 rfl)
theorem dX12_shaken_151 : decode cX12_shaken 151 = .ok (.goto 70, 3) := op_167 (bl_at (d := 128) bl_cX12_shaken_128 23 rfl) (bl_at (d := 128) bl_cX12_shaken_128 24 rfl) (bl_at (d := 128) bl_cX12_shaken_128 25 rfl)
theorem dX12_shaken_154 : decode cX12_shaken 154 = .ok (.lconst 1, 1) := op_10 (bl_at (d := 128) bl_cX12_shaken_128 26 rfl)
theorem dX12_shaken_155 : decode cX12_shaken 155 = .ok (.lstore 8, 2) := op_55 (bl_at (d := 128) bl_cX12_shaken_128 27 rfl) (bl_at (d := 128) bl_cX12_shaken_128 28 rfl)
theorem dX12_shaken_157 : decode cX12_shaken 157 = .ok (.aload_n 0, 1) := op_42 (bl_at (d := 128) bl_cX12_shaken_128 29 rfl)
theorem dX12_shaken_158 : decode cX12_shaken 158 = .ok (.getfield 144, 3) := op_180 (bl_at (d := 128) bl_cX12_shaken_128 30 rfl) (bl_at (d := 128) bl_cX12_shaken_128 31 rfl) (bl_at (d := 160) bl_cX12_shaken_160 0 rfl)
theorem dX12_shaken_161 : decode cX12_shaken 161 = .ok (.iconst 1, 1) := op_4 (bl_at (d := 160) bl_cX12_shaken_160 1 rfl)
theorem dX12_shaken_162 : decode cX12_shaken 162 = .ok (.iadd, 1) := op_96 (bl_at (d := 160) bl_cX12_shaken_160 2 rfl)
theorem dX12_shaken_163 : decode cX12_shaken 163 = .ok (.istore 10, 2) := op_54 (bl_at (d := 160) bl_cX12_shaken_160 3 rfl) (bl_at (d := 160) bl_cX12_shaken_160 4 rfl)
theorem dX12_shaken_165 : decode cX12_shaken 165 = .ok (.iload 10, 2) := op_21 (bl_at (d := 160) bl_cX12_shaken_160 5 rfl) (bl_at (d := 160) bl_cX12_shaken_160 6 rfl)
theorem dX12_shaken_167 : decode cX12_shaken 167 = .ok (.aload_n 0, 1) := op_42 (bl_at (d := 160) bl_cX12_shaken_160 7 rfl)
theorem dX12_shaken_168 : decode cX12_shaken 168 = .ok (.getfield 82, 3) := op_180 (bl_at (d := 160) bl_cX12_shaken_160 8 rfl) (bl_at (d := 160) bl_cX12_shaken_160 9 rfl) (bl_at (d := 160) bl_cX12_shaken_160 10 rfl)
theorem dX12_shaken_171 : decode cX12_shaken 171 = .ok (.if_icmp .ge 45, 3) := op_162 (bl_at (d := 160) bl_cX12_shaken_160 11 rfl) (bl_at (d := 160) bl_cX12_shaken_160 12 rfl) (bl_at (d := 160) bl_cX12_shaken_160 13 rfl)
theorem dX12_shaken_174 : decode cX12_shaken 174 = .ok (.lload 8, 2) := op_22 (bl_at (d := 160) bl_cX12_shaken_160 14 rfl) (bl_at (d := 160) bl_cX12_shaken_160 15 rfl)
theorem dX12_shaken_176 : decode cX12_shaken 176 = .ok (.iload 7, 2) := op_21 (bl_at (d := 160) bl_cX12_shaken_160 16 rfl) (bl_at (d := 160) bl_cX12_shaken_160 17 rfl)
theorem dX12_shaken_178 : decode cX12_shaken 178 = .ok (.iload 10, 2) := op_21 (bl_at (d := 160) bl_cX12_shaken_160 18 rfl) (bl_at (d := 160) bl_cX12_shaken_160 19 rfl)
theorem dX12_shaken_180 : decode cX12_shaken 180 = .ok (.ishr, 1) := op_122 (bl_at (d := 160) bl_cX12_shaken_160 20 rfl)
theorem dX12_shaken_181 : decode cX12_shaken 181 = .ok (.iconst 1, 1) := op_4 (bl_at (d := 160) bl_cX12_shaken_160 21 rfl)
theorem dX12_shaken_182 : decode cX12_shaken 182 = .ok (.iand, 1) := op_126 (bl_at (d := 160) bl_cX12_shaken_160 22 rfl)
theorem dX12_shaken_183 : decode cX12_shaken 183 = .ok (.iconst 1, 1) := op_4 (bl_at (d := 160) bl_cX12_shaken_160 23 rfl)
theorem dX12_shaken_184 : decode cX12_shaken 184 = .ok (.if_icmp .ne 13, 3) := op_160 (bl_at (d := 160) bl_cX12_shaken_160 24 rfl) (bl_at (d := 160) bl_cX12_shaken_160 25 rfl) (bl_at (d := 160) bl_cX12_shaken_160 26 rfl)
theorem dX12_shaken_187 : decode cX12_shaken 187 = .ok (.aload_n 0, 1) := op_42 (bl_at (d := 160) bl_cX12_shaken_160 27 rfl)
theorem dX12_shaken_188 : decode cX12_shaken 188 = .ok (.getfield 25, 3) := op_180 (bl_at (d := 160) bl_cX12_shaken_160 28 rfl) (bl_at (d := 160) bl_cX12_shaken_160 29 rfl) (bl_at (d := 160) bl_cX12_shaken_160 30 rfl)
theorem dX12_shaken_191 : decode cX12_shaken 191 = .ok (.iconst 4, 1) := op_7 (bl_at (d := 160) bl_cX12_shaken_160 31 rfl)
theorem dX12_shaken_192 : decode cX12_shaken 192 = .ok (.iaload, 1) := op_46 (bl_at (d := 192) bl_cX12_shaken_192 0 rfl)
theorem dX12_shaken_193 : decode cX12_shaken 193 = .ok (.i2l, 1) := op_133 (bl_at (d := 192) bl_cX12_shaken_192 1 rfl)
theorem dX12_shaken_194 : decode cX12_shaken 194 = .ok (.goto 13, 3) := op_167 (bl_at (d := 192) bl_cX12_shaken_192 2 rfl) (bl_at (d := 192) bl_cX12_shaken_192 3 rfl) (bl_at (d := 192) bl_cX12_shaken_192 4 rfl)
theorem dX12_shaken_197 : decode cX12_shaken 197 = .ok (.bipush 100, 2) := op_16 (bl_at (d := 192) bl_cX12_shaken_192 5 rfl) (bl_at (d := 192) bl_cX12_shaken_192 6 rfl)
theorem dX12_shaken_199 : decode cX12_shaken 199 = .ok (.aload_n 0, 1) := op_42 (bl_at (d := 192) bl_cX12_shaken_192 7 rfl)
theorem dX12_shaken_200 : decode cX12_shaken 200 = .ok (.getfield 25, 3) := op_180 (bl_at (d := 192) bl_cX12_shaken_192 8 rfl) (bl_at (d := 192) bl_cX12_shaken_192 9 rfl) (bl_at (d := 192) bl_cX12_shaken_192 10 rfl)
theorem dX12_shaken_203 : decode cX12_shaken 203 = .ok (.iconst 4, 1) := op_7 (bl_at (d := 192) bl_cX12_shaken_192 11 rfl)
theorem dX12_shaken_204 : decode cX12_shaken 204 = .ok (.iaload, 1) := op_46 (bl_at (d := 192) bl_cX12_shaken_192 12 rfl)
theorem dX12_shaken_205 : decode cX12_shaken 205 = .ok (.isub, 1) := op_100 (bl_at (d := 192) bl_cX12_shaken_192 13 rfl)
theorem dX12_shaken_206 : decode cX12_shaken 206 = .ok (.i2l, 1) := op_133 (bl_at (d := 192) bl_cX12_shaken_192 14 rfl)
theorem dX12_shaken_207 : decode cX12_shaken 207 = .ok (.lmul, 1) := op_105 (bl_at (d := 192) bl_cX12_shaken_192 15 rfl)
theorem dX12_shaken_208 : decode cX12_shaken 208 = .ok (.lstore 8, 2) := op_55 (bl_at (d := 192) bl_cX12_shaken_192 16 rfl) (bl_at (d := 192) bl_cX12_shaken_192 17 rfl)
theorem dX12_shaken_210 : decode cX12_shaken 210 = .ok (.iinc 10 1, 3) := op_132 (bl_at (d := 192) bl_cX12_shaken_192 18 rfl) (bl_at (d := 192) bl_cX12_shaken_192 19 rfl) (bl_at (d := 192) bl_cX12_shaken_192 20 rfl)
theorem dX12_shaken_213 : decode cX12_shaken 213 = .ok (.goto (-48), 3) := op_167 (bl_at (d := 192) bl_cX12_shaken_192 21 rfl) (bl_at (d := 192) bl_cX12_shaken_192 22 rfl) (bl_at (d := 192) bl_cX12_shaken_192 23 rfl)
theorem dX12_shaken_216 : decode cX12_shaken 216 = .ok (.lload_n 3, 1) := op_33 (bl_at (d := 192) bl_cX12_shaken_192 24 rfl)
theorem dX12_shaken_217 : decode cX12_shaken 217 = .ok (.lload 8, 2) := op_22 (bl_at (d := 192) bl_cX12_shaken_192 25 rfl) (bl_at (d := 192) bl_cX12_shaken_192 26 rfl)
theorem dX12_shaken_219 : decode cX12_shaken 219 = .ok (.ladd, 1) := op_97 (bl_at (d := 192) bl_cX12_shaken_192 27 rfl)
theorem dX12_shaken_220 : decode cX12_shaken 220 = .ok (.lstore_n 3, 1) := op_66 (bl_at (d := 192) bl_cX12_shaken_192 28 rfl)
theorem dX12_shaken_221 : decode cX12_shaken 221 = .ok (.iinc 7 1, 3) := op_132 (bl_at (d := 192) bl_cX12_shaken_192 29 rfl) (bl_at (d := 192) bl_cX12_shaken_192 30 rfl) (bl_at (d := 192) bl_cX12_shaken_192 31 rfl)
theorem dX12_shaken_224 : decode cX12_shaken 224 = .ok (.goto (-133), 3) := op_167 (bl_at (d := 224) bl_cX12_shaken_224 0 rfl) (bl_at (d := 224) bl_cX12_shaken_224 1 rfl) (bl_at (d := 224) bl_cX12_shaken_224 2 rfl)
theorem dX12_shaken_227 : decode cX12_shaken 227 = .ok (.iload_n 1, 1) := op_27 (bl_at (d := 224) bl_cX12_shaken_224 3 rfl)
theorem dX12_shaken_228 : decode cX12_shaken 228 = .ok (.ifCond .ne 7, 3) := op_154 (bl_at (d := 224) bl_cX12_shaken_224 4 rfl) (bl_at (d := 224) bl_cX12_shaken_224 5 rfl) (bl_at (d := 224) bl_cX12_shaken_224 6 rfl)
theorem dX12_shaken_231 : decode cX12_shaken 231 = .ok (.lload_n 3, 1) := op_33 (bl_at (d := 224) bl_cX12_shaken_224 7 rfl)
theorem dX12_shaken_232 : decode cX12_shaken 232 = .ok (.goto 5, 3) := op_167 (bl_at (d := 224) bl_cX12_shaken_224 8 rfl) (bl_at (d := 224) bl_cX12_shaken_224 9 rfl) (bl_at (d := 224) bl_cX12_shaken_224 10 rfl)
theorem dX12_shaken_235 : decode cX12_shaken 235 = .ok (.lload 5, 2) := op_22 (bl_at (d := 224) bl_cX12_shaken_224 11 rfl) (bl_at (d := 224) bl_cX12_shaken_224 12 rfl)
theorem dX12_shaken_237 : decode cX12_shaken 237 = .ok (.lload_n 3, 1) := op_33 (bl_at (d := 224) bl_cX12_shaken_224 13 rfl)
theorem dX12_shaken_238 : decode cX12_shaken 238 = .ok (.lload 5, 2) := op_22 (bl_at (d := 224) bl_cX12_shaken_224 14 rfl) (bl_at (d := 224) bl_cX12_shaken_224 15 rfl)
theorem dX12_shaken_240 : decode cX12_shaken 240 = .ok (.invokestatic 254, 3) := op_184 (bl_at (d := 224) bl_cX12_shaken_224 16 rfl) (bl_at (d := 224) bl_cX12_shaken_224 17 rfl) (bl_at (d := 224) bl_cX12_shaken_224 18 rfl)
theorem dX12_shaken_243 : decode cX12_shaken 243 = .ok (.ldiv, 1) := op_109 (bl_at (d := 224) bl_cX12_shaken_224 19 rfl)
theorem dX12_shaken_244 : decode cX12_shaken 244 = .ok (.lreturn, 1) := op_173 (bl_at (d := 224) bl_cX12_shaken_224 20 rfl)
theorem bl_cX12_seeds_0 : ((bys cX12_seeds).drop 0).take 32 = [42, 27, 182, 0, 150, 154, 0, 9, 42, 2, 182, 0, 93, 172, 28, 4, 16, 30, 184, 0, 86, 54, 4, 21, 4, 153, 0, 10, 42, 21, 4, 182] := by decide +kernel
theorem bl_cX12_seeds_32 : ((bys cX12_seeds).drop 32).take 32 = [0, 93, 172, 29, 54, 5, 3, 54, 6, 3, 54, 7, 21, 7, 28, 162, 0, 134, 42, 4, 4, 182, 0, 122, 27, 54, 8, 42, 180, 0, 82, 4] := by decide +kernel
theorem bl_cX12_seeds_64 : ((bys cX12_seeds).drop 64).take 32 = [100, 54, 9, 21, 9, 158, 0, 81, 21, 5, 19, 1, 2, 104, 17, 48, 57, 96, 54, 5, 21, 5, 19, 1, 3, 126, 19, 1, 4, 108, 21, 9] := by decide +kernel
theorem bl_cX12_seeds_96 : ((bys cX12_seeds).drop 96).take 32 = [4, 96, 112, 54, 10, 21, 9, 21, 10, 159, 0, 11, 42, 21, 9, 21, 10, 182, 0, 239, 21, 8, 21, 9, 160, 0, 8, 21, 10, 167, 0, 17] := by decide +kernel
theorem bl_cX12_seeds_128 : ((bys cX12_seeds).drop 128).take 32 = [21, 8, 21, 10, 160, 0, 8, 21, 9, 167, 0, 5, 21, 8, 54, 8, 132, 9, 255, 167, 255, 176, 42, 182, 0, 204, 21, 6, 42, 180, 0, 49] := by decide +kernel
theorem bl_cX12_seeds_160 : ((bys cX12_seeds).drop 160).take 32 = [21, 8, 46, 184, 0, 156, 96, 54, 6, 42, 4, 3, 182, 0, 122, 132, 7, 1, 167, 255, 122, 21, 6, 172] := by decide +kernel
theorem dX12_seeds_0 : decode cX12_seeds 0 = .ok (.aload_n 0, 1) := op_42 (bl_at (d := 0) bl_cX12_seeds_0 0 rfl)
theorem dX12_seeds_1 : decode cX12_seeds 1 = .ok (.iload_n 1, 1) := op_27 (bl_at (d := 0) bl_cX12_seeds_0 1 rfl)
theorem dX12_seeds_2 : decode cX12_seeds 2 = .ok (.invokevirtual 150, 3) := op_182 (bl_at (d := 0) bl_cX12_seeds_0 2 rfl) (bl_at (d := 0) bl_cX12_seeds_0 3 rfl) (bl_at (d := 0) bl_cX12_seeds_0 4 rfl)
theorem dX12_seeds_5 : decode cX12_seeds 5 = .ok (.ifCond .ne 9, 3) := op_154 (bl_at (d := 0) bl_cX12_seeds_0 5 rfl) (bl_at (d := 0) bl_cX12_seeds_0 6 rfl) (bl_at (d := 0) bl_cX12_seeds_0 7 rfl)
theorem dX12_seeds_8 : decode cX12_seeds 8 = .ok (.aload_n 0, 1) := op_42 (bl_at (d := 0) bl_cX12_seeds_0 8 rfl)
theorem dX12_seeds_9 : decode cX12_seeds 9 = .ok (.iconst (-1), 1) := op_2 (bl_at (d := 0) bl_cX12_seeds_0 9 rfl)
theorem dX12_seeds_10 : decode cX12_seeds 10 = .ok (.invokevirtual 93, 3) := op_182 (bl_at (d := 0) bl_cX12_seeds_0 10 rfl) (bl_at (d := 0) bl_cX12_seeds_0 11 rfl) (bl_at (d := 0) bl_cX12_seeds_0 12 rfl)
theorem dX12_seeds_13 : decode cX12_seeds 13 = .ok (.ireturn, 1) := op_172 (bl_at (d := 0) bl_cX12_seeds_0 13 rfl)
theorem dX12_seeds_14 : decode cX12_seeds 14 = .ok (.iload_n 2, 1) := op_28 (bl_at (d := 0) bl_cX12_seeds_0 14 rfl)
theorem dX12_seeds_15 : decode cX12_seeds 15 = .ok (.iconst 1, 1) := op_4 (bl_at (d := 0) bl_cX12_seeds_0 15 rfl)
theorem dX12_seeds_16 : decode cX12_seeds 16 = .ok (.bipush 30, 2) := op_16 (bl_at (d := 0) bl_cX12_seeds_0 16 rfl) (bl_at (d := 0) bl_cX12_seeds_0 17 rfl)
theorem dX12_seeds_18 : decode cX12_seeds 18 = .ok (.invokestatic 86, 3) := op_184 (bl_at (d := 0) bl_cX12_seeds_0 18 rfl) (bl_at (d := 0) bl_cX12_seeds_0 19 rfl) (bl_at (d := 0) bl_cX12_seeds_0 20 rfl)
theorem dX12_seeds_21 : decode cX12_seeds 21 = .ok (.istore 4, 2) := op_54 (bl_at (d := 0) bl_cX12_seeds_0 21 rfl) (bl_at (d := 0) bl_cX12_seeds_0 22 rfl)
theorem dX12_seeds_23 : decode cX12_seeds 23 = .ok (.iload 4, 2) := op_21 (bl_at (d := 0) bl_cX12_seeds_0 23 rfl) (bl_at (d := 0) bl_cX12_seeds_0 24 rfl)
theorem dX12_seeds_25 : decode cX12_seeds 25 = .ok (.ifCond .eq 10, 3) := op_153 (bl_at (d := 0) bl_cX12_seeds_0 25 rfl) (bl_at (d := 0) bl_cX12_seeds_0 26 rfl) (bl_at (d := 0) bl_cX12_seeds_0 27 rfl)
theorem dX12_seeds_28 : decode cX12_seeds 28 = .ok (.aload_n 0, 1) := op_42 (bl_at (d := 0) bl_cX12_seeds_0 28 rfl)
theorem dX12_seeds_29 : decode cX12_seeds 29 = .ok (.iload 4, 2) := op_21 (bl_at (d := 0) bl_cX12_seeds_0 29 rfl) (bl_at (d := 0) bl_cX12_seeds_0 30 rfl)
theorem dX12_seeds_31 : decode cX12_seeds 31 = .ok (.invokevirtual 93, 3) := op_182 (bl_at (d := 0) bl_cX12_seeds_0 31 rfl) (bl_at (d := 32) bl_cX12_seeds_32 0 rfl) (bl_at (d := 32) bl_cX12_seeds_32 1 rfl)
theorem dX12_seeds_34 : decode cX12_seeds 34 = .ok (.ireturn, 1) := op_172 (bl_at (d := 32) bl_cX12_seeds_32 2 rfl)
theorem dX12_seeds_35 : decode cX12_seeds 35 = .ok (.iload_n 3, 1) := op_29 (bl_at (d := 32) bl_cX12_seeds_32 3 rfl)
theorem dX12_seeds_36 : decode cX12_seeds 36 = .ok (.istore 5, 2) := op_54 (bl_at (d := 32) bl_cX12_seeds_32 4 rfl) (bl_at (d := 32) bl_cX12_seeds_32 5 rfl)
theorem dX12_seeds_38 : decode cX12_seeds 38 = .ok (.iconst 0, 1) := op_3 (bl_at (d := 32) bl_cX12_seeds_32 6 rfl)
theorem dX12_seeds_39 : decode cX12_seeds 39 = .ok (.istore 6, 2) := op_54 (bl_at (d := 32) bl_cX12_seeds_32 7 rfl) (bl_at (d := 32) bl_cX12_seeds_32 8 rfl)
theorem dX12_seeds_41 : decode cX12_seeds 41 = .ok (.iconst 0, 1) := op_3 (bl_at (d := 32) bl_cX12_seeds_32 9 rfl)
theorem dX12_seeds_42 : decode cX12_seeds 42 = .ok (.istore 7, 2) := op_54 (bl_at (d := 32) bl_cX12_seeds_32 10 rfl) (bl_at (d := 32) bl_cX12_seeds_32 11 rfl)
theorem dX12_seeds_44 : decode cX12_seeds 44 = .ok (.iload 7, 2) := op_21 (bl_at (d := 32) bl_cX12_seeds_32 12 rfl) (bl_at (d := 32) bl_cX12_seeds_32 13 rfl)
theorem dX12_seeds_46 : decode cX12_seeds 46 = .ok (.iload_n 2, 1) := op_28 (bl_at (d := 32) bl_cX12_seeds_32 14 rfl)
theorem dX12_seeds_47 : decode cX12_seeds 47 = .ok (.if_icmp .ge 134, 3) := op_162 (bl_at (d := 32) bl_cX12_seeds_32 15 rfl) (bl_at (d := 32) bl_cX12_seeds_32 16 rfl) (bl_at (d := 32) bl_cX12_seeds_32 17 rfl)
theorem dX12_seeds_50 : decode cX12_seeds 50 = .ok (.aload_n 0, 1) := op_42 (bl_at (d := 32) bl_cX12_seeds_32 18 rfl)
theorem dX12_seeds_51 : decode cX12_seeds 51 = .ok (.iconst 1, 1) := op_4 (bl_at (d := 32) bl_cX12_seeds_32 19 rfl)
theorem dX12_seeds_52 : decode cX12_seeds 52 = .ok (.iconst 1, 1) := op_4 (bl_at (d := 32) bl_cX12_seeds_32 20 rfl)
theorem dX12_seeds_53 : decode cX12_seeds 53 = .ok (.invokevirtual 122, 3) := op_182 (bl_at (d := 32) bl_cX12_seeds_32 21 rfl) (bl_at (d := 32) bl_cX12_seeds_32 22 rfl) (bl_at (d := 32) bl_cX12_seeds_32 23 rfl)
theorem dX12_seeds_56 : decode cX12_seeds 56 = .ok (.iload_n 1, 1) := op_27 (bl_at (d := 32) bl_cX12_seeds_32 24 rfl)
theorem dX12_seeds_57 : decode cX12_seeds 57 = .ok (.istore 8, 2) := op_54 (bl_at (d := 32) bl_cX12_seeds_32 25 rfl) (bl_at (d := 32) bl_cX12_seeds_32 26 rfl)
theorem dX12_seeds_59 : decode cX12_seeds 59 = .ok (.aload_n 0, 1) := op_42 (bl_at (d := 32) bl_cX12_seeds_32 27 rfl)
theorem dX12_seeds_60 : decode cX12_seeds 60 = .ok (.getfield 82, 3) := op_180 (bl_at (d := 32) bl_cX12_seeds_32 28 rfl) (bl_at (d := 32) bl_cX12_seeds_32 29 rfl) (bl_at (d := 32) bl_cX12_seeds_32 30 rfl)
theorem dX12_seeds_63 : decode cX12_seeds 63 = .ok (.iconst 1, 1) := op_4 (bl_at (d := 32) bl_cX12_seeds_32 31 rfl)
theorem dX12_seeds_64 : decode cX12_seeds 64 = .ok (.isub, 1) := op_100 (bl_at (d := 64) bl_cX12_seeds_64 0 rfl)
theorem dX12_seeds_65 : decode cX12_seeds 65 = .ok (.istore 9, 2) := op_54 (bl_at (d := 64) bl_cX12_seeds_64 1 rfl) (bl_at (d := 64) bl_cX12_seeds_64 2 rfl)
theorem dX12_seeds_67 : decode cX12_seeds 67 = .ok (.iload 9, 2) := op_21 (bl_at (d := 64) bl_cX12_seeds_64 3 rfl) (bl_at (d := 64) bl_cX12_seeds_64 4 rfl)
theorem dX12_seeds_69 : decode cX12_seeds 69 = .ok (.ifCond .le 81, 3) := op_158 (bl_at (d := 64) bl_cX12_seeds_64 5 rfl) (bl_at (d := 64) bl_cX12_seeds_64 6 rfl) (bl_at (d := 64) bl_cX12_seeds_64 7 rfl)
theorem dX12_seeds_72 : decode cX12_seeds 72 = .ok (.iload 5, 2) := op_21 (bl_at (d := 64) bl_cX12_seeds_64 8 rfl) (bl_at (d := 64) bl_cX12_seeds_64 9 rfl)
theorem dX12_seeds_74 : decode cX12_seeds 74 = .ok (.ldc_w 258, 3) := op_19 (bl_at (d := 64) bl_cX12_seeds_64 10 rfl) (bl_at (d := 64) bl_cX12_seeds_64 11 rfl) (bl_at (d := 64) bl_cX12_seeds_64 12 rfl)
theorem dX12_seeds_77 : decode cX12_seeds 77 = .ok (.imul, 1) := op_104 (bl_at (d := 64) bl_cX12_seeds_64 13 rfl)
theorem dX12_seeds_78 : decode cX12_seeds 78 = .ok (.sipush 12345, 3) := op_17 (bl_at (d := 64) bl_cX12_seeds_64 14 rfl) (bl_at (d := 64) bl_cX12_seeds_64 15 rfl) (bl_at (d := 64) bl_cX12_seeds_64 16 rfl)
theorem dX12_seeds_81 : decode cX12_seeds 81 = .ok (.iadd, 1) := op_96 (bl_at (d := 64) bl_cX12_seeds_64 17 rfl)
theorem dX12_seeds_82 : decode cX12_seeds 82 = .ok (.istore 5, 2) := op_54 (bl_at (d := 64) bl_cX12_seeds_64 18 rfl) (bl_at (d := 64) bl_cX12_seeds_64 19 rfl)
theorem dX12_seeds_84 : decode cX12_seeds 84 = .ok (.iload 5, 2) := op_21 (bl_at (d := 64) bl_cX12_seeds_64 20 rfl) (bl_at (d := 64) bl_cX12_seeds_64 21 rfl)
theorem dX12_seeds_86 : decode cX12_seeds 86 = .ok (.ldc_w 259, 3) := op_19 (bl_at (d := 64) bl_cX12_seeds_64 22 rfl) (bl_at (d := 64) bl_cX12_seeds_64 23 rfl) (bl_at (d := 64) bl_cX12_seeds_64 24 rfl)
theorem dX12_seeds_89 : decode cX12_seeds 89 = .ok (.iand, 1) := op_126 (bl_at (d := 64) bl_cX12_seeds_64 25 rfl)
theorem dX12_seeds_90 : decode cX12_seeds 90 = .ok (.ldc_w 260, 3) := op_19 (bl_at (d := 64) bl_cX12_seeds_64 26 rfl) (bl_at (d := 64) bl_cX12_seeds_64 27 rfl) (bl_at (d := 64) bl_cX12_seeds_64 28 rfl)
theorem dX12_seeds_93 : decode cX12_seeds 93 = .ok (.idiv, 1) := op_108 (bl_at (d := 64) bl_cX12_seeds_64 29 rfl)
theorem dX12_seeds_94 : decode cX12_seeds 94 = .ok (.iload 9, 2) := op_21 (bl_at (d := 64) bl_cX12_seeds_64 30 rfl) (bl_at (d := 64) bl_cX12_seeds_64 31 rfl)
theorem dX12_seeds_96 : decode cX12_seeds 96 = .ok (.iconst 1, 1) := op_4 (bl_at (d := 96) bl_cX12_seeds_96 0 rfl)
theorem dX12_seeds_97 : decode cX12_seeds 97 = .ok (.iadd, 1) := op_96 (bl_at (d := 96) bl_cX12_seeds_96 1 rfl)
theorem dX12_seeds_98 : decode cX12_seeds 98 = .ok (.irem, 1) := op_112 (bl_at (d := 96) bl_cX12_seeds_96 2 rfl)
theorem dX12_seeds_99 : decode cX12_seeds 99 = .ok (.istore 10, 2) := op_54 (bl_at (d := 96) bl_cX12_seeds_96 3 rfl) (bl_at (d := 96) bl_cX12_seeds_96 4 rfl)
theorem dX12_seeds_101 : decode cX12_seeds 101 = .ok (.iload 9, 2) := op_21 (bl_at (d := 96) bl_cX12_seeds_96 5 rfl) (bl_at (d := 96) bl_cX12_seeds_96 6 rfl)
theorem dX12_seeds_103 : decode cX12_seeds 103 = .ok (.iload 10, 2) := op_21 (bl_at (d := 96) bl_cX12_seeds_96 7 rfl) (bl_at (d := 96) bl_cX12_seeds_96 8 rfl)
theorem dX12_seeds_105 : decode cX12_seeds 105 = .ok (.if_icmp .eq 11, 3) := op_159 (bl_at (d := 96) bl_cX12_seeds_96 9 rfl) (bl_at (d := 96) bl_cX12_seeds_96 10 rfl) (bl_at (d := 96) bl_cX12_seeds_96 11 rfl)
theorem dX12_seeds_108 : decode cX12_seeds 108 = .ok (.aload_n 0, 1) := op_42 (bl_at (d := 96) bl_cX12_seeds_96 12 rfl)
theorem dX12_seeds_109 : decode cX12_seeds 109 = .ok (.iload 9, 2) := op_21 (bl_at (d := 96) bl_cX12_seeds_96 13 rfl) (bl_at (d := 96) bl_cX12_seeds_96 14 rfl)
theorem dX12_seeds_111 : decode cX12_seeds 111 = .ok (.iload 10, 2) := op_21 (bl_at (d := 96) bl_cX12_seeds_96 15 rfl) (bl_at (d := 96) bl_cX12_seeds_96 16 rfl)
theorem dX12_seeds_113 : decode cX12_seeds 113 = .ok (.invokevirtual 239, 3) := op_182 (bl_at (d := 96) bl_cX12_seeds_96 17 rfl) (bl_at (d := 96) bl_cX12_seeds_96 18 rfl) (bl_at (d := 96) bl_cX12_seeds_96 19 rfl)
theorem dX12_seeds_116 : decode cX12_seeds 116 = .ok (.iload 8, 2) := op_21 (bl_at (d := 96) bl_cX12_seeds_96 20 rfl) (bl_at (d := 96) bl_cX12_seeds_96 21 rfl)
theorem dX12_seeds_118 : decode cX12_seeds 118 = .ok (.iload 9, 2) := op_21 (bl_at (d := 96) bl_cX12_seeds_96 22 rfl) (bl_at (d := 96) bl_cX12_seeds_96 23 rfl)
theorem dX12_seeds_120 : decode cX12_seeds 120 = .ok (.if_icmp .ne 8, 3) := op_160 (bl_at (d := 96) bl_cX12_seeds_96 24 rfl) (bl_at (d := 96) bl_cX12_seeds_96 25 rfl) (bl_at (d := 96) bl_cX12_seeds_96 26 rfl)
theorem dX12_seeds_123 : decode cX12_seeds 123 = .ok (.iload 10, 2) := op_21 (bl_at (d := 96) bl_cX12_seeds_96 27 rfl) (bl_at (d := 96) bl_cX12_seeds_96 28 rfl)
theorem dX12_seeds_125 : decode cX12_seeds 125 = .ok (.goto 17, 3) := op_167 (bl_at (d := 96) bl_cX12_seeds_96 29 rfl) (bl_at (d := 96) bl_cX12_seeds_96 30 rfl) (bl_at (d := 96) bl_cX12_seeds_96 31 rfl)
theorem dX12_seeds_128 : decode cX12_seeds 128 = .ok (.iload 8, 2) := op_21 (bl_at (d := 128) bl_cX12_seeds_128 0 rfl) (bl_at (d := 128) bl_cX12_seeds_128 1 rfl)
theorem dX12_seeds_130 : decode cX12_seeds 130 = .ok (.iload 10, 2) := op_21 (bl_at (d := 128) bl_cX12_seeds_128 2 rfl) (bl_at (d := 128) bl_cX12_seeds_128 3 rfl)
theorem dX12_seeds_132 : decode cX12_seeds 132 = .ok (.if_icmp .ne 8, 3) := op_160 (bl_at (d := 128) bl_cX12_seeds_128 4 rfl) (bl_at (d := 128) bl_cX12_seeds_128 5 rfl) (bl_at (d := 128) bl_cX12_seeds_128 6 rfl)
theorem dX12_seeds_135 : decode cX12_seeds 135 = .ok (.iload 9, 2) := op_21 (bl_at (d := 128) bl_cX12_seeds_128 7 rfl) (bl_at (d := 128) bl_cX12_seeds_128 8 rfl)
theorem dX12_seeds_137 : decode cX12_seeds 137 = .ok (.goto 5, 3) := op_167 (bl_at (d := 128) bl_cX12_seeds_128 9 rfl) (bl_at (d := 128) bl_cX12_seeds_128 10 rfl) (bl_at (d := 128) bl_cX12_seeds_128 11 rfl)
theorem dX12_seeds_140 : decode cX12_seeds 140 = .ok (.iload 8, 2) := op_21 (bl_at (d := 128) bl_cX12_seeds_128 12 rfl) (bl_at (d := 128) bl_cX12_seeds_128 13 rfl)
theorem dX12_seeds_142 : decode cX12_seeds 142 = .ok (.istore 8, 2) := op_54 (bl_at (d := 128) bl_cX12_seeds_128 14 rfl) (bl_at (d := 128) bl_cX12_seeds_128 15 rfl)
theorem dX12_seeds_144 : decode cX12_seeds 144 = .ok (.iinc 9 (-1), 3) := op_132 (bl_at (d := 128) bl_cX12_seeds_128 16 rfl) (bl_at (d := 128) bl_cX12_seeds_128 17 rfl) (bl_at (d := 128) bl_cX12_seeds_128 18 rfl)
theorem dX12_seeds_147 : decode cX12_seeds 147 = .ok (.goto (-80), 3) := op_167 (bl_at (d := 128) bl_cX12_seeds_128 19 rfl) (bl_at (d := 128) bl_cX12_seeds_128 20 rfl) (bl_at (d := 128) bl_cX12_seeds_128 21 rfl)
theorem dX12_seeds_150 : decode cX12_seeds 150 = .ok (.aload_n 0, 1) := op_42 (bl_at (d := 128) bl_cX12_seeds_128 22 rfl)
theorem dX12_seeds_151 : decode cX12_seeds 151 = .ok (.invokevirtual 204, 3) := op_182 (bl_at (d := 128) bl_cX12_seeds_128 23 rfl) (bl_at (d := 128) bl_cX12_seeds_128 24 rfl) (bl_at (d := 128) bl_cX12_seeds_128 25 rfl)
theorem dX12_seeds_154 : decode cX12_seeds 154 = .ok (.iload 6, 2) := op_21 (bl_at (d := 128) bl_cX12_seeds_128 26 rfl) (bl_at (d := 128) bl_cX12_seeds_128 27 rfl)
theorem dX12_seeds_156 : decode cX12_seeds 156 = .ok (.aload_n 0, 1) := op_42 (bl_at (d := 128) bl_cX12_seeds_128 28 rfl)
theorem dX12_seeds_157 : decode cX12_seeds 157 = .ok (.getfield 49, 3) := op_180 (bl_at (d := 128) bl_cX12_seeds_128 29 rfl) (bl_at (d := 128) bl_cX12_seeds_128 30 rfl) (bl_at (d := 128) bl_cX12_seeds_128 31 rfl)
theorem dX12_seeds_160 : decode cX12_seeds 160 = .ok (.iload 8, 2) := op_21 (bl_at (d := 160) bl_cX12_seeds_160 0 rfl) (bl_at (d := 160) bl_cX12_seeds_160 1 rfl)
theorem dX12_seeds_162 : decode cX12_seeds 162 = .ok (.iaload, 1) := op_46 (bl_at (d := 160) bl_cX12_seeds_160 2 rfl)
theorem dX12_seeds_163 : decode cX12_seeds 163 = .ok (.invokestatic 156, 3) := op_184 (bl_at (d := 160) bl_cX12_seeds_160 3 rfl) (bl_at (d := 160) bl_cX12_seeds_160 4 rfl) (bl_at (d := 160) bl_cX12_seeds_160 5 rfl)
theorem dX12_seeds_166 : decode cX12_seeds 166 = .ok (.iadd, 1) := op_96 (bl_at (d := 160) bl_cX12_seeds_160 6 rfl)
theorem dX12_seeds_167 : decode cX12_seeds 167 = .ok (.istore 6, 2) := op_54 (bl_at (d := 160) bl_cX12_seeds_160 7 rfl) (bl_at (d := 160) bl_cX12_seeds_160 8 rfl)
theorem dX12_seeds_169 : decode cX12_seeds 169 = .ok (.aload_n 0, 1) := op_42 (bl_at (d := 160) bl_cX12_seeds_160 9 rfl)
theorem dX12_seeds_170 : decode cX12_seeds 170 = .ok (.iconst 1, 1) := op_4 (bl_at (d := 160) bl_cX12_seeds_160 10 rfl)
theorem dX12_seeds_171 : decode cX12_seeds 171 = .ok (.iconst 0, 1) := op_3 (bl_at (d := 160) bl_cX12_seeds_160 11 rfl)
theorem dX12_seeds_172 : decode cX12_seeds 172 = .ok (.invokevirtual 122, 3) := op_182 (bl_at (d := 160) bl_cX12_seeds_160 12 rfl) (bl_at (d := 160) bl_cX12_seeds_160 13 rfl) (bl_at (d := 160) bl_cX12_seeds_160 14 rfl)
theorem dX12_seeds_175 : decode cX12_seeds 175 = .ok (.iinc 7 1, 3) := op_132 (bl_at (d := 160) bl_cX12_seeds_160 15 rfl) (bl_at (d := 160) bl_cX12_seeds_160 16 rfl) (bl_at (d := 160) bl_cX12_seeds_160 17 rfl)
theorem dX12_seeds_178 : decode cX12_seeds 178 = .ok (.goto (-134), 3) := op_167 (bl_at (d := 160) bl_cX12_seeds_160 18 rfl) (bl_at (d := 160) bl_cX12_seeds_160 19 rfl) (bl_at (d := 160) bl_cX12_seeds_160 20 rfl)
theorem dX12_seeds_181 : decode cX12_seeds 181 = .ok (.iload 6, 2) := op_21 (bl_at (d := 160) bl_cX12_seeds_160 21 rfl) (bl_at (d := 160) bl_cX12_seeds_160 22 rfl)
theorem dX12_seeds_183 : decode cX12_seeds 183 = .ok (.ireturn, 1) := op_172 (bl_at (d := 160) bl_cX12_seeds_160 23 rfl)
theorem bl_cX12_count_0 : ((bys cX12_count).drop 0).take 32 = [27, 16, 11, 16, 16, 184, 0, 104, 153, 0, 13, 42, 180, 0, 7, 27, 16, 10, 100, 46, 172, 27, 170, 0, 0, 0, 0, 108, 0, 0, 0, 0] := by decide +kernel
theorem bl_cX12_count_32 : ((bys cX12_count).drop 32).take 32 = [0, 0, 0, 6, 0, 0, 0, 42, 0, 0, 0, 47, 0, 0, 0, 52, 0, 0, 0, 57, 0, 0, 0, 70, 0, 0, 0, 75, 0, 0, 0, 80] := by decide +kernel
theorem bl_cX12_count_64 : ((bys cX12_count).drop 64).take 32 = [42, 180, 0, 82, 172, 42, 180, 0, 144, 172, 42, 180, 0, 115, 172, 42, 42, 42, 180, 0, 144, 182, 0, 159, 182, 0, 165, 172, 42, 180, 0, 90] := by decide +kernel
theorem bl_cX12_count_96 : ((bys cX12_count).drop 96).take 32 = [172, 42, 180, 0, 210, 172, 42, 182, 0, 213, 153, 0, 5, 3, 172, 42, 182, 0, 204, 42, 180, 0, 58, 42, 180, 0, 144, 46, 42, 180, 0, 144] := by decide +kernel
theorem bl_cX12_count_128 : ((bys cX12_count).drop 128).take 32 = [100, 172, 16, 247, 172] := by decide +kernel
theorem dX12_count_0 : decode cX12_count 0 = .ok (.iload_n 1, 1) := op_27 (bl_at (d := 0) bl_cX12_count_0 0 rfl)
theorem dX12_count_1 : decode cX12_count 1 = .ok (.bipush 11, 2) := op_16 (bl_at (d := 0) bl_cX12_count_0 1 rfl) (bl_at (d := 0) bl_cX12_count_0 2 rfl)
theorem dX12_count_3 : decode cX12_count 3 = .ok (.bipush 16, 2) := op_16 (bl_at (d := 0) bl_cX12_count_0 3 rfl) (bl_at (d := 0) bl_cX12_count_0 4 rfl)
theorem dX12_count_5 : decode cX12_count 5 = .ok (.invokestatic 104, 3) := op_184 (bl_at (d := 0) bl_cX12_count_0 5 rfl) (bl_at (d := 0) bl_cX12_count_0 6 rfl) (bl_at (d := 0) bl_cX12_count_0 7 rfl)
theorem dX12_count_8 : decode cX12_count 8 = .ok (.ifCond .eq 13, 3) := op_153 (bl_at (d := 0) bl_cX12_count_0 8 rfl) (bl_at (d := 0) bl_cX12_count_0 9 rfl) (bl_at (d := 0) bl_cX12_count_0 10 rfl)
theorem dX12_count_11 : decode cX12_count 11 = .ok (.aload_n 0, 1) := op_42 (bl_at (d := 0) bl_cX12_count_0 11 rfl)
theorem dX12_count_12 : decode cX12_count 12 = .ok (.getfield 7, 3) := op_180 (bl_at (d := 0) bl_cX12_count_0 12 rfl) (bl_at (d := 0) bl_cX12_count_0 13 rfl) (bl_at (d := 0) bl_cX12_count_0 14 rfl)
theorem dX12_count_15 : decode cX12_count 15 = .ok (.iload_n 1, 1) := op_27 (bl_at (d := 0) bl_cX12_count_0 15 rfl)
theorem dX12_count_16 : decode cX12_count 16 = .ok (.bipush 10, 2) := op_16 (bl_at (d := 0) bl_cX12_count_0 16 rfl) (bl_at (d := 0) bl_cX12_count_0 17 rfl)
theorem dX12_count_18 : decode cX12_count 18 = .ok (.isub, 1) := op_100 (bl_at (d := 0) bl_cX12_count_0 18 rfl)
theorem dX12_count_19 : decode cX12_count 19 = .ok (.iaload, 1) := op_46 (bl_at (d := 0) bl_cX12_count_0 19 rfl)
theorem dX12_count_20 : decode cX12_count 20 = .ok (.ireturn, 1) := op_172 (bl_at (d := 0) bl_cX12_count_0 20 rfl)
theorem dX12_count_21 : decode cX12_count 21 = .ok (.iload_n 1, 1) := op_27 (bl_at (d := 0) bl_cX12_count_0 21 rfl)
theorem dX12_count_22 : decode cX12_count 22 = .ok (.tableswitch 108 0 6 #[42, 47, 52, 57, 70, 75, 80], 42) := by decide +kernel
theorem dX12_count_64 : decode cX12_count 64 = .ok (.aload_n 0, 1) := op_42 (bl_at (d := 64) bl_cX12_count_64 0 rfl)
theorem dX12_count_65 : decode cX12_count 65 = .ok (.getfield 82, 3) := op_180 (bl_at (d := 64) bl_cX12_count_64 1 rfl) (bl_at (d := 64) bl_cX12_count_64 2 rfl) (bl_at (d := 64) bl_cX12_count_64 3 rfl)
theorem dX12_count_68 : decode cX12_count 68 = .ok (.ireturn, 1) := op_172 (bl_at (d := 64) bl_cX12_count_64 4 rfl)
theorem dX12_count_69 : decode cX12_count 69 = .ok (.aload_n 0, 1) := op_42 (bl_at (d := 64) bl_cX12_count_64 5 rfl)
theorem dX12_count_70 : decode cX12_count 70 = .ok (.getfield 144, 3) := op_180 (bl_at (d := 64) bl_cX12_count_64 6 rfl) (bl_at (d := 64) bl_cX12_count_64 7 rfl) (bl_at (d := 64) bl_cX12_count_64 8 rfl)
theorem dX12_count_73 : decode cX12_count 73 = .ok (.ireturn, 1) := op_172 (bl_at (d := 64) bl_cX12_count_64 9 rfl)
theorem dX12_count_74 : decode cX12_count 74 = .ok (.aload_n 0, 1) := op_42 (bl_at (d := 64) bl_cX12_count_64 10 rfl)
theorem dX12_count_75 : decode cX12_count 75 = .ok (.getfield 115, 3) := op_180 (bl_at (d := 64) bl_cX12_count_64 11 rfl) (bl_at (d := 64) bl_cX12_count_64 12 rfl) (bl_at (d := 64) bl_cX12_count_64 13 rfl)
theorem dX12_count_78 : decode cX12_count 78 = .ok (.ireturn, 1) := op_172 (bl_at (d := 64) bl_cX12_count_64 14 rfl)
theorem dX12_count_79 : decode cX12_count 79 = .ok (.aload_n 0, 1) := op_42 (bl_at (d := 64) bl_cX12_count_64 15 rfl)
theorem dX12_count_80 : decode cX12_count 80 = .ok (.aload_n 0, 1) := op_42 (bl_at (d := 64) bl_cX12_count_64 16 rfl)
theorem dX12_count_81 : decode cX12_count 81 = .ok (.aload_n 0, 1) := op_42 (bl_at (d := 64) bl_cX12_count_64 17 rfl)
theorem dX12_count_82 : decode cX12_count 82 = .ok (.getfield 144, 3) := op_180 (bl_at (d := 64) bl_cX12_count_64 18 rfl) (bl_at (d := 64) bl_cX12_count_64 19 rfl) (bl_at (d := 64) bl_cX12_count_64 20 rfl)
theorem dX12_count_85 : decode cX12_count 85 = .ok (.invokevirtual 159, 3) := op_182 (bl_at (d := 64) bl_cX12_count_64 21 rfl) (bl_at (d := 64) bl_cX12_count_64 22 rfl) (bl_at (d := 64) bl_cX12_count_64 23 rfl)
theorem dX12_count_88 : decode cX12_count 88 = .ok (.invokevirtual 165, 3) := op_182 (bl_at (d := 64) bl_cX12_count_64 24 rfl) (bl_at (d := 64) bl_cX12_count_64 25 rfl) (bl_at (d := 64) bl_cX12_count_64 26 rfl)
theorem dX12_count_91 : decode cX12_count 91 = .ok (.ireturn, 1) := op_172 (bl_at (d := 64) bl_cX12_count_64 27 rfl)
theorem dX12_count_92 : decode cX12_count 92 = .ok (.aload_n 0, 1) := op_42 (bl_at (d := 64) bl_cX12_count_64 28 rfl)
theorem dX12_count_93 : decode cX12_count 93 = .ok (.getfield 90, 3) := op_180 (bl_at (d := 64) bl_cX12_count_64 29 rfl) (bl_at (d := 64) bl_cX12_count_64 30 rfl) (bl_at (d := 64) bl_cX12_count_64 31 rfl)
theorem dX12_count_96 : decode cX12_count 96 = .ok (.ireturn, 1) := op_172 (bl_at (d := 96) bl_cX12_count_96 0 rfl)
theorem dX12_count_97 : decode cX12_count 97 = .ok (.aload_n 0, 1) := op_42 (bl_at (d := 96) bl_cX12_count_96 1 rfl)
theorem dX12_count_98 : decode cX12_count 98 = .ok (.getfield 210, 3) := op_180 (bl_at (d := 96) bl_cX12_count_96 2 rfl) (bl_at (d := 96) bl_cX12_count_96 3 rfl) (bl_at (d := 96) bl_cX12_count_96 4 rfl)
theorem dX12_count_101 : decode cX12_count 101 = .ok (.ireturn, 1) := op_172 (bl_at (d := 96) bl_cX12_count_96 5 rfl)
theorem dX12_count_102 : decode cX12_count 102 = .ok (.aload_n 0, 1) := op_42 (bl_at (d := 96) bl_cX12_count_96 6 rfl)
theorem dX12_count_103 : decode cX12_count 103 = .ok (.invokevirtual 213, 3) := op_182 (bl_at (d := 96) bl_cX12_count_96 7 rfl) (bl_at (d := 96) bl_cX12_count_96 8 rfl) (bl_at (d := 96) bl_cX12_count_96 9 rfl)
theorem dX12_count_106 : decode cX12_count 106 = .ok (.ifCond .eq 5, 3) := op_153 (bl_at (d := 96) bl_cX12_count_96 10 rfl) (bl_at (d := 96) bl_cX12_count_96 11 rfl) (bl_at (d := 96) bl_cX12_count_96 12 rfl)
theorem dX12_count_109 : decode cX12_count 109 = .ok (.iconst 0, 1) := op_3 (bl_at (d := 96) bl_cX12_count_96 13 rfl)
theorem dX12_count_110 : decode cX12_count 110 = .ok (.ireturn, 1) := op_172 (bl_at (d := 96) bl_cX12_count_96 14 rfl)
theorem dX12_count_111 : decode cX12_count 111 = .ok (.aload_n 0, 1) := op_42 (bl_at (d := 96) bl_cX12_count_96 15 rfl)
theorem dX12_count_112 : decode cX12_count 112 = .ok (.invokevirtual 204, 3) := op_182 (bl_at (d := 96) bl_cX12_count_96 16 rfl) (bl_at (d := 96) bl_cX12_count_96 17 rfl) (bl_at (d := 96) bl_cX12_count_96 18 rfl)
theorem dX12_count_115 : decode cX12_count 115 = .ok (.aload_n 0, 1) := op_42 (bl_at (d := 96) bl_cX12_count_96 19 rfl)
theorem dX12_count_116 : decode cX12_count 116 = .ok (.getfield 58, 3) := op_180 (bl_at (d := 96) bl_cX12_count_96 20 rfl) (bl_at (d := 96) bl_cX12_count_96 21 rfl) (bl_at (d := 96) bl_cX12_count_96 22 rfl)
theorem dX12_count_119 : decode cX12_count 119 = .ok (.aload_n 0, 1) := op_42 (bl_at (d := 96) bl_cX12_count_96 23 rfl)
theorem dX12_count_120 : decode cX12_count 120 = .ok (.getfield 144, 3) := op_180 (bl_at (d := 96) bl_cX12_count_96 24 rfl) (bl_at (d := 96) bl_cX12_count_96 25 rfl) (bl_at (d := 96) bl_cX12_count_96 26 rfl)
theorem dX12_count_123 : decode cX12_count 123 = .ok (.iaload, 1) := op_46 (bl_at (d := 96) bl_cX12_count_96 27 rfl)
theorem dX12_count_124 : decode cX12_count 124 = .ok (.aload_n 0, 1) := op_42 (bl_at (d := 96) bl_cX12_count_96 28 rfl)
theorem dX12_count_125 : decode cX12_count 125 = .ok (.getfield 144, 3) := op_180 (bl_at (d := 96) bl_cX12_count_96 29 rfl) (bl_at (d := 96) bl_cX12_count_96 30 rfl) (bl_at (d := 96) bl_cX12_count_96 31 rfl)
theorem dX12_count_128 : decode cX12_count 128 = .ok (.isub, 1) := op_100 (bl_at (d := 128) bl_cX12_count_128 0 rfl)
theorem dX12_count_129 : decode cX12_count 129 = .ok (.ireturn, 1) := op_172 (bl_at (d := 128) bl_cX12_count_128 1 rfl)
theorem dX12_count_130 : decode cX12_count 130 = .ok (.bipush (-9), 2) := op_16 (bl_at (d := 128) bl_cX12_count_128 2 rfl) (bl_at (d := 128) bl_cX12_count_128 3 rfl)
theorem dX12_count_132 : decode cX12_count 132 = .ok (.ireturn, 1) := op_172 (bl_at (d := 128) bl_cX12_count_128 4 rfl)

end

section
/-! 05.hd -/
theorem hd_X0_init : yX0_init.cls ≠ "java/lang/invoke/MethodHandle" ∧ yX0_init.cls ≠ "java/lang/invoke/VarHandle" ∧ (parseMethodDescriptor yX0_init.desc).map (fun d => d.parameters.length) = some 0 := by decide +kernel
theorem hd_X0_ask : yX0_ask.cls ≠ "java/lang/invoke/MethodHandle" ∧ yX0_ask.cls ≠ "java/lang/invoke/VarHandle" ∧ (parseMethodDescriptor yX0_ask.desc).map (fun d => d.parameters.length) = some 3 := by decide +kernel
theorem hd_X0_tell : yX0_tell.cls ≠ "java/lang/invoke/MethodHandle" ∧ yX0_tell.cls ≠ "java/lang/invoke/VarHandle" ∧ (parseMethodDescriptor yX0_tell.desc).map (fun d => d.parameters.length) = some 2 := by decide +kernel
theorem hd_X1_init : yX1_init.cls ≠ "java/lang/invoke/MethodHandle" ∧ yX1_init.cls ≠ "java/lang/invoke/VarHandle" ∧ (parseMethodDescriptor yX1_init.desc).map (fun d => d.parameters.length) = some 0 := by decide +kernel
theorem hd_X1_ask : yX1_ask.cls ≠ "java/lang/invoke/MethodHandle" ∧ yX1_ask.cls ≠ "java/lang/invoke/VarHandle" ∧ (parseMethodDescriptor yX1_ask.desc).map (fun d => d.parameters.length) = some 3 := by decide +kernel
theorem hd_X2_init : yX2_init.cls ≠ "java/lang/invoke/MethodHandle" ∧ yX2_init.cls ≠ "java/lang/invoke/VarHandle" ∧ (parseMethodDescriptor yX2_init.desc).map (fun d => d.parameters.length) = some 1 := by decide +kernel
theorem hd_X2_solve : yX2_solve.cls ≠ "java/lang/invoke/MethodHandle" ∧ yX2_solve.cls ≠ "java/lang/invoke/VarHandle" ∧ (parseMethodDescriptor yX2_solve.desc).map (fun d => d.parameters.length) = some 3 := by decide +kernel
theorem hd_X2_askYounger : yX2_askYounger.cls ≠ "java/lang/invoke/MethodHandle" ∧ yX2_askYounger.cls ≠ "java/lang/invoke/VarHandle" ∧ (parseMethodDescriptor yX2_askYounger.desc).map (fun d => d.parameters.length) = some 2 := by decide +kernel
theorem hd_X2_votesLacking : yX2_votesLacking.cls ≠ "java/lang/invoke/MethodHandle" ∧ yX2_votesLacking.cls ≠ "java/lang/invoke/VarHandle" ∧ (parseMethodDescriptor yX2_votesLacking.desc).map (fun d => d.parameters.length) = some 3 := by decide +kernel
theorem hd_X2_buyYounger : yX2_buyYounger.cls ≠ "java/lang/invoke/MethodHandle" ∧ yX2_buyYounger.cls ≠ "java/lang/invoke/VarHandle" ∧ (parseMethodDescriptor yX2_buyYounger.desc).map (fun d => d.parameters.length) = some 3 := by decide +kernel
theorem hd_X2_nextLevel : yX2_nextLevel.cls ≠ "java/lang/invoke/MethodHandle" ∧ yX2_nextLevel.cls ≠ "java/lang/invoke/VarHandle" ∧ (parseMethodDescriptor yX2_nextLevel.desc).map (fun d => d.parameters.length) = some 2 := by decide +kernel
theorem hd_X2_buyAtLevel : yX2_buyAtLevel.cls ≠ "java/lang/invoke/MethodHandle" ∧ yX2_buyAtLevel.cls ≠ "java/lang/invoke/VarHandle" ∧ (parseMethodDescriptor yX2_buyAtLevel.desc).map (fun d => d.parameters.length) = some 4 := by decide +kernel
theorem hd_X3_init : yX3_init.cls ≠ "java/lang/invoke/MethodHandle" ∧ yX3_init.cls ≠ "java/lang/invoke/VarHandle" ∧ (parseMethodDescriptor yX3_init.desc).map (fun d => d.parameters.length) = some 0 := by decide +kernel
theorem hd_X3_ask : yX3_ask.cls ≠ "java/lang/invoke/MethodHandle" ∧ yX3_ask.cls ≠ "java/lang/invoke/VarHandle" ∧ (parseMethodDescriptor yX3_ask.desc).map (fun d => d.parameters.length) = some 3 := by decide +kernel
theorem hd_X4_init : yX4_init.cls ≠ "java/lang/invoke/MethodHandle" ∧ yX4_init.cls ≠ "java/lang/invoke/VarHandle" ∧ (parseMethodDescriptor yX4_init.desc).map (fun d => d.parameters.length) = some 0 := by decide +kernel
theorem hd_X4_copy : yX4_copy.cls ≠ "java/lang/invoke/MethodHandle" ∧ yX4_copy.cls ≠ "java/lang/invoke/VarHandle" ∧ (parseMethodDescriptor yX4_copy.desc).map (fun d => d.parameters.length) = some 1 := by decide +kernel
theorem hd_X4_has : yX4_has.cls ≠ "java/lang/invoke/MethodHandle" ∧ yX4_has.cls ≠ "java/lang/invoke/VarHandle" ∧ (parseMethodDescriptor yX4_has.desc).map (fun d => d.parameters.length) = some 1 := by decide +kernel
theorem hd_X4_isOver : yX4_isOver.cls ≠ "java/lang/invoke/MethodHandle" ∧ yX4_isOver.cls ≠ "java/lang/invoke/VarHandle" ∧ (parseMethodDescriptor yX4_isOver.desc).map (fun d => d.parameters.length) = some 0 := by decide +kernel
theorem hd_X4_add : yX4_add.cls ≠ "java/lang/invoke/MethodHandle" ∧ yX4_add.cls ≠ "java/lang/invoke/VarHandle" ∧ (parseMethodDescriptor yX4_add.desc).map (fun d => d.parameters.length) = some 3 := by decide +kernel
theorem hd_X4_weightFrom : yX4_weightFrom.cls ≠ "java/lang/invoke/MethodHandle" ∧ yX4_weightFrom.cls ≠ "java/lang/invoke/VarHandle" ∧ (parseMethodDescriptor yX4_weightFrom.desc).map (fun d => d.parameters.length) = some 1 := by decide +kernel
theorem hd_X4_weightLeft : yX4_weightLeft.cls ≠ "java/lang/invoke/MethodHandle" ∧ yX4_weightLeft.cls ≠ "java/lang/invoke/VarHandle" ∧ (parseMethodDescriptor yX4_weightLeft.desc).map (fun d => d.parameters.length) = some 0 := by decide +kernel
theorem hd_X4_isCarried : yX4_isCarried.cls ≠ "java/lang/invoke/MethodHandle" ∧ yX4_isCarried.cls ≠ "java/lang/invoke/VarHandle" ∧ (parseMethodDescriptor yX4_isCarried.desc).map (fun d => d.parameters.length) = some 2 := by decide +kernel
theorem hd_X4_decide : yX4_decide.cls ≠ "java/lang/invoke/MethodHandle" ∧ yX4_decide.cls ≠ "java/lang/invoke/VarHandle" ∧ (parseMethodDescriptor yX4_decide.desc).map (fun d => d.parameters.length) = some 3 := by decide +kernel
theorem hd_X4_part : yX4_part.cls ≠ "java/lang/invoke/MethodHandle" ∧ yX4_part.cls ≠ "java/lang/invoke/VarHandle" ∧ (parseMethodDescriptor yX4_part.desc).map (fun d => d.parameters.length) = some 2 := by decide +kernel
theorem hd_X4_putAshore : yX4_putAshore.cls ≠ "java/lang/invoke/MethodHandle" ∧ yX4_putAshore.cls ≠ "java/lang/invoke/VarHandle" ∧ (parseMethodDescriptor yX4_putAshore.desc).map (fun d => d.parameters.length) = some 0 := by decide +kernel
theorem hd_X5_init : yX5_init.cls ≠ "java/lang/invoke/MethodHandle" ∧ yX5_init.cls ≠ "java/lang/invoke/VarHandle" ∧ (parseMethodDescriptor yX5_init.desc).map (fun d => d.parameters.length) = some 0 := by decide +kernel
theorem hd_X5_tell : yX5_tell.cls ≠ "java/lang/invoke/MethodHandle" ∧ yX5_tell.cls ≠ "java/lang/invoke/VarHandle" ∧ (parseMethodDescriptor yX5_tell.desc).map (fun d => d.parameters.length) = some 2 := by decide +kernel
theorem hd_X6_init : yX6_init.cls ≠ "java/lang/invoke/MethodHandle" ∧ yX6_init.cls ≠ "java/lang/invoke/VarHandle" ∧ (parseMethodDescriptor yX6_init.desc).map (fun d => d.parameters.length) = some 0 := by decide +kernel
theorem hd_X6_ask : yX6_ask.cls ≠ "java/lang/invoke/MethodHandle" ∧ yX6_ask.cls ≠ "java/lang/invoke/VarHandle" ∧ (parseMethodDescriptor yX6_ask.desc).map (fun d => d.parameters.length) = some 3 := by decide +kernel
theorem hd_X6_tell : yX6_tell.cls ≠ "java/lang/invoke/MethodHandle" ∧ yX6_tell.cls ≠ "java/lang/invoke/VarHandle" ∧ (parseMethodDescriptor yX6_tell.desc).map (fun d => d.parameters.length) = some 2 := by decide +kernel
theorem hd_X7_init : yX7_init.cls ≠ "java/lang/invoke/MethodHandle" ∧ yX7_init.cls ≠ "java/lang/invoke/VarHandle" ∧ (parseMethodDescriptor yX7_init.desc).map (fun d => d.parameters.length) = some 0 := by decide +kernel
theorem hd_X7_isFull : yX7_isFull.cls ≠ "java/lang/invoke/MethodHandle" ∧ yX7_isFull.cls ≠ "java/lang/invoke/VarHandle" ∧ (parseMethodDescriptor yX7_isFull.desc).map (fun d => d.parameters.length) = some 0 := by decide +kernel
theorem hd_X7_add : yX7_add.cls ≠ "java/lang/invoke/MethodHandle" ∧ yX7_add.cls ≠ "java/lang/invoke/VarHandle" ∧ (parseMethodDescriptor yX7_add.desc).map (fun d => d.parameters.length) = some 1 := by decide +kernel
theorem hd_X7_forget : yX7_forget.cls ≠ "java/lang/invoke/MethodHandle" ∧ yX7_forget.cls ≠ "java/lang/invoke/VarHandle" ∧ (parseMethodDescriptor yX7_forget.desc).map (fun d => d.parameters.length) = some 0 := by decide +kernel
theorem hd_X7_fault : yX7_fault.cls ≠ "java/lang/invoke/MethodHandle" ∧ yX7_fault.cls ≠ "java/lang/invoke/VarHandle" ∧ (parseMethodDescriptor yX7_fault.desc).map (fun d => d.parameters.length) = some 1 := by decide +kernel
theorem hd_X7_tell : yX7_tell.cls ≠ "java/lang/invoke/MethodHandle" ∧ yX7_tell.cls ≠ "java/lang/invoke/VarHandle" ∧ (parseMethodDescriptor yX7_tell.desc).map (fun d => d.parameters.length) = some 1 := by decide +kernel
theorem hd_X7_brokenAt : yX7_brokenAt.cls ≠ "java/lang/invoke/MethodHandle" ∧ yX7_brokenAt.cls ≠ "java/lang/invoke/VarHandle" ∧ (parseMethodDescriptor yX7_brokenAt.desc).map (fun d => d.parameters.length) = some 0 := by decide +kernel
theorem hd_X7_digitsOf : yX7_digitsOf.cls ≠ "java/lang/invoke/MethodHandle" ∧ yX7_digitsOf.cls ≠ "java/lang/invoke/VarHandle" ∧ (parseMethodDescriptor yX7_digitsOf.desc).map (fun d => d.parameters.length) = some 1 := by decide +kernel
theorem hd_X7_isDigit : yX7_isDigit.cls ≠ "java/lang/invoke/MethodHandle" ∧ yX7_isDigit.cls ≠ "java/lang/invoke/VarHandle" ∧ (parseMethodDescriptor yX7_isDigit.desc).map (fun d => d.parameters.length) = some 1 := by decide +kernel
theorem hd_X7_wrongAt : yX7_wrongAt.cls ≠ "java/lang/invoke/MethodHandle" ∧ yX7_wrongAt.cls ≠ "java/lang/invoke/VarHandle" ∧ (parseMethodDescriptor yX7_wrongAt.desc).map (fun d => d.parameters.length) = some 1 := by decide +kernel
theorem hd_X7_isRight : yX7_isRight.cls ≠ "java/lang/invoke/MethodHandle" ∧ yX7_isRight.cls ≠ "java/lang/invoke/VarHandle" ∧ (parseMethodDescriptor yX7_isRight.desc).map (fun d => d.parameters.length) = some 3 := by decide +kernel
theorem hd_X7_tellOne : yX7_tellOne.cls ≠ "java/lang/invoke/MethodHandle" ∧ yX7_tellOne.cls ≠ "java/lang/invoke/VarHandle" ∧ (parseMethodDescriptor yX7_tellOne.desc).map (fun d => d.parameters.length) = some 3 := by decide +kernel
theorem hd_X7_digit : yX7_digit.cls ≠ "java/lang/invoke/MethodHandle" ∧ yX7_digit.cls ≠ "java/lang/invoke/VarHandle" ∧ (parseMethodDescriptor yX7_digit.desc).map (fun d => d.parameters.length) = some 1 := by decide +kernel
theorem hd_X8_init : yX8_init.cls ≠ "java/lang/invoke/MethodHandle" ∧ yX8_init.cls ≠ "java/lang/invoke/VarHandle" ∧ (parseMethodDescriptor yX8_init.desc).map (fun d => d.parameters.length) = some 0 := by decide +kernel
theorem hd_X8_ask : yX8_ask.cls ≠ "java/lang/invoke/MethodHandle" ∧ yX8_ask.cls ≠ "java/lang/invoke/VarHandle" ∧ (parseMethodDescriptor yX8_ask.desc).map (fun d => d.parameters.length) = some 3 := by decide +kernel
theorem hd_X8_tell : yX8_tell.cls ≠ "java/lang/invoke/MethodHandle" ∧ yX8_tell.cls ≠ "java/lang/invoke/VarHandle" ∧ (parseMethodDescriptor yX8_tell.desc).map (fun d => d.parameters.length) = some 2 := by decide +kernel
theorem hd_X9_init : yX9_init.cls ≠ "java/lang/invoke/MethodHandle" ∧ yX9_init.cls ≠ "java/lang/invoke/VarHandle" ∧ (parseMethodDescriptor yX9_init.desc).map (fun d => d.parameters.length) = some 1 := by decide +kernel
theorem hd_X9_solve : yX9_solve.cls ≠ "java/lang/invoke/MethodHandle" ∧ yX9_solve.cls ≠ "java/lang/invoke/VarHandle" ∧ (parseMethodDescriptor yX9_solve.desc).map (fun d => d.parameters.length) = some 1 := by decide +kernel
theorem hd_X9_kindOf : yX9_kindOf.cls ≠ "java/lang/invoke/MethodHandle" ∧ yX9_kindOf.cls ≠ "java/lang/invoke/VarHandle" ∧ (parseMethodDescriptor yX9_kindOf.desc).map (fun d => d.parameters.length) = some 1 := by decide +kernel
theorem hd_X9_askYounger : yX9_askYounger.cls ≠ "java/lang/invoke/MethodHandle" ∧ yX9_askYounger.cls ≠ "java/lang/invoke/VarHandle" ∧ (parseMethodDescriptor yX9_askYounger.desc).map (fun d => d.parameters.length) = some 1 := by decide +kernel
theorem hd_X9_keepAll : yX9_keepAll.cls ≠ "java/lang/invoke/MethodHandle" ∧ yX9_keepAll.cls ≠ "java/lang/invoke/VarHandle" ∧ (parseMethodDescriptor yX9_keepAll.desc).map (fun d => d.parameters.length) = some 1 := by decide +kernel
theorem hd_X9_vote : yX9_vote.cls ≠ "java/lang/invoke/MethodHandle" ∧ yX9_vote.cls ≠ "java/lang/invoke/VarHandle" ∧ (parseMethodDescriptor yX9_vote.desc).map (fun d => d.parameters.length) = some 1 := by decide +kernel
theorem hd_X9_end : yX9_end.cls ≠ "java/lang/invoke/MethodHandle" ∧ yX9_end.cls ≠ "java/lang/invoke/VarHandle" ∧ (parseMethodDescriptor yX9_end.desc).map (fun d => d.parameters.length) = some 1 := by decide +kernel
theorem hd_X9_buyCheapest : yX9_buyCheapest.cls ≠ "java/lang/invoke/MethodHandle" ∧ yX9_buyCheapest.cls ≠ "java/lang/invoke/VarHandle" ∧ (parseMethodDescriptor yX9_buyCheapest.desc).map (fun d => d.parameters.length) = some 1 := by decide +kernel
theorem hd_X9_manOfUnit : yX9_manOfUnit.cls ≠ "java/lang/invoke/MethodHandle" ∧ yX9_manOfUnit.cls ≠ "java/lang/invoke/VarHandle" ∧ (parseMethodDescriptor yX9_manOfUnit.desc).map (fun d => d.parameters.length) = some 2 := by decide +kernel
theorem hd_X9_forgetUnits : yX9_forgetUnits.cls ≠ "java/lang/invoke/MethodHandle" ∧ yX9_forgetUnits.cls ≠ "java/lang/invoke/VarHandle" ∧ (parseMethodDescriptor yX9_forgetUnits.desc).map (fun d => d.parameters.length) = some 0 := by decide +kernel
theorem hd_X9_addUnit : yX9_addUnit.cls ≠ "java/lang/invoke/MethodHandle" ∧ yX9_addUnit.cls ≠ "java/lang/invoke/VarHandle" ∧ (parseMethodDescriptor yX9_addUnit.desc).map (fun d => d.parameters.length) = some 2 := by decide +kernel
theorem hd_X9_cheapestSet : yX9_cheapestSet.cls ≠ "java/lang/invoke/MethodHandle" ∧ yX9_cheapestSet.cls ≠ "java/lang/invoke/VarHandle" ∧ (parseMethodDescriptor yX9_cheapestSet.desc).map (fun d => d.parameters.length) = some 1 := by decide +kernel
theorem hd_X9_listSets : yX9_listSets.cls ≠ "java/lang/invoke/MethodHandle" ∧ yX9_listSets.cls ≠ "java/lang/invoke/VarHandle" ∧ (parseMethodDescriptor yX9_listSets.desc).map (fun d => d.parameters.length) = some 1 := by decide +kernel
theorem hd_X9_canBuy : yX9_canBuy.cls ≠ "java/lang/invoke/MethodHandle" ∧ yX9_canBuy.cls ≠ "java/lang/invoke/VarHandle" ∧ (parseMethodDescriptor yX9_canBuy.desc).map (fun d => d.parameters.length) = some 2 := by decide +kernel
theorem hd_X9_shareFairly : yX9_shareFairly.cls ≠ "java/lang/invoke/MethodHandle" ∧ yX9_shareFairly.cls ≠ "java/lang/invoke/VarHandle" ∧ (parseMethodDescriptor yX9_shareFairly.desc).map (fun d => d.parameters.length) = some 1 := by decide +kernel
theorem hd_X9_spreadFromEldest : yX9_spreadFromEldest.cls ≠ "java/lang/invoke/MethodHandle" ∧ yX9_spreadFromEldest.cls ≠ "java/lang/invoke/VarHandle" ∧ (parseMethodDescriptor yX9_spreadFromEldest.desc).map (fun d => d.parameters.length) = some 2 := by decide +kernel
theorem hd_X9_spreadFromYoungest : yX9_spreadFromYoungest.cls ≠ "java/lang/invoke/MethodHandle" ∧ yX9_spreadFromYoungest.cls ≠ "java/lang/invoke/VarHandle" ∧ (parseMethodDescriptor yX9_spreadFromYoungest.desc).map (fun d => d.parameters.length) = some 2 := by decide +kernel
theorem hd_X9_figureOf : yX9_figureOf.cls ≠ "java/lang/invoke/MethodHandle" ∧ yX9_figureOf.cls ≠ "java/lang/invoke/VarHandle" ∧ (parseMethodDescriptor yX9_figureOf.desc).map (fun d => d.parameters.length) = some 1 := by decide +kernel
theorem hd_X9_give : yX9_give.cls ≠ "java/lang/invoke/MethodHandle" ∧ yX9_give.cls ≠ "java/lang/invoke/VarHandle" ∧ (parseMethodDescriptor yX9_give.desc).map (fun d => d.parameters.length) = some 3 := by decide +kernel
theorem hd_X10_init : yX10_init.cls ≠ "java/lang/invoke/MethodHandle" ∧ yX10_init.cls ≠ "java/lang/invoke/VarHandle" ∧ (parseMethodDescriptor yX10_init.desc).map (fun d => d.parameters.length) = some 0 := by decide +kernel
theorem hd_X10_ask : yX10_ask.cls ≠ "java/lang/invoke/MethodHandle" ∧ yX10_ask.cls ≠ "java/lang/invoke/VarHandle" ∧ (parseMethodDescriptor yX10_ask.desc).map (fun d => d.parameters.length) = some 3 := by decide +kernel
theorem hd_X11_init : yX11_init.cls ≠ "java/lang/invoke/MethodHandle" ∧ yX11_init.cls ≠ "java/lang/invoke/VarHandle" ∧ (parseMethodDescriptor yX11_init.desc).map (fun d => d.parameters.length) = some 0 := by decide +kernel
theorem hd_X11_feed : yX11_feed.cls ≠ "java/lang/invoke/MethodHandle" ∧ yX11_feed.cls ≠ "java/lang/invoke/VarHandle" ∧ (parseMethodDescriptor yX11_feed.desc).map (fun d => d.parameters.length) = some 1 := by decide +kernel
theorem hd_X11_beach : yX11_beach.cls ≠ "java/lang/invoke/MethodHandle" ∧ yX11_beach.cls ≠ "java/lang/invoke/VarHandle" ∧ (parseMethodDescriptor yX11_beach.desc).map (fun d => d.parameters.length) = some 0 := by decide +kernel
theorem hd_X11_man : yX11_man.cls ≠ "java/lang/invoke/MethodHandle" ∧ yX11_man.cls ≠ "java/lang/invoke/VarHandle" ∧ (parseMethodDescriptor yX11_man.desc).map (fun d => d.parameters.length) = some 2 := by decide +kernel
theorem hd_X11_set : yX11_set.cls ≠ "java/lang/invoke/MethodHandle" ∧ yX11_set.cls ≠ "java/lang/invoke/VarHandle" ∧ (parseMethodDescriptor yX11_set.desc).map (fun d => d.parameters.length) = some 2 := by decide +kernel
theorem hd_X11_offered : yX11_offered.cls ≠ "java/lang/invoke/MethodHandle" ∧ yX11_offered.cls ≠ "java/lang/invoke/VarHandle" ∧ (parseMethodDescriptor yX11_offered.desc).map (fun d => d.parameters.length) = some 2 := by decide +kernel
theorem hd_X11_price : yX11_price.cls ≠ "java/lang/invoke/MethodHandle" ∧ yX11_price.cls ≠ "java/lang/invoke/VarHandle" ∧ (parseMethodDescriptor yX11_price.desc).map (fun d => d.parameters.length) = some 2 := by decide +kernel
theorem hd_X11_votes : yX11_votes.cls ≠ "java/lang/invoke/MethodHandle" ∧ yX11_votes.cls ≠ "java/lang/invoke/VarHandle" ∧ (parseMethodDescriptor yX11_votes.desc).map (fun d => d.parameters.length) = some 1 := by decide +kernel
theorem hd_X11_carries : yX11_carries.cls ≠ "java/lang/invoke/MethodHandle" ∧ yX11_carries.cls ≠ "java/lang/invoke/VarHandle" ∧ (parseMethodDescriptor yX11_carries.desc).map (fun d => d.parameters.length) = some 1 := by decide +kernel
theorem hd_X11_ends : yX11_ends.cls ≠ "java/lang/invoke/MethodHandle" ∧ yX11_ends.cls ≠ "java/lang/invoke/VarHandle" ∧ (parseMethodDescriptor yX11_ends.desc).map (fun d => d.parameters.length) = some 1 := by decide +kernel
theorem hd_X11_gets : yX11_gets.cls ≠ "java/lang/invoke/MethodHandle" ∧ yX11_gets.cls ≠ "java/lang/invoke/VarHandle" ∧ (parseMethodDescriptor yX11_gets.desc).map (fun d => d.parameters.length) = some 2 := by decide +kernel
theorem hd_X11_bought : yX11_bought.cls ≠ "java/lang/invoke/MethodHandle" ∧ yX11_bought.cls ≠ "java/lang/invoke/VarHandle" ∧ (parseMethodDescriptor yX11_bought.desc).map (fun d => d.parameters.length) = some 1 := by decide +kernel
theorem hd_X11_row : yX11_row.cls ≠ "java/lang/invoke/MethodHandle" ∧ yX11_row.cls ≠ "java/lang/invoke/VarHandle" ∧ (parseMethodDescriptor yX11_row.desc).map (fun d => d.parameters.length) = some 1 := by decide +kernel
theorem hd_X11_judge : yX11_judge.cls ≠ "java/lang/invoke/MethodHandle" ∧ yX11_judge.cls ≠ "java/lang/invoke/VarHandle" ∧ (parseMethodDescriptor yX11_judge.desc).map (fun d => d.parameters.length) = some 1 := by decide +kernel
theorem hd_X11_goes : yX11_goes.cls ≠ "java/lang/invoke/MethodHandle" ∧ yX11_goes.cls ≠ "java/lang/invoke/VarHandle" ∧ (parseMethodDescriptor yX11_goes.desc).map (fun d => d.parameters.length) = some 1 := by decide +kernel
theorem hd_X11_says : yX11_says.cls ≠ "java/lang/invoke/MethodHandle" ∧ yX11_says.cls ≠ "java/lang/invoke/VarHandle" ∧ (parseMethodDescriptor yX11_says.desc).map (fun d => d.parameters.length) = some 0 := by decide +kernel
theorem hd_X11_got : yX11_got.cls ≠ "java/lang/invoke/MethodHandle" ∧ yX11_got.cls ≠ "java/lang/invoke/VarHandle" ∧ (parseMethodDescriptor yX11_got.desc).map (fun d => d.parameters.length) = some 1 := by decide +kernel
theorem hd_X11_alike : yX11_alike.cls ≠ "java/lang/invoke/MethodHandle" ∧ yX11_alike.cls ≠ "java/lang/invoke/VarHandle" ∧ (parseMethodDescriptor yX11_alike.desc).map (fun d => d.parameters.length) = some 4 := by decide +kernel
theorem hd_X11_fewest : yX11_fewest.cls ≠ "java/lang/invoke/MethodHandle" ∧ yX11_fewest.cls ≠ "java/lang/invoke/VarHandle" ∧ (parseMethodDescriptor yX11_fewest.desc).map (fun d => d.parameters.length) = some 0 := by decide +kernel
theorem hd_X11_byLaw : yX11_byLaw.cls ≠ "java/lang/invoke/MethodHandle" ∧ yX11_byLaw.cls ≠ "java/lang/invoke/VarHandle" ∧ (parseMethodDescriptor yX11_byLaw.desc).map (fun d => d.parameters.length) = some 3 := by decide +kernel
theorem hd_X11_gains : yX11_gains.cls ≠ "java/lang/invoke/MethodHandle" ∧ yX11_gains.cls ≠ "java/lang/invoke/VarHandle" ∧ (parseMethodDescriptor yX11_gains.desc).map (fun d => d.parameters.length) = some 0 := by decide +kernel
theorem hd_X11_swap : yX11_swap.cls ≠ "java/lang/invoke/MethodHandle" ∧ yX11_swap.cls ≠ "java/lang/invoke/VarHandle" ∧ (parseMethodDescriptor yX11_swap.desc).map (fun d => d.parameters.length) = some 2 := by decide +kernel
theorem hd_X11_bestAge : yX11_bestAge.cls ≠ "java/lang/invoke/MethodHandle" ∧ yX11_bestAge.cls ≠ "java/lang/invoke/VarHandle" ∧ (parseMethodDescriptor yX11_bestAge.desc).map (fun d => d.parameters.length) = some 1 := by decide +kernel
theorem hd_X11_league : yX11_league.cls ≠ "java/lang/invoke/MethodHandle" ∧ yX11_league.cls ≠ "java/lang/invoke/VarHandle" ∧ (parseMethodDescriptor yX11_league.desc).map (fun d => d.parameters.length) = some 1 := by decide +kernel
theorem hd_X11_shaken : yX11_shaken.cls ≠ "java/lang/invoke/MethodHandle" ∧ yX11_shaken.cls ≠ "java/lang/invoke/VarHandle" ∧ (parseMethodDescriptor yX11_shaken.desc).map (fun d => d.parameters.length) = some 1 := by decide +kernel
theorem hd_X11_seeds : yX11_seeds.cls ≠ "java/lang/invoke/MethodHandle" ∧ yX11_seeds.cls ≠ "java/lang/invoke/VarHandle" ∧ (parseMethodDescriptor yX11_seeds.desc).map (fun d => d.parameters.length) = some 3 := by decide +kernel
theorem hd_X11_clear : yX11_clear.cls ≠ "java/lang/invoke/MethodHandle" ∧ yX11_clear.cls ≠ "java/lang/invoke/VarHandle" ∧ (parseMethodDescriptor yX11_clear.desc).map (fun d => d.parameters.length) = some 0 := by decide +kernel
theorem hd_X11_image : yX11_image.cls ≠ "java/lang/invoke/MethodHandle" ∧ yX11_image.cls ≠ "java/lang/invoke/VarHandle" ∧ (parseMethodDescriptor yX11_image.desc).map (fun d => d.parameters.length) = some 0 := by decide +kernel
theorem hd_X11_restore : yX11_restore.cls ≠ "java/lang/invoke/MethodHandle" ∧ yX11_restore.cls ≠ "java/lang/invoke/VarHandle" ∧ (parseMethodDescriptor yX11_restore.desc).map (fun d => d.parameters.length) = some 0 := by decide +kernel
theorem hd_X11_count : yX11_count.cls ≠ "java/lang/invoke/MethodHandle" ∧ yX11_count.cls ≠ "java/lang/invoke/VarHandle" ∧ (parseMethodDescriptor yX11_count.desc).map (fun d => d.parameters.length) = some 1 := by decide +kernel
theorem hd_X11_countRefusals : yX11_countRefusals.cls ≠ "java/lang/invoke/MethodHandle" ∧ yX11_countRefusals.cls ≠ "java/lang/invoke/VarHandle" ∧ (parseMethodDescriptor yX11_countRefusals.desc).map (fun d => d.parameters.length) = some 1 := by decide +kernel
theorem hd_X11_refuse : yX11_refuse.cls ≠ "java/lang/invoke/MethodHandle" ∧ yX11_refuse.cls ≠ "java/lang/invoke/VarHandle" ∧ (parseMethodDescriptor yX11_refuse.desc).map (fun d => d.parameters.length) = some 1 := by decide +kernel
theorem hd_X11_solved : yX11_solved.cls ≠ "java/lang/invoke/MethodHandle" ∧ yX11_solved.cls ≠ "java/lang/invoke/VarHandle" ∧ (parseMethodDescriptor yX11_solved.desc).map (fun d => d.parameters.length) = some 0 := by decide +kernel
theorem hd_X11_isRowRight : yX11_isRowRight.cls ≠ "java/lang/invoke/MethodHandle" ∧ yX11_isRowRight.cls ≠ "java/lang/invoke/VarHandle" ∧ (parseMethodDescriptor yX11_isRowRight.desc).map (fun d => d.parameters.length) = some 0 := by decide +kernel
theorem hd_X11_firstOddVote : yX11_firstOddVote.cls ≠ "java/lang/invoke/MethodHandle" ∧ yX11_firstOddVote.cls ≠ "java/lang/invoke/VarHandle" ∧ (parseMethodDescriptor yX11_firstOddVote.desc).map (fun d => d.parameters.length) = some 1 := by decide +kernel
theorem hd_X11_orderAsIs : yX11_orderAsIs.cls ≠ "java/lang/invoke/MethodHandle" ∧ yX11_orderAsIs.cls ≠ "java/lang/invoke/VarHandle" ∧ (parseMethodDescriptor yX11_orderAsIs.desc).map (fun d => d.parameters.length) = some 0 := by decide +kernel
theorem hd_X11_orderWith : yX11_orderWith.cls ≠ "java/lang/invoke/MethodHandle" ∧ yX11_orderWith.cls ≠ "java/lang/invoke/VarHandle" ∧ (parseMethodDescriptor yX11_orderWith.desc).map (fun d => d.parameters.length) = some 2 := by decide +kernel
theorem hd_X11_drawOrder : yX11_drawOrder.cls ≠ "java/lang/invoke/MethodHandle" ∧ yX11_drawOrder.cls ≠ "java/lang/invoke/VarHandle" ∧ (parseMethodDescriptor yX11_drawOrder.desc).map (fun d => d.parameters.length) = some 1 := by decide +kernel
theorem hd_X11_placeOf : yX11_placeOf.cls ≠ "java/lang/invoke/MethodHandle" ∧ yX11_placeOf.cls ≠ "java/lang/invoke/VarHandle" ∧ (parseMethodDescriptor yX11_placeOf.desc).map (fun d => d.parameters.length) = some 1 := by decide +kernel
theorem hd_X11_seat : yX11_seat.cls ≠ "java/lang/invoke/MethodHandle" ∧ yX11_seat.cls ≠ "java/lang/invoke/VarHandle" ∧ (parseMethodDescriptor yX11_seat.desc).map (fun d => d.parameters.length) = some 0 := by decide +kernel
theorem hd_X11_shakeVotes : yX11_shakeVotes.cls ≠ "java/lang/invoke/MethodHandle" ∧ yX11_shakeVotes.cls ≠ "java/lang/invoke/VarHandle" ∧ (parseMethodDescriptor yX11_shakeVotes.desc).map (fun d => d.parameters.length) = some 1 := by decide +kernel
theorem hd_X11_addVoter : yX11_addVoter.cls ≠ "java/lang/invoke/MethodHandle" ∧ yX11_addVoter.cls ≠ "java/lang/invoke/VarHandle" ∧ (parseMethodDescriptor yX11_addVoter.desc).map (fun d => d.parameters.length) = some 2 := by decide +kernel
theorem hd_X11_chanceCarried : yX11_chanceCarried.cls ≠ "java/lang/invoke/MethodHandle" ∧ yX11_chanceCarried.cls ≠ "java/lang/invoke/VarHandle" ∧ (parseMethodDescriptor yX11_chanceCarried.desc).map (fun d => d.parameters.length) = some 0 := by decide +kernel
theorem hd_X11_commonDivisor : yX11_commonDivisor.cls ≠ "java/lang/invoke/MethodHandle" ∧ yX11_commonDivisor.cls ≠ "java/lang/invoke/VarHandle" ∧ (parseMethodDescriptor yX11_commonDivisor.desc).map (fun d => d.parameters.length) = some 2 := by decide +kernel
theorem hd_X11_isEnough : yX11_isEnough.cls ≠ "java/lang/invoke/MethodHandle" ∧ yX11_isEnough.cls ≠ "java/lang/invoke/VarHandle" ∧ (parseMethodDescriptor yX11_isEnough.desc).map (fun d => d.parameters.length) = some 3 := by decide +kernel
theorem hd_X12_init : yX12_init.cls ≠ "java/lang/invoke/MethodHandle" ∧ yX12_init.cls ≠ "java/lang/invoke/VarHandle" ∧ (parseMethodDescriptor yX12_init.desc).map (fun d => d.parameters.length) = some 0 := by decide +kernel
theorem hd_X12_no : yX12_no.cls ≠ "java/lang/invoke/MethodHandle" ∧ yX12_no.cls ≠ "java/lang/invoke/VarHandle" ∧ (parseMethodDescriptor yX12_no.desc).map (fun d => d.parameters.length) = some 1 := by decide +kernel
theorem hd_X12_lower : yX12_lower.cls ≠ "java/lang/invoke/MethodHandle" ∧ yX12_lower.cls ≠ "java/lang/invoke/VarHandle" ∧ (parseMethodDescriptor yX12_lower.desc).map (fun d => d.parameters.length) = some 1 := by decide +kernel
theorem hd_X12_lowest : yX12_lowest.cls ≠ "java/lang/invoke/MethodHandle" ∧ yX12_lowest.cls ≠ "java/lang/invoke/VarHandle" ∧ (parseMethodDescriptor yX12_lowest.desc).map (fun d => d.parameters.length) = some 1 := by decide +kernel
theorem hd_X12_isIn : yX12_isIn.cls ≠ "java/lang/invoke/MethodHandle" ∧ yX12_isIn.cls ≠ "java/lang/invoke/VarHandle" ∧ (parseMethodDescriptor yX12_isIn.desc).map (fun d => d.parameters.length) = some 3 := by decide +kernel
theorem hd_X12_bound : yX12_bound.cls ≠ "java/lang/invoke/MethodHandle" ∧ yX12_bound.cls ≠ "java/lang/invoke/VarHandle" ∧ (parseMethodDescriptor yX12_bound.desc).map (fun d => d.parameters.length) = some 3 := by decide +kernel
theorem hd_X12_isMan : yX12_isMan.cls ≠ "java/lang/invoke/MethodHandle" ∧ yX12_isMan.cls ≠ "java/lang/invoke/VarHandle" ∧ (parseMethodDescriptor yX12_isMan.desc).map (fun d => d.parameters.length) = some 1 := by decide +kernel
theorem hd_X12_feed : yX12_feed.cls ≠ "java/lang/invoke/MethodHandle" ∧ yX12_feed.cls ≠ "java/lang/invoke/VarHandle" ∧ (parseMethodDescriptor yX12_feed.desc).map (fun d => d.parameters.length) = some 1 := by decide +kernel
theorem hd_X12_next : yX12_next.cls ≠ "java/lang/invoke/MethodHandle" ∧ yX12_next.cls ≠ "java/lang/invoke/VarHandle" ∧ (parseMethodDescriptor yX12_next.desc).map (fun d => d.parameters.length) = some 0 := by decide +kernel
theorem hd_X12_reads : yX12_reads.cls ≠ "java/lang/invoke/MethodHandle" ∧ yX12_reads.cls ≠ "java/lang/invoke/VarHandle" ∧ (parseMethodDescriptor yX12_reads.desc).map (fun d => d.parameters.length) = some 2 := by decide +kernel
theorem hd_X12_statement : yX12_statement.cls ≠ "java/lang/invoke/MethodHandle" ∧ yX12_statement.cls ≠ "java/lang/invoke/VarHandle" ∧ (parseMethodDescriptor yX12_statement.desc).map (fun d => d.parameters.length) = some 0 := by decide +kernel
theorem hd_X12_comes : yX12_comes.cls ≠ "java/lang/invoke/MethodHandle" ∧ yX12_comes.cls ≠ "java/lang/invoke/VarHandle" ∧ (parseMethodDescriptor yX12_comes.desc).map (fun d => d.parameters.length) = some 1 := by decide +kernel
theorem hd_X12_beach : yX12_beach.cls ≠ "java/lang/invoke/MethodHandle" ∧ yX12_beach.cls ≠ "java/lang/invoke/VarHandle" ∧ (parseMethodDescriptor yX12_beach.desc).map (fun d => d.parameters.length) = some 0 := by decide +kernel
theorem hd_X12_passes : yX12_passes.cls ≠ "java/lang/invoke/MethodHandle" ∧ yX12_passes.cls ≠ "java/lang/invoke/VarHandle" ∧ (parseMethodDescriptor yX12_passes.desc).map (fun d => d.parameters.length) = some 1 := by decide +kernel
theorem hd_X12_passOne : yX12_passOne.cls ≠ "java/lang/invoke/MethodHandle" ∧ yX12_passOne.cls ≠ "java/lang/invoke/VarHandle" ∧ (parseMethodDescriptor yX12_passOne.desc).map (fun d => d.parameters.length) = some 1 := by decide +kernel
theorem hd_X12_passesAll : yX12_passesAll.cls ≠ "java/lang/invoke/MethodHandle" ∧ yX12_passesAll.cls ≠ "java/lang/invoke/VarHandle" ∧ (parseMethodDescriptor yX12_passesAll.desc).map (fun d => d.parameters.length) = some 2 := by decide +kernel
theorem hd_X12_image : yX12_image.cls ≠ "java/lang/invoke/MethodHandle" ∧ yX12_image.cls ≠ "java/lang/invoke/VarHandle" ∧ (parseMethodDescriptor yX12_image.desc).map (fun d => d.parameters.length) = some 0 := by decide +kernel
theorem hd_X12_restore : yX12_restore.cls ≠ "java/lang/invoke/MethodHandle" ∧ yX12_restore.cls ≠ "java/lang/invoke/VarHandle" ∧ (parseMethodDescriptor yX12_restore.desc).map (fun d => d.parameters.length) = some 0 := by decide +kernel
theorem hd_X12_man : yX12_man.cls ≠ "java/lang/invoke/MethodHandle" ∧ yX12_man.cls ≠ "java/lang/invoke/VarHandle" ∧ (parseMethodDescriptor yX12_man.desc).map (fun d => d.parameters.length) = some 2 := by decide +kernel
theorem hd_X12_set : yX12_set.cls ≠ "java/lang/invoke/MethodHandle" ∧ yX12_set.cls ≠ "java/lang/invoke/VarHandle" ∧ (parseMethodDescriptor yX12_set.desc).map (fun d => d.parameters.length) = some 2 := by decide +kernel
theorem hd_X12_isCarried : yX12_isCarried.cls ≠ "java/lang/invoke/MethodHandle" ∧ yX12_isCarried.cls ≠ "java/lang/invoke/VarHandle" ∧ (parseMethodDescriptor yX12_isCarried.desc).map (fun d => d.parameters.length) = some 3 := by decide +kernel
theorem hd_X12_weightOf : yX12_weightOf.cls ≠ "java/lang/invoke/MethodHandle" ∧ yX12_weightOf.cls ≠ "java/lang/invoke/VarHandle" ∧ (parseMethodDescriptor yX12_weightOf.desc).map (fun d => d.parameters.length) = some 1 := by decide +kernel
theorem hd_X12_leftFrom : yX12_leftFrom.cls ≠ "java/lang/invoke/MethodHandle" ∧ yX12_leftFrom.cls ≠ "java/lang/invoke/VarHandle" ∧ (parseMethodDescriptor yX12_leftFrom.desc).map (fun d => d.parameters.length) = some 1 := by decide +kernel
theorem hd_X12_above : yX12_above.cls ≠ "java/lang/invoke/MethodHandle" ∧ yX12_above.cls ≠ "java/lang/invoke/VarHandle" ∧ (parseMethodDescriptor yX12_above.desc).map (fun d => d.parameters.length) = some 1 := by decide +kernel
theorem hd_X12_priceOf : yX12_priceOf.cls ≠ "java/lang/invoke/MethodHandle" ∧ yX12_priceOf.cls ≠ "java/lang/invoke/VarHandle" ∧ (parseMethodDescriptor yX12_priceOf.desc).map (fun d => d.parameters.length) = some 2 := by decide +kernel
theorem hd_X12_costOf : yX12_costOf.cls ≠ "java/lang/invoke/MethodHandle" ∧ yX12_costOf.cls ≠ "java/lang/invoke/VarHandle" ∧ (parseMethodDescriptor yX12_costOf.desc).map (fun d => d.parameters.length) = some 2 := by decide +kernel
theorem hd_X12_unbought : yX12_unbought.cls ≠ "java/lang/invoke/MethodHandle" ∧ yX12_unbought.cls ≠ "java/lang/invoke/VarHandle" ∧ (parseMethodDescriptor yX12_unbought.desc).map (fun d => d.parameters.length) = some 1 := by decide +kernel
theorem hd_X12_isAhead : yX12_isAhead.cls ≠ "java/lang/invoke/MethodHandle" ∧ yX12_isAhead.cls ≠ "java/lang/invoke/VarHandle" ∧ (parseMethodDescriptor yX12_isAhead.desc).map (fun d => d.parameters.length) = some 2 := by decide +kernel
theorem hd_X12_buysBy : yX12_buysBy.cls ≠ "java/lang/invoke/MethodHandle" ∧ yX12_buysBy.cls ≠ "java/lang/invoke/VarHandle" ∧ (parseMethodDescriptor yX12_buysBy.desc).map (fun d => d.parameters.length) = some 1 := by decide +kernel
theorem hd_X12_offersEach : yX12_offersEach.cls ≠ "java/lang/invoke/MethodHandle" ∧ yX12_offersEach.cls ≠ "java/lang/invoke/VarHandle" ∧ (parseMethodDescriptor yX12_offersEach.desc).map (fun d => d.parameters.length) = some 3 := by decide +kernel
theorem hd_X12_offersFools : yX12_offersFools.cls ≠ "java/lang/invoke/MethodHandle" ∧ yX12_offersFools.cls ≠ "java/lang/invoke/VarHandle" ∧ (parseMethodDescriptor yX12_offersFools.desc).map (fun d => d.parameters.length) = some 2 := by decide +kernel
theorem hd_X12_doesBuy : yX12_doesBuy.cls ≠ "java/lang/invoke/MethodHandle" ∧ yX12_doesBuy.cls ≠ "java/lang/invoke/VarHandle" ∧ (parseMethodDescriptor yX12_doesBuy.desc).map (fun d => d.parameters.length) = some 1 := by decide +kernel
theorem hd_X12_findOffer : yX12_findOffer.cls ≠ "java/lang/invoke/MethodHandle" ∧ yX12_findOffer.cls ≠ "java/lang/invoke/VarHandle" ∧ (parseMethodDescriptor yX12_findOffer.desc).map (fun d => d.parameters.length) = some 1 := by decide +kernel
theorem hd_X12_solves : yX12_solves.cls ≠ "java/lang/invoke/MethodHandle" ∧ yX12_solves.cls ≠ "java/lang/invoke/VarHandle" ∧ (parseMethodDescriptor yX12_solves.desc).map (fun d => d.parameters.length) = some 1 := by decide +kernel
theorem hd_X12_solvesAll : yX12_solvesAll.cls ≠ "java/lang/invoke/MethodHandle" ∧ yX12_solvesAll.cls ≠ "java/lang/invoke/VarHandle" ∧ (parseMethodDescriptor yX12_solvesAll.desc).map (fun d => d.parameters.length) = some 0 := by decide +kernel
theorem hd_X12_areInOrder : yX12_areInOrder.cls ≠ "java/lang/invoke/MethodHandle" ∧ yX12_areInOrder.cls ≠ "java/lang/invoke/VarHandle" ∧ (parseMethodDescriptor yX12_areInOrder.desc).map (fun d => d.parameters.length) = some 2 := by decide +kernel
theorem hd_X12_offered : yX12_offered.cls ≠ "java/lang/invoke/MethodHandle" ∧ yX12_offered.cls ≠ "java/lang/invoke/VarHandle" ∧ (parseMethodDescriptor yX12_offered.desc).map (fun d => d.parameters.length) = some 2 := by decide +kernel
theorem hd_X12_price : yX12_price.cls ≠ "java/lang/invoke/MethodHandle" ∧ yX12_price.cls ≠ "java/lang/invoke/VarHandle" ∧ (parseMethodDescriptor yX12_price.desc).map (fun d => d.parameters.length) = some 2 := by decide +kernel
theorem hd_X12_votes : yX12_votes.cls ≠ "java/lang/invoke/MethodHandle" ∧ yX12_votes.cls ≠ "java/lang/invoke/VarHandle" ∧ (parseMethodDescriptor yX12_votes.desc).map (fun d => d.parameters.length) = some 1 := by decide +kernel
theorem hd_X12_carries : yX12_carries.cls ≠ "java/lang/invoke/MethodHandle" ∧ yX12_carries.cls ≠ "java/lang/invoke/VarHandle" ∧ (parseMethodDescriptor yX12_carries.desc).map (fun d => d.parameters.length) = some 1 := by decide +kernel
theorem hd_X12_ends : yX12_ends.cls ≠ "java/lang/invoke/MethodHandle" ∧ yX12_ends.cls ≠ "java/lang/invoke/VarHandle" ∧ (parseMethodDescriptor yX12_ends.desc).map (fun d => d.parameters.length) = some 1 := by decide +kernel
theorem hd_X12_gets : yX12_gets.cls ≠ "java/lang/invoke/MethodHandle" ∧ yX12_gets.cls ≠ "java/lang/invoke/VarHandle" ∧ (parseMethodDescriptor yX12_gets.desc).map (fun d => d.parameters.length) = some 2 := by decide +kernel
theorem hd_X12_bought : yX12_bought.cls ≠ "java/lang/invoke/MethodHandle" ∧ yX12_bought.cls ≠ "java/lang/invoke/VarHandle" ∧ (parseMethodDescriptor yX12_bought.desc).map (fun d => d.parameters.length) = some 1 := by decide +kernel
theorem hd_X12_row : yX12_row.cls ≠ "java/lang/invoke/MethodHandle" ∧ yX12_row.cls ≠ "java/lang/invoke/VarHandle" ∧ (parseMethodDescriptor yX12_row.desc).map (fun d => d.parameters.length) = some 1 := by decide +kernel
theorem hd_X12_clear : yX12_clear.cls ≠ "java/lang/invoke/MethodHandle" ∧ yX12_clear.cls ≠ "java/lang/invoke/VarHandle" ∧ (parseMethodDescriptor yX12_clear.desc).map (fun d => d.parameters.length) = some 0 := by decide +kernel
theorem hd_X12_isOver : yX12_isOver.cls ≠ "java/lang/invoke/MethodHandle" ∧ yX12_isOver.cls ≠ "java/lang/invoke/VarHandle" ∧ (parseMethodDescriptor yX12_isOver.desc).map (fun d => d.parameters.length) = some 0 := by decide +kernel
theorem hd_X12_isOffer : yX12_isOffer.cls ≠ "java/lang/invoke/MethodHandle" ∧ yX12_isOffer.cls ≠ "java/lang/invoke/VarHandle" ∧ (parseMethodDescriptor yX12_isOffer.desc).map (fun d => d.parameters.length) = some 0 := by decide +kernel
theorem hd_X12_judge : yX12_judge.cls ≠ "java/lang/invoke/MethodHandle" ∧ yX12_judge.cls ≠ "java/lang/invoke/VarHandle" ∧ (parseMethodDescriptor yX12_judge.desc).map (fun d => d.parameters.length) = some 1 := by decide +kernel
theorem hd_X12_decides : yX12_decides.cls ≠ "java/lang/invoke/MethodHandle" ∧ yX12_decides.cls ≠ "java/lang/invoke/VarHandle" ∧ (parseMethodDescriptor yX12_decides.desc).map (fun d => d.parameters.length) = some 1 := by decide +kernel
theorem hd_X12_goes : yX12_goes.cls ≠ "java/lang/invoke/MethodHandle" ∧ yX12_goes.cls ≠ "java/lang/invoke/VarHandle" ∧ (parseMethodDescriptor yX12_goes.desc).map (fun d => d.parameters.length) = some 1 := by decide +kernel
theorem hd_X12_says : yX12_says.cls ≠ "java/lang/invoke/MethodHandle" ∧ yX12_says.cls ≠ "java/lang/invoke/VarHandle" ∧ (parseMethodDescriptor yX12_says.desc).map (fun d => d.parameters.length) = some 0 := by decide +kernel
theorem hd_X12_got : yX12_got.cls ≠ "java/lang/invoke/MethodHandle" ∧ yX12_got.cls ≠ "java/lang/invoke/VarHandle" ∧ (parseMethodDescriptor yX12_got.desc).map (fun d => d.parameters.length) = some 1 := by decide +kernel
theorem hd_X12_enough : yX12_enough.cls ≠ "java/lang/invoke/MethodHandle" ∧ yX12_enough.cls ≠ "java/lang/invoke/VarHandle" ∧ (parseMethodDescriptor yX12_enough.desc).map (fun d => d.parameters.length) = some 1 := by decide +kernel
theorem hd_X12_withPrice : yX12_withPrice.cls ≠ "java/lang/invoke/MethodHandle" ∧ yX12_withPrice.cls ≠ "java/lang/invoke/VarHandle" ∧ (parseMethodDescriptor yX12_withPrice.desc).map (fun d => d.parameters.length) = some 3 := by decide +kernel
theorem hd_X12_likeSays : yX12_likeSays.cls ≠ "java/lang/invoke/MethodHandle" ∧ yX12_likeSays.cls ≠ "java/lang/invoke/VarHandle" ∧ (parseMethodDescriptor yX12_likeSays.desc).map (fun d => d.parameters.length) = some 3 := by decide +kernel
theorem hd_X12_likeTakes : yX12_likeTakes.cls ≠ "java/lang/invoke/MethodHandle" ∧ yX12_likeTakes.cls ≠ "java/lang/invoke/VarHandle" ∧ (parseMethodDescriptor yX12_likeTakes.desc).map (fun d => d.parameters.length) = some 4 := by decide +kernel
theorem hd_X12_alike : yX12_alike.cls ≠ "java/lang/invoke/MethodHandle" ∧ yX12_alike.cls ≠ "java/lang/invoke/VarHandle" ∧ (parseMethodDescriptor yX12_alike.desc).map (fun d => d.parameters.length) = some 4 := by decide +kernel
theorem hd_X12_fewest : yX12_fewest.cls ≠ "java/lang/invoke/MethodHandle" ∧ yX12_fewest.cls ≠ "java/lang/invoke/VarHandle" ∧ (parseMethodDescriptor yX12_fewest.desc).map (fun d => d.parameters.length) = some 0 := by decide +kernel
theorem hd_X12_byLaw : yX12_byLaw.cls ≠ "java/lang/invoke/MethodHandle" ∧ yX12_byLaw.cls ≠ "java/lang/invoke/VarHandle" ∧ (parseMethodDescriptor yX12_byLaw.desc).map (fun d => d.parameters.length) = some 3 := by decide +kernel
theorem hd_X12_gains : yX12_gains.cls ≠ "java/lang/invoke/MethodHandle" ∧ yX12_gains.cls ≠ "java/lang/invoke/VarHandle" ∧ (parseMethodDescriptor yX12_gains.desc).map (fun d => d.parameters.length) = some 0 := by decide +kernel
theorem hd_X12_moves : yX12_moves.cls ≠ "java/lang/invoke/MethodHandle" ∧ yX12_moves.cls ≠ "java/lang/invoke/VarHandle" ∧ (parseMethodDescriptor yX12_moves.desc).map (fun d => d.parameters.length) = some 2 := by decide +kernel
theorem hd_X12_swaps : yX12_swaps.cls ≠ "java/lang/invoke/MethodHandle" ∧ yX12_swaps.cls ≠ "java/lang/invoke/VarHandle" ∧ (parseMethodDescriptor yX12_swaps.desc).map (fun d => d.parameters.length) = some 2 := by decide +kernel
theorem hd_X12_swap : yX12_swap.cls ≠ "java/lang/invoke/MethodHandle" ∧ yX12_swap.cls ≠ "java/lang/invoke/VarHandle" ∧ (parseMethodDescriptor yX12_swap.desc).map (fun d => d.parameters.length) = some 2 := by decide +kernel
theorem hd_X12_bestAge : yX12_bestAge.cls ≠ "java/lang/invoke/MethodHandle" ∧ yX12_bestAge.cls ≠ "java/lang/invoke/VarHandle" ∧ (parseMethodDescriptor yX12_bestAge.desc).map (fun d => d.parameters.length) = some 1 := by decide +kernel
theorem hd_X12_isFree : yX12_isFree.cls ≠ "java/lang/invoke/MethodHandle" ∧ yX12_isFree.cls ≠ "java/lang/invoke/VarHandle" ∧ (parseMethodDescriptor yX12_isFree.desc).map (fun d => d.parameters.length) = some 1 := by decide +kernel
theorem hd_X12_bits : yX12_bits.cls ≠ "java/lang/invoke/MethodHandle" ∧ yX12_bits.cls ≠ "java/lang/invoke/VarHandle" ∧ (parseMethodDescriptor yX12_bits.desc).map (fun d => d.parameters.length) = some 1 := by decide +kernel
theorem hd_X12_league : yX12_league.cls ≠ "java/lang/invoke/MethodHandle" ∧ yX12_league.cls ≠ "java/lang/invoke/VarHandle" ∧ (parseMethodDescriptor yX12_league.desc).map (fun d => d.parameters.length) = some 1 := by decide +kernel
theorem hd_X12_divisor : yX12_divisor.cls ≠ "java/lang/invoke/MethodHandle" ∧ yX12_divisor.cls ≠ "java/lang/invoke/VarHandle" ∧ (parseMethodDescriptor yX12_divisor.desc).map (fun d => d.parameters.length) = some 2 := by decide +kernel
theorem hd_X12_shaken : yX12_shaken.cls ≠ "java/lang/invoke/MethodHandle" ∧ yX12_shaken.cls ≠ "java/lang/invoke/VarHandle" ∧ (parseMethodDescriptor yX12_shaken.desc).map (fun d => d.parameters.length) = some 1 := by decide +kernel
theorem hd_X12_seeds : yX12_seeds.cls ≠ "java/lang/invoke/MethodHandle" ∧ yX12_seeds.cls ≠ "java/lang/invoke/VarHandle" ∧ (parseMethodDescriptor yX12_seeds.desc).map (fun d => d.parameters.length) = some 3 := by decide +kernel
theorem hd_X12_count : yX12_count.cls ≠ "java/lang/invoke/MethodHandle" ∧ yX12_count.cls ≠ "java/lang/invoke/VarHandle" ∧ (parseMethodDescriptor yX12_count.desc).map (fun d => d.parameters.length) = some 1 := by decide +kernel
theorem hd_J6_bitCount_0f7a4 : yJ6_bitCount_0f7a4.cls ≠ "java/lang/invoke/MethodHandle" ∧ yJ6_bitCount_0f7a4.cls ≠ "java/lang/invoke/VarHandle" ∧ (parseMethodDescriptor yJ6_bitCount_0f7a4.desc).map (fun d => d.parameters.length) = some 1 := by decide +kernel
theorem hd_J9_max_7cf53 : yJ9_max_7cf53.cls ≠ "java/lang/invoke/MethodHandle" ∧ yJ9_max_7cf53.cls ≠ "java/lang/invoke/VarHandle" ∧ (parseMethodDescriptor yJ9_max_7cf53.desc).map (fun d => d.parameters.length) = some 2 := by decide +kernel
theorem hd_J9_min_7cf53 : yJ9_min_7cf53.cls ≠ "java/lang/invoke/MethodHandle" ∧ yJ9_min_7cf53.cls ≠ "java/lang/invoke/VarHandle" ∧ (parseMethodDescriptor yJ9_min_7cf53.desc).map (fun d => d.parameters.length) = some 2 := by decide +kernel
theorem hd_J7_fill_d0a16 : yJ7_fill_d0a16.cls ≠ "java/lang/invoke/MethodHandle" ∧ yJ7_fill_d0a16.cls ≠ "java/lang/invoke/VarHandle" ∧ (parseMethodDescriptor yJ7_fill_d0a16.desc).map (fun d => d.parameters.length) = some 2 := by decide +kernel
theorem hd_J7_fill_53178 : yJ7_fill_53178.cls ≠ "java/lang/invoke/MethodHandle" ∧ yJ7_fill_53178.cls ≠ "java/lang/invoke/VarHandle" ∧ (parseMethodDescriptor yJ7_fill_53178.desc).map (fun d => d.parameters.length) = some 2 := by decide +kernel
theorem hd_L_law : yL_law.cls ≠ "java/lang/invoke/MethodHandle" ∧ yL_law.cls ≠ "java/lang/invoke/VarHandle" ∧ (parseMethodDescriptor yL_law.desc).map (fun d => d.parameters.length) = some 1 := by decide +kernel

end

section
/-! 06.small -/
set_option maxHeartbeats 4000000 in
set_option maxRecDepth 100000 in
/-- refuse(w): w is counted -/
theorem c_X11_refuse (l : Launch) (dC : Nat → ClassId) (dI : Nat → Nat → Nat) (aC : Nat → ClassId) (sz : Nat) (h0 : Nat) (xp : Nat) (xtp : Nat) (xn : Nat) (xt : Nat) (xk : Nat) (xl : Nat) (xc : Nat) (xo : Nat) (xto : Nat) (xr : Nat) (xch : Nat) (ts : Int32) (ik : Int32) (st : Int32) (w : Int32) (k : Nat) (rf : Nat → Int32) (hw1 : w < 0) (hw2 : -6 ≤ w) (hk : (-w).toNatClampNeg = k) (hki : vp_in (-w) 7) : Met l yX11_refuse (wW yX11_refuse cX11_refuse 2 (some .int)) ({ frames := 0, cells := 0, slots := 0, locals := 0 } : Room) (va_Pc [.ref h0, .int w] (fun U => U.heap.size = sz ∧ va_P (dC, dI) classes [(h0, .inr (11, [.ref xp, .ref xtp, .ref xn, .ref xt, .ref xk, .ref xl, .ref xc, .ref xo, .ref xto, .ref xr, .ref xch, .int ts, .int ik, .int st])), (xr, .inl (aC 0, 7, .inl rf))] U.heap ∧ va_K (dC, dI) classes (TY aC) U ∧ va_D (fun _ => True) [(h0, .inr (11, [.ref xp, .ref xtp, .ref xn, .ref xt, .ref xk, .ref xl, .ref xc, .ref xo, .ref xto, .ref xr, .ref xch, .int ts, .int ik, .int st])), (xr, .inl (aC 0, 7, .inl rf))] ∧ NX U)) (va_Qi (fun (r : Int32) (rf2 : Nat → Int32) => r = w ∧ rf2 = upd rf k (rf k + 1)) (fun (rf2 : Nat → Int32) (t : State) => va_P (dC, dI) classes [(h0, .inr (11, [.ref xp, .ref xtp, .ref xn, .ref xt, .ref xk, .ref xl, .ref xc, .ref xo, .ref xto, .ref xr, .ref xch, .int ts, .int ik, .int st])), (xr, .inl (aC 0, 7, .inl rf2))] t.heap ∧ va_K (dC, dI) classes (TY aC) t ∧ va_D (va_A [(h0, .inr (11, [.ref xp, .ref xtp, .ref xn, .ref xt, .ref xk, .ref xl, .ref xc, .ref xo, .ref xto, .ref xr, .ref xch, .int ts, .int ik, .int st])), (xr, .inl (aC 0, 7, .inl rf))] sz) [(h0, .inr (11, [.ref xp, .ref xtp, .ref xn, .ref xt, .ref xk, .ref xl, .ref xc, .ref xo, .ref xto, .ref xr, .ref xch, .int ts, .int ik, .int st])), (xr, .inl (aC 0, 7, .inl rf2))]) (va_A [(h0, .inr (11, [.ref xp, .ref xtp, .ref xn, .ref xt, .ref xk, .ref xl, .ref xc, .ref xo, .ref xto, .ref xr, .ref xch, .int ts, .int ik, .int st])), (xr, .inl (aC 0, 7, .inl rf))] sz)) 0 0 (va_A [(h0, .inr (11, [.ref xp, .ref xtp, .ref xn, .ref xt, .ref xk, .ref xl, .ref xc, .ref xo, .ref xto, .ref xr, .ref xch, .int ts, .int ik, .int st])), (xr, .inl (aC 0, 7, .inl rf))] sz) := by
  refine Met.ofW (cc := cX11_refuse) (maxL := 2) (ret := (some .int)) (by decide) rfl ?_
  intro p e s m args below meth c s₁ B hml hv
  obtain ⟨rfl, hsz, hP, hK, hD0, hN⟩ := hv
  have hx := B.exec
  have hb := B.bytes
  have hr := B.returns
  have hts0 := atoms_spec (ws := (wW yX11_refuse cX11_refuse 2 (some .int))) B.pre
  have hts : ∀ w9 ∈ lw_G, w9.before ([.ref h0, .int w] : List Value).toArray s = true := fun w9 h9 => hts0 w9 (List.mem_cons_of_mem _ h9)
  have hown : s.vm.findClass RX11 = some m.cls := findClass_of_methodNamed B.named
  have hlocks := B.notSynchronized
  subst hsz
  have hD := hD0.self (sz := s.heap.size)
  generalize hAe : va_A [(h0, .inr (11, [.ref xp, .ref xtp, .ref xn, .ref xt, .ref xk, .ref xl, .ref xc, .ref xo, .ref xto, .ref xr, .ref xch, .int ts, .int ik, .int st])), (xr, .inl (aC 0, 7, .inl rf))] s.heap.size = A at hD ⊢
  have hA : ∀ q : Nat, s.heap.size ≤ q → A q := fun q h => by rw [← hAe]; exact Or.inr h
  obtain ⟨H, hHe⟩ : ∃ H : Heap, H = s.heap := ⟨_, rfl⟩
  have hS : va_S A s.heap H [] := by rw [hHe]; exact va_S.rf
  have hP : va_P (dC, dI) classes [(h0, .inr (11, [.ref xp, .ref xtp, .ref xn, .ref xt, .ref xk, .ref xl, .ref xc, .ref xo, .ref xto, .ref xr, .ref xch, .int ts, .int ik, .int st])), (xr, .inl (aC 0, 7, .inl rf))] H := by rw [hHe]; exact hP
  have hl := lv_entry ([.ref h0, .int w]) (n := 2) (Nat.le_of_ble_eq_true rfl)
  rw [lg_entry_eq]
  generalize (lg_sl ([.ref h0, .int w]) ++ List.replicate (2 - (lg_sl ([.ref h0, .int w])).length) Slot.unset).toArray = ls at hl ⊢
  have hl : lv_has ls 2 [(0, .ref h0), (1, .int w)] := hl
  rw [← hHe]
  refine lv_iload_n hx hb dX11_refuse_0 rfl (lv_at hl 1 rfl) ?_
  refine lv_if_ge (tgt := 21) hx hb dX11_refuse_1 (by decide) (fun c_1 => ?_) (fun c_1 => ?_)
  · exact absurd hw1 (Int32.not_lt.mpr c_1)
  · refine lv_iload_n hx hb dX11_refuse_4 rfl (lv_at hl 1 rfl) ?_
    refine lv_bipush (v := -6) hx hb dX11_refuse_5 (by decide) ?_
    refine lv_icmp_lt (tgt := 21) hx hb dX11_refuse_7 (by decide) (fun c_2 => ?_) (fun c_2 => ?_)
    · exact absurd hw2 (Int32.not_le.mpr c_2)
    · refine lv_aload_n hx hb dX11_refuse_10 rfl (lv_at hl 0 rfl) ?_
      refine va_get (D := (dC, dI)) (ci := 11) (v := .ref xr) (C := RX11) (T := TX11) (N := 14) hx hb hts inX11 hown hK hP 0 rfl rfl 9 (by decide) (hts _ (gw kw_235 rfl)) (fun _ h9 => h9) rfl dX11_refuse_11 ?_
      refine lv_iload_n hx hb dX11_refuse_14 rfl (lv_at hl 1 rfl) ?_
      refine lv_ineg hx hb dX11_refuse_15 ?_
      refine lv_topi (fun x_3 e_3 => ?_)
      refine lv_dup2_11 hx hb dX11_refuse_16 rfl rfl ?_
      have h_4 : vp_in x_3 7 := by rw [e_3]; exact hki
      refine va_iald hx hb hK hP 1 0 rfl rfl h_4 dX11_refuse_17 ?_
      refine lv_topi (fun x_5 e_5 => ?_)
      refine lv_iconst (v := 1) hx hb dX11_refuse_18 (by decide) ?_
      refine lv_iadd hx hb dX11_refuse_19 ?_
      refine lv_topi (fun x_6 e_6 => ?_)
      have h_7 : vp_in x_3 7 := by rw [e_3]; exact hki
      refine va_iast hx hb hK hP hD hS 1 0 rfl rfl h_7 dX11_refuse_20 (fun H locs hP hD hS => ?_)
      obtain ⟨f_8, e_f_8⟩ : ∃ y : Nat → Int32, y = upd rf (x_3 : Int32).toNatClampNeg x_6 := ⟨_, rfl⟩
      have hP : va_P (dC, dI) classes [(h0, .inr (11, [.ref xp, .ref xtp, .ref xn, .ref xt, .ref xk, .ref xl, .ref xc, .ref xo, .ref xto, .ref xr, .ref xch, .int ts, .int ik, .int st])), (xr, .inl (aC 0, 7, .inl f_8))] H := by rw [e_f_8]; exact hP
      have hD : va_D A [(h0, .inr (11, [.ref xp, .ref xtp, .ref xn, .ref xt, .ref xk, .ref xl, .ref xc, .ref xo, .ref xto, .ref xr, .ref xch, .int ts, .int ik, .int st])), (xr, .inl (aC 0, 7, .inl f_8))] := by rw [e_f_8]; exact hD
      refine lv_iload_n hx hb dX11_refuse_21 rfl (lv_at hl 1 rfl) ?_
      have hP9 := hP.sub (ws' := [(h0, .inr (11, [.ref xp, .ref xtp, .ref xn, .ref xt, .ref xk, .ref xl, .ref xc, .ref xo, .ref xto, .ref xr, .ref xch, .int ts, .int ik, .int st])), (xr, .inl (aC 0, 7, .inl f_8))]) [0, 1] rfl
      have hD9 := hD.sub (ws' := [(h0, .inr (11, [.ref xp, .ref xtp, .ref xn, .ref xt, .ref xk, .ref xl, .ref xc, .ref xo, .ref xto, .ref xr, .ref xch, .int ts, .int ik, .int st])), (xr, .inl (aC 0, 7, .inl f_8))]) [0, 1] (by decide) rfl
      refine W.widen (k := 0) (n := 0) (by omega) (by omega) ?_
      exact W.iret (v := w) hx hb hr (fun t ht hW => ⟨⟨w, (f_8), rfl, ⟨rfl, by subst e_f_8; subst e_6; subst e_5; subst e_3; rw [hk]⟩, by rw [ht]; exact hP9, va_K.moved hW.alike hK, hD9⟩, hS.F ht⟩) hS.2.2 dX11_refuse_22

set_option maxHeartbeats 4000000 in
set_option maxRecDepth 100000 in
/-- X4_has -/
theorem c_X4_has (l : Launch) (dC : Nat → ClassId) (dI : Nat → Nat → Nat) (aC : Nat → ClassId) (sz : Nat) (h1 : Nat) (ek : Nat) (ef : Nat) (ew : Nat) (ep : Nat) (es : Nat) (sz0 : Int32) (sy : Int32) (dn : Int32) (i : Int32)  : Met l yX4_has (wW yX4_has cX4_has 2 (some .boolean)) ({ frames := 0, cells := 0, slots := 0, locals := 0 } : Room) (va_Pc [.ref h1, .int i] (fun U => U.heap.size = sz ∧ va_P (dC, dI) classes [(h1, .inr (4, [.ref ek, .ref ef, .ref ew, .ref ep, .ref es, .int sz0, .int sy, .int dn]))] U.heap ∧ va_K (dC, dI) classes (TY aC) U ∧ va_D (fun _ => True) [(h1, .inr (4, [.ref ek, .ref ef, .ref ew, .ref ep, .ref es, .int sz0, .int sy, .int dn]))] ∧ NX U)) (va_Qi (fun (r : Int32) (_ : Unit) => r = if i < 0 then 0 else if sz0 ≤ i then 0 else 1) (fun (_ : Unit) (t : State) => va_P (dC, dI) classes [(h1, .inr (4, [.ref ek, .ref ef, .ref ew, .ref ep, .ref es, .int sz0, .int sy, .int dn]))] t.heap ∧ va_K (dC, dI) classes (TY aC) t ∧ va_D (va_A [(h1, .inr (4, [.ref ek, .ref ef, .ref ew, .ref ep, .ref es, .int sz0, .int sy, .int dn]))] sz) [(h1, .inr (4, [.ref ek, .ref ef, .ref ew, .ref ep, .ref es, .int sz0, .int sy, .int dn]))]) (va_A [(h1, .inr (4, [.ref ek, .ref ef, .ref ew, .ref ep, .ref es, .int sz0, .int sy, .int dn]))] sz)) 0 0 (va_A [(h1, .inr (4, [.ref ek, .ref ef, .ref ew, .ref ep, .ref es, .int sz0, .int sy, .int dn]))] sz) := by
  refine Met.ofW (cc := cX4_has) (maxL := 2) (ret := (some .boolean)) (by decide) rfl ?_
  intro p e s m args below meth c s₁ B hml hv
  obtain ⟨rfl, hsz, hP, hK, hD0, hN⟩ := hv
  have hx := B.exec
  have hb := B.bytes
  have hr := B.returns
  have hts0 := atoms_spec (ws := (wW yX4_has cX4_has 2 (some .boolean))) B.pre
  have hts : ∀ w9 ∈ lw_G, w9.before ([.ref h1, .int i] : List Value).toArray s = true := fun w9 h9 => hts0 w9 (List.mem_cons_of_mem _ h9)
  have hown : s.vm.findClass RX4 = some m.cls := findClass_of_methodNamed B.named
  have hlocks := B.notSynchronized
  subst hsz
  have hD := hD0.self (sz := s.heap.size)
  generalize hAe : va_A [(h1, .inr (4, [.ref ek, .ref ef, .ref ew, .ref ep, .ref es, .int sz0, .int sy, .int dn]))] s.heap.size = A at hD ⊢
  have hA : ∀ q : Nat, s.heap.size ≤ q → A q := fun q h => by rw [← hAe]; exact Or.inr h
  obtain ⟨H, hHe⟩ : ∃ H : Heap, H = s.heap := ⟨_, rfl⟩
  have hS : va_S A s.heap H [] := by rw [hHe]; exact va_S.rf
  have hP : va_P (dC, dI) classes [(h1, .inr (4, [.ref ek, .ref ef, .ref ew, .ref ep, .ref es, .int sz0, .int sy, .int dn]))] H := by rw [hHe]; exact hP
  have hl := lv_entry ([.ref h1, .int i]) (n := 2) (Nat.le_of_ble_eq_true rfl)
  rw [lg_entry_eq]
  generalize (lg_sl ([.ref h1, .int i]) ++ List.replicate (2 - (lg_sl ([.ref h1, .int i])).length) Slot.unset).toArray = ls at hl ⊢
  have hl : lv_has ls 2 [(0, .ref h1), (1, .int i)] := hl
  rw [← hHe]
  refine lv_iload_n hx hb dX4_has_0 rfl (lv_at hl 1 rfl) ?_
  refine lv_if_lt (tgt := 16) hx hb dX4_has_1 (by decide) (fun c_1 => ?_) (fun c_1 => ?_)
  · refine lv_iconst (v := 0) hx hb dX4_has_16 (by decide) ?_
    have hP9 := hP.sub (ws' := [(h1, .inr (4, [.ref ek, .ref ef, .ref ew, .ref ep, .ref es, .int sz0, .int sy, .int dn]))]) [0] rfl
    have hD9 := hD.sub (ws' := [(h1, .inr (4, [.ref ek, .ref ef, .ref ew, .ref ep, .ref es, .int sz0, .int sy, .int dn]))]) [0] (by decide) rfl
    refine W.widen (k := 0) (n := 0) (by omega) (by omega) ?_
    exact W.zret (v := 0) hx hb hr rfl (fun t ht hW => ⟨⟨0, (), rfl, by simp [c_1], by rw [ht]; exact hP9, va_K.moved hW.alike hK, hD9⟩, hS.F ht⟩) hS.2.2 dX4_has_17
  · refine lv_iload_n hx hb dX4_has_4 rfl (lv_at hl 1 rfl) ?_
    refine lv_aload_n hx hb dX4_has_5 rfl (lv_at hl 0 rfl) ?_
    refine va_get (D := (dC, dI)) (ci := 4) (v := .int sz0) (C := RX4) (T := TX4) (N := 8) hx hb hts inX4 hown hK hP 0 rfl rfl 5 (by decide) (hts _ (gw kw_48 rfl)) (fun _ h9 => h9) rfl dX4_has_6 ?_
    refine lv_icmp_ge (tgt := 16) hx hb dX4_has_9 (by decide) (fun c_2 => ?_) (fun c_2 => ?_)
    · refine lv_iconst (v := 0) hx hb dX4_has_16 (by decide) ?_
      have hP9 := hP.sub (ws' := [(h1, .inr (4, [.ref ek, .ref ef, .ref ew, .ref ep, .ref es, .int sz0, .int sy, .int dn]))]) [0] rfl
      have hD9 := hD.sub (ws' := [(h1, .inr (4, [.ref ek, .ref ef, .ref ew, .ref ep, .ref es, .int sz0, .int sy, .int dn]))]) [0] (by decide) rfl
      refine W.widen (k := 0) (n := 0) (by omega) (by omega) ?_
      exact W.zret (v := 0) hx hb hr rfl (fun t ht hW => ⟨⟨0, (), rfl, by simp [c_1, c_2], by rw [ht]; exact hP9, va_K.moved hW.alike hK, hD9⟩, hS.F ht⟩) hS.2.2 dX4_has_17
    · refine lv_iconst (v := 1) hx hb dX4_has_12 (by decide) ?_
      refine lv_goto (tgt := 17) hx hb dX4_has_13 (by decide) ?_
      have hP9 := hP.sub (ws' := [(h1, .inr (4, [.ref ek, .ref ef, .ref ew, .ref ep, .ref es, .int sz0, .int sy, .int dn]))]) [0] rfl
      have hD9 := hD.sub (ws' := [(h1, .inr (4, [.ref ek, .ref ef, .ref ew, .ref ep, .ref es, .int sz0, .int sy, .int dn]))]) [0] (by decide) rfl
      refine W.widen (k := 0) (n := 0) (by omega) (by omega) ?_
      exact W.zret (v := 1) hx hb hr rfl (fun t ht hW => ⟨⟨1, (), rfl, by simp [c_1, c_2], by rw [ht]; exact hP9, va_K.moved hW.alike hK, hD9⟩, hS.F ht⟩) hS.2.2 dX4_has_17

set_option maxHeartbeats 4000000 in
set_option maxRecDepth 100000 in
/-- X4_isOver -/
theorem c_X4_isOver (l : Launch) (dC : Nat → ClassId) (dI : Nat → Nat → Nat) (aC : Nat → ClassId) (sz : Nat) (h1 : Nat) (ek : Nat) (ef : Nat) (ew : Nat) (ep : Nat) (es : Nat) (sz0 : Int32) (sy : Int32) (dn : Int32)  : Met l yX4_isOver (wW yX4_isOver cX4_isOver 1 (some .boolean)) ({ frames := 0, cells := 0, slots := 0, locals := 0 } : Room) (va_Pc [.ref h1] (fun U => U.heap.size = sz ∧ va_P (dC, dI) classes [(h1, .inr (4, [.ref ek, .ref ef, .ref ew, .ref ep, .ref es, .int sz0, .int sy, .int dn]))] U.heap ∧ va_K (dC, dI) classes (TY aC) U ∧ va_D (fun _ => True) [(h1, .inr (4, [.ref ek, .ref ef, .ref ew, .ref ep, .ref es, .int sz0, .int sy, .int dn]))] ∧ NX U)) (va_Qi (fun (r : Int32) (_ : Unit) => r = if sz0 = 0 then 1 else if dn = 0 then 0 else 1) (fun (_ : Unit) (t : State) => va_P (dC, dI) classes [(h1, .inr (4, [.ref ek, .ref ef, .ref ew, .ref ep, .ref es, .int sz0, .int sy, .int dn]))] t.heap ∧ va_K (dC, dI) classes (TY aC) t ∧ va_D (va_A [(h1, .inr (4, [.ref ek, .ref ef, .ref ew, .ref ep, .ref es, .int sz0, .int sy, .int dn]))] sz) [(h1, .inr (4, [.ref ek, .ref ef, .ref ew, .ref ep, .ref es, .int sz0, .int sy, .int dn]))]) (va_A [(h1, .inr (4, [.ref ek, .ref ef, .ref ew, .ref ep, .ref es, .int sz0, .int sy, .int dn]))] sz)) 0 0 (va_A [(h1, .inr (4, [.ref ek, .ref ef, .ref ew, .ref ep, .ref es, .int sz0, .int sy, .int dn]))] sz) := by
  refine Met.ofW (cc := cX4_isOver) (maxL := 1) (ret := (some .boolean)) (by decide) rfl ?_
  intro p e s m args below meth c s₁ B hml hv
  obtain ⟨rfl, hsz, hP, hK, hD0, hN⟩ := hv
  have hx := B.exec
  have hb := B.bytes
  have hr := B.returns
  have hts0 := atoms_spec (ws := (wW yX4_isOver cX4_isOver 1 (some .boolean))) B.pre
  have hts : ∀ w9 ∈ lw_G, w9.before ([.ref h1] : List Value).toArray s = true := fun w9 h9 => hts0 w9 (List.mem_cons_of_mem _ h9)
  have hown : s.vm.findClass RX4 = some m.cls := findClass_of_methodNamed B.named
  have hlocks := B.notSynchronized
  subst hsz
  have hD := hD0.self (sz := s.heap.size)
  generalize hAe : va_A [(h1, .inr (4, [.ref ek, .ref ef, .ref ew, .ref ep, .ref es, .int sz0, .int sy, .int dn]))] s.heap.size = A at hD ⊢
  have hA : ∀ q : Nat, s.heap.size ≤ q → A q := fun q h => by rw [← hAe]; exact Or.inr h
  obtain ⟨H, hHe⟩ : ∃ H : Heap, H = s.heap := ⟨_, rfl⟩
  have hS : va_S A s.heap H [] := by rw [hHe]; exact va_S.rf
  have hP : va_P (dC, dI) classes [(h1, .inr (4, [.ref ek, .ref ef, .ref ew, .ref ep, .ref es, .int sz0, .int sy, .int dn]))] H := by rw [hHe]; exact hP
  have hl := lv_entry ([.ref h1]) (n := 1) (Nat.le_of_ble_eq_true rfl)
  rw [lg_entry_eq]
  generalize (lg_sl ([.ref h1]) ++ List.replicate (1 - (lg_sl ([.ref h1])).length) Slot.unset).toArray = ls at hl ⊢
  have hl : lv_has ls 1 [(0, .ref h1)] := hl
  rw [← hHe]
  refine lv_aload_n hx hb dX4_isOver_0 rfl (lv_at hl 0 rfl) ?_
  refine va_get (D := (dC, dI)) (ci := 4) (v := .int sz0) (C := RX4) (T := TX4) (N := 8) hx hb hts inX4 hown hK hP 0 rfl rfl 5 (by decide) (hts _ (gw kw_48 rfl)) (fun _ h9 => h9) rfl dX4_isOver_1 ?_
  refine lv_if_eq (tgt := 14) hx hb dX4_isOver_4 (by decide) (fun c_1 => ?_) (fun c_1 => ?_)
  · refine lv_iconst (v := 1) hx hb dX4_isOver_14 (by decide) ?_
    refine lv_goto (tgt := 19) hx hb dX4_isOver_15 (by decide) ?_
    have hP9 := hP.sub (ws' := [(h1, .inr (4, [.ref ek, .ref ef, .ref ew, .ref ep, .ref es, .int sz0, .int sy, .int dn]))]) [0] rfl
    have hD9 := hD.sub (ws' := [(h1, .inr (4, [.ref ek, .ref ef, .ref ew, .ref ep, .ref es, .int sz0, .int sy, .int dn]))]) [0] (by decide) rfl
    refine W.widen (k := 0) (n := 0) (by omega) (by omega) ?_
    exact W.zret (v := 1) hx hb hr rfl (fun t ht hW => ⟨⟨1, (), rfl, by simp [c_1], by rw [ht]; exact hP9, va_K.moved hW.alike hK, hD9⟩, hS.F ht⟩) hS.2.2 dX4_isOver_19
  · refine lv_aload_n hx hb dX4_isOver_7 rfl (lv_at hl 0 rfl) ?_
    refine va_get (D := (dC, dI)) (ci := 4) (v := .int dn) (C := RX4) (T := TX4) (N := 8) hx hb hts inX4 hown hK hP 0 rfl rfl 7 (by decide) (hts _ (gw kw_53 rfl)) (fun _ h9 => h9) rfl dX4_isOver_8 ?_
    refine lv_if_eq (tgt := 18) hx hb dX4_isOver_11 (by decide) (fun c_2 => ?_) (fun c_2 => ?_)
    · refine lv_iconst (v := 0) hx hb dX4_isOver_18 (by decide) ?_
      have hP9 := hP.sub (ws' := [(h1, .inr (4, [.ref ek, .ref ef, .ref ew, .ref ep, .ref es, .int sz0, .int sy, .int dn]))]) [0] rfl
      have hD9 := hD.sub (ws' := [(h1, .inr (4, [.ref ek, .ref ef, .ref ew, .ref ep, .ref es, .int sz0, .int sy, .int dn]))]) [0] (by decide) rfl
      refine W.widen (k := 0) (n := 0) (by omega) (by omega) ?_
      exact W.zret (v := 0) hx hb hr rfl (fun t ht hW => ⟨⟨0, (), rfl, by simp [c_1, c_2], by rw [ht]; exact hP9, va_K.moved hW.alike hK, hD9⟩, hS.F ht⟩) hS.2.2 dX4_isOver_19
    · refine lv_iconst (v := 1) hx hb dX4_isOver_14 (by decide) ?_
      refine lv_goto (tgt := 19) hx hb dX4_isOver_15 (by decide) ?_
      have hP9 := hP.sub (ws' := [(h1, .inr (4, [.ref ek, .ref ef, .ref ew, .ref ep, .ref es, .int sz0, .int sy, .int dn]))]) [0] rfl
      have hD9 := hD.sub (ws' := [(h1, .inr (4, [.ref ek, .ref ef, .ref ew, .ref ep, .ref es, .int sz0, .int sy, .int dn]))]) [0] (by decide) rfl
      refine W.widen (k := 0) (n := 0) (by omega) (by omega) ?_
      exact W.zret (v := 1) hx hb hr rfl (fun t ht hW => ⟨⟨1, (), rfl, by simp [c_1, c_2], by rw [ht]; exact hP9, va_K.moved hW.alike hK, hD9⟩, hS.F ht⟩) hS.2.2 dX4_isOver_19

set_option maxHeartbeats 4000000 in
set_option maxRecDepth 100000 in
/-- X12_no -/
theorem c_X12_no (l : Launch) (dC : Nat → ClassId) (dI : Nat → Nat → Nat) (aC : Nat → ClassId) (sz : Nat) (g0 : Nat) (m_refused : Nat) (m_kind : Nat) (m_figure : Nat) (m_weight : Nat) (m_got : Nat) (m_setting : Nat) (m_tape : Nat) (m_letter : Nat) (m_letterAt : Nat) (m_told : Nat) (m_kept : Nat) (m_price : Nat) (m_offer : Nat) (m_gets : Nat) (m_yes : Nat) (m_buys : Nat) (m_ends : Nat) (m_carried : Nat) (m_row : Nat) (m_keptRow : Nat) (m_likeGets : Nat) (m_likePrice : Nat) (m_ahead : Nat) (men : Int32) (msy : Int32) (mdn : Int32) (tp : Int32) (mat : Int32) (stm : Int32) (hi : Int32) (ki : Int32) (cu : Int32) (rm : Int32) (w : Int32) (k : Nat) (mr : Nat → Int32) (hk : (-w).toNatClampNeg = k) (hki : vp_in (-w) 7) : Met l yX12_no (wW yX12_no cX12_no 2 (some .int)) ({ frames := 0, cells := 0, slots := 0, locals := 0 } : Room) (va_Pc [.ref g0, .int w] (fun U => U.heap.size = sz ∧ va_P (dC, dI) classes [(g0, .inr (12, [.ref m_refused, .ref m_kind, .ref m_figure, .ref m_weight, .ref m_got, .ref m_setting, .int men, .int msy, .int mdn, .ref m_tape, .ref m_letter, .ref m_letterAt, .ref m_told, .int tp, .int mat, .int stm, .ref m_kept, .int hi, .int ki, .int cu, .ref m_price, .ref m_offer, .ref m_gets, .ref m_yes, .ref m_buys, .ref m_ends, .ref m_carried, .ref m_row, .int rm, .ref m_keptRow, .ref m_likeGets, .ref m_likePrice, .ref m_ahead])), (m_refused, .inl (aC 0, 7, .inl mr))] U.heap ∧ va_K (dC, dI) classes (TY aC) U ∧ va_D (fun _ => True) [(g0, .inr (12, [.ref m_refused, .ref m_kind, .ref m_figure, .ref m_weight, .ref m_got, .ref m_setting, .int men, .int msy, .int mdn, .ref m_tape, .ref m_letter, .ref m_letterAt, .ref m_told, .int tp, .int mat, .int stm, .ref m_kept, .int hi, .int ki, .int cu, .ref m_price, .ref m_offer, .ref m_gets, .ref m_yes, .ref m_buys, .ref m_ends, .ref m_carried, .ref m_row, .int rm, .ref m_keptRow, .ref m_likeGets, .ref m_likePrice, .ref m_ahead])), (m_refused, .inl (aC 0, 7, .inl mr))] ∧ NX U)) (va_Qi (fun (r : Int32) (mr2 : Nat → Int32) => r = w ∧ mr2 = upd mr k (mr k + 1)) (fun (mr2 : Nat → Int32) (t : State) => va_P (dC, dI) classes [(g0, .inr (12, [.ref m_refused, .ref m_kind, .ref m_figure, .ref m_weight, .ref m_got, .ref m_setting, .int men, .int msy, .int mdn, .ref m_tape, .ref m_letter, .ref m_letterAt, .ref m_told, .int tp, .int mat, .int stm, .ref m_kept, .int hi, .int ki, .int cu, .ref m_price, .ref m_offer, .ref m_gets, .ref m_yes, .ref m_buys, .ref m_ends, .ref m_carried, .ref m_row, .int rm, .ref m_keptRow, .ref m_likeGets, .ref m_likePrice, .ref m_ahead])), (m_refused, .inl (aC 0, 7, .inl mr2))] t.heap ∧ va_K (dC, dI) classes (TY aC) t ∧ va_D (va_A [(g0, .inr (12, [.ref m_refused, .ref m_kind, .ref m_figure, .ref m_weight, .ref m_got, .ref m_setting, .int men, .int msy, .int mdn, .ref m_tape, .ref m_letter, .ref m_letterAt, .ref m_told, .int tp, .int mat, .int stm, .ref m_kept, .int hi, .int ki, .int cu, .ref m_price, .ref m_offer, .ref m_gets, .ref m_yes, .ref m_buys, .ref m_ends, .ref m_carried, .ref m_row, .int rm, .ref m_keptRow, .ref m_likeGets, .ref m_likePrice, .ref m_ahead])), (m_refused, .inl (aC 0, 7, .inl mr))] sz) [(g0, .inr (12, [.ref m_refused, .ref m_kind, .ref m_figure, .ref m_weight, .ref m_got, .ref m_setting, .int men, .int msy, .int mdn, .ref m_tape, .ref m_letter, .ref m_letterAt, .ref m_told, .int tp, .int mat, .int stm, .ref m_kept, .int hi, .int ki, .int cu, .ref m_price, .ref m_offer, .ref m_gets, .ref m_yes, .ref m_buys, .ref m_ends, .ref m_carried, .ref m_row, .int rm, .ref m_keptRow, .ref m_likeGets, .ref m_likePrice, .ref m_ahead])), (m_refused, .inl (aC 0, 7, .inl mr2))]) (va_A [(g0, .inr (12, [.ref m_refused, .ref m_kind, .ref m_figure, .ref m_weight, .ref m_got, .ref m_setting, .int men, .int msy, .int mdn, .ref m_tape, .ref m_letter, .ref m_letterAt, .ref m_told, .int tp, .int mat, .int stm, .ref m_kept, .int hi, .int ki, .int cu, .ref m_price, .ref m_offer, .ref m_gets, .ref m_yes, .ref m_buys, .ref m_ends, .ref m_carried, .ref m_row, .int rm, .ref m_keptRow, .ref m_likeGets, .ref m_likePrice, .ref m_ahead])), (m_refused, .inl (aC 0, 7, .inl mr))] sz)) 0 0 (va_A [(g0, .inr (12, [.ref m_refused, .ref m_kind, .ref m_figure, .ref m_weight, .ref m_got, .ref m_setting, .int men, .int msy, .int mdn, .ref m_tape, .ref m_letter, .ref m_letterAt, .ref m_told, .int tp, .int mat, .int stm, .ref m_kept, .int hi, .int ki, .int cu, .ref m_price, .ref m_offer, .ref m_gets, .ref m_yes, .ref m_buys, .ref m_ends, .ref m_carried, .ref m_row, .int rm, .ref m_keptRow, .ref m_likeGets, .ref m_likePrice, .ref m_ahead])), (m_refused, .inl (aC 0, 7, .inl mr))] sz) := by
  refine Met.ofW (cc := cX12_no) (maxL := 2) (ret := (some .int)) (by decide) rfl ?_
  intro p e s m args below meth c s₁ B hml hv
  obtain ⟨rfl, hsz, hP, hK, hD0, hN⟩ := hv
  have hx := B.exec
  have hb := B.bytes
  have hr := B.returns
  have hts0 := atoms_spec (ws := (wW yX12_no cX12_no 2 (some .int))) B.pre
  have hts : ∀ w9 ∈ lw_G, w9.before ([.ref g0, .int w] : List Value).toArray s = true := fun w9 h9 => hts0 w9 (List.mem_cons_of_mem _ h9)
  have hown : s.vm.findClass RX12 = some m.cls := findClass_of_methodNamed B.named
  have hlocks := B.notSynchronized
  subst hsz
  have hD := hD0.self (sz := s.heap.size)
  generalize hAe : va_A [(g0, .inr (12, [.ref m_refused, .ref m_kind, .ref m_figure, .ref m_weight, .ref m_got, .ref m_setting, .int men, .int msy, .int mdn, .ref m_tape, .ref m_letter, .ref m_letterAt, .ref m_told, .int tp, .int mat, .int stm, .ref m_kept, .int hi, .int ki, .int cu, .ref m_price, .ref m_offer, .ref m_gets, .ref m_yes, .ref m_buys, .ref m_ends, .ref m_carried, .ref m_row, .int rm, .ref m_keptRow, .ref m_likeGets, .ref m_likePrice, .ref m_ahead])), (m_refused, .inl (aC 0, 7, .inl mr))] s.heap.size = A at hD ⊢
  have hA : ∀ q : Nat, s.heap.size ≤ q → A q := fun q h => by rw [← hAe]; exact Or.inr h
  obtain ⟨H, hHe⟩ : ∃ H : Heap, H = s.heap := ⟨_, rfl⟩
  have hS : va_S A s.heap H [] := by rw [hHe]; exact va_S.rf
  have hP : va_P (dC, dI) classes [(g0, .inr (12, [.ref m_refused, .ref m_kind, .ref m_figure, .ref m_weight, .ref m_got, .ref m_setting, .int men, .int msy, .int mdn, .ref m_tape, .ref m_letter, .ref m_letterAt, .ref m_told, .int tp, .int mat, .int stm, .ref m_kept, .int hi, .int ki, .int cu, .ref m_price, .ref m_offer, .ref m_gets, .ref m_yes, .ref m_buys, .ref m_ends, .ref m_carried, .ref m_row, .int rm, .ref m_keptRow, .ref m_likeGets, .ref m_likePrice, .ref m_ahead])), (m_refused, .inl (aC 0, 7, .inl mr))] H := by rw [hHe]; exact hP
  have hl := lv_entry ([.ref g0, .int w]) (n := 2) (Nat.le_of_ble_eq_true rfl)
  rw [lg_entry_eq]
  generalize (lg_sl ([.ref g0, .int w]) ++ List.replicate (2 - (lg_sl ([.ref g0, .int w])).length) Slot.unset).toArray = ls at hl ⊢
  have hl : lv_has ls 2 [(0, .ref g0), (1, .int w)] := hl
  rw [← hHe]
  refine lv_aload_n hx hb dX12_no_0 rfl (lv_at hl 0 rfl) ?_
  refine va_get (D := (dC, dI)) (ci := 12) (v := .ref m_refused) (C := RX12) (T := TX12) (N := 33) hx hb hts inX12 hown hK hP 0 rfl rfl 0 (by decide) (hts _ (gw kw_717 rfl)) (fun _ h9 => h9) rfl dX12_no_1 ?_
  refine lv_iload_n hx hb dX12_no_4 rfl (lv_at hl 1 rfl) ?_
  refine lv_ineg hx hb dX12_no_5 ?_
  refine lv_topi (fun x_1 e_1 => ?_)
  refine lv_dup2_11 hx hb dX12_no_6 rfl rfl ?_
  have h_2 : vp_in x_1 7 := by rw [e_1]; exact hki
  refine va_iald hx hb hK hP 1 0 rfl rfl h_2 dX12_no_7 ?_
  refine lv_topi (fun x_3 e_3 => ?_)
  refine lv_iconst (v := 1) hx hb dX12_no_8 (by decide) ?_
  refine lv_iadd hx hb dX12_no_9 ?_
  refine lv_topi (fun x_4 e_4 => ?_)
  have h_5 : vp_in x_1 7 := by rw [e_1]; exact hki
  refine va_iast hx hb hK hP hD hS 1 0 rfl rfl h_5 dX12_no_10 (fun H locs hP hD hS => ?_)
  obtain ⟨f_6, e_f_6⟩ : ∃ y : Nat → Int32, y = upd mr (x_1 : Int32).toNatClampNeg x_4 := ⟨_, rfl⟩
  have hP : va_P (dC, dI) classes [(g0, .inr (12, [.ref m_refused, .ref m_kind, .ref m_figure, .ref m_weight, .ref m_got, .ref m_setting, .int men, .int msy, .int mdn, .ref m_tape, .ref m_letter, .ref m_letterAt, .ref m_told, .int tp, .int mat, .int stm, .ref m_kept, .int hi, .int ki, .int cu, .ref m_price, .ref m_offer, .ref m_gets, .ref m_yes, .ref m_buys, .ref m_ends, .ref m_carried, .ref m_row, .int rm, .ref m_keptRow, .ref m_likeGets, .ref m_likePrice, .ref m_ahead])), (m_refused, .inl (aC 0, 7, .inl f_6))] H := by rw [e_f_6]; exact hP
  have hD : va_D A [(g0, .inr (12, [.ref m_refused, .ref m_kind, .ref m_figure, .ref m_weight, .ref m_got, .ref m_setting, .int men, .int msy, .int mdn, .ref m_tape, .ref m_letter, .ref m_letterAt, .ref m_told, .int tp, .int mat, .int stm, .ref m_kept, .int hi, .int ki, .int cu, .ref m_price, .ref m_offer, .ref m_gets, .ref m_yes, .ref m_buys, .ref m_ends, .ref m_carried, .ref m_row, .int rm, .ref m_keptRow, .ref m_likeGets, .ref m_likePrice, .ref m_ahead])), (m_refused, .inl (aC 0, 7, .inl f_6))] := by rw [e_f_6]; exact hD
  refine lv_iload_n hx hb dX12_no_11 rfl (lv_at hl 1 rfl) ?_
  have hP9 := hP.sub (ws' := [(g0, .inr (12, [.ref m_refused, .ref m_kind, .ref m_figure, .ref m_weight, .ref m_got, .ref m_setting, .int men, .int msy, .int mdn, .ref m_tape, .ref m_letter, .ref m_letterAt, .ref m_told, .int tp, .int mat, .int stm, .ref m_kept, .int hi, .int ki, .int cu, .ref m_price, .ref m_offer, .ref m_gets, .ref m_yes, .ref m_buys, .ref m_ends, .ref m_carried, .ref m_row, .int rm, .ref m_keptRow, .ref m_likeGets, .ref m_likePrice, .ref m_ahead])), (m_refused, .inl (aC 0, 7, .inl f_6))]) [0, 1] rfl
  have hD9 := hD.sub (ws' := [(g0, .inr (12, [.ref m_refused, .ref m_kind, .ref m_figure, .ref m_weight, .ref m_got, .ref m_setting, .int men, .int msy, .int mdn, .ref m_tape, .ref m_letter, .ref m_letterAt, .ref m_told, .int tp, .int mat, .int stm, .ref m_kept, .int hi, .int ki, .int cu, .ref m_price, .ref m_offer, .ref m_gets, .ref m_yes, .ref m_buys, .ref m_ends, .ref m_carried, .ref m_row, .int rm, .ref m_keptRow, .ref m_likeGets, .ref m_likePrice, .ref m_ahead])), (m_refused, .inl (aC 0, 7, .inl f_6))]) [0, 1] (by decide) rfl
  refine W.widen (k := 0) (n := 0) (by omega) (by omega) ?_
  exact W.iret (v := w) hx hb hr (fun t ht hW => ⟨⟨w, (f_6), rfl, ⟨by subst e_f_6; subst e_4; subst e_3; subst e_1; rfl, by subst e_f_6; subst e_4; subst e_3; subst e_1; rw [hk]⟩, by rw [ht]; exact hP9, va_K.moved hW.alike hK, hD9⟩, hS.F ht⟩) hS.2.2 dX12_no_12

set_option maxHeartbeats 4000000 in
set_option maxRecDepth 100000 in
/-- X12_lower -/
theorem c_X12_lower (l : Launch) (dC : Nat → ClassId) (dI : Nat → Nat → Nat) (aC : Nat → ClassId) (sz : Nat) (g0 : Nat) (m_refused : Nat) (m_kind : Nat) (m_figure : Nat) (m_weight : Nat) (m_got : Nat) (m_setting : Nat) (m_tape : Nat) (m_letter : Nat) (m_letterAt : Nat) (m_told : Nat) (m_kept : Nat) (m_price : Nat) (m_offer : Nat) (m_gets : Nat) (m_yes : Nat) (m_buys : Nat) (m_ends : Nat) (m_carried : Nat) (m_row : Nat) (m_keptRow : Nat) (m_likeGets : Nat) (m_likePrice : Nat) (m_ahead : Nat) (men : Int32) (msy : Int32) (mdn : Int32) (tp : Int32) (mat : Int32) (stm : Int32) (hi : Int32) (ki : Int32) (cu : Int32) (rm : Int32) (w : Int32) (k : Nat) (mr : Nat → Int32) (hk : (-w).toNatClampNeg = k) (hki : vp_in (-w) 7) : Met l yX12_lower (wW yX12_lower cX12_lower 2 (some .int)) ({ frames := 0, cells := 0, slots := 0, locals := 0 } : Room) (va_Pc [.ref g0, .int w] (fun U => U.heap.size = sz ∧ va_P (dC, dI) classes [(g0, .inr (12, [.ref m_refused, .ref m_kind, .ref m_figure, .ref m_weight, .ref m_got, .ref m_setting, .int men, .int msy, .int mdn, .ref m_tape, .ref m_letter, .ref m_letterAt, .ref m_told, .int tp, .int mat, .int stm, .ref m_kept, .int hi, .int ki, .int cu, .ref m_price, .ref m_offer, .ref m_gets, .ref m_yes, .ref m_buys, .ref m_ends, .ref m_carried, .ref m_row, .int rm, .ref m_keptRow, .ref m_likeGets, .ref m_likePrice, .ref m_ahead])), (m_refused, .inl (aC 0, 7, .inl mr))] U.heap ∧ va_K (dC, dI) classes (TY aC) U ∧ va_D (fun _ => True) [(g0, .inr (12, [.ref m_refused, .ref m_kind, .ref m_figure, .ref m_weight, .ref m_got, .ref m_setting, .int men, .int msy, .int mdn, .ref m_tape, .ref m_letter, .ref m_letterAt, .ref m_told, .int tp, .int mat, .int stm, .ref m_kept, .int hi, .int ki, .int cu, .ref m_price, .ref m_offer, .ref m_gets, .ref m_yes, .ref m_buys, .ref m_ends, .ref m_carried, .ref m_row, .int rm, .ref m_keptRow, .ref m_likeGets, .ref m_likePrice, .ref m_ahead])), (m_refused, .inl (aC 0, 7, .inl mr))] ∧ NX U)) (va_Qi (fun (r : Int32) (mr2 : Nat → Int32) => r = 1000000000 - w ∧ mr2 = upd mr k (mr k + 1)) (fun (mr2 : Nat → Int32) (t : State) => va_P (dC, dI) classes [(g0, .inr (12, [.ref m_refused, .ref m_kind, .ref m_figure, .ref m_weight, .ref m_got, .ref m_setting, .int men, .int msy, .int mdn, .ref m_tape, .ref m_letter, .ref m_letterAt, .ref m_told, .int tp, .int mat, .int stm, .ref m_kept, .int hi, .int ki, .int cu, .ref m_price, .ref m_offer, .ref m_gets, .ref m_yes, .ref m_buys, .ref m_ends, .ref m_carried, .ref m_row, .int rm, .ref m_keptRow, .ref m_likeGets, .ref m_likePrice, .ref m_ahead])), (m_refused, .inl (aC 0, 7, .inl mr2))] t.heap ∧ va_K (dC, dI) classes (TY aC) t ∧ va_D (va_A [(g0, .inr (12, [.ref m_refused, .ref m_kind, .ref m_figure, .ref m_weight, .ref m_got, .ref m_setting, .int men, .int msy, .int mdn, .ref m_tape, .ref m_letter, .ref m_letterAt, .ref m_told, .int tp, .int mat, .int stm, .ref m_kept, .int hi, .int ki, .int cu, .ref m_price, .ref m_offer, .ref m_gets, .ref m_yes, .ref m_buys, .ref m_ends, .ref m_carried, .ref m_row, .int rm, .ref m_keptRow, .ref m_likeGets, .ref m_likePrice, .ref m_ahead])), (m_refused, .inl (aC 0, 7, .inl mr))] sz) [(g0, .inr (12, [.ref m_refused, .ref m_kind, .ref m_figure, .ref m_weight, .ref m_got, .ref m_setting, .int men, .int msy, .int mdn, .ref m_tape, .ref m_letter, .ref m_letterAt, .ref m_told, .int tp, .int mat, .int stm, .ref m_kept, .int hi, .int ki, .int cu, .ref m_price, .ref m_offer, .ref m_gets, .ref m_yes, .ref m_buys, .ref m_ends, .ref m_carried, .ref m_row, .int rm, .ref m_keptRow, .ref m_likeGets, .ref m_likePrice, .ref m_ahead])), (m_refused, .inl (aC 0, 7, .inl mr2))]) (va_A [(g0, .inr (12, [.ref m_refused, .ref m_kind, .ref m_figure, .ref m_weight, .ref m_got, .ref m_setting, .int men, .int msy, .int mdn, .ref m_tape, .ref m_letter, .ref m_letterAt, .ref m_told, .int tp, .int mat, .int stm, .ref m_kept, .int hi, .int ki, .int cu, .ref m_price, .ref m_offer, .ref m_gets, .ref m_yes, .ref m_buys, .ref m_ends, .ref m_carried, .ref m_row, .int rm, .ref m_keptRow, .ref m_likeGets, .ref m_likePrice, .ref m_ahead])), (m_refused, .inl (aC 0, 7, .inl mr))] sz)) 0 0 (va_A [(g0, .inr (12, [.ref m_refused, .ref m_kind, .ref m_figure, .ref m_weight, .ref m_got, .ref m_setting, .int men, .int msy, .int mdn, .ref m_tape, .ref m_letter, .ref m_letterAt, .ref m_told, .int tp, .int mat, .int stm, .ref m_kept, .int hi, .int ki, .int cu, .ref m_price, .ref m_offer, .ref m_gets, .ref m_yes, .ref m_buys, .ref m_ends, .ref m_carried, .ref m_row, .int rm, .ref m_keptRow, .ref m_likeGets, .ref m_likePrice, .ref m_ahead])), (m_refused, .inl (aC 0, 7, .inl mr))] sz) := by
  refine Met.ofW (cc := cX12_lower) (maxL := 2) (ret := (some .int)) (by decide) rfl ?_
  intro p e s m args below meth c s₁ B hml hv
  obtain ⟨rfl, hsz, hP, hK, hD0, hN⟩ := hv
  have hx := B.exec
  have hb := B.bytes
  have hr := B.returns
  have hts0 := atoms_spec (ws := (wW yX12_lower cX12_lower 2 (some .int))) B.pre
  have hts : ∀ w9 ∈ lw_G, w9.before ([.ref g0, .int w] : List Value).toArray s = true := fun w9 h9 => hts0 w9 (List.mem_cons_of_mem _ h9)
  have hown : s.vm.findClass RX12 = some m.cls := findClass_of_methodNamed B.named
  have hlocks := B.notSynchronized
  subst hsz
  have hD := hD0.self (sz := s.heap.size)
  generalize hAe : va_A [(g0, .inr (12, [.ref m_refused, .ref m_kind, .ref m_figure, .ref m_weight, .ref m_got, .ref m_setting, .int men, .int msy, .int mdn, .ref m_tape, .ref m_letter, .ref m_letterAt, .ref m_told, .int tp, .int mat, .int stm, .ref m_kept, .int hi, .int ki, .int cu, .ref m_price, .ref m_offer, .ref m_gets, .ref m_yes, .ref m_buys, .ref m_ends, .ref m_carried, .ref m_row, .int rm, .ref m_keptRow, .ref m_likeGets, .ref m_likePrice, .ref m_ahead])), (m_refused, .inl (aC 0, 7, .inl mr))] s.heap.size = A at hD ⊢
  have hA : ∀ q : Nat, s.heap.size ≤ q → A q := fun q h => by rw [← hAe]; exact Or.inr h
  obtain ⟨H, hHe⟩ : ∃ H : Heap, H = s.heap := ⟨_, rfl⟩
  have hS : va_S A s.heap H [] := by rw [hHe]; exact va_S.rf
  have hP : va_P (dC, dI) classes [(g0, .inr (12, [.ref m_refused, .ref m_kind, .ref m_figure, .ref m_weight, .ref m_got, .ref m_setting, .int men, .int msy, .int mdn, .ref m_tape, .ref m_letter, .ref m_letterAt, .ref m_told, .int tp, .int mat, .int stm, .ref m_kept, .int hi, .int ki, .int cu, .ref m_price, .ref m_offer, .ref m_gets, .ref m_yes, .ref m_buys, .ref m_ends, .ref m_carried, .ref m_row, .int rm, .ref m_keptRow, .ref m_likeGets, .ref m_likePrice, .ref m_ahead])), (m_refused, .inl (aC 0, 7, .inl mr))] H := by rw [hHe]; exact hP
  have hl := lv_entry ([.ref g0, .int w]) (n := 2) (Nat.le_of_ble_eq_true rfl)
  rw [lg_entry_eq]
  generalize (lg_sl ([.ref g0, .int w]) ++ List.replicate (2 - (lg_sl ([.ref g0, .int w])).length) Slot.unset).toArray = ls at hl ⊢
  have hl : lv_has ls 2 [(0, .ref g0), (1, .int w)] := hl
  rw [← hHe]
  refine lv_aload_n hx hb dX12_lower_0 rfl (lv_at hl 0 rfl) ?_
  refine va_get (D := (dC, dI)) (ci := 12) (v := .ref m_refused) (C := RX12) (T := TX12) (N := 33) hx hb hts inX12 hown hK hP 0 rfl rfl 0 (by decide) (hts _ (gw kw_717 rfl)) (fun _ h9 => h9) rfl dX12_lower_1 ?_
  refine lv_iload_n hx hb dX12_lower_4 rfl (lv_at hl 1 rfl) ?_
  refine lv_ineg hx hb dX12_lower_5 ?_
  refine lv_topi (fun x_1 e_1 => ?_)
  refine lv_dup2_11 hx hb dX12_lower_6 rfl rfl ?_
  have h_2 : vp_in x_1 7 := by rw [e_1]; exact hki
  refine va_iald hx hb hK hP 1 0 rfl rfl h_2 dX12_lower_7 ?_
  refine lv_topi (fun x_3 e_3 => ?_)
  refine lv_iconst (v := 1) hx hb dX12_lower_8 (by decide) ?_
  refine lv_iadd hx hb dX12_lower_9 ?_
  refine lv_topi (fun x_4 e_4 => ?_)
  have h_5 : vp_in x_1 7 := by rw [e_1]; exact hki
  refine va_iast hx hb hK hP hD hS 1 0 rfl rfl h_5 dX12_lower_10 (fun H locs hP hD hS => ?_)
  obtain ⟨f_6, e_f_6⟩ : ∃ y : Nat → Int32, y = upd mr (x_1 : Int32).toNatClampNeg x_4 := ⟨_, rfl⟩
  have hP : va_P (dC, dI) classes [(g0, .inr (12, [.ref m_refused, .ref m_kind, .ref m_figure, .ref m_weight, .ref m_got, .ref m_setting, .int men, .int msy, .int mdn, .ref m_tape, .ref m_letter, .ref m_letterAt, .ref m_told, .int tp, .int mat, .int stm, .ref m_kept, .int hi, .int ki, .int cu, .ref m_price, .ref m_offer, .ref m_gets, .ref m_yes, .ref m_buys, .ref m_ends, .ref m_carried, .ref m_row, .int rm, .ref m_keptRow, .ref m_likeGets, .ref m_likePrice, .ref m_ahead])), (m_refused, .inl (aC 0, 7, .inl f_6))] H := by rw [e_f_6]; exact hP
  have hD : va_D A [(g0, .inr (12, [.ref m_refused, .ref m_kind, .ref m_figure, .ref m_weight, .ref m_got, .ref m_setting, .int men, .int msy, .int mdn, .ref m_tape, .ref m_letter, .ref m_letterAt, .ref m_told, .int tp, .int mat, .int stm, .ref m_kept, .int hi, .int ki, .int cu, .ref m_price, .ref m_offer, .ref m_gets, .ref m_yes, .ref m_buys, .ref m_ends, .ref m_carried, .ref m_row, .int rm, .ref m_keptRow, .ref m_likeGets, .ref m_likePrice, .ref m_ahead])), (m_refused, .inl (aC 0, 7, .inl f_6))] := by rw [e_f_6]; exact hD
  refine lv_ldc hx hb hown (hts _ (gw kw_974 rfl)) dX12_lower_11 ?_
  refine lv_iload_n hx hb dX12_lower_13 rfl (lv_at hl 1 rfl) ?_
  refine lv_isub hx hb dX12_lower_14 ?_
  refine lv_topi (fun x_7 e_7 => ?_)
  have hP9 := hP.sub (ws' := [(g0, .inr (12, [.ref m_refused, .ref m_kind, .ref m_figure, .ref m_weight, .ref m_got, .ref m_setting, .int men, .int msy, .int mdn, .ref m_tape, .ref m_letter, .ref m_letterAt, .ref m_told, .int tp, .int mat, .int stm, .ref m_kept, .int hi, .int ki, .int cu, .ref m_price, .ref m_offer, .ref m_gets, .ref m_yes, .ref m_buys, .ref m_ends, .ref m_carried, .ref m_row, .int rm, .ref m_keptRow, .ref m_likeGets, .ref m_likePrice, .ref m_ahead])), (m_refused, .inl (aC 0, 7, .inl f_6))]) [0, 1] rfl
  have hD9 := hD.sub (ws' := [(g0, .inr (12, [.ref m_refused, .ref m_kind, .ref m_figure, .ref m_weight, .ref m_got, .ref m_setting, .int men, .int msy, .int mdn, .ref m_tape, .ref m_letter, .ref m_letterAt, .ref m_told, .int tp, .int mat, .int stm, .ref m_kept, .int hi, .int ki, .int cu, .ref m_price, .ref m_offer, .ref m_gets, .ref m_yes, .ref m_buys, .ref m_ends, .ref m_carried, .ref m_row, .int rm, .ref m_keptRow, .ref m_likeGets, .ref m_likePrice, .ref m_ahead])), (m_refused, .inl (aC 0, 7, .inl f_6))]) [0, 1] (by decide) rfl
  refine W.widen (k := 0) (n := 0) (by omega) (by omega) ?_
  exact W.iret (v := x_7) hx hb hr (fun t ht hW => ⟨⟨x_7, (f_6), rfl, ⟨by subst e_7; subst e_f_6; subst e_4; subst e_3; subst e_1; rfl, by subst e_7; subst e_f_6; subst e_4; subst e_3; subst e_1; rw [hk]⟩, by rw [ht]; exact hP9, va_K.moved hW.alike hK, hD9⟩, hS.F ht⟩) hS.2.2 dX12_lower_15

set_option maxHeartbeats 4000000 in
set_option maxRecDepth 100000 in
/-- X12_lowest -/
theorem c_X12_lowest (l : Launch) (dC : Nat → ClassId) (dI : Nat → Nat → Nat) (aC : Nat → ClassId) (sz : Nat) (g0 : Nat) (m_refused : Nat) (m_kind : Nat) (m_figure : Nat) (m_weight : Nat) (m_got : Nat) (m_setting : Nat) (m_tape : Nat) (m_letter : Nat) (m_letterAt : Nat) (m_told : Nat) (m_kept : Nat) (m_price : Nat) (m_offer : Nat) (m_gets : Nat) (m_yes : Nat) (m_buys : Nat) (m_ends : Nat) (m_carried : Nat) (m_row : Nat) (m_keptRow : Nat) (m_likeGets : Nat) (m_likePrice : Nat) (m_ahead : Nat) (men : Int32) (msy : Int32) (mdn : Int32) (tp : Int32) (mat : Int32) (stm : Int32) (hi : Int32) (ki : Int32) (cu : Int32) (rm : Int32) (w : Int32) (k : Nat) (mr : Nat → Int32) (hk : (-w).toNatClampNeg = k) (hki : vp_in (-w) 7) : Met l yX12_lowest (wW yX12_lowest cX12_lowest 2 (some .long)) ({ frames := 0, cells := 0, slots := 0, locals := 0 } : Room) (va_Pc [.ref g0, .int w] (fun U => U.heap.size = sz ∧ va_P (dC, dI) classes [(g0, .inr (12, [.ref m_refused, .ref m_kind, .ref m_figure, .ref m_weight, .ref m_got, .ref m_setting, .int men, .int msy, .int mdn, .ref m_tape, .ref m_letter, .ref m_letterAt, .ref m_told, .int tp, .int mat, .int stm, .ref m_kept, .int hi, .int ki, .int cu, .ref m_price, .ref m_offer, .ref m_gets, .ref m_yes, .ref m_buys, .ref m_ends, .ref m_carried, .ref m_row, .int rm, .ref m_keptRow, .ref m_likeGets, .ref m_likePrice, .ref m_ahead])), (m_refused, .inl (aC 0, 7, .inl mr))] U.heap ∧ va_K (dC, dI) classes (TY aC) U ∧ va_D (fun _ => True) [(g0, .inr (12, [.ref m_refused, .ref m_kind, .ref m_figure, .ref m_weight, .ref m_got, .ref m_setting, .int men, .int msy, .int mdn, .ref m_tape, .ref m_letter, .ref m_letterAt, .ref m_told, .int tp, .int mat, .int stm, .ref m_kept, .int hi, .int ki, .int cu, .ref m_price, .ref m_offer, .ref m_gets, .ref m_yes, .ref m_buys, .ref m_ends, .ref m_carried, .ref m_row, .int rm, .ref m_keptRow, .ref m_likeGets, .ref m_likePrice, .ref m_ahead])), (m_refused, .inl (aC 0, 7, .inl mr))] ∧ NX U)) (va_Ql (fun (r : Int64) (mr2 : Nat → Int32) => r = 4000000000000000000 - w.toInt64 ∧ mr2 = upd mr k (mr k + 1)) (fun (mr2 : Nat → Int32) (t : State) => va_P (dC, dI) classes [(g0, .inr (12, [.ref m_refused, .ref m_kind, .ref m_figure, .ref m_weight, .ref m_got, .ref m_setting, .int men, .int msy, .int mdn, .ref m_tape, .ref m_letter, .ref m_letterAt, .ref m_told, .int tp, .int mat, .int stm, .ref m_kept, .int hi, .int ki, .int cu, .ref m_price, .ref m_offer, .ref m_gets, .ref m_yes, .ref m_buys, .ref m_ends, .ref m_carried, .ref m_row, .int rm, .ref m_keptRow, .ref m_likeGets, .ref m_likePrice, .ref m_ahead])), (m_refused, .inl (aC 0, 7, .inl mr2))] t.heap ∧ va_K (dC, dI) classes (TY aC) t ∧ va_D (va_A [(g0, .inr (12, [.ref m_refused, .ref m_kind, .ref m_figure, .ref m_weight, .ref m_got, .ref m_setting, .int men, .int msy, .int mdn, .ref m_tape, .ref m_letter, .ref m_letterAt, .ref m_told, .int tp, .int mat, .int stm, .ref m_kept, .int hi, .int ki, .int cu, .ref m_price, .ref m_offer, .ref m_gets, .ref m_yes, .ref m_buys, .ref m_ends, .ref m_carried, .ref m_row, .int rm, .ref m_keptRow, .ref m_likeGets, .ref m_likePrice, .ref m_ahead])), (m_refused, .inl (aC 0, 7, .inl mr))] sz) [(g0, .inr (12, [.ref m_refused, .ref m_kind, .ref m_figure, .ref m_weight, .ref m_got, .ref m_setting, .int men, .int msy, .int mdn, .ref m_tape, .ref m_letter, .ref m_letterAt, .ref m_told, .int tp, .int mat, .int stm, .ref m_kept, .int hi, .int ki, .int cu, .ref m_price, .ref m_offer, .ref m_gets, .ref m_yes, .ref m_buys, .ref m_ends, .ref m_carried, .ref m_row, .int rm, .ref m_keptRow, .ref m_likeGets, .ref m_likePrice, .ref m_ahead])), (m_refused, .inl (aC 0, 7, .inl mr2))]) (va_A [(g0, .inr (12, [.ref m_refused, .ref m_kind, .ref m_figure, .ref m_weight, .ref m_got, .ref m_setting, .int men, .int msy, .int mdn, .ref m_tape, .ref m_letter, .ref m_letterAt, .ref m_told, .int tp, .int mat, .int stm, .ref m_kept, .int hi, .int ki, .int cu, .ref m_price, .ref m_offer, .ref m_gets, .ref m_yes, .ref m_buys, .ref m_ends, .ref m_carried, .ref m_row, .int rm, .ref m_keptRow, .ref m_likeGets, .ref m_likePrice, .ref m_ahead])), (m_refused, .inl (aC 0, 7, .inl mr))] sz)) 0 0 (va_A [(g0, .inr (12, [.ref m_refused, .ref m_kind, .ref m_figure, .ref m_weight, .ref m_got, .ref m_setting, .int men, .int msy, .int mdn, .ref m_tape, .ref m_letter, .ref m_letterAt, .ref m_told, .int tp, .int mat, .int stm, .ref m_kept, .int hi, .int ki, .int cu, .ref m_price, .ref m_offer, .ref m_gets, .ref m_yes, .ref m_buys, .ref m_ends, .ref m_carried, .ref m_row, .int rm, .ref m_keptRow, .ref m_likeGets, .ref m_likePrice, .ref m_ahead])), (m_refused, .inl (aC 0, 7, .inl mr))] sz) := by
  refine Met.ofW (cc := cX12_lowest) (maxL := 2) (ret := (some .long)) (by decide) rfl ?_
  intro p e s m args below meth c s₁ B hml hv
  obtain ⟨rfl, hsz, hP, hK, hD0, hN⟩ := hv
  have hx := B.exec
  have hb := B.bytes
  have hr := B.returns
  have hts0 := atoms_spec (ws := (wW yX12_lowest cX12_lowest 2 (some .long))) B.pre
  have hts : ∀ w9 ∈ lw_G, w9.before ([.ref g0, .int w] : List Value).toArray s = true := fun w9 h9 => hts0 w9 (List.mem_cons_of_mem _ h9)
  have hown : s.vm.findClass RX12 = some m.cls := findClass_of_methodNamed B.named
  have hlocks := B.notSynchronized
  subst hsz
  have hD := hD0.self (sz := s.heap.size)
  generalize hAe : va_A [(g0, .inr (12, [.ref m_refused, .ref m_kind, .ref m_figure, .ref m_weight, .ref m_got, .ref m_setting, .int men, .int msy, .int mdn, .ref m_tape, .ref m_letter, .ref m_letterAt, .ref m_told, .int tp, .int mat, .int stm, .ref m_kept, .int hi, .int ki, .int cu, .ref m_price, .ref m_offer, .ref m_gets, .ref m_yes, .ref m_buys, .ref m_ends, .ref m_carried, .ref m_row, .int rm, .ref m_keptRow, .ref m_likeGets, .ref m_likePrice, .ref m_ahead])), (m_refused, .inl (aC 0, 7, .inl mr))] s.heap.size = A at hD ⊢
  have hA : ∀ q : Nat, s.heap.size ≤ q → A q := fun q h => by rw [← hAe]; exact Or.inr h
  obtain ⟨H, hHe⟩ : ∃ H : Heap, H = s.heap := ⟨_, rfl⟩
  have hS : va_S A s.heap H [] := by rw [hHe]; exact va_S.rf
  have hP : va_P (dC, dI) classes [(g0, .inr (12, [.ref m_refused, .ref m_kind, .ref m_figure, .ref m_weight, .ref m_got, .ref m_setting, .int men, .int msy, .int mdn, .ref m_tape, .ref m_letter, .ref m_letterAt, .ref m_told, .int tp, .int mat, .int stm, .ref m_kept, .int hi, .int ki, .int cu, .ref m_price, .ref m_offer, .ref m_gets, .ref m_yes, .ref m_buys, .ref m_ends, .ref m_carried, .ref m_row, .int rm, .ref m_keptRow, .ref m_likeGets, .ref m_likePrice, .ref m_ahead])), (m_refused, .inl (aC 0, 7, .inl mr))] H := by rw [hHe]; exact hP
  have hl := lv_entry ([.ref g0, .int w]) (n := 2) (Nat.le_of_ble_eq_true rfl)
  rw [lg_entry_eq]
  generalize (lg_sl ([.ref g0, .int w]) ++ List.replicate (2 - (lg_sl ([.ref g0, .int w])).length) Slot.unset).toArray = ls at hl ⊢
  have hl : lv_has ls 2 [(0, .ref g0), (1, .int w)] := hl
  rw [← hHe]
  refine lv_aload_n hx hb dX12_lowest_0 rfl (lv_at hl 0 rfl) ?_
  refine va_get (D := (dC, dI)) (ci := 12) (v := .ref m_refused) (C := RX12) (T := TX12) (N := 33) hx hb hts inX12 hown hK hP 0 rfl rfl 0 (by decide) (hts _ (gw kw_717 rfl)) (fun _ h9 => h9) rfl dX12_lowest_1 ?_
  refine lv_iload_n hx hb dX12_lowest_4 rfl (lv_at hl 1 rfl) ?_
  refine lv_ineg hx hb dX12_lowest_5 ?_
  refine lv_topi (fun x_1 e_1 => ?_)
  refine lv_dup2_11 hx hb dX12_lowest_6 rfl rfl ?_
  have h_2 : vp_in x_1 7 := by rw [e_1]; exact hki
  refine va_iald hx hb hK hP 1 0 rfl rfl h_2 dX12_lowest_7 ?_
  refine lv_topi (fun x_3 e_3 => ?_)
  refine lv_iconst (v := 1) hx hb dX12_lowest_8 (by decide) ?_
  refine lv_iadd hx hb dX12_lowest_9 ?_
  refine lv_topi (fun x_4 e_4 => ?_)
  have h_5 : vp_in x_1 7 := by rw [e_1]; exact hki
  refine va_iast hx hb hK hP hD hS 1 0 rfl rfl h_5 dX12_lowest_10 (fun H locs hP hD hS => ?_)
  obtain ⟨f_6, e_f_6⟩ : ∃ y : Nat → Int32, y = upd mr (x_1 : Int32).toNatClampNeg x_4 := ⟨_, rfl⟩
  have hP : va_P (dC, dI) classes [(g0, .inr (12, [.ref m_refused, .ref m_kind, .ref m_figure, .ref m_weight, .ref m_got, .ref m_setting, .int men, .int msy, .int mdn, .ref m_tape, .ref m_letter, .ref m_letterAt, .ref m_told, .int tp, .int mat, .int stm, .ref m_kept, .int hi, .int ki, .int cu, .ref m_price, .ref m_offer, .ref m_gets, .ref m_yes, .ref m_buys, .ref m_ends, .ref m_carried, .ref m_row, .int rm, .ref m_keptRow, .ref m_likeGets, .ref m_likePrice, .ref m_ahead])), (m_refused, .inl (aC 0, 7, .inl f_6))] H := by rw [e_f_6]; exact hP
  have hD : va_D A [(g0, .inr (12, [.ref m_refused, .ref m_kind, .ref m_figure, .ref m_weight, .ref m_got, .ref m_setting, .int men, .int msy, .int mdn, .ref m_tape, .ref m_letter, .ref m_letterAt, .ref m_told, .int tp, .int mat, .int stm, .ref m_kept, .int hi, .int ki, .int cu, .ref m_price, .ref m_offer, .ref m_gets, .ref m_yes, .ref m_buys, .ref m_ends, .ref m_carried, .ref m_row, .int rm, .ref m_keptRow, .ref m_likeGets, .ref m_likePrice, .ref m_ahead])), (m_refused, .inl (aC 0, 7, .inl f_6))] := by rw [e_f_6]; exact hD
  refine lv_ldc2 hx hb hown (hts _ (gw kw_1082 rfl)) dX12_lowest_11 ?_
  refine lv_iload_n hx hb dX12_lowest_14 rfl (lv_at hl 1 rfl) ?_
  refine lv_i2l hx hb dX12_lowest_15 rfl ?_
  refine lv_topl (fun x_7 e_7 => ?_)
  refine lv_lsub hx hb dX12_lowest_16 ?_
  refine lv_topl (fun x_8 e_8 => ?_)
  have hP9 := hP.sub (ws' := [(g0, .inr (12, [.ref m_refused, .ref m_kind, .ref m_figure, .ref m_weight, .ref m_got, .ref m_setting, .int men, .int msy, .int mdn, .ref m_tape, .ref m_letter, .ref m_letterAt, .ref m_told, .int tp, .int mat, .int stm, .ref m_kept, .int hi, .int ki, .int cu, .ref m_price, .ref m_offer, .ref m_gets, .ref m_yes, .ref m_buys, .ref m_ends, .ref m_carried, .ref m_row, .int rm, .ref m_keptRow, .ref m_likeGets, .ref m_likePrice, .ref m_ahead])), (m_refused, .inl (aC 0, 7, .inl f_6))]) [0, 1] rfl
  have hD9 := hD.sub (ws' := [(g0, .inr (12, [.ref m_refused, .ref m_kind, .ref m_figure, .ref m_weight, .ref m_got, .ref m_setting, .int men, .int msy, .int mdn, .ref m_tape, .ref m_letter, .ref m_letterAt, .ref m_told, .int tp, .int mat, .int stm, .ref m_kept, .int hi, .int ki, .int cu, .ref m_price, .ref m_offer, .ref m_gets, .ref m_yes, .ref m_buys, .ref m_ends, .ref m_carried, .ref m_row, .int rm, .ref m_keptRow, .ref m_likeGets, .ref m_likePrice, .ref m_ahead])), (m_refused, .inl (aC 0, 7, .inl f_6))]) [0, 1] (by decide) rfl
  refine W.widen (k := 0) (n := 0) (by omega) (by omega) ?_
  exact W.lret (v := x_8) hx hb hr (fun t ht hW => ⟨⟨x_8, (f_6), rfl, ⟨by subst e_8; subst e_7; subst e_f_6; subst e_4; subst e_3; subst e_1; rfl, by subst e_8; subst e_7; subst e_f_6; subst e_4; subst e_3; subst e_1; rw [hk]⟩, by rw [ht]; exact hP9, va_K.moved hW.alike hK, hD9⟩, hS.F ht⟩) hS.2.2 dX12_lowest_17

set_option maxHeartbeats 4000000 in
set_option maxRecDepth 100000 in
/-- X12_isIn -/
theorem c_X12_isIn (l : Launch) (dC : Nat → ClassId) (dI : Nat → Nat → Nat) (aC : Nat → ClassId) (sz : Nat) (v : Int32) (lo : Int32) (hi : Int32)  : Met l yX12_isIn (wW yX12_isIn cX12_isIn 3 (some .boolean)) ({ frames := 0, cells := 0, slots := 0, locals := 0 } : Room) (va_Pc [.int v, .int lo, .int hi] (fun U => U.heap.size = sz ∧ va_P (dC, dI) classes [] U.heap ∧ va_K (dC, dI) classes (TY aC) U ∧ va_D (fun _ => True) [] ∧ NX U)) (va_Qi (fun (r : Int32) (_ : Unit) => r = if v < lo then 0 else if hi < v then 0 else 1) (fun (_ : Unit) (t : State) => va_P (dC, dI) classes [] t.heap ∧ va_K (dC, dI) classes (TY aC) t ∧ va_D (va_A [] sz) []) (va_A [] sz)) 0 0 (va_A [] sz) := by
  refine Met.ofW (cc := cX12_isIn) (maxL := 3) (ret := (some .boolean)) (by decide) rfl ?_
  intro p e s m args below meth c s₁ B hml hv
  obtain ⟨rfl, hsz, hP, hK, hD0, hN⟩ := hv
  have hx := B.exec
  have hb := B.bytes
  have hr := B.returns
  have hts0 := atoms_spec (ws := (wW yX12_isIn cX12_isIn 3 (some .boolean))) B.pre
  have hts : ∀ w9 ∈ lw_G, w9.before ([.int v, .int lo, .int hi] : List Value).toArray s = true := fun w9 h9 => hts0 w9 (List.mem_cons_of_mem _ h9)
  have hown : s.vm.findClass RX12 = some m.cls := findClass_of_methodNamed B.named
  have hlocks := B.notSynchronized
  subst hsz
  have hD := hD0.self (sz := s.heap.size)
  generalize hAe : va_A [] s.heap.size = A at hD ⊢
  have hA : ∀ q : Nat, s.heap.size ≤ q → A q := fun q h => by rw [← hAe]; exact Or.inr h
  obtain ⟨H, hHe⟩ : ∃ H : Heap, H = s.heap := ⟨_, rfl⟩
  have hS : va_S A s.heap H [] := by rw [hHe]; exact va_S.rf
  have hP : va_P (dC, dI) classes [] H := by rw [hHe]; exact hP
  have hl := lv_entry ([.int v, .int lo, .int hi]) (n := 3) (Nat.le_of_ble_eq_true rfl)
  rw [lg_entry_eq]
  generalize (lg_sl ([.int v, .int lo, .int hi]) ++ List.replicate (3 - (lg_sl ([.int v, .int lo, .int hi])).length) Slot.unset).toArray = ls at hl ⊢
  have hl : lv_has ls 3 [(0, .int v), (1, .int lo), (2, .int hi)] := hl
  rw [← hHe]
  refine lv_iload_n hx hb dX12_isIn_0 rfl (lv_at hl 0 rfl) ?_
  refine lv_iload_n hx hb dX12_isIn_1 rfl (lv_at hl 1 rfl) ?_
  refine lv_icmp_lt (tgt := 14) hx hb dX12_isIn_2 (by decide) (fun c_1 => ?_) (fun c_1 => ?_)
  · refine lv_iconst (v := 0) hx hb dX12_isIn_14 (by decide) ?_
    have hP9 := hP.sub (ws' := []) [] rfl
    have hD9 := hD.sub (ws' := []) [] (by decide) rfl
    refine W.widen (k := 0) (n := 0) (by omega) (by omega) ?_
    exact W.zret (v := 0) hx hb hr rfl (fun t ht hW => ⟨⟨0, (), rfl, by simp [c_1], by rw [ht]; exact hP9, va_K.moved hW.alike hK, hD9⟩, hS.F ht⟩) hS.2.2 dX12_isIn_15
  · refine lv_iload_n hx hb dX12_isIn_5 rfl (lv_at hl 0 rfl) ?_
    refine lv_iload_n hx hb dX12_isIn_6 rfl (lv_at hl 2 rfl) ?_
    refine lv_icmp_gt (tgt := 14) hx hb dX12_isIn_7 (by decide) (fun c_2 => ?_) (fun c_2 => ?_)
    · refine lv_iconst (v := 0) hx hb dX12_isIn_14 (by decide) ?_
      have hP9 := hP.sub (ws' := []) [] rfl
      have hD9 := hD.sub (ws' := []) [] (by decide) rfl
      refine W.widen (k := 0) (n := 0) (by omega) (by omega) ?_
      exact W.zret (v := 0) hx hb hr rfl (fun t ht hW => ⟨⟨0, (), rfl, by simp [c_1, c_2], by rw [ht]; exact hP9, va_K.moved hW.alike hK, hD9⟩, hS.F ht⟩) hS.2.2 dX12_isIn_15
    · refine lv_iconst (v := 1) hx hb dX12_isIn_10 (by decide) ?_
      refine lv_goto (tgt := 15) hx hb dX12_isIn_11 (by decide) ?_
      have hP9 := hP.sub (ws' := []) [] rfl
      have hD9 := hD.sub (ws' := []) [] (by decide) rfl
      refine W.widen (k := 0) (n := 0) (by omega) (by omega) ?_
      exact W.zret (v := 1) hx hb hr rfl (fun t ht hW => ⟨⟨1, (), rfl, by simp [c_1, c_2], by rw [ht]; exact hP9, va_K.moved hW.alike hK, hD9⟩, hS.F ht⟩) hS.2.2 dX12_isIn_15

set_option maxHeartbeats 4000000 in
set_option maxRecDepth 100000 in
/-- X12_bound -/
theorem c_X12_bound (l : Launch) (dC : Nat → ClassId) (dI : Nat → Nat → Nat) (aC : Nat → ClassId) (sz : Nat) (v : Int32) (lo : Int32) (hi : Int32)  : Met l yX12_bound (wW yX12_bound cX12_bound 3 (some .int)) ({ frames := 0, cells := 0, slots := 0, locals := 0 } : Room) (va_Pc [.int v, .int lo, .int hi] (fun U => U.heap.size = sz ∧ va_P (dC, dI) classes [] U.heap ∧ va_K (dC, dI) classes (TY aC) U ∧ va_D (fun _ => True) [] ∧ NX U)) (va_Qi (fun (r : Int32) (_ : Unit) => r = if v < lo then -4 else if hi < v then -6 else 0) (fun (_ : Unit) (t : State) => va_P (dC, dI) classes [] t.heap ∧ va_K (dC, dI) classes (TY aC) t ∧ va_D (va_A [] sz) []) (va_A [] sz)) 0 0 (va_A [] sz) := by
  refine Met.ofW (cc := cX12_bound) (maxL := 3) (ret := (some .int)) (by decide) rfl ?_
  intro p e s m args below meth c s₁ B hml hv
  obtain ⟨rfl, hsz, hP, hK, hD0, hN⟩ := hv
  have hx := B.exec
  have hb := B.bytes
  have hr := B.returns
  have hts0 := atoms_spec (ws := (wW yX12_bound cX12_bound 3 (some .int))) B.pre
  have hts : ∀ w9 ∈ lw_G, w9.before ([.int v, .int lo, .int hi] : List Value).toArray s = true := fun w9 h9 => hts0 w9 (List.mem_cons_of_mem _ h9)
  have hown : s.vm.findClass RX12 = some m.cls := findClass_of_methodNamed B.named
  have hlocks := B.notSynchronized
  subst hsz
  have hD := hD0.self (sz := s.heap.size)
  generalize hAe : va_A [] s.heap.size = A at hD ⊢
  have hA : ∀ q : Nat, s.heap.size ≤ q → A q := fun q h => by rw [← hAe]; exact Or.inr h
  obtain ⟨H, hHe⟩ : ∃ H : Heap, H = s.heap := ⟨_, rfl⟩
  have hS : va_S A s.heap H [] := by rw [hHe]; exact va_S.rf
  have hP : va_P (dC, dI) classes [] H := by rw [hHe]; exact hP
  have hl := lv_entry ([.int v, .int lo, .int hi]) (n := 3) (Nat.le_of_ble_eq_true rfl)
  rw [lg_entry_eq]
  generalize (lg_sl ([.int v, .int lo, .int hi]) ++ List.replicate (3 - (lg_sl ([.int v, .int lo, .int hi])).length) Slot.unset).toArray = ls at hl ⊢
  have hl : lv_has ls 3 [(0, .int v), (1, .int lo), (2, .int hi)] := hl
  rw [← hHe]
  refine lv_iload_n hx hb dX12_bound_0 rfl (lv_at hl 0 rfl) ?_
  refine lv_iload_n hx hb dX12_bound_1 rfl (lv_at hl 1 rfl) ?_
  refine lv_icmp_ge (tgt := 10) hx hb dX12_bound_2 (by decide) (fun c_1 => ?_) (fun c_1 => ?_)
  · refine lv_iload_n hx hb dX12_bound_10 rfl (lv_at hl 0 rfl) ?_
    refine lv_iload_n hx hb dX12_bound_11 rfl (lv_at hl 2 rfl) ?_
    refine lv_icmp_le (tgt := 20) hx hb dX12_bound_12 (by decide) (fun c_2 => ?_) (fun c_2 => ?_)
    · refine lv_iconst (v := 0) hx hb dX12_bound_20 (by decide) ?_
      have hP9 := hP.sub (ws' := []) [] rfl
      have hD9 := hD.sub (ws' := []) [] (by decide) rfl
      refine W.widen (k := 0) (n := 0) (by omega) (by omega) ?_
      exact W.iret (v := 0) hx hb hr (fun t ht hW => ⟨⟨0, (), rfl, by first | (simp [c_1, c_2]; done) | (rw [if_neg (Int32.not_lt.mpr c_1)]; simp [c_1, c_2]; done) | (rw [if_neg (Int32.not_lt.mpr c_1), if_neg (Int32.not_lt.mpr c_2)]), by rw [ht]; exact hP9, va_K.moved hW.alike hK, hD9⟩, hS.F ht⟩) hS.2.2 dX12_bound_21
    · refine lv_bipush (v := -6) hx hb dX12_bound_15 (by decide) ?_
      refine lv_goto (tgt := 21) hx hb dX12_bound_17 (by decide) ?_
      have hP9 := hP.sub (ws' := []) [] rfl
      have hD9 := hD.sub (ws' := []) [] (by decide) rfl
      refine W.widen (k := 0) (n := 0) (by omega) (by omega) ?_
      exact W.iret (v := -6) hx hb hr (fun t ht hW => ⟨⟨(-6), (), rfl, by first | (simp [c_1, c_2]; done) | (rw [if_neg (Int32.not_lt.mpr c_1)]; simp [c_1, c_2]; done) | (rw [if_neg (Int32.not_lt.mpr c_1), if_neg (Int32.not_lt.mpr c_2)]), by rw [ht]; exact hP9, va_K.moved hW.alike hK, hD9⟩, hS.F ht⟩) hS.2.2 dX12_bound_21
  · refine lv_bipush (v := -4) hx hb dX12_bound_5 (by decide) ?_
    refine lv_goto (tgt := 21) hx hb dX12_bound_7 (by decide) ?_
    have hP9 := hP.sub (ws' := []) [] rfl
    have hD9 := hD.sub (ws' := []) [] (by decide) rfl
    refine W.widen (k := 0) (n := 0) (by omega) (by omega) ?_
    exact W.iret (v := -4) hx hb hr (fun t ht hW => ⟨⟨(-4), (), rfl, by first | (simp [c_1]; done) | (rw [if_neg (Int32.not_lt.mpr c_1)]; simp [c_1]; done) | (rw [if_neg (Int32.not_lt.mpr c_1), if_neg (Int32.not_lt.mpr c_2)]), by rw [ht]; exact hP9, va_K.moved hW.alike hK, hD9⟩, hS.F ht⟩) hS.2.2 dX12_bound_21

set_option maxHeartbeats 4000000 in
set_option maxRecDepth 100000 in
/-- X12_isMan -/
theorem c_X12_isMan (l : Launch) (dC : Nat → ClassId) (dI : Nat → Nat → Nat) (aC : Nat → ClassId) (sz : Nat) (g0 : Nat) (m_refused : Nat) (m_kind : Nat) (m_figure : Nat) (m_weight : Nat) (m_got : Nat) (m_setting : Nat) (m_tape : Nat) (m_letter : Nat) (m_letterAt : Nat) (m_told : Nat) (m_kept : Nat) (m_price : Nat) (m_offer : Nat) (m_gets : Nat) (m_yes : Nat) (m_buys : Nat) (m_ends : Nat) (m_carried : Nat) (m_row : Nat) (m_keptRow : Nat) (m_likeGets : Nat) (m_likePrice : Nat) (m_ahead : Nat) (men : Int32) (msy : Int32) (mdn : Int32) (tp : Int32) (mat : Int32) (stm : Int32) (hi : Int32) (ki : Int32) (cu : Int32) (rm : Int32) (i : Int32)  : Met l yX12_isMan (wW yX12_isMan cX12_isMan 2 (some .boolean)) ({ frames := 0, cells := 0, slots := 0, locals := 0 } : Room) (va_Pc [.ref g0, .int i] (fun U => U.heap.size = sz ∧ va_P (dC, dI) classes [(g0, .inr (12, [.ref m_refused, .ref m_kind, .ref m_figure, .ref m_weight, .ref m_got, .ref m_setting, .int men, .int msy, .int mdn, .ref m_tape, .ref m_letter, .ref m_letterAt, .ref m_told, .int tp, .int mat, .int stm, .ref m_kept, .int hi, .int ki, .int cu, .ref m_price, .ref m_offer, .ref m_gets, .ref m_yes, .ref m_buys, .ref m_ends, .ref m_carried, .ref m_row, .int rm, .ref m_keptRow, .ref m_likeGets, .ref m_likePrice, .ref m_ahead]))] U.heap ∧ va_K (dC, dI) classes (TY aC) U ∧ va_D (fun _ => True) [(g0, .inr (12, [.ref m_refused, .ref m_kind, .ref m_figure, .ref m_weight, .ref m_got, .ref m_setting, .int men, .int msy, .int mdn, .ref m_tape, .ref m_letter, .ref m_letterAt, .ref m_told, .int tp, .int mat, .int stm, .ref m_kept, .int hi, .int ki, .int cu, .ref m_price, .ref m_offer, .ref m_gets, .ref m_yes, .ref m_buys, .ref m_ends, .ref m_carried, .ref m_row, .int rm, .ref m_keptRow, .ref m_likeGets, .ref m_likePrice, .ref m_ahead]))] ∧ NX U)) (va_Qi (fun (r : Int32) (_ : Unit) => r = if i < 0 then 0 else if men ≤ i then 0 else 1) (fun (_ : Unit) (t : State) => va_P (dC, dI) classes [(g0, .inr (12, [.ref m_refused, .ref m_kind, .ref m_figure, .ref m_weight, .ref m_got, .ref m_setting, .int men, .int msy, .int mdn, .ref m_tape, .ref m_letter, .ref m_letterAt, .ref m_told, .int tp, .int mat, .int stm, .ref m_kept, .int hi, .int ki, .int cu, .ref m_price, .ref m_offer, .ref m_gets, .ref m_yes, .ref m_buys, .ref m_ends, .ref m_carried, .ref m_row, .int rm, .ref m_keptRow, .ref m_likeGets, .ref m_likePrice, .ref m_ahead]))] t.heap ∧ va_K (dC, dI) classes (TY aC) t ∧ va_D (va_A [(g0, .inr (12, [.ref m_refused, .ref m_kind, .ref m_figure, .ref m_weight, .ref m_got, .ref m_setting, .int men, .int msy, .int mdn, .ref m_tape, .ref m_letter, .ref m_letterAt, .ref m_told, .int tp, .int mat, .int stm, .ref m_kept, .int hi, .int ki, .int cu, .ref m_price, .ref m_offer, .ref m_gets, .ref m_yes, .ref m_buys, .ref m_ends, .ref m_carried, .ref m_row, .int rm, .ref m_keptRow, .ref m_likeGets, .ref m_likePrice, .ref m_ahead]))] sz) [(g0, .inr (12, [.ref m_refused, .ref m_kind, .ref m_figure, .ref m_weight, .ref m_got, .ref m_setting, .int men, .int msy, .int mdn, .ref m_tape, .ref m_letter, .ref m_letterAt, .ref m_told, .int tp, .int mat, .int stm, .ref m_kept, .int hi, .int ki, .int cu, .ref m_price, .ref m_offer, .ref m_gets, .ref m_yes, .ref m_buys, .ref m_ends, .ref m_carried, .ref m_row, .int rm, .ref m_keptRow, .ref m_likeGets, .ref m_likePrice, .ref m_ahead]))]) (va_A [(g0, .inr (12, [.ref m_refused, .ref m_kind, .ref m_figure, .ref m_weight, .ref m_got, .ref m_setting, .int men, .int msy, .int mdn, .ref m_tape, .ref m_letter, .ref m_letterAt, .ref m_told, .int tp, .int mat, .int stm, .ref m_kept, .int hi, .int ki, .int cu, .ref m_price, .ref m_offer, .ref m_gets, .ref m_yes, .ref m_buys, .ref m_ends, .ref m_carried, .ref m_row, .int rm, .ref m_keptRow, .ref m_likeGets, .ref m_likePrice, .ref m_ahead]))] sz)) 0 0 (va_A [(g0, .inr (12, [.ref m_refused, .ref m_kind, .ref m_figure, .ref m_weight, .ref m_got, .ref m_setting, .int men, .int msy, .int mdn, .ref m_tape, .ref m_letter, .ref m_letterAt, .ref m_told, .int tp, .int mat, .int stm, .ref m_kept, .int hi, .int ki, .int cu, .ref m_price, .ref m_offer, .ref m_gets, .ref m_yes, .ref m_buys, .ref m_ends, .ref m_carried, .ref m_row, .int rm, .ref m_keptRow, .ref m_likeGets, .ref m_likePrice, .ref m_ahead]))] sz) := by
  refine Met.ofW (cc := cX12_isMan) (maxL := 2) (ret := (some .boolean)) (by decide) rfl ?_
  intro p e s m args below meth c s₁ B hml hv
  obtain ⟨rfl, hsz, hP, hK, hD0, hN⟩ := hv
  have hx := B.exec
  have hb := B.bytes
  have hr := B.returns
  have hts0 := atoms_spec (ws := (wW yX12_isMan cX12_isMan 2 (some .boolean))) B.pre
  have hts : ∀ w9 ∈ lw_G, w9.before ([.ref g0, .int i] : List Value).toArray s = true := fun w9 h9 => hts0 w9 (List.mem_cons_of_mem _ h9)
  have hown : s.vm.findClass RX12 = some m.cls := findClass_of_methodNamed B.named
  have hlocks := B.notSynchronized
  subst hsz
  have hD := hD0.self (sz := s.heap.size)
  generalize hAe : va_A [(g0, .inr (12, [.ref m_refused, .ref m_kind, .ref m_figure, .ref m_weight, .ref m_got, .ref m_setting, .int men, .int msy, .int mdn, .ref m_tape, .ref m_letter, .ref m_letterAt, .ref m_told, .int tp, .int mat, .int stm, .ref m_kept, .int hi, .int ki, .int cu, .ref m_price, .ref m_offer, .ref m_gets, .ref m_yes, .ref m_buys, .ref m_ends, .ref m_carried, .ref m_row, .int rm, .ref m_keptRow, .ref m_likeGets, .ref m_likePrice, .ref m_ahead]))] s.heap.size = A at hD ⊢
  have hA : ∀ q : Nat, s.heap.size ≤ q → A q := fun q h => by rw [← hAe]; exact Or.inr h
  obtain ⟨H, hHe⟩ : ∃ H : Heap, H = s.heap := ⟨_, rfl⟩
  have hS : va_S A s.heap H [] := by rw [hHe]; exact va_S.rf
  have hP : va_P (dC, dI) classes [(g0, .inr (12, [.ref m_refused, .ref m_kind, .ref m_figure, .ref m_weight, .ref m_got, .ref m_setting, .int men, .int msy, .int mdn, .ref m_tape, .ref m_letter, .ref m_letterAt, .ref m_told, .int tp, .int mat, .int stm, .ref m_kept, .int hi, .int ki, .int cu, .ref m_price, .ref m_offer, .ref m_gets, .ref m_yes, .ref m_buys, .ref m_ends, .ref m_carried, .ref m_row, .int rm, .ref m_keptRow, .ref m_likeGets, .ref m_likePrice, .ref m_ahead]))] H := by rw [hHe]; exact hP
  have hl := lv_entry ([.ref g0, .int i]) (n := 2) (Nat.le_of_ble_eq_true rfl)
  rw [lg_entry_eq]
  generalize (lg_sl ([.ref g0, .int i]) ++ List.replicate (2 - (lg_sl ([.ref g0, .int i])).length) Slot.unset).toArray = ls at hl ⊢
  have hl : lv_has ls 2 [(0, .ref g0), (1, .int i)] := hl
  rw [← hHe]
  refine lv_iload_n hx hb dX12_isMan_0 rfl (lv_at hl 1 rfl) ?_
  refine lv_if_lt (tgt := 16) hx hb dX12_isMan_1 (by decide) (fun c_1 => ?_) (fun c_1 => ?_)
  · refine lv_iconst (v := 0) hx hb dX12_isMan_16 (by decide) ?_
    have hP9 := hP.sub (ws' := [(g0, .inr (12, [.ref m_refused, .ref m_kind, .ref m_figure, .ref m_weight, .ref m_got, .ref m_setting, .int men, .int msy, .int mdn, .ref m_tape, .ref m_letter, .ref m_letterAt, .ref m_told, .int tp, .int mat, .int stm, .ref m_kept, .int hi, .int ki, .int cu, .ref m_price, .ref m_offer, .ref m_gets, .ref m_yes, .ref m_buys, .ref m_ends, .ref m_carried, .ref m_row, .int rm, .ref m_keptRow, .ref m_likeGets, .ref m_likePrice, .ref m_ahead]))]) [0] rfl
    have hD9 := hD.sub (ws' := [(g0, .inr (12, [.ref m_refused, .ref m_kind, .ref m_figure, .ref m_weight, .ref m_got, .ref m_setting, .int men, .int msy, .int mdn, .ref m_tape, .ref m_letter, .ref m_letterAt, .ref m_told, .int tp, .int mat, .int stm, .ref m_kept, .int hi, .int ki, .int cu, .ref m_price, .ref m_offer, .ref m_gets, .ref m_yes, .ref m_buys, .ref m_ends, .ref m_carried, .ref m_row, .int rm, .ref m_keptRow, .ref m_likeGets, .ref m_likePrice, .ref m_ahead]))]) [0] (by decide) rfl
    refine W.widen (k := 0) (n := 0) (by omega) (by omega) ?_
    exact W.zret (v := 0) hx hb hr rfl (fun t ht hW => ⟨⟨0, (), rfl, by simp [c_1], by rw [ht]; exact hP9, va_K.moved hW.alike hK, hD9⟩, hS.F ht⟩) hS.2.2 dX12_isMan_17
  · refine lv_iload_n hx hb dX12_isMan_4 rfl (lv_at hl 1 rfl) ?_
    refine lv_aload_n hx hb dX12_isMan_5 rfl (lv_at hl 0 rfl) ?_
    refine va_get (D := (dC, dI)) (ci := 12) (v := .int men) (C := RX12) (T := TX12) (N := 33) hx hb hts inX12 hown hK hP 0 rfl rfl 6 (by decide) (hts _ (gw kw_723 rfl)) (fun _ h9 => h9) rfl dX12_isMan_6 ?_
    refine lv_icmp_ge (tgt := 16) hx hb dX12_isMan_9 (by decide) (fun c_2 => ?_) (fun c_2 => ?_)
    · refine lv_iconst (v := 0) hx hb dX12_isMan_16 (by decide) ?_
      have hP9 := hP.sub (ws' := [(g0, .inr (12, [.ref m_refused, .ref m_kind, .ref m_figure, .ref m_weight, .ref m_got, .ref m_setting, .int men, .int msy, .int mdn, .ref m_tape, .ref m_letter, .ref m_letterAt, .ref m_told, .int tp, .int mat, .int stm, .ref m_kept, .int hi, .int ki, .int cu, .ref m_price, .ref m_offer, .ref m_gets, .ref m_yes, .ref m_buys, .ref m_ends, .ref m_carried, .ref m_row, .int rm, .ref m_keptRow, .ref m_likeGets, .ref m_likePrice, .ref m_ahead]))]) [0] rfl
      have hD9 := hD.sub (ws' := [(g0, .inr (12, [.ref m_refused, .ref m_kind, .ref m_figure, .ref m_weight, .ref m_got, .ref m_setting, .int men, .int msy, .int mdn, .ref m_tape, .ref m_letter, .ref m_letterAt, .ref m_told, .int tp, .int mat, .int stm, .ref m_kept, .int hi, .int ki, .int cu, .ref m_price, .ref m_offer, .ref m_gets, .ref m_yes, .ref m_buys, .ref m_ends, .ref m_carried, .ref m_row, .int rm, .ref m_keptRow, .ref m_likeGets, .ref m_likePrice, .ref m_ahead]))]) [0] (by decide) rfl
      refine W.widen (k := 0) (n := 0) (by omega) (by omega) ?_
      exact W.zret (v := 0) hx hb hr rfl (fun t ht hW => ⟨⟨0, (), rfl, by simp [c_1, c_2], by rw [ht]; exact hP9, va_K.moved hW.alike hK, hD9⟩, hS.F ht⟩) hS.2.2 dX12_isMan_17
    · refine lv_iconst (v := 1) hx hb dX12_isMan_12 (by decide) ?_
      refine lv_goto (tgt := 17) hx hb dX12_isMan_13 (by decide) ?_
      have hP9 := hP.sub (ws' := [(g0, .inr (12, [.ref m_refused, .ref m_kind, .ref m_figure, .ref m_weight, .ref m_got, .ref m_setting, .int men, .int msy, .int mdn, .ref m_tape, .ref m_letter, .ref m_letterAt, .ref m_told, .int tp, .int mat, .int stm, .ref m_kept, .int hi, .int ki, .int cu, .ref m_price, .ref m_offer, .ref m_gets, .ref m_yes, .ref m_buys, .ref m_ends, .ref m_carried, .ref m_row, .int rm, .ref m_keptRow, .ref m_likeGets, .ref m_likePrice, .ref m_ahead]))]) [0] rfl
      have hD9 := hD.sub (ws' := [(g0, .inr (12, [.ref m_refused, .ref m_kind, .ref m_figure, .ref m_weight, .ref m_got, .ref m_setting, .int men, .int msy, .int mdn, .ref m_tape, .ref m_letter, .ref m_letterAt, .ref m_told, .int tp, .int mat, .int stm, .ref m_kept, .int hi, .int ki, .int cu, .ref m_price, .ref m_offer, .ref m_gets, .ref m_yes, .ref m_buys, .ref m_ends, .ref m_carried, .ref m_row, .int rm, .ref m_keptRow, .ref m_likeGets, .ref m_likePrice, .ref m_ahead]))]) [0] (by decide) rfl
      refine W.widen (k := 0) (n := 0) (by omega) (by omega) ?_
      exact W.zret (v := 1) hx hb hr rfl (fun t ht hW => ⟨⟨1, (), rfl, by simp [c_1, c_2], by rw [ht]; exact hP9, va_K.moved hW.alike hK, hD9⟩, hS.F ht⟩) hS.2.2 dX12_isMan_17

set_option maxHeartbeats 4000000 in
set_option maxRecDepth 100000 in
/-- X12_isOver -/
theorem c_X12_isOver (l : Launch) (dC : Nat → ClassId) (dI : Nat → Nat → Nat) (aC : Nat → ClassId) (sz : Nat) (g0 : Nat) (m_refused : Nat) (m_kind : Nat) (m_figure : Nat) (m_weight : Nat) (m_got : Nat) (m_setting : Nat) (m_tape : Nat) (m_letter : Nat) (m_letterAt : Nat) (m_told : Nat) (m_kept : Nat) (m_price : Nat) (m_offer : Nat) (m_gets : Nat) (m_yes : Nat) (m_buys : Nat) (m_ends : Nat) (m_carried : Nat) (m_row : Nat) (m_keptRow : Nat) (m_likeGets : Nat) (m_likePrice : Nat) (m_ahead : Nat) (men : Int32) (msy : Int32) (mdn : Int32) (tp : Int32) (mat : Int32) (stm : Int32) (hi : Int32) (ki : Int32) (cu : Int32) (rm : Int32)  : Met l yX12_isOver (wW yX12_isOver cX12_isOver 1 (some .boolean)) ({ frames := 0, cells := 0, slots := 0, locals := 0 } : Room) (va_Pc [.ref g0] (fun U => U.heap.size = sz ∧ va_P (dC, dI) classes [(g0, .inr (12, [.ref m_refused, .ref m_kind, .ref m_figure, .ref m_weight, .ref m_got, .ref m_setting, .int men, .int msy, .int mdn, .ref m_tape, .ref m_letter, .ref m_letterAt, .ref m_told, .int tp, .int mat, .int stm, .ref m_kept, .int hi, .int ki, .int cu, .ref m_price, .ref m_offer, .ref m_gets, .ref m_yes, .ref m_buys, .ref m_ends, .ref m_carried, .ref m_row, .int rm, .ref m_keptRow, .ref m_likeGets, .ref m_likePrice, .ref m_ahead]))] U.heap ∧ va_K (dC, dI) classes (TY aC) U ∧ va_D (fun _ => True) [(g0, .inr (12, [.ref m_refused, .ref m_kind, .ref m_figure, .ref m_weight, .ref m_got, .ref m_setting, .int men, .int msy, .int mdn, .ref m_tape, .ref m_letter, .ref m_letterAt, .ref m_told, .int tp, .int mat, .int stm, .ref m_kept, .int hi, .int ki, .int cu, .ref m_price, .ref m_offer, .ref m_gets, .ref m_yes, .ref m_buys, .ref m_ends, .ref m_carried, .ref m_row, .int rm, .ref m_keptRow, .ref m_likeGets, .ref m_likePrice, .ref m_ahead]))] ∧ NX U)) (va_Qi (fun (r : Int32) (_ : Unit) => r = if men = 0 then 1 else if mdn = 1 then 1 else 0) (fun (_ : Unit) (t : State) => va_P (dC, dI) classes [(g0, .inr (12, [.ref m_refused, .ref m_kind, .ref m_figure, .ref m_weight, .ref m_got, .ref m_setting, .int men, .int msy, .int mdn, .ref m_tape, .ref m_letter, .ref m_letterAt, .ref m_told, .int tp, .int mat, .int stm, .ref m_kept, .int hi, .int ki, .int cu, .ref m_price, .ref m_offer, .ref m_gets, .ref m_yes, .ref m_buys, .ref m_ends, .ref m_carried, .ref m_row, .int rm, .ref m_keptRow, .ref m_likeGets, .ref m_likePrice, .ref m_ahead]))] t.heap ∧ va_K (dC, dI) classes (TY aC) t ∧ va_D (va_A [(g0, .inr (12, [.ref m_refused, .ref m_kind, .ref m_figure, .ref m_weight, .ref m_got, .ref m_setting, .int men, .int msy, .int mdn, .ref m_tape, .ref m_letter, .ref m_letterAt, .ref m_told, .int tp, .int mat, .int stm, .ref m_kept, .int hi, .int ki, .int cu, .ref m_price, .ref m_offer, .ref m_gets, .ref m_yes, .ref m_buys, .ref m_ends, .ref m_carried, .ref m_row, .int rm, .ref m_keptRow, .ref m_likeGets, .ref m_likePrice, .ref m_ahead]))] sz) [(g0, .inr (12, [.ref m_refused, .ref m_kind, .ref m_figure, .ref m_weight, .ref m_got, .ref m_setting, .int men, .int msy, .int mdn, .ref m_tape, .ref m_letter, .ref m_letterAt, .ref m_told, .int tp, .int mat, .int stm, .ref m_kept, .int hi, .int ki, .int cu, .ref m_price, .ref m_offer, .ref m_gets, .ref m_yes, .ref m_buys, .ref m_ends, .ref m_carried, .ref m_row, .int rm, .ref m_keptRow, .ref m_likeGets, .ref m_likePrice, .ref m_ahead]))]) (va_A [(g0, .inr (12, [.ref m_refused, .ref m_kind, .ref m_figure, .ref m_weight, .ref m_got, .ref m_setting, .int men, .int msy, .int mdn, .ref m_tape, .ref m_letter, .ref m_letterAt, .ref m_told, .int tp, .int mat, .int stm, .ref m_kept, .int hi, .int ki, .int cu, .ref m_price, .ref m_offer, .ref m_gets, .ref m_yes, .ref m_buys, .ref m_ends, .ref m_carried, .ref m_row, .int rm, .ref m_keptRow, .ref m_likeGets, .ref m_likePrice, .ref m_ahead]))] sz)) 0 0 (va_A [(g0, .inr (12, [.ref m_refused, .ref m_kind, .ref m_figure, .ref m_weight, .ref m_got, .ref m_setting, .int men, .int msy, .int mdn, .ref m_tape, .ref m_letter, .ref m_letterAt, .ref m_told, .int tp, .int mat, .int stm, .ref m_kept, .int hi, .int ki, .int cu, .ref m_price, .ref m_offer, .ref m_gets, .ref m_yes, .ref m_buys, .ref m_ends, .ref m_carried, .ref m_row, .int rm, .ref m_keptRow, .ref m_likeGets, .ref m_likePrice, .ref m_ahead]))] sz) := by
  refine Met.ofW (cc := cX12_isOver) (maxL := 1) (ret := (some .boolean)) (by decide) rfl ?_
  intro p e s m args below meth c s₁ B hml hv
  obtain ⟨rfl, hsz, hP, hK, hD0, hN⟩ := hv
  have hx := B.exec
  have hb := B.bytes
  have hr := B.returns
  have hts0 := atoms_spec (ws := (wW yX12_isOver cX12_isOver 1 (some .boolean))) B.pre
  have hts : ∀ w9 ∈ lw_G, w9.before ([.ref g0] : List Value).toArray s = true := fun w9 h9 => hts0 w9 (List.mem_cons_of_mem _ h9)
  have hown : s.vm.findClass RX12 = some m.cls := findClass_of_methodNamed B.named
  have hlocks := B.notSynchronized
  subst hsz
  have hD := hD0.self (sz := s.heap.size)
  generalize hAe : va_A [(g0, .inr (12, [.ref m_refused, .ref m_kind, .ref m_figure, .ref m_weight, .ref m_got, .ref m_setting, .int men, .int msy, .int mdn, .ref m_tape, .ref m_letter, .ref m_letterAt, .ref m_told, .int tp, .int mat, .int stm, .ref m_kept, .int hi, .int ki, .int cu, .ref m_price, .ref m_offer, .ref m_gets, .ref m_yes, .ref m_buys, .ref m_ends, .ref m_carried, .ref m_row, .int rm, .ref m_keptRow, .ref m_likeGets, .ref m_likePrice, .ref m_ahead]))] s.heap.size = A at hD ⊢
  have hA : ∀ q : Nat, s.heap.size ≤ q → A q := fun q h => by rw [← hAe]; exact Or.inr h
  obtain ⟨H, hHe⟩ : ∃ H : Heap, H = s.heap := ⟨_, rfl⟩
  have hS : va_S A s.heap H [] := by rw [hHe]; exact va_S.rf
  have hP : va_P (dC, dI) classes [(g0, .inr (12, [.ref m_refused, .ref m_kind, .ref m_figure, .ref m_weight, .ref m_got, .ref m_setting, .int men, .int msy, .int mdn, .ref m_tape, .ref m_letter, .ref m_letterAt, .ref m_told, .int tp, .int mat, .int stm, .ref m_kept, .int hi, .int ki, .int cu, .ref m_price, .ref m_offer, .ref m_gets, .ref m_yes, .ref m_buys, .ref m_ends, .ref m_carried, .ref m_row, .int rm, .ref m_keptRow, .ref m_likeGets, .ref m_likePrice, .ref m_ahead]))] H := by rw [hHe]; exact hP
  have hl := lv_entry ([.ref g0]) (n := 1) (Nat.le_of_ble_eq_true rfl)
  rw [lg_entry_eq]
  generalize (lg_sl ([.ref g0]) ++ List.replicate (1 - (lg_sl ([.ref g0])).length) Slot.unset).toArray = ls at hl ⊢
  have hl : lv_has ls 1 [(0, .ref g0)] := hl
  rw [← hHe]
  refine lv_aload_n hx hb dX12_isOver_0 rfl (lv_at hl 0 rfl) ?_
  refine va_get (D := (dC, dI)) (ci := 12) (v := .int men) (C := RX12) (T := TX12) (N := 33) hx hb hts inX12 hown hK hP 0 rfl rfl 6 (by decide) (hts _ (gw kw_723 rfl)) (fun _ h9 => h9) rfl dX12_isOver_1 ?_
  refine lv_if_eq (tgt := 15) hx hb dX12_isOver_4 (by decide) (fun c_1 => ?_) (fun c_1 => ?_)
  · refine lv_iconst (v := 1) hx hb dX12_isOver_15 (by decide) ?_
    refine lv_goto (tgt := 20) hx hb dX12_isOver_16 (by decide) ?_
    have hP9 := hP.sub (ws' := [(g0, .inr (12, [.ref m_refused, .ref m_kind, .ref m_figure, .ref m_weight, .ref m_got, .ref m_setting, .int men, .int msy, .int mdn, .ref m_tape, .ref m_letter, .ref m_letterAt, .ref m_told, .int tp, .int mat, .int stm, .ref m_kept, .int hi, .int ki, .int cu, .ref m_price, .ref m_offer, .ref m_gets, .ref m_yes, .ref m_buys, .ref m_ends, .ref m_carried, .ref m_row, .int rm, .ref m_keptRow, .ref m_likeGets, .ref m_likePrice, .ref m_ahead]))]) [0] rfl
    have hD9 := hD.sub (ws' := [(g0, .inr (12, [.ref m_refused, .ref m_kind, .ref m_figure, .ref m_weight, .ref m_got, .ref m_setting, .int men, .int msy, .int mdn, .ref m_tape, .ref m_letter, .ref m_letterAt, .ref m_told, .int tp, .int mat, .int stm, .ref m_kept, .int hi, .int ki, .int cu, .ref m_price, .ref m_offer, .ref m_gets, .ref m_yes, .ref m_buys, .ref m_ends, .ref m_carried, .ref m_row, .int rm, .ref m_keptRow, .ref m_likeGets, .ref m_likePrice, .ref m_ahead]))]) [0] (by decide) rfl
    refine W.widen (k := 0) (n := 0) (by omega) (by omega) ?_
    exact W.zret (v := 1) hx hb hr rfl (fun t ht hW => ⟨⟨1, (), rfl, by simp [c_1], by rw [ht]; exact hP9, va_K.moved hW.alike hK, hD9⟩, hS.F ht⟩) hS.2.2 dX12_isOver_20
  · refine lv_aload_n hx hb dX12_isOver_7 rfl (lv_at hl 0 rfl) ?_
    refine va_get (D := (dC, dI)) (ci := 12) (v := .int mdn) (C := RX12) (T := TX12) (N := 33) hx hb hts inX12 hown hK hP 0 rfl rfl 8 (by decide) (hts _ (gw kw_725 rfl)) (fun _ h9 => h9) rfl dX12_isOver_8 ?_
    refine lv_iconst (v := 1) hx hb dX12_isOver_11 (by decide) ?_
    refine lv_icmp_ne (tgt := 19) hx hb dX12_isOver_12 (by decide) (fun c_2 => ?_) (fun c_2 => ?_)
    · refine lv_iconst (v := 0) hx hb dX12_isOver_19 (by decide) ?_
      have hP9 := hP.sub (ws' := [(g0, .inr (12, [.ref m_refused, .ref m_kind, .ref m_figure, .ref m_weight, .ref m_got, .ref m_setting, .int men, .int msy, .int mdn, .ref m_tape, .ref m_letter, .ref m_letterAt, .ref m_told, .int tp, .int mat, .int stm, .ref m_kept, .int hi, .int ki, .int cu, .ref m_price, .ref m_offer, .ref m_gets, .ref m_yes, .ref m_buys, .ref m_ends, .ref m_carried, .ref m_row, .int rm, .ref m_keptRow, .ref m_likeGets, .ref m_likePrice, .ref m_ahead]))]) [0] rfl
      have hD9 := hD.sub (ws' := [(g0, .inr (12, [.ref m_refused, .ref m_kind, .ref m_figure, .ref m_weight, .ref m_got, .ref m_setting, .int men, .int msy, .int mdn, .ref m_tape, .ref m_letter, .ref m_letterAt, .ref m_told, .int tp, .int mat, .int stm, .ref m_kept, .int hi, .int ki, .int cu, .ref m_price, .ref m_offer, .ref m_gets, .ref m_yes, .ref m_buys, .ref m_ends, .ref m_carried, .ref m_row, .int rm, .ref m_keptRow, .ref m_likeGets, .ref m_likePrice, .ref m_ahead]))]) [0] (by decide) rfl
      refine W.widen (k := 0) (n := 0) (by omega) (by omega) ?_
      exact W.zret (v := 0) hx hb hr rfl (fun t ht hW => ⟨⟨0, (), rfl, by simp [c_1, c_2], by rw [ht]; exact hP9, va_K.moved hW.alike hK, hD9⟩, hS.F ht⟩) hS.2.2 dX12_isOver_20
    · refine lv_iconst (v := 1) hx hb dX12_isOver_15 (by decide) ?_
      refine lv_goto (tgt := 20) hx hb dX12_isOver_16 (by decide) ?_
      have hP9 := hP.sub (ws' := [(g0, .inr (12, [.ref m_refused, .ref m_kind, .ref m_figure, .ref m_weight, .ref m_got, .ref m_setting, .int men, .int msy, .int mdn, .ref m_tape, .ref m_letter, .ref m_letterAt, .ref m_told, .int tp, .int mat, .int stm, .ref m_kept, .int hi, .int ki, .int cu, .ref m_price, .ref m_offer, .ref m_gets, .ref m_yes, .ref m_buys, .ref m_ends, .ref m_carried, .ref m_row, .int rm, .ref m_keptRow, .ref m_likeGets, .ref m_likePrice, .ref m_ahead]))]) [0] rfl
      have hD9 := hD.sub (ws' := [(g0, .inr (12, [.ref m_refused, .ref m_kind, .ref m_figure, .ref m_weight, .ref m_got, .ref m_setting, .int men, .int msy, .int mdn, .ref m_tape, .ref m_letter, .ref m_letterAt, .ref m_told, .int tp, .int mat, .int stm, .ref m_kept, .int hi, .int ki, .int cu, .ref m_price, .ref m_offer, .ref m_gets, .ref m_yes, .ref m_buys, .ref m_ends, .ref m_carried, .ref m_row, .int rm, .ref m_keptRow, .ref m_likeGets, .ref m_likePrice, .ref m_ahead]))]) [0] (by decide) rfl
      refine W.widen (k := 0) (n := 0) (by omega) (by omega) ?_
      exact W.zret (v := 1) hx hb hr rfl (fun t ht hW => ⟨⟨1, (), rfl, by simp [c_1, c_2], by rw [ht]; exact hP9, va_K.moved hW.alike hK, hD9⟩, hS.F ht⟩) hS.2.2 dX12_isOver_20

end

section
/-! 08.mid -/
/-- the greatest settings -/
def GV (j : Nat) : Int32 := match j with
  | 0 => 99
  | 1 => 2
  | 2 => 1
  | 3 => 1
  | _ => 99
theorem vin {i n : Int32} {N : Nat} (h0 : ¬ i < 0) (h1 : i < n) (hn : n.toInt = N) : vp_in i N := by
  rw [vp_in_iff]
  rw [Int32.lt_iff_toInt_lt] at h1
  rw [Int32.lt_iff_toInt_lt] at h0
  have h9 : (0 : Int32).toInt = 0 := rfl
  omega
def CR (f : Nat → Int32) (n : Int32) : Int32 := if n < 1 then -9 else if 6 < n then -9 else f n.toNatClampNeg
def cntX (f : Nat → Int32) (w : Int32) : Int32 := if w = 0 then 0 else if w = 1 then 0 else if w = 2 then 0 else if w = 3 then 0 else if w = 4 then 0 else if w = 5 then 0 else if w = 6 then 0 else CR f (w - 10)
def cntM (f : Nat → Int32) (w : Int32) : Int32 := if w < 11 ∨ 16 < w then (if w = 0 then 0 else if w = 1 then 0 else if w = 2 then 0 else if w = 3 then 0 else if w = 4 then 0 else if w = 5 then 0 else if w = 6 then 0 else -9) else f (w - 10).toNatClampNeg
theorem cr_key (z : Int) (h1 : -2147483648 ≤ z) (h2 : z < 2147483648) : ((z - 10).bmod 4294967296 < 1 ∨ 6 < (z - 10).bmod 4294967296) ↔ (z < 11 ∨ 16 < z) := by
  unfold Int.bmod
  dsimp only
  split <;> omega
theorem cr_in (w : Int32) : (w - 10 < 1 ∨ 6 < w - 10) ↔ (w < 11 ∨ 16 < w) := by
  simp only [Int32.lt_iff_toInt_lt, Int32.toInt_sub]
  exact cr_key w.toInt (Int32.le_toInt w) (Int32.toInt_lt w)
theorem cnt_eq (f : Nat → Int32) (w : Int32) : cntX f w = cntM f w := by
  unfold cntX cntM CR
  have h := cr_in w
  by_cases h1 : w < 11 ∨ 16 < w
  · rw [if_pos h1]
    have h2 := h.mpr h1
    by_cases h3 : w - 10 < 1
    · rw [if_pos h3]
    · rw [if_neg h3, if_pos (h2.resolve_left h3)]
  · rw [if_neg h1]
    have h2 : ¬ (w - 10 < 1 ∨ 6 < w - 10) := fun q => h1 (h.mp q)
    rw [if_neg (fun q => h2 (Or.inl q)), if_neg (fun q => h2 (Or.inr q))]
    have n0 : ∀ k : Int32, k < 11 → ¬ w = k := fun k hk q => h1 (Or.inl (q ▸ hk))
    rw [if_neg (n0 0 (by decide)), if_neg (n0 1 (by decide)), if_neg (n0 2 (by decide)), if_neg (n0 3 (by decide)), if_neg (n0 4 (by decide)), if_neg (n0 5 (by decide)), if_neg (n0 6 (by decide))]

end

