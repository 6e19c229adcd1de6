theorem dX0_init_0 : decode cX0_init 0 = .ok (.aload_n 0, 1) := by decide +kernel
theorem dX0_init_1 : decode cX0_init 1 = .ok (.invokespecial 1, 3) := by decide +kernel
theorem dX0_init_4 : decode cX0_init 4 = .ok (.return_, 1) := by decide +kernel
theorem dX0_ask_0 : decode cX0_ask 0 = .ok (.iload_n 3, 1) := by decide +kernel
theorem dX0_ask_1 : decode cX0_ask 1 = .ok (.iconst 1, 1) := by decide +kernel
theorem dX0_ask_2 : decode cX0_ask 2 = .ok (.if_icmp .ne 7, 3) := by decide +kernel
theorem dX0_ask_5 : decode cX0_ask 5 = .ok (.iload_n 1, 1) := by decide +kernel
theorem dX0_ask_6 : decode cX0_ask 6 = .ok (.goto 6, 3) := by decide +kernel
theorem dX0_ask_9 : decode cX0_ask 9 = .ok (.iload_n 1, 1) := by decide +kernel
theorem dX0_ask_10 : decode cX0_ask 10 = .ok (.iconst 1, 1) := by decide +kernel
theorem dX0_ask_11 : decode cX0_ask 11 = .ok (.iadd, 1) := by decide +kernel
theorem dX0_ask_12 : decode cX0_ask 12 = .ok (.istore 4, 2) := by decide +kernel
theorem dX0_ask_14 : decode cX0_ask 14 = .ok (.iload 4, 2) := by decide +kernel
theorem dX0_ask_16 : decode cX0_ask 16 = .ok (.ifCond .le 8, 3) := by decide +kernel
theorem dX0_ask_19 : decode cX0_ask 19 = .ok (.iload 4, 2) := by decide +kernel
theorem dX0_ask_21 : decode cX0_ask 21 = .ok (.goto 4, 3) := by decide +kernel
theorem dX0_ask_24 : decode cX0_ask 24 = .ok (.iconst 0, 1) := by decide +kernel
theorem dX0_ask_25 : decode cX0_ask 25 = .ok (.ireturn, 1) := by decide +kernel
theorem dX0_tell_0 : decode cX0_tell 0 = .ok (.aload_n 1, 1) := by decide +kernel
theorem dX0_tell_1 : decode cX0_tell 1 = .ok (.iload_n 2, 1) := by decide +kernel
theorem dX0_tell_2 : decode cX0_tell 2 = .ok (.invokevirtual 7, 3) := by decide +kernel
theorem dX0_tell_5 : decode cX0_tell 5 = .ok (.return_, 1) := by decide +kernel
theorem dX1_init_0 : decode cX1_init 0 = .ok (.aload_n 0, 1) := by decide +kernel
theorem dX1_init_1 : decode cX1_init 1 = .ok (.invokespecial 1, 3) := by decide +kernel
theorem dX1_init_4 : decode cX1_init 4 = .ok (.return_, 1) := by decide +kernel
theorem dX1_ask_0 : decode cX1_ask 0 = .ok (.iconst 0, 1) := by decide +kernel
theorem dX1_ask_1 : decode cX1_ask 1 = .ok (.iload_n 1, 1) := by decide +kernel
theorem dX1_ask_2 : decode cX1_ask 2 = .ok (.invokestatic 7, 3) := by decide +kernel
theorem dX1_ask_5 : decode cX1_ask 5 = .ok (.ireturn, 1) := by decide +kernel
theorem dX2_init_0 : decode cX2_init 0 = .ok (.aload_n 0, 1) := by decide +kernel
theorem dX2_init_1 : decode cX2_init 1 = .ok (.invokespecial 3, 3) := by decide +kernel
theorem dX2_init_4 : decode cX2_init 4 = .ok (.aload_n 0, 1) := by decide +kernel
theorem dX2_init_5 : decode cX2_init 5 = .ok (.bipush 60, 2) := by decide +kernel
theorem dX2_init_7 : decode cX2_init 7 = .ok (.newarray .int, 2) := by decide +kernel
theorem dX2_init_9 : decode cX2_init 9 = .ok (.putfield 9, 3) := by decide +kernel
theorem dX2_init_12 : decode cX2_init 12 = .ok (.aload_n 0, 1) := by decide +kernel
theorem dX2_init_13 : decode cX2_init 13 = .ok (.bipush 60, 2) := by decide +kernel
theorem dX2_init_15 : decode cX2_init 15 = .ok (.newarray .int, 2) := by decide +kernel
theorem dX2_init_17 : decode cX2_init 17 = .ok (.putfield 15, 3) := by decide +kernel
theorem dX2_init_20 : decode cX2_init 20 = .ok (.aload_n 0, 1) := by decide +kernel
theorem dX2_init_21 : decode cX2_init 21 = .ok (.bipush 60, 2) := by decide +kernel
theorem dX2_init_23 : decode cX2_init 23 = .ok (.newarray .int, 2) := by decide +kernel
theorem dX2_init_25 : decode cX2_init 25 = .ok (.putfield 18, 3) := by decide +kernel
theorem dX2_init_28 : decode cX2_init 28 = .ok (.aload_n 0, 1) := by decide +kernel
theorem dX2_init_29 : decode cX2_init 29 = .ok (.aload_n 1, 1) := by decide +kernel
theorem dX2_init_30 : decode cX2_init 30 = .ok (.putfield 21, 3) := by decide +kernel
theorem dX2_init_33 : decode cX2_init 33 = .ok (.return_, 1) := by decide +kernel
theorem dX2_solve_0 : decode cX2_solve 0 = .ok (.aload_n 0, 1) := by decide +kernel
theorem dX2_solve_1 : decode cX2_solve 1 = .ok (.iload_n 1, 1) := by decide +kernel
theorem dX2_solve_2 : decode cX2_solve 2 = .ok (.bipush 60, 2) := by decide +kernel
theorem dX2_solve_4 : decode cX2_solve 4 = .ok (.invokestatic 25, 3) := by decide +kernel
theorem dX2_solve_7 : decode cX2_solve 7 = .ok (.putfield 31, 3) := by decide +kernel
theorem dX2_solve_10 : decode cX2_solve 10 = .ok (.aload_n 0, 1) := by decide +kernel
theorem dX2_solve_11 : decode cX2_solve 11 = .ok (.iload_n 2, 1) := by decide +kernel
theorem dX2_solve_12 : decode cX2_solve 12 = .ok (.putfield 35, 3) := by decide +kernel
theorem dX2_solve_15 : decode cX2_solve 15 = .ok (.aload_n 0, 1) := by decide +kernel
theorem dX2_solve_16 : decode cX2_solve 16 = .ok (.getfield 31, 3) := by decide +kernel
theorem dX2_solve_19 : decode cX2_solve 19 = .ok (.iconst 1, 1) := by decide +kernel
theorem dX2_solve_20 : decode cX2_solve 20 = .ok (.isub, 1) := by decide +kernel
theorem dX2_solve_21 : decode cX2_solve 21 = .ok (.istore 4, 2) := by decide +kernel
theorem dX2_solve_23 : decode cX2_solve 23 = .ok (.iload 4, 2) := by decide +kernel
theorem dX2_solve_25 : decode cX2_solve 25 = .ok (.ifCond .lt 101, 3) := by decide +kernel
theorem dX2_solve_28 : decode cX2_solve 28 = .ok (.aload_n 0, 1) := by decide +kernel
theorem dX2_solve_29 : decode cX2_solve 29 = .ok (.iload 4, 2) := by decide +kernel
theorem dX2_solve_31 : decode cX2_solve 31 = .ok (.aload_n 3, 1) := by decide +kernel
theorem dX2_solve_32 : decode cX2_solve 32 = .ok (.iconst 2, 1) := by decide +kernel
theorem dX2_solve_33 : decode cX2_solve 33 = .ok (.iaload, 1) := by decide +kernel
theorem dX2_solve_34 : decode cX2_solve 34 = .ok (.invokevirtual 38, 3) := by decide +kernel
theorem dX2_solve_37 : decode cX2_solve 37 = .ok (.istore 5, 2) := by decide +kernel
theorem dX2_solve_39 : decode cX2_solve 39 = .ok (.iconst 1, 1) := by decide +kernel
theorem dX2_solve_40 : decode cX2_solve 40 = .ok (.iload 5, 2) := by decide +kernel
theorem dX2_solve_42 : decode cX2_solve 42 = .ok (.iadd, 1) := by decide +kernel
theorem dX2_solve_43 : decode cX2_solve 43 = .ok (.aload_n 0, 1) := by decide +kernel
theorem dX2_solve_44 : decode cX2_solve 44 = .ok (.getfield 31, 3) := by decide +kernel
theorem dX2_solve_47 : decode cX2_solve 47 = .ok (.iload 4, 2) := by decide +kernel
theorem dX2_solve_49 : decode cX2_solve 49 = .ok (.isub, 1) := by decide +kernel
theorem dX2_solve_50 : decode cX2_solve 50 = .ok (.aload_n 3, 1) := by decide +kernel
theorem dX2_solve_51 : decode cX2_solve 51 = .ok (.iconst 1, 1) := by decide +kernel
theorem dX2_solve_52 : decode cX2_solve 52 = .ok (.iaload, 1) := by decide +kernel
theorem dX2_solve_53 : decode cX2_solve 53 = .ok (.invokestatic 41, 3) := by decide +kernel
theorem dX2_solve_56 : decode cX2_solve 56 = .ok (.istore 6, 2) := by decide +kernel
theorem dX2_solve_58 : decode cX2_solve 58 = .ok (.aload_n 0, 1) := by decide +kernel
theorem dX2_solve_59 : decode cX2_solve 59 = .ok (.iload 4, 2) := by decide +kernel
theorem dX2_solve_61 : decode cX2_solve 61 = .ok (.iload 6, 2) := by decide +kernel
theorem dX2_solve_63 : decode cX2_solve 63 = .ok (.aload_n 3, 1) := by decide +kernel
theorem dX2_solve_64 : decode cX2_solve 64 = .ok (.iconst 3, 1) := by decide +kernel
theorem dX2_solve_65 : decode cX2_solve 65 = .ok (.iaload, 1) := by decide +kernel
theorem dX2_solve_66 : decode cX2_solve 66 = .ok (.invokevirtual 45, 3) := by decide +kernel
theorem dX2_solve_69 : decode cX2_solve 69 = .ok (.istore 7, 2) := by decide +kernel
theorem dX2_solve_71 : decode cX2_solve 71 = .ok (.iload 7, 2) := by decide +kernel
theorem dX2_solve_73 : decode cX2_solve 73 = .ok (.aload_n 0, 1) := by decide +kernel
theorem dX2_solve_74 : decode cX2_solve 74 = .ok (.getfield 35, 3) := by decide +kernel
theorem dX2_solve_77 : decode cX2_solve 77 = .ok (.if_icmp .gt 35, 3) := by decide +kernel
theorem dX2_solve_80 : decode cX2_solve 80 = .ok (.aload_n 0, 1) := by decide +kernel
theorem dX2_solve_81 : decode cX2_solve 81 = .ok (.getfield 18, 3) := by decide +kernel
theorem dX2_solve_84 : decode cX2_solve 84 = .ok (.iconst 0, 1) := by decide +kernel
theorem dX2_solve_85 : decode cX2_solve 85 = .ok (.aload_n 0, 1) := by decide +kernel
theorem dX2_solve_86 : decode cX2_solve 86 = .ok (.getfield 9, 3) := by decide +kernel
theorem dX2_solve_89 : decode cX2_solve 89 = .ok (.iconst 0, 1) := by decide +kernel
theorem dX2_solve_90 : decode cX2_solve 90 = .ok (.bipush 60, 2) := by decide +kernel
theorem dX2_solve_92 : decode cX2_solve 92 = .ok (.invokestatic 48, 3) := by decide +kernel
theorem dX2_solve_95 : decode cX2_solve 95 = .ok (.aload_n 0, 1) := by decide +kernel
theorem dX2_solve_96 : decode cX2_solve 96 = .ok (.getfield 9, 3) := by decide +kernel
theorem dX2_solve_99 : decode cX2_solve 99 = .ok (.iload 4, 2) := by decide +kernel
theorem dX2_solve_101 : decode cX2_solve 101 = .ok (.aload_n 0, 1) := by decide +kernel
theorem dX2_solve_102 : decode cX2_solve 102 = .ok (.getfield 35, 3) := by decide +kernel
theorem dX2_solve_105 : decode cX2_solve 105 = .ok (.iload 7, 2) := by decide +kernel
theorem dX2_solve_107 : decode cX2_solve 107 = .ok (.isub, 1) := by decide +kernel
theorem dX2_solve_108 : decode cX2_solve 108 = .ok (.iastore, 1) := by decide +kernel
theorem dX2_solve_109 : decode cX2_solve 109 = .ok (.goto 11, 3) := by decide +kernel
theorem dX2_solve_112 : decode cX2_solve 112 = .ok (.aload_n 0, 1) := by decide +kernel
theorem dX2_solve_113 : decode cX2_solve 113 = .ok (.getfield 9, 3) := by decide +kernel
theorem dX2_solve_116 : decode cX2_solve 116 = .ok (.iload 4, 2) := by decide +kernel
theorem dX2_solve_118 : decode cX2_solve 118 = .ok (.iconst (-1), 1) := by decide +kernel
theorem dX2_solve_119 : decode cX2_solve 119 = .ok (.iastore, 1) := by decide +kernel
theorem dX2_solve_120 : decode cX2_solve 120 = .ok (.iinc 4 (-1), 3) := by decide +kernel
theorem dX2_solve_123 : decode cX2_solve 123 = .ok (.goto (-100), 3) := by decide +kernel
theorem dX2_solve_126 : decode cX2_solve 126 = .ok (.return_, 1) := by decide +kernel
theorem dX2_askYounger_0 : decode cX2_askYounger 0 = .ok (.iconst 0, 1) := by decide +kernel
theorem dX2_askYounger_1 : decode cX2_askYounger 1 = .ok (.istore_n 3, 1) := by decide +kernel
theorem dX2_askYounger_2 : decode cX2_askYounger 2 = .ok (.iload_n 1, 1) := by decide +kernel
theorem dX2_askYounger_3 : decode cX2_askYounger 3 = .ok (.iconst 1, 1) := by decide +kernel
theorem dX2_askYounger_4 : decode cX2_askYounger 4 = .ok (.iadd, 1) := by decide +kernel
theorem dX2_askYounger_5 : decode cX2_askYounger 5 = .ok (.istore 4, 2) := by decide +kernel
theorem dX2_askYounger_7 : decode cX2_askYounger 7 = .ok (.iload 4, 2) := by decide +kernel
theorem dX2_askYounger_9 : decode cX2_askYounger 9 = .ok (.aload_n 0, 1) := by decide +kernel
theorem dX2_askYounger_10 : decode cX2_askYounger 10 = .ok (.getfield 31, 3) := by decide +kernel
theorem dX2_askYounger_13 : decode cX2_askYounger 13 = .ok (.if_icmp .ge 45, 3) := by decide +kernel
theorem dX2_askYounger_16 : decode cX2_askYounger 16 = .ok (.aload_n 0, 1) := by decide +kernel
theorem dX2_askYounger_17 : decode cX2_askYounger 17 = .ok (.getfield 15, 3) := by decide +kernel
theorem dX2_askYounger_20 : decode cX2_askYounger 20 = .ok (.iload 4, 2) := by decide +kernel
theorem dX2_askYounger_22 : decode cX2_askYounger 22 = .ok (.aload_n 0, 1) := by decide +kernel
theorem dX2_askYounger_23 : decode cX2_askYounger 23 = .ok (.getfield 21, 3) := by decide +kernel
theorem dX2_askYounger_26 : decode cX2_askYounger 26 = .ok (.aload_n 0, 1) := by decide +kernel
theorem dX2_askYounger_27 : decode cX2_askYounger 27 = .ok (.getfield 9, 3) := by decide +kernel
theorem dX2_askYounger_30 : decode cX2_askYounger 30 = .ok (.iload 4, 2) := by decide +kernel
theorem dX2_askYounger_32 : decode cX2_askYounger 32 = .ok (.iaload, 1) := by decide +kernel
theorem dX2_askYounger_33 : decode cX2_askYounger 33 = .ok (.iconst 0, 1) := by decide +kernel
theorem dX2_askYounger_34 : decode cX2_askYounger 34 = .ok (.iload_n 2, 1) := by decide +kernel
theorem dX2_askYounger_35 : decode cX2_askYounger 35 = .ok (.invokevirtual 54, 3) := by decide +kernel
theorem dX2_askYounger_38 : decode cX2_askYounger 38 = .ok (.iastore, 1) := by decide +kernel
theorem dX2_askYounger_39 : decode cX2_askYounger 39 = .ok (.aload_n 0, 1) := by decide +kernel
theorem dX2_askYounger_40 : decode cX2_askYounger 40 = .ok (.getfield 15, 3) := by decide +kernel
theorem dX2_askYounger_43 : decode cX2_askYounger 43 = .ok (.iload 4, 2) := by decide +kernel
theorem dX2_askYounger_45 : decode cX2_askYounger 45 = .ok (.iaload, 1) := by decide +kernel
theorem dX2_askYounger_46 : decode cX2_askYounger 46 = .ok (.ifCond .ne 6, 3) := by decide +kernel
theorem dX2_askYounger_49 : decode cX2_askYounger 49 = .ok (.iinc 3 1, 3) := by decide +kernel
theorem dX2_askYounger_52 : decode cX2_askYounger 52 = .ok (.iinc 4 1, 3) := by decide +kernel
theorem dX2_askYounger_55 : decode cX2_askYounger 55 = .ok (.goto (-48), 3) := by decide +kernel
theorem dX2_askYounger_58 : decode cX2_askYounger 58 = .ok (.iload_n 3, 1) := by decide +kernel
theorem dX2_askYounger_59 : decode cX2_askYounger 59 = .ok (.ireturn, 1) := by decide +kernel
theorem dX2_votesLacking_0 : decode cX2_votesLacking 0 = .ok (.iconst 0, 1) := by decide +kernel
theorem dX2_votesLacking_1 : decode cX2_votesLacking 1 = .ok (.istore_n 3, 1) := by decide +kernel
theorem dX2_votesLacking_2 : decode cX2_votesLacking 2 = .ok (.iload_n 0, 1) := by decide +kernel
theorem dX2_votesLacking_3 : decode cX2_votesLacking 3 = .ok (.iload_n 3, 1) := by decide +kernel
theorem dX2_votesLacking_4 : decode cX2_votesLacking 4 = .ok (.iadd, 1) := by decide +kernel
theorem dX2_votesLacking_5 : decode cX2_votesLacking 5 = .ok (.iload_n 1, 1) := by decide +kernel
theorem dX2_votesLacking_6 : decode cX2_votesLacking 6 = .ok (.if_icmp .ge 20, 3) := by decide +kernel
theorem dX2_votesLacking_9 : decode cX2_votesLacking 9 = .ok (.iload_n 2, 1) := by decide +kernel
theorem dX2_votesLacking_10 : decode cX2_votesLacking 10 = .ok (.iload_n 0, 1) := by decide +kernel
theorem dX2_votesLacking_11 : decode cX2_votesLacking 11 = .ok (.iload_n 3, 1) := by decide +kernel
theorem dX2_votesLacking_12 : decode cX2_votesLacking 12 = .ok (.iadd, 1) := by decide +kernel
theorem dX2_votesLacking_13 : decode cX2_votesLacking 13 = .ok (.iload_n 1, 1) := by decide +kernel
theorem dX2_votesLacking_14 : decode cX2_votesLacking 14 = .ok (.invokestatic 59, 3) := by decide +kernel
theorem dX2_votesLacking_17 : decode cX2_votesLacking 17 = .ok (.ifCond .ne 9, 3) := by decide +kernel
theorem dX2_votesLacking_20 : decode cX2_votesLacking 20 = .ok (.iinc 3 1, 3) := by decide +kernel
theorem dX2_votesLacking_23 : decode cX2_votesLacking 23 = .ok (.goto (-21), 3) := by decide +kernel
theorem dX2_votesLacking_26 : decode cX2_votesLacking 26 = .ok (.iload_n 3, 1) := by decide +kernel
theorem dX2_votesLacking_27 : decode cX2_votesLacking 27 = .ok (.ireturn, 1) := by decide +kernel
theorem dX2_buyYounger_0 : decode cX2_buyYounger 0 = .ok (.aload_n 0, 1) := by decide +kernel
theorem dX2_buyYounger_1 : decode cX2_buyYounger 1 = .ok (.getfield 18, 3) := by decide +kernel
theorem dX2_buyYounger_4 : decode cX2_buyYounger 4 = .ok (.iconst 0, 1) := by decide +kernel
theorem dX2_buyYounger_5 : decode cX2_buyYounger 5 = .ok (.invokestatic 63, 3) := by decide +kernel
theorem dX2_buyYounger_8 : decode cX2_buyYounger 8 = .ok (.iconst 0, 1) := by decide +kernel
theorem dX2_buyYounger_9 : decode cX2_buyYounger 9 = .ok (.istore 4, 2) := by decide +kernel
theorem dX2_buyYounger_11 : decode cX2_buyYounger 11 = .ok (.iload_n 2, 1) := by decide +kernel
theorem dX2_buyYounger_12 : decode cX2_buyYounger 12 = .ok (.istore 5, 2) := by decide +kernel
theorem dX2_buyYounger_14 : decode cX2_buyYounger 14 = .ok (.iconst 0, 1) := by decide +kernel
theorem dX2_buyYounger_15 : decode cX2_buyYounger 15 = .ok (.istore 6, 2) := by decide +kernel
theorem dX2_buyYounger_17 : decode cX2_buyYounger 17 = .ok (.iconst 0, 1) := by decide +kernel
theorem dX2_buyYounger_18 : decode cX2_buyYounger 18 = .ok (.istore 7, 2) := by decide +kernel
theorem dX2_buyYounger_20 : decode cX2_buyYounger 20 = .ok (.iload 7, 2) := by decide +kernel
theorem dX2_buyYounger_22 : decode cX2_buyYounger 22 = .ok (.aload_n 0, 1) := by decide +kernel
theorem dX2_buyYounger_23 : decode cX2_buyYounger 23 = .ok (.getfield 31, 3) := by decide +kernel
theorem dX2_buyYounger_26 : decode cX2_buyYounger 26 = .ok (.if_icmp .ge 61, 3) := by decide +kernel
theorem dX2_buyYounger_29 : decode cX2_buyYounger 29 = .ok (.iload 5, 2) := by decide +kernel
theorem dX2_buyYounger_31 : decode cX2_buyYounger 31 = .ok (.ifCond .le 56, 3) := by decide +kernel
theorem dX2_buyYounger_34 : decode cX2_buyYounger 34 = .ok (.iload 4, 2) := by decide +kernel
theorem dX2_buyYounger_36 : decode cX2_buyYounger 36 = .ok (.aload_n 0, 1) := by decide +kernel
theorem dX2_buyYounger_37 : decode cX2_buyYounger 37 = .ok (.getfield 35, 3) := by decide +kernel
theorem dX2_buyYounger_40 : decode cX2_buyYounger 40 = .ok (.if_icmp .gt 47, 3) := by decide +kernel
theorem dX2_buyYounger_43 : decode cX2_buyYounger 43 = .ok (.aload_n 0, 1) := by decide +kernel
theorem dX2_buyYounger_44 : decode cX2_buyYounger 44 = .ok (.iload_n 1, 1) := by decide +kernel
theorem dX2_buyYounger_45 : decode cX2_buyYounger 45 = .ok (.iload 6, 2) := by decide +kernel
theorem dX2_buyYounger_47 : decode cX2_buyYounger 47 = .ok (.invokevirtual 69, 3) := by decide +kernel
theorem dX2_buyYounger_50 : decode cX2_buyYounger 50 = .ok (.istore 6, 2) := by decide +kernel
theorem dX2_buyYounger_52 : decode cX2_buyYounger 52 = .ok (.aload_n 0, 1) := by decide +kernel
theorem dX2_buyYounger_53 : decode cX2_buyYounger 53 = .ok (.iload_n 1, 1) := by decide +kernel
theorem dX2_buyYounger_54 : decode cX2_buyYounger 54 = .ok (.iload 6, 2) := by decide +kernel
theorem dX2_buyYounger_56 : decode cX2_buyYounger 56 = .ok (.iload 5, 2) := by decide +kernel
theorem dX2_buyYounger_58 : decode cX2_buyYounger 58 = .ok (.iload_n 3, 1) := by decide +kernel
theorem dX2_buyYounger_59 : decode cX2_buyYounger 59 = .ok (.invokevirtual 72, 3) := by decide +kernel
theorem dX2_buyYounger_62 : decode cX2_buyYounger 62 = .ok (.istore 8, 2) := by decide +kernel
theorem dX2_buyYounger_64 : decode cX2_buyYounger 64 = .ok (.iload 4, 2) := by decide +kernel
theorem dX2_buyYounger_66 : decode cX2_buyYounger 66 = .ok (.iload 8, 2) := by decide +kernel
theorem dX2_buyYounger_68 : decode cX2_buyYounger 68 = .ok (.iload 6, 2) := by decide +kernel
theorem dX2_buyYounger_70 : decode cX2_buyYounger 70 = .ok (.imul, 1) := by decide +kernel
theorem dX2_buyYounger_71 : decode cX2_buyYounger 71 = .ok (.iadd, 1) := by decide +kernel
theorem dX2_buyYounger_72 : decode cX2_buyYounger 72 = .ok (.istore 4, 2) := by decide +kernel
theorem dX2_buyYounger_74 : decode cX2_buyYounger 74 = .ok (.iload 5, 2) := by decide +kernel
theorem dX2_buyYounger_76 : decode cX2_buyYounger 76 = .ok (.iload 8, 2) := by decide +kernel
theorem dX2_buyYounger_78 : decode cX2_buyYounger 78 = .ok (.isub, 1) := by decide +kernel
theorem dX2_buyYounger_79 : decode cX2_buyYounger 79 = .ok (.istore 5, 2) := by decide +kernel
theorem dX2_buyYounger_81 : decode cX2_buyYounger 81 = .ok (.iinc 7 1, 3) := by decide +kernel
theorem dX2_buyYounger_84 : decode cX2_buyYounger 84 = .ok (.goto (-64), 3) := by decide +kernel
theorem dX2_buyYounger_87 : decode cX2_buyYounger 87 = .ok (.iload 4, 2) := by decide +kernel
theorem dX2_buyYounger_89 : decode cX2_buyYounger 89 = .ok (.ireturn, 1) := by decide +kernel
theorem dX2_nextLevel_0 : decode cX2_nextLevel 0 = .ok (.sipush 1000, 3) := by decide +kernel
theorem dX2_nextLevel_3 : decode cX2_nextLevel 3 = .ok (.istore_n 3, 1) := by decide +kernel
theorem dX2_nextLevel_4 : decode cX2_nextLevel 4 = .ok (.iload_n 1, 1) := by decide +kernel
theorem dX2_nextLevel_5 : decode cX2_nextLevel 5 = .ok (.iconst 1, 1) := by decide +kernel
theorem dX2_nextLevel_6 : decode cX2_nextLevel 6 = .ok (.iadd, 1) := by decide +kernel
theorem dX2_nextLevel_7 : decode cX2_nextLevel 7 = .ok (.istore 4, 2) := by decide +kernel
theorem dX2_nextLevel_9 : decode cX2_nextLevel 9 = .ok (.iload 4, 2) := by decide +kernel
theorem dX2_nextLevel_11 : decode cX2_nextLevel 11 = .ok (.aload_n 0, 1) := by decide +kernel
theorem dX2_nextLevel_12 : decode cX2_nextLevel 12 = .ok (.getfield 31, 3) := by decide +kernel
theorem dX2_nextLevel_15 : decode cX2_nextLevel 15 = .ok (.if_icmp .ge 32, 3) := by decide +kernel
theorem dX2_nextLevel_18 : decode cX2_nextLevel 18 = .ok (.aload_n 0, 1) := by decide +kernel
theorem dX2_nextLevel_19 : decode cX2_nextLevel 19 = .ok (.getfield 15, 3) := by decide +kernel
theorem dX2_nextLevel_22 : decode cX2_nextLevel 22 = .ok (.iload 4, 2) := by decide +kernel
theorem dX2_nextLevel_24 : decode cX2_nextLevel 24 = .ok (.iaload, 1) := by decide +kernel
theorem dX2_nextLevel_25 : decode cX2_nextLevel 25 = .ok (.iload_n 2, 1) := by decide +kernel
theorem dX2_nextLevel_26 : decode cX2_nextLevel 26 = .ok (.if_icmp .le 15, 3) := by decide +kernel
theorem dX2_nextLevel_29 : decode cX2_nextLevel 29 = .ok (.iload_n 3, 1) := by decide +kernel
theorem dX2_nextLevel_30 : decode cX2_nextLevel 30 = .ok (.aload_n 0, 1) := by decide +kernel
theorem dX2_nextLevel_31 : decode cX2_nextLevel 31 = .ok (.getfield 15, 3) := by decide +kernel
theorem dX2_nextLevel_34 : decode cX2_nextLevel 34 = .ok (.iload 4, 2) := by decide +kernel
theorem dX2_nextLevel_36 : decode cX2_nextLevel 36 = .ok (.iaload, 1) := by decide +kernel
theorem dX2_nextLevel_37 : decode cX2_nextLevel 37 = .ok (.invokestatic 25, 3) := by decide +kernel
theorem dX2_nextLevel_40 : decode cX2_nextLevel 40 = .ok (.istore_n 3, 1) := by decide +kernel
theorem dX2_nextLevel_41 : decode cX2_nextLevel 41 = .ok (.iinc 4 1, 3) := by decide +kernel
theorem dX2_nextLevel_44 : decode cX2_nextLevel 44 = .ok (.goto (-35), 3) := by decide +kernel
theorem dX2_nextLevel_47 : decode cX2_nextLevel 47 = .ok (.iload_n 3, 1) := by decide +kernel
theorem dX2_nextLevel_48 : decode cX2_nextLevel 48 = .ok (.ireturn, 1) := by decide +kernel
theorem dX2_buyAtLevel_0 : decode cX2_buyAtLevel 0 = .ok (.iconst 0, 1) := by decide +kernel
theorem dX2_buyAtLevel_1 : decode cX2_buyAtLevel 1 = .ok (.istore 5, 2) := by decide +kernel
theorem dX2_buyAtLevel_3 : decode cX2_buyAtLevel 3 = .ok (.aload_n 0, 1) := by decide +kernel
theorem dX2_buyAtLevel_4 : decode cX2_buyAtLevel 4 = .ok (.getfield 31, 3) := by decide +kernel
theorem dX2_buyAtLevel_7 : decode cX2_buyAtLevel 7 = .ok (.iconst 1, 1) := by decide +kernel
theorem dX2_buyAtLevel_8 : decode cX2_buyAtLevel 8 = .ok (.isub, 1) := by decide +kernel
theorem dX2_buyAtLevel_9 : decode cX2_buyAtLevel 9 = .ok (.iload_n 1, 1) := by decide +kernel
theorem dX2_buyAtLevel_10 : decode cX2_buyAtLevel 10 = .ok (.isub, 1) := by decide +kernel
theorem dX2_buyAtLevel_11 : decode cX2_buyAtLevel 11 = .ok (.istore 6, 2) := by decide +kernel
theorem dX2_buyAtLevel_13 : decode cX2_buyAtLevel 13 = .ok (.iconst 0, 1) := by decide +kernel
theorem dX2_buyAtLevel_14 : decode cX2_buyAtLevel 14 = .ok (.istore 7, 2) := by decide +kernel
theorem dX2_buyAtLevel_16 : decode cX2_buyAtLevel 16 = .ok (.iload 7, 2) := by decide +kernel
theorem dX2_buyAtLevel_18 : decode cX2_buyAtLevel 18 = .ok (.iload 6, 2) := by decide +kernel
theorem dX2_buyAtLevel_20 : decode cX2_buyAtLevel 20 = .ok (.if_icmp .ge 62, 3) := by decide +kernel
theorem dX2_buyAtLevel_23 : decode cX2_buyAtLevel 23 = .ok (.iload 5, 2) := by decide +kernel
theorem dX2_buyAtLevel_25 : decode cX2_buyAtLevel 25 = .ok (.iload_n 3, 1) := by decide +kernel
theorem dX2_buyAtLevel_26 : decode cX2_buyAtLevel 26 = .ok (.if_icmp .ge 56, 3) := by decide +kernel
theorem dX2_buyAtLevel_29 : decode cX2_buyAtLevel 29 = .ok (.iload 4, 2) := by decide +kernel
theorem dX2_buyAtLevel_31 : decode cX2_buyAtLevel 31 = .ok (.ifCond .ne 12, 3) := by decide +kernel
theorem dX2_buyAtLevel_34 : decode cX2_buyAtLevel 34 = .ok (.iload_n 1, 1) := by decide +kernel
theorem dX2_buyAtLevel_35 : decode cX2_buyAtLevel 35 = .ok (.iconst 1, 1) := by decide +kernel
theorem dX2_buyAtLevel_36 : decode cX2_buyAtLevel 36 = .ok (.iadd, 1) := by decide +kernel
theorem dX2_buyAtLevel_37 : decode cX2_buyAtLevel 37 = .ok (.iload 7, 2) := by decide +kernel
theorem dX2_buyAtLevel_39 : decode cX2_buyAtLevel 39 = .ok (.iadd, 1) := by decide +kernel
theorem dX2_buyAtLevel_40 : decode cX2_buyAtLevel 40 = .ok (.goto 12, 3) := by decide +kernel
theorem dX2_buyAtLevel_43 : decode cX2_buyAtLevel 43 = .ok (.aload_n 0, 1) := by decide +kernel
theorem dX2_buyAtLevel_44 : decode cX2_buyAtLevel 44 = .ok (.getfield 31, 3) := by decide +kernel
theorem dX2_buyAtLevel_47 : decode cX2_buyAtLevel 47 = .ok (.iconst 1, 1) := by decide +kernel
theorem dX2_buyAtLevel_48 : decode cX2_buyAtLevel 48 = .ok (.isub, 1) := by decide +kernel
theorem dX2_buyAtLevel_49 : decode cX2_buyAtLevel 49 = .ok (.iload 7, 2) := by decide +kernel
theorem dX2_buyAtLevel_51 : decode cX2_buyAtLevel 51 = .ok (.isub, 1) := by decide +kernel
theorem dX2_buyAtLevel_52 : decode cX2_buyAtLevel 52 = .ok (.istore 8, 2) := by decide +kernel
theorem dX2_buyAtLevel_54 : decode cX2_buyAtLevel 54 = .ok (.aload_n 0, 1) := by decide +kernel
theorem dX2_buyAtLevel_55 : decode cX2_buyAtLevel 55 = .ok (.getfield 15, 3) := by decide +kernel
theorem dX2_buyAtLevel_58 : decode cX2_buyAtLevel 58 = .ok (.iload 8, 2) := by decide +kernel
theorem dX2_buyAtLevel_60 : decode cX2_buyAtLevel 60 = .ok (.iaload, 1) := by decide +kernel
theorem dX2_buyAtLevel_61 : decode cX2_buyAtLevel 61 = .ok (.iload_n 2, 1) := by decide +kernel
theorem dX2_buyAtLevel_62 : decode cX2_buyAtLevel 62 = .ok (.if_icmp .ne 14, 3) := by decide +kernel
theorem dX2_buyAtLevel_65 : decode cX2_buyAtLevel 65 = .ok (.aload_n 0, 1) := by decide +kernel
theorem dX2_buyAtLevel_66 : decode cX2_buyAtLevel 66 = .ok (.getfield 18, 3) := by decide +kernel
theorem dX2_buyAtLevel_69 : decode cX2_buyAtLevel 69 = .ok (.iload 8, 2) := by decide +kernel
theorem dX2_buyAtLevel_71 : decode cX2_buyAtLevel 71 = .ok (.iload_n 2, 1) := by decide +kernel
theorem dX2_buyAtLevel_72 : decode cX2_buyAtLevel 72 = .ok (.iastore, 1) := by decide +kernel
theorem dX2_buyAtLevel_73 : decode cX2_buyAtLevel 73 = .ok (.iinc 5 1, 3) := by decide +kernel
theorem dX2_buyAtLevel_76 : decode cX2_buyAtLevel 76 = .ok (.iinc 7 1, 3) := by decide +kernel
theorem dX2_buyAtLevel_79 : decode cX2_buyAtLevel 79 = .ok (.goto (-63), 3) := by decide +kernel
theorem dX2_buyAtLevel_82 : decode cX2_buyAtLevel 82 = .ok (.iload 5, 2) := by decide +kernel
theorem dX2_buyAtLevel_84 : decode cX2_buyAtLevel 84 = .ok (.ireturn, 1) := by decide +kernel
theorem dX3_init_0 : decode cX3_init 0 = .ok (.aload_n 0, 1) := by decide +kernel
theorem dX3_init_1 : decode cX3_init 1 = .ok (.invokespecial 1, 3) := by decide +kernel
theorem dX3_init_4 : decode cX3_init 4 = .ok (.return_, 1) := by decide +kernel
theorem dX3_ask_0 : decode cX3_ask 0 = .ok (.aload_n 0, 1) := by decide +kernel
theorem dX3_ask_1 : decode cX3_ask 1 = .ok (.iload_n 1, 1) := by decide +kernel
theorem dX3_ask_2 : decode cX3_ask 2 = .ok (.iload_n 2, 1) := by decide +kernel
theorem dX3_ask_3 : decode cX3_ask 3 = .ok (.iload_n 3, 1) := by decide +kernel
theorem dX3_ask_4 : decode cX3_ask 4 = .ok (.invokespecial 7, 3) := by decide +kernel
theorem dX3_ask_7 : decode cX3_ask 7 = .ok (.istore 4, 2) := by decide +kernel
theorem dX3_ask_9 : decode cX3_ask 9 = .ok (.iload_n 1, 1) := by decide +kernel
theorem dX3_ask_10 : decode cX3_ask 10 = .ok (.ifCond .lt 10, 3) := by decide +kernel
theorem dX3_ask_13 : decode cX3_ask 13 = .ok (.iload 4, 2) := by decide +kernel
theorem dX3_ask_15 : decode cX3_ask 15 = .ok (.iconst 1, 1) := by decide +kernel
theorem dX3_ask_16 : decode cX3_ask 16 = .ok (.iadd, 1) := by decide +kernel
theorem dX3_ask_17 : decode cX3_ask 17 = .ok (.goto 5, 3) := by decide +kernel
theorem dX3_ask_20 : decode cX3_ask 20 = .ok (.iload 4, 2) := by decide +kernel
theorem dX3_ask_22 : decode cX3_ask 22 = .ok (.ireturn, 1) := by decide +kernel
theorem dX4_init_0 : decode cX4_init 0 = .ok (.aload_n 0, 1) := by decide +kernel
theorem dX4_init_1 : decode cX4_init 1 = .ok (.invokespecial 3, 3) := by decide +kernel
theorem dX4_init_4 : decode cX4_init 4 = .ok (.aload_n 0, 1) := by decide +kernel
theorem dX4_init_5 : decode cX4_init 5 = .ok (.bipush 8, 2) := by decide +kernel
theorem dX4_init_7 : decode cX4_init 7 = .ok (.newarray .int, 2) := by decide +kernel
theorem dX4_init_9 : decode cX4_init 9 = .ok (.putfield 9, 3) := by decide +kernel
theorem dX4_init_12 : decode cX4_init 12 = .ok (.aload_n 0, 1) := by decide +kernel
theorem dX4_init_13 : decode cX4_init 13 = .ok (.bipush 8, 2) := by decide +kernel
theorem dX4_init_15 : decode cX4_init 15 = .ok (.newarray .int, 2) := by decide +kernel
theorem dX4_init_17 : decode cX4_init 17 = .ok (.putfield 15, 3) := by decide +kernel
theorem dX4_init_20 : decode cX4_init 20 = .ok (.aload_n 0, 1) := by decide +kernel
theorem dX4_init_21 : decode cX4_init 21 = .ok (.bipush 8, 2) := by decide +kernel
theorem dX4_init_23 : decode cX4_init 23 = .ok (.newarray .int, 2) := by decide +kernel
theorem dX4_init_25 : decode cX4_init 25 = .ok (.putfield 18, 3) := by decide +kernel
theorem dX4_init_28 : decode cX4_init 28 = .ok (.aload_n 0, 1) := by decide +kernel
theorem dX4_init_29 : decode cX4_init 29 = .ok (.bipush 8, 2) := by decide +kernel
theorem dX4_init_31 : decode cX4_init 31 = .ok (.newarray .int, 2) := by decide +kernel
theorem dX4_init_33 : decode cX4_init 33 = .ok (.putfield 21, 3) := by decide +kernel
theorem dX4_init_36 : decode cX4_init 36 = .ok (.aload_n 0, 1) := by decide +kernel
theorem dX4_init_37 : decode cX4_init 37 = .ok (.iconst 5, 1) := by decide +kernel
theorem dX4_init_38 : decode cX4_init 38 = .ok (.newarray .int, 2) := by decide +kernel
theorem dX4_init_40 : decode cX4_init 40 = .ok (.dup, 1) := by decide +kernel
theorem dX4_init_41 : decode cX4_init 41 = .ok (.iconst 0, 1) := by decide +kernel
theorem dX4_init_42 : decode cX4_init 42 = .ok (.bipush 10, 2) := by decide +kernel
theorem dX4_init_44 : decode cX4_init 44 = .ok (.iastore, 1) := by decide +kernel
theorem dX4_init_45 : decode cX4_init 45 = .ok (.dup, 1) := by decide +kernel
theorem dX4_init_46 : decode cX4_init 46 = .ok (.iconst 1, 1) := by decide +kernel
theorem dX4_init_47 : decode cX4_init 47 = .ok (.iconst 0, 1) := by decide +kernel
theorem dX4_init_48 : decode cX4_init 48 = .ok (.iastore, 1) := by decide +kernel
theorem dX4_init_49 : decode cX4_init 49 = .ok (.dup, 1) := by decide +kernel
theorem dX4_init_50 : decode cX4_init 50 = .ok (.iconst 2, 1) := by decide +kernel
theorem dX4_init_51 : decode cX4_init 51 = .ok (.iconst 0, 1) := by decide +kernel
theorem dX4_init_52 : decode cX4_init 52 = .ok (.iastore, 1) := by decide +kernel
theorem dX4_init_53 : decode cX4_init 53 = .ok (.dup, 1) := by decide +kernel
theorem dX4_init_54 : decode cX4_init 54 = .ok (.iconst 3, 1) := by decide +kernel
theorem dX4_init_55 : decode cX4_init 55 = .ok (.iconst 0, 1) := by decide +kernel
theorem dX4_init_56 : decode cX4_init 56 = .ok (.iastore, 1) := by decide +kernel
theorem dX4_init_57 : decode cX4_init 57 = .ok (.dup, 1) := by decide +kernel
theorem dX4_init_58 : decode cX4_init 58 = .ok (.iconst 4, 1) := by decide +kernel
theorem dX4_init_59 : decode cX4_init 59 = .ok (.bipush 10, 2) := by decide +kernel
theorem dX4_init_61 : decode cX4_init 61 = .ok (.iastore, 1) := by decide +kernel
theorem dX4_init_62 : decode cX4_init 62 = .ok (.putfield 24, 3) := by decide +kernel
theorem dX4_init_65 : decode cX4_init 65 = .ok (.return_, 1) := by decide +kernel
theorem dX4_copy_0 : decode cX4_copy 0 = .ok (.aload_n 1, 1) := by decide +kernel
theorem dX4_copy_1 : decode cX4_copy 1 = .ok (.getfield 9, 3) := by decide +kernel
theorem dX4_copy_4 : decode cX4_copy 4 = .ok (.iconst 0, 1) := by decide +kernel
theorem dX4_copy_5 : decode cX4_copy 5 = .ok (.aload_n 0, 1) := by decide +kernel
theorem dX4_copy_6 : decode cX4_copy 6 = .ok (.getfield 9, 3) := by decide +kernel
theorem dX4_copy_9 : decode cX4_copy 9 = .ok (.iconst 0, 1) := by decide +kernel
theorem dX4_copy_10 : decode cX4_copy 10 = .ok (.bipush 8, 2) := by decide +kernel
theorem dX4_copy_12 : decode cX4_copy 12 = .ok (.invokestatic 27, 3) := by decide +kernel
theorem dX4_copy_15 : decode cX4_copy 15 = .ok (.aload_n 1, 1) := by decide +kernel
theorem dX4_copy_16 : decode cX4_copy 16 = .ok (.getfield 15, 3) := by decide +kernel
theorem dX4_copy_19 : decode cX4_copy 19 = .ok (.iconst 0, 1) := by decide +kernel
theorem dX4_copy_20 : decode cX4_copy 20 = .ok (.aload_n 0, 1) := by decide +kernel
theorem dX4_copy_21 : decode cX4_copy 21 = .ok (.getfield 15, 3) := by decide +kernel
theorem dX4_copy_24 : decode cX4_copy 24 = .ok (.iconst 0, 1) := by decide +kernel
theorem dX4_copy_25 : decode cX4_copy 25 = .ok (.bipush 8, 2) := by decide +kernel
theorem dX4_copy_27 : decode cX4_copy 27 = .ok (.invokestatic 27, 3) := by decide +kernel
theorem dX4_copy_30 : decode cX4_copy 30 = .ok (.aload_n 1, 1) := by decide +kernel
theorem dX4_copy_31 : decode cX4_copy 31 = .ok (.getfield 18, 3) := by decide +kernel
theorem dX4_copy_34 : decode cX4_copy 34 = .ok (.iconst 0, 1) := by decide +kernel
theorem dX4_copy_35 : decode cX4_copy 35 = .ok (.aload_n 0, 1) := by decide +kernel
theorem dX4_copy_36 : decode cX4_copy 36 = .ok (.getfield 18, 3) := by decide +kernel
theorem dX4_copy_39 : decode cX4_copy 39 = .ok (.iconst 0, 1) := by decide +kernel
theorem dX4_copy_40 : decode cX4_copy 40 = .ok (.bipush 8, 2) := by decide +kernel
theorem dX4_copy_42 : decode cX4_copy 42 = .ok (.invokestatic 27, 3) := by decide +kernel
theorem dX4_copy_45 : decode cX4_copy 45 = .ok (.aload_n 1, 1) := by decide +kernel
theorem dX4_copy_46 : decode cX4_copy 46 = .ok (.getfield 21, 3) := by decide +kernel
theorem dX4_copy_49 : decode cX4_copy 49 = .ok (.iconst 0, 1) := by decide +kernel
theorem dX4_copy_50 : decode cX4_copy 50 = .ok (.aload_n 0, 1) := by decide +kernel
theorem dX4_copy_51 : decode cX4_copy 51 = .ok (.getfield 21, 3) := by decide +kernel
theorem dX4_copy_54 : decode cX4_copy 54 = .ok (.iconst 0, 1) := by decide +kernel
theorem dX4_copy_55 : decode cX4_copy 55 = .ok (.bipush 8, 2) := by decide +kernel
theorem dX4_copy_57 : decode cX4_copy 57 = .ok (.invokestatic 27, 3) := by decide +kernel
theorem dX4_copy_60 : decode cX4_copy 60 = .ok (.aload_n 1, 1) := by decide +kernel
theorem dX4_copy_61 : decode cX4_copy 61 = .ok (.getfield 24, 3) := by decide +kernel
theorem dX4_copy_64 : decode cX4_copy 64 = .ok (.iconst 0, 1) := by decide +kernel
theorem dX4_copy_65 : decode cX4_copy 65 = .ok (.aload_n 0, 1) := by decide +kernel
theorem dX4_copy_66 : decode cX4_copy 66 = .ok (.getfield 24, 3) := by decide +kernel
theorem dX4_copy_69 : decode cX4_copy 69 = .ok (.iconst 0, 1) := by decide +kernel
theorem dX4_copy_70 : decode cX4_copy 70 = .ok (.getstatic 33, 3) := by decide +kernel
theorem dX4_copy_73 : decode cX4_copy 73 = .ok (.arraylength, 1) := by decide +kernel
theorem dX4_copy_74 : decode cX4_copy 74 = .ok (.invokestatic 27, 3) := by decide +kernel
theorem dX4_copy_77 : decode cX4_copy 77 = .ok (.aload_n 0, 1) := by decide +kernel
theorem dX4_copy_78 : decode cX4_copy 78 = .ok (.aload_n 1, 1) := by decide +kernel
theorem dX4_copy_79 : decode cX4_copy 79 = .ok (.getfield 36, 3) := by decide +kernel
theorem dX4_copy_82 : decode cX4_copy 82 = .ok (.putfield 36, 3) := by decide +kernel
theorem dX4_copy_85 : decode cX4_copy 85 = .ok (.aload_n 0, 1) := by decide +kernel
theorem dX4_copy_86 : decode cX4_copy 86 = .ok (.aload_n 1, 1) := by decide +kernel
theorem dX4_copy_87 : decode cX4_copy 87 = .ok (.getfield 40, 3) := by decide +kernel
theorem dX4_copy_90 : decode cX4_copy 90 = .ok (.putfield 40, 3) := by decide +kernel
theorem dX4_copy_93 : decode cX4_copy 93 = .ok (.aload_n 0, 1) := by decide +kernel
theorem dX4_copy_94 : decode cX4_copy 94 = .ok (.aload_n 1, 1) := by decide +kernel
theorem dX4_copy_95 : decode cX4_copy 95 = .ok (.getfield 43, 3) := by decide +kernel
theorem dX4_copy_98 : decode cX4_copy 98 = .ok (.putfield 43, 3) := by decide +kernel
theorem dX4_copy_101 : decode cX4_copy 101 = .ok (.return_, 1) := by decide +kernel
theorem dX4_has_0 : decode cX4_has 0 = .ok (.iload_n 1, 1) := by decide +kernel
theorem dX4_has_1 : decode cX4_has 1 = .ok (.ifCond .lt 15, 3) := by decide +kernel
theorem dX4_has_4 : decode cX4_has 4 = .ok (.iload_n 1, 1) := by decide +kernel
theorem dX4_has_5 : decode cX4_has 5 = .ok (.aload_n 0, 1) := by decide +kernel
theorem dX4_has_6 : decode cX4_has 6 = .ok (.getfield 36, 3) := by decide +kernel
theorem dX4_has_9 : decode cX4_has 9 = .ok (.if_icmp .ge 7, 3) := by decide +kernel
theorem dX4_has_12 : decode cX4_has 12 = .ok (.iconst 1, 1) := by decide +kernel
theorem dX4_has_13 : decode cX4_has 13 = .ok (.goto 4, 3) := by decide +kernel
theorem dX4_has_16 : decode cX4_has 16 = .ok (.iconst 0, 1) := by decide +kernel
theorem dX4_has_17 : decode cX4_has 17 = .ok (.ireturn, 1) := by decide +kernel
theorem dX4_isOver_0 : decode cX4_isOver 0 = .ok (.aload_n 0, 1) := by decide +kernel
theorem dX4_isOver_1 : decode cX4_isOver 1 = .ok (.getfield 36, 3) := by decide +kernel
theorem dX4_isOver_4 : decode cX4_isOver 4 = .ok (.ifCond .eq 10, 3) := by decide +kernel
theorem dX4_isOver_7 : decode cX4_isOver 7 = .ok (.aload_n 0, 1) := by decide +kernel
theorem dX4_isOver_8 : decode cX4_isOver 8 = .ok (.getfield 43, 3) := by decide +kernel
theorem dX4_isOver_11 : decode cX4_isOver 11 = .ok (.ifCond .eq 7, 3) := by decide +kernel
theorem dX4_isOver_14 : decode cX4_isOver 14 = .ok (.iconst 1, 1) := by decide +kernel
theorem dX4_isOver_15 : decode cX4_isOver 15 = .ok (.goto 4, 3) := by decide +kernel
theorem dX4_isOver_18 : decode cX4_isOver 18 = .ok (.iconst 0, 1) := by decide +kernel
theorem dX4_isOver_19 : decode cX4_isOver 19 = .ok (.ireturn, 1) := by decide +kernel
theorem dX4_add_0 : decode cX4_add 0 = .ok (.aload_n 0, 1) := by decide +kernel
theorem dX4_add_1 : decode cX4_add 1 = .ok (.getfield 36, 3) := by decide +kernel
theorem dX4_add_4 : decode cX4_add 4 = .ok (.bipush 8, 2) := by decide +kernel
theorem dX4_add_6 : decode cX4_add 6 = .ok (.if_icmp .ge 43, 3) := by decide +kernel
theorem dX4_add_9 : decode cX4_add 9 = .ok (.aload_n 0, 1) := by decide +kernel
theorem dX4_add_10 : decode cX4_add 10 = .ok (.getfield 9, 3) := by decide +kernel
theorem dX4_add_13 : decode cX4_add 13 = .ok (.aload_n 0, 1) := by decide +kernel
theorem dX4_add_14 : decode cX4_add 14 = .ok (.getfield 36, 3) := by decide +kernel
theorem dX4_add_17 : decode cX4_add 17 = .ok (.iload_n 1, 1) := by decide +kernel
theorem dX4_add_18 : decode cX4_add 18 = .ok (.iastore, 1) := by decide +kernel
theorem dX4_add_19 : decode cX4_add 19 = .ok (.aload_n 0, 1) := by decide +kernel
theorem dX4_add_20 : decode cX4_add 20 = .ok (.getfield 15, 3) := by decide +kernel
theorem dX4_add_23 : decode cX4_add 23 = .ok (.aload_n 0, 1) := by decide +kernel
theorem dX4_add_24 : decode cX4_add 24 = .ok (.getfield 36, 3) := by decide +kernel
theorem dX4_add_27 : decode cX4_add 27 = .ok (.iload_n 2, 1) := by decide +kernel
theorem dX4_add_28 : decode cX4_add 28 = .ok (.iastore, 1) := by decide +kernel
theorem dX4_add_29 : decode cX4_add 29 = .ok (.aload_n 0, 1) := by decide +kernel
theorem dX4_add_30 : decode cX4_add 30 = .ok (.getfield 18, 3) := by decide +kernel
theorem dX4_add_33 : decode cX4_add 33 = .ok (.aload_n 0, 1) := by decide +kernel
theorem dX4_add_34 : decode cX4_add 34 = .ok (.getfield 36, 3) := by decide +kernel
theorem dX4_add_37 : decode cX4_add 37 = .ok (.iload_n 3, 1) := by decide +kernel
theorem dX4_add_38 : decode cX4_add 38 = .ok (.iastore, 1) := by decide +kernel
theorem dX4_add_39 : decode cX4_add 39 = .ok (.aload_n 0, 1) := by decide +kernel
theorem dX4_add_40 : decode cX4_add 40 = .ok (.dup, 1) := by decide +kernel
theorem dX4_add_41 : decode cX4_add 41 = .ok (.getfield 36, 3) := by decide +kernel
theorem dX4_add_44 : decode cX4_add 44 = .ok (.iconst 1, 1) := by decide +kernel
theorem dX4_add_45 : decode cX4_add 45 = .ok (.iadd, 1) := by decide +kernel
theorem dX4_add_46 : decode cX4_add 46 = .ok (.putfield 36, 3) := by decide +kernel
theorem dX4_add_49 : decode cX4_add 49 = .ok (.return_, 1) := by decide +kernel
theorem dX4_weightFrom_0 : decode cX4_weightFrom 0 = .ok (.iconst 0, 1) := by decide +kernel
theorem dX4_weightFrom_1 : decode cX4_weightFrom 1 = .ok (.istore_n 2, 1) := by decide +kernel
theorem dX4_weightFrom_2 : decode cX4_weightFrom 2 = .ok (.iconst 0, 1) := by decide +kernel
theorem dX4_weightFrom_3 : decode cX4_weightFrom 3 = .ok (.iload_n 1, 1) := by decide +kernel
theorem dX4_weightFrom_4 : decode cX4_weightFrom 4 = .ok (.invokestatic 47, 3) := by decide +kernel
theorem dX4_weightFrom_7 : decode cX4_weightFrom 7 = .ok (.istore_n 3, 1) := by decide +kernel
theorem dX4_weightFrom_8 : decode cX4_weightFrom 8 = .ok (.iload_n 3, 1) := by decide +kernel
theorem dX4_weightFrom_9 : decode cX4_weightFrom 9 = .ok (.aload_n 0, 1) := by decide +kernel
theorem dX4_weightFrom_10 : decode cX4_weightFrom 10 = .ok (.getfield 36, 3) := by decide +kernel
theorem dX4_weightFrom_13 : decode cX4_weightFrom 13 = .ok (.if_icmp .ge 18, 3) := by decide +kernel
theorem dX4_weightFrom_16 : decode cX4_weightFrom 16 = .ok (.iload_n 2, 1) := by decide +kernel
theorem dX4_weightFrom_17 : decode cX4_weightFrom 17 = .ok (.aload_n 0, 1) := by decide +kernel
theorem dX4_weightFrom_18 : decode cX4_weightFrom 18 = .ok (.getfield 18, 3) := by decide +kernel
theorem dX4_weightFrom_21 : decode cX4_weightFrom 21 = .ok (.iload_n 3, 1) := by decide +kernel
theorem dX4_weightFrom_22 : decode cX4_weightFrom 22 = .ok (.iaload, 1) := by decide +kernel
theorem dX4_weightFrom_23 : decode cX4_weightFrom 23 = .ok (.iadd, 1) := by decide +kernel
theorem dX4_weightFrom_24 : decode cX4_weightFrom 24 = .ok (.istore_n 2, 1) := by decide +kernel
theorem dX4_weightFrom_25 : decode cX4_weightFrom 25 = .ok (.iinc 3 1, 3) := by decide +kernel
theorem dX4_weightFrom_28 : decode cX4_weightFrom 28 = .ok (.goto (-20), 3) := by decide +kernel
theorem dX4_weightFrom_31 : decode cX4_weightFrom 31 = .ok (.iload_n 2, 1) := by decide +kernel
theorem dX4_weightFrom_32 : decode cX4_weightFrom 32 = .ok (.ireturn, 1) := by decide +kernel
theorem dX4_weightLeft_0 : decode cX4_weightLeft 0 = .ok (.aload_n 0, 1) := by decide +kernel
theorem dX4_weightLeft_1 : decode cX4_weightLeft 1 = .ok (.aload_n 0, 1) := by decide +kernel
theorem dX4_weightLeft_2 : decode cX4_weightLeft 2 = .ok (.getfield 40, 3) := by decide +kernel
theorem dX4_weightLeft_5 : decode cX4_weightLeft 5 = .ok (.invokevirtual 53, 3) := by decide +kernel
theorem dX4_weightLeft_8 : decode cX4_weightLeft 8 = .ok (.ifCond .eq 20, 3) := by decide +kernel
theorem dX4_weightLeft_11 : decode cX4_weightLeft 11 = .ok (.aload_n 0, 1) := by decide +kernel
theorem dX4_weightLeft_12 : decode cX4_weightLeft 12 = .ok (.getfield 21, 3) := by decide +kernel
theorem dX4_weightLeft_15 : decode cX4_weightLeft 15 = .ok (.aload_n 0, 1) := by decide +kernel
theorem dX4_weightLeft_16 : decode cX4_weightLeft 16 = .ok (.getfield 40, 3) := by decide +kernel
theorem dX4_weightLeft_19 : decode cX4_weightLeft 19 = .ok (.iaload, 1) := by decide +kernel
theorem dX4_weightLeft_20 : decode cX4_weightLeft 20 = .ok (.iconst (-1), 1) := by decide +kernel
theorem dX4_weightLeft_21 : decode cX4_weightLeft 21 = .ok (.if_icmp .ne 7, 3) := by decide +kernel
theorem dX4_weightLeft_24 : decode cX4_weightLeft 24 = .ok (.iconst 0, 1) := by decide +kernel
theorem dX4_weightLeft_25 : decode cX4_weightLeft 25 = .ok (.goto 11, 3) := by decide +kernel
theorem dX4_weightLeft_28 : decode cX4_weightLeft 28 = .ok (.aload_n 0, 1) := by decide +kernel
theorem dX4_weightLeft_29 : decode cX4_weightLeft 29 = .ok (.aload_n 0, 1) := by decide +kernel
theorem dX4_weightLeft_30 : decode cX4_weightLeft 30 = .ok (.getfield 40, 3) := by decide +kernel
theorem dX4_weightLeft_33 : decode cX4_weightLeft 33 = .ok (.invokevirtual 57, 3) := by decide +kernel
theorem dX4_weightLeft_36 : decode cX4_weightLeft 36 = .ok (.ireturn, 1) := by decide +kernel
theorem dX4_isCarried_0 : decode cX4_isCarried 0 = .ok (.iconst 0, 1) := by decide +kernel
theorem dX4_isCarried_1 : decode cX4_isCarried 1 = .ok (.istore_n 3, 1) := by decide +kernel
theorem dX4_isCarried_2 : decode cX4_isCarried 2 = .ok (.iconst 0, 1) := by decide +kernel
theorem dX4_isCarried_3 : decode cX4_isCarried 3 = .ok (.iload_n 1, 1) := by decide +kernel
theorem dX4_isCarried_4 : decode cX4_isCarried 4 = .ok (.invokestatic 47, 3) := by decide +kernel
theorem dX4_isCarried_7 : decode cX4_isCarried 7 = .ok (.istore 4, 2) := by decide +kernel
theorem dX4_isCarried_9 : decode cX4_isCarried 9 = .ok (.iload 4, 2) := by decide +kernel
theorem dX4_isCarried_11 : decode cX4_isCarried 11 = .ok (.aload_n 0, 1) := by decide +kernel
theorem dX4_isCarried_12 : decode cX4_isCarried 12 = .ok (.getfield 36, 3) := by decide +kernel
theorem dX4_isCarried_15 : decode cX4_isCarried 15 = .ok (.if_icmp .ge 29, 3) := by decide +kernel
theorem dX4_isCarried_18 : decode cX4_isCarried 18 = .ok (.iload_n 2, 1) := by decide +kernel
theorem dX4_isCarried_19 : decode cX4_isCarried 19 = .ok (.iload 4, 2) := by decide +kernel
theorem dX4_isCarried_21 : decode cX4_isCarried 21 = .ok (.ishr, 1) := by decide +kernel
theorem dX4_isCarried_22 : decode cX4_isCarried 22 = .ok (.iconst 1, 1) := by decide +kernel
theorem dX4_isCarried_23 : decode cX4_isCarried 23 = .ok (.iand, 1) := by decide +kernel
theorem dX4_isCarried_24 : decode cX4_isCarried 24 = .ok (.iconst 1, 1) := by decide +kernel
theorem dX4_isCarried_25 : decode cX4_isCarried 25 = .ok (.if_icmp .ne 13, 3) := by decide +kernel
theorem dX4_isCarried_28 : decode cX4_isCarried 28 = .ok (.iload_n 3, 1) := by decide +kernel
theorem dX4_isCarried_29 : decode cX4_isCarried 29 = .ok (.aload_n 0, 1) := by decide +kernel
theorem dX4_isCarried_30 : decode cX4_isCarried 30 = .ok (.getfield 18, 3) := by decide +kernel
theorem dX4_isCarried_33 : decode cX4_isCarried 33 = .ok (.iload 4, 2) := by decide +kernel
theorem dX4_isCarried_35 : decode cX4_isCarried 35 = .ok (.iaload, 1) := by decide +kernel
theorem dX4_isCarried_36 : decode cX4_isCarried 36 = .ok (.iadd, 1) := by decide +kernel
theorem dX4_isCarried_37 : decode cX4_isCarried 37 = .ok (.istore_n 3, 1) := by decide +kernel
theorem dX4_isCarried_38 : decode cX4_isCarried 38 = .ok (.iinc 4 1, 3) := by decide +kernel
theorem dX4_isCarried_41 : decode cX4_isCarried 41 = .ok (.goto (-32), 3) := by decide +kernel
theorem dX4_isCarried_44 : decode cX4_isCarried 44 = .ok (.aload_n 0, 1) := by decide +kernel
theorem dX4_isCarried_45 : decode cX4_isCarried 45 = .ok (.getfield 24, 3) := by decide +kernel
theorem dX4_isCarried_48 : decode cX4_isCarried 48 = .ok (.iconst 1, 1) := by decide +kernel
theorem dX4_isCarried_49 : decode cX4_isCarried 49 = .ok (.iaload, 1) := by decide +kernel
theorem dX4_isCarried_50 : decode cX4_isCarried 50 = .ok (.iload_n 3, 1) := by decide +kernel
theorem dX4_isCarried_51 : decode cX4_isCarried 51 = .ok (.aload_n 0, 1) := by decide +kernel
theorem dX4_isCarried_52 : decode cX4_isCarried 52 = .ok (.iload_n 1, 1) := by decide +kernel
theorem dX4_isCarried_53 : decode cX4_isCarried 53 = .ok (.invokevirtual 57, 3) := by decide +kernel
theorem dX4_isCarried_56 : decode cX4_isCarried 56 = .ok (.invokestatic 61, 3) := by decide +kernel
theorem dX4_isCarried_59 : decode cX4_isCarried 59 = .ok (.ireturn, 1) := by decide +kernel
theorem dX4_decide_0 : decode cX4_decide 0 = .ok (.aload_n 0, 1) := by decide +kernel
theorem dX4_decide_1 : decode cX4_decide 1 = .ok (.aload_n 0, 1) := by decide +kernel
theorem dX4_decide_2 : decode cX4_decide 2 = .ok (.getfield 40, 3) := by decide +kernel
theorem dX4_decide_5 : decode cX4_decide 5 = .ok (.iload_n 1, 1) := by decide +kernel
theorem dX4_decide_6 : decode cX4_decide 6 = .ok (.invokevirtual 65, 3) := by decide +kernel
theorem dX4_decide_9 : decode cX4_decide 9 = .ok (.istore 4, 2) := by decide +kernel
theorem dX4_decide_11 : decode cX4_decide 11 = .ok (.iload 4, 2) := by decide +kernel
theorem dX4_decide_13 : decode cX4_decide 13 = .ok (.ifCond .eq 12, 3) := by decide +kernel
theorem dX4_decide_16 : decode cX4_decide 16 = .ok (.aload_n 0, 1) := by decide +kernel
theorem dX4_decide_17 : decode cX4_decide 17 = .ok (.aload_n 2, 1) := by decide +kernel
theorem dX4_decide_18 : decode cX4_decide 18 = .ok (.iload_n 3, 1) := by decide +kernel
theorem dX4_decide_19 : decode cX4_decide 19 = .ok (.invokevirtual 69, 3) := by decide +kernel
theorem dX4_decide_22 : decode cX4_decide 22 = .ok (.goto 7, 3) := by decide +kernel
theorem dX4_decide_25 : decode cX4_decide 25 = .ok (.aload_n 0, 1) := by decide +kernel
theorem dX4_decide_26 : decode cX4_decide 26 = .ok (.invokevirtual 73, 3) := by decide +kernel
theorem dX4_decide_29 : decode cX4_decide 29 = .ok (.iload 4, 2) := by decide +kernel
theorem dX4_decide_31 : decode cX4_decide 31 = .ok (.ifCond .eq 7, 3) := by decide +kernel
theorem dX4_decide_34 : decode cX4_decide 34 = .ok (.iconst 1, 1) := by decide +kernel
theorem dX4_decide_35 : decode cX4_decide 35 = .ok (.goto 4, 3) := by decide +kernel
theorem dX4_decide_38 : decode cX4_decide 38 = .ok (.iconst 0, 1) := by decide +kernel
theorem dX4_decide_39 : decode cX4_decide 39 = .ok (.ireturn, 1) := by decide +kernel
theorem dX4_part_0 : decode cX4_part 0 = .ok (.aload_n 0, 1) := by decide +kernel
theorem dX4_part_1 : decode cX4_part 1 = .ok (.getfield 40, 3) := by decide +kernel
theorem dX4_part_4 : decode cX4_part 4 = .ok (.istore_n 3, 1) := by decide +kernel
theorem dX4_part_5 : decode cX4_part 5 = .ok (.iload_n 3, 1) := by decide +kernel
theorem dX4_part_6 : decode cX4_part 6 = .ok (.aload_n 0, 1) := by decide +kernel
theorem dX4_part_7 : decode cX4_part 7 = .ok (.getfield 36, 3) := by decide +kernel
theorem dX4_part_10 : decode cX4_part 10 = .ok (.if_icmp .ge 40, 3) := by decide +kernel
theorem dX4_part_13 : decode cX4_part 13 = .ok (.iload_n 3, 1) := by decide +kernel
theorem dX4_part_14 : decode cX4_part 14 = .ok (.iload_n 2, 1) := by decide +kernel
theorem dX4_part_15 : decode cX4_part 15 = .ok (.isub, 1) := by decide +kernel
theorem dX4_part_16 : decode cX4_part 16 = .ok (.istore 4, 2) := by decide +kernel
theorem dX4_part_18 : decode cX4_part 18 = .ok (.aload_n 0, 1) := by decide +kernel
theorem dX4_part_19 : decode cX4_part 19 = .ok (.getfield 21, 3) := by decide +kernel
theorem dX4_part_22 : decode cX4_part 22 = .ok (.iload_n 3, 1) := by decide +kernel
theorem dX4_part_23 : decode cX4_part 23 = .ok (.iload 4, 2) := by decide +kernel
theorem dX4_part_25 : decode cX4_part 25 = .ok (.ifCond .lt 17, 3) := by decide +kernel
theorem dX4_part_28 : decode cX4_part 28 = .ok (.iload 4, 2) := by decide +kernel
theorem dX4_part_30 : decode cX4_part 30 = .ok (.aload_n 1, 1) := by decide +kernel
theorem dX4_part_31 : decode cX4_part 31 = .ok (.arraylength, 1) := by decide +kernel
theorem dX4_part_32 : decode cX4_part 32 = .ok (.if_icmp .ge 10, 3) := by decide +kernel
theorem dX4_part_35 : decode cX4_part 35 = .ok (.aload_n 1, 1) := by decide +kernel
theorem dX4_part_36 : decode cX4_part 36 = .ok (.iload 4, 2) := by decide +kernel
theorem dX4_part_38 : decode cX4_part 38 = .ok (.iaload, 1) := by decide +kernel
theorem dX4_part_39 : decode cX4_part 39 = .ok (.goto 4, 3) := by decide +kernel
theorem dX4_part_42 : decode cX4_part 42 = .ok (.iconst 0, 1) := by decide +kernel
theorem dX4_part_43 : decode cX4_part 43 = .ok (.iastore, 1) := by decide +kernel
theorem dX4_part_44 : decode cX4_part 44 = .ok (.iinc 3 1, 3) := by decide +kernel
theorem dX4_part_47 : decode cX4_part 47 = .ok (.goto (-42), 3) := by decide +kernel
theorem dX4_part_50 : decode cX4_part 50 = .ok (.aload_n 0, 1) := by decide +kernel
theorem dX4_part_51 : decode cX4_part 51 = .ok (.iconst 1, 1) := by decide +kernel
theorem dX4_part_52 : decode cX4_part 52 = .ok (.putfield 43, 3) := by decide +kernel
theorem dX4_part_55 : decode cX4_part 55 = .ok (.return_, 1) := by decide +kernel
theorem dX4_putAshore_0 : decode cX4_putAshore 0 = .ok (.aload_n 0, 1) := by decide +kernel
theorem dX4_putAshore_1 : decode cX4_putAshore 1 = .ok (.getfield 21, 3) := by decide +kernel
theorem dX4_putAshore_4 : decode cX4_putAshore 4 = .ok (.aload_n 0, 1) := by decide +kernel
theorem dX4_putAshore_5 : decode cX4_putAshore 5 = .ok (.getfield 40, 3) := by decide +kernel
theorem dX4_putAshore_8 : decode cX4_putAshore 8 = .ok (.iconst (-1), 1) := by decide +kernel
theorem dX4_putAshore_9 : decode cX4_putAshore 9 = .ok (.iastore, 1) := by decide +kernel
theorem dX4_putAshore_10 : decode cX4_putAshore 10 = .ok (.aload_n 0, 1) := by decide +kernel
theorem dX4_putAshore_11 : decode cX4_putAshore 11 = .ok (.getfield 40, 3) := by decide +kernel
theorem dX4_putAshore_14 : decode cX4_putAshore 14 = .ok (.iconst 1, 1) := by decide +kernel
theorem dX4_putAshore_15 : decode cX4_putAshore 15 = .ok (.iadd, 1) := by decide +kernel
theorem dX4_putAshore_16 : decode cX4_putAshore 16 = .ok (.aload_n 0, 1) := by decide +kernel
theorem dX4_putAshore_17 : decode cX4_putAshore 17 = .ok (.getfield 36, 3) := by decide +kernel
theorem dX4_putAshore_20 : decode cX4_putAshore 20 = .ok (.if_icmp .ge 16, 3) := by decide +kernel
theorem dX4_putAshore_23 : decode cX4_putAshore 23 = .ok (.aload_n 0, 1) := by decide +kernel
theorem dX4_putAshore_24 : decode cX4_putAshore 24 = .ok (.dup, 1) := by decide +kernel
theorem dX4_putAshore_25 : decode cX4_putAshore 25 = .ok (.getfield 40, 3) := by decide +kernel
theorem dX4_putAshore_28 : decode cX4_putAshore 28 = .ok (.iconst 1, 1) := by decide +kernel
theorem dX4_putAshore_29 : decode cX4_putAshore 29 = .ok (.iadd, 1) := by decide +kernel
theorem dX4_putAshore_30 : decode cX4_putAshore 30 = .ok (.putfield 40, 3) := by decide +kernel
theorem dX4_putAshore_33 : decode cX4_putAshore 33 = .ok (.goto 8, 3) := by decide +kernel
theorem dX4_putAshore_36 : decode cX4_putAshore 36 = .ok (.aload_n 0, 1) := by decide +kernel
theorem dX4_putAshore_37 : decode cX4_putAshore 37 = .ok (.iconst 1, 1) := by decide +kernel
theorem dX4_putAshore_38 : decode cX4_putAshore 38 = .ok (.putfield 43, 3) := by decide +kernel
theorem dX4_putAshore_41 : decode cX4_putAshore 41 = .ok (.return_, 1) := by decide +kernel
theorem dX5_init_0 : decode cX5_init 0 = .ok (.aload_n 0, 1) := by decide +kernel
theorem dX5_init_1 : decode cX5_init 1 = .ok (.invokespecial 1, 3) := by decide +kernel
theorem dX5_init_4 : decode cX5_init 4 = .ok (.return_, 1) := by decide +kernel
theorem dX5_tell_0 : decode cX5_tell 0 = .ok (.aload_n 1, 1) := by decide +kernel
theorem dX5_tell_1 : decode cX5_tell 1 = .ok (.iload_n 2, 1) := by decide +kernel
theorem dX5_tell_2 : decode cX5_tell 2 = .ok (.invokevirtual 7, 3) := by decide +kernel
theorem dX5_tell_5 : decode cX5_tell 5 = .ok (.return_, 1) := by decide +kernel
theorem dX6_init_0 : decode cX6_init 0 = .ok (.aload_n 0, 1) := by decide +kernel
theorem dX6_init_1 : decode cX6_init 1 = .ok (.invokespecial 1, 3) := by decide +kernel
theorem dX6_init_4 : decode cX6_init 4 = .ok (.return_, 1) := by decide +kernel
theorem dX6_ask_0 : decode cX6_ask 0 = .ok (.iload_n 2, 1) := by decide +kernel
theorem dX6_ask_1 : decode cX6_ask 1 = .ok (.ireturn, 1) := by decide +kernel
theorem dX6_tell_0 : decode cX6_tell 0 = .ok (.aload_n 1, 1) := by decide +kernel
theorem dX6_tell_1 : decode cX6_tell 1 = .ok (.iload_n 2, 1) := by decide +kernel
theorem dX6_tell_2 : decode cX6_tell 2 = .ok (.aload_n 1, 1) := by decide +kernel
theorem dX6_tell_3 : decode cX6_tell 3 = .ok (.iload_n 2, 1) := by decide +kernel
theorem dX6_tell_4 : decode cX6_tell 4 = .ok (.invokevirtual 7, 3) := by decide +kernel
theorem dX6_tell_7 : decode cX6_tell 7 = .ok (.invokevirtual 13, 3) := by decide +kernel
theorem dX6_tell_10 : decode cX6_tell 10 = .ok (.return_, 1) := by decide +kernel
theorem dX7_init_0 : decode cX7_init 0 = .ok (.aload_n 0, 1) := by decide +kernel
theorem dX7_init_1 : decode cX7_init 1 = .ok (.invokespecial 3, 3) := by decide +kernel
theorem dX7_init_4 : decode cX7_init 4 = .ok (.aload_n 0, 1) := by decide +kernel
theorem dX7_init_5 : decode cX7_init 5 = .ok (.bipush 64, 2) := by decide +kernel
theorem dX7_init_7 : decode cX7_init 7 = .ok (.newarray .char, 2) := by decide +kernel
theorem dX7_init_9 : decode cX7_init 9 = .ok (.putfield 9, 3) := by decide +kernel
theorem dX7_init_12 : decode cX7_init 12 = .ok (.return_, 1) := by decide +kernel
theorem dX7_isFull_0 : decode cX7_isFull 0 = .ok (.aload_n 0, 1) := by decide +kernel
theorem dX7_isFull_1 : decode cX7_isFull 1 = .ok (.getfield 15, 3) := by decide +kernel
theorem dX7_isFull_4 : decode cX7_isFull 4 = .ok (.bipush 64, 2) := by decide +kernel
theorem dX7_isFull_6 : decode cX7_isFull 6 = .ok (.if_icmp .lt 7, 3) := by decide +kernel
theorem dX7_isFull_9 : decode cX7_isFull 9 = .ok (.iconst 1, 1) := by decide +kernel
theorem dX7_isFull_10 : decode cX7_isFull 10 = .ok (.goto 4, 3) := by decide +kernel
theorem dX7_isFull_13 : decode cX7_isFull 13 = .ok (.iconst 0, 1) := by decide +kernel
theorem dX7_isFull_14 : decode cX7_isFull 14 = .ok (.ireturn, 1) := by decide +kernel
theorem dX7_add_0 : decode cX7_add 0 = .ok (.aload_n 0, 1) := by decide +kernel
theorem dX7_add_1 : decode cX7_add 1 = .ok (.getfield 15, 3) := by decide +kernel
theorem dX7_add_4 : decode cX7_add 4 = .ok (.bipush 64, 2) := by decide +kernel
theorem dX7_add_6 : decode cX7_add 6 = .ok (.if_icmp .ge 23, 3) := by decide +kernel
theorem dX7_add_9 : decode cX7_add 9 = .ok (.aload_n 0, 1) := by decide +kernel
theorem dX7_add_10 : decode cX7_add 10 = .ok (.getfield 9, 3) := by decide +kernel
theorem dX7_add_13 : decode cX7_add 13 = .ok (.aload_n 0, 1) := by decide +kernel
theorem dX7_add_14 : decode cX7_add 14 = .ok (.getfield 15, 3) := by decide +kernel
theorem dX7_add_17 : decode cX7_add 17 = .ok (.iload_n 1, 1) := by decide +kernel
theorem dX7_add_18 : decode cX7_add 18 = .ok (.castore, 1) := by decide +kernel
theorem dX7_add_19 : decode cX7_add 19 = .ok (.aload_n 0, 1) := by decide +kernel
theorem dX7_add_20 : decode cX7_add 20 = .ok (.dup, 1) := by decide +kernel
theorem dX7_add_21 : decode cX7_add 21 = .ok (.getfield 15, 3) := by decide +kernel
theorem dX7_add_24 : decode cX7_add 24 = .ok (.iconst 1, 1) := by decide +kernel
theorem dX7_add_25 : decode cX7_add 25 = .ok (.iadd, 1) := by decide +kernel
theorem dX7_add_26 : decode cX7_add 26 = .ok (.putfield 15, 3) := by decide +kernel
theorem dX7_add_29 : decode cX7_add 29 = .ok (.aload_n 0, 1) := by decide +kernel
theorem dX7_add_30 : decode cX7_add 30 = .ok (.getfield 15, 3) := by decide +kernel
theorem dX7_add_33 : decode cX7_add 33 = .ok (.ireturn, 1) := by decide +kernel
theorem dX7_forget_0 : decode cX7_forget 0 = .ok (.aload_n 0, 1) := by decide +kernel
theorem dX7_forget_1 : decode cX7_forget 1 = .ok (.iconst 0, 1) := by decide +kernel
theorem dX7_forget_2 : decode cX7_forget 2 = .ok (.putfield 15, 3) := by decide +kernel
theorem dX7_forget_5 : decode cX7_forget 5 = .ok (.return_, 1) := by decide +kernel
theorem dX7_fault_0 : decode cX7_fault 0 = .ok (.aload_n 0, 1) := by decide +kernel
theorem dX7_fault_1 : decode cX7_fault 1 = .ok (.invokevirtual 19, 3) := by decide +kernel
theorem dX7_fault_4 : decode cX7_fault 4 = .ok (.istore_n 2, 1) := by decide +kernel
theorem dX7_fault_5 : decode cX7_fault 5 = .ok (.iload_n 2, 1) := by decide +kernel
theorem dX7_fault_6 : decode cX7_fault 6 = .ok (.ifCond .lt 9, 3) := by decide +kernel
theorem dX7_fault_9 : decode cX7_fault 9 = .ok (.sipush (-1000), 3) := by decide +kernel
theorem dX7_fault_12 : decode cX7_fault 12 = .ok (.iload_n 2, 1) := by decide +kernel
theorem dX7_fault_13 : decode cX7_fault 13 = .ok (.isub, 1) := by decide +kernel
theorem dX7_fault_14 : decode cX7_fault 14 = .ok (.ireturn, 1) := by decide +kernel
theorem dX7_fault_15 : decode cX7_fault 15 = .ok (.aload_n 0, 1) := by decide +kernel
theorem dX7_fault_16 : decode cX7_fault 16 = .ok (.aload_n 1, 1) := by decide +kernel
theorem dX7_fault_17 : decode cX7_fault 17 = .ok (.invokevirtual 23, 3) := by decide +kernel
theorem dX7_fault_20 : decode cX7_fault 20 = .ok (.istore_n 3, 1) := by decide +kernel
theorem dX7_fault_21 : decode cX7_fault 21 = .ok (.iload_n 3, 1) := by decide +kernel
theorem dX7_fault_22 : decode cX7_fault 22 = .ok (.ifCond .lt 11, 3) := by decide +kernel
theorem dX7_fault_25 : decode cX7_fault 25 = .ok (.sipush (-2000), 3) := by decide +kernel
theorem dX7_fault_28 : decode cX7_fault 28 = .ok (.iload_n 3, 1) := by decide +kernel
theorem dX7_fault_29 : decode cX7_fault 29 = .ok (.isub, 1) := by decide +kernel
theorem dX7_fault_30 : decode cX7_fault 30 = .ok (.goto 4, 3) := by decide +kernel
theorem dX7_fault_33 : decode cX7_fault 33 = .ok (.iconst 0, 1) := by decide +kernel
theorem dX7_fault_34 : decode cX7_fault 34 = .ok (.ireturn, 1) := by decide +kernel
theorem dX7_tell_0 : decode cX7_tell 0 = .ok (.iconst 0, 1) := by decide +kernel
theorem dX7_tell_1 : decode cX7_tell 1 = .ok (.istore_n 2, 1) := by decide +kernel
theorem dX7_tell_2 : decode cX7_tell 2 = .ok (.iconst 0, 1) := by decide +kernel
theorem dX7_tell_3 : decode cX7_tell 3 = .ok (.istore_n 3, 1) := by decide +kernel
theorem dX7_tell_4 : decode cX7_tell 4 = .ok (.iconst 0, 1) := by decide +kernel
theorem dX7_tell_5 : decode cX7_tell 5 = .ok (.istore 4, 2) := by decide +kernel
theorem dX7_tell_7 : decode cX7_tell 7 = .ok (.iload 4, 2) := by decide +kernel
theorem dX7_tell_9 : decode cX7_tell 9 = .ok (.aload_n 0, 1) := by decide +kernel
theorem dX7_tell_10 : decode cX7_tell 10 = .ok (.getfield 15, 3) := by decide +kernel
theorem dX7_tell_13 : decode cX7_tell 13 = .ok (.if_icmp .ge 37, 3) := by decide +kernel
theorem dX7_tell_16 : decode cX7_tell 16 = .ok (.aload_n 0, 1) := by decide +kernel
theorem dX7_tell_17 : decode cX7_tell 17 = .ok (.getfield 9, 3) := by decide +kernel
theorem dX7_tell_20 : decode cX7_tell 20 = .ok (.iload 4, 2) := by decide +kernel
theorem dX7_tell_22 : decode cX7_tell 22 = .ok (.caload, 1) := by decide +kernel
theorem dX7_tell_23 : decode cX7_tell 23 = .ok (.bipush 59, 2) := by decide +kernel
theorem dX7_tell_25 : decode cX7_tell 25 = .ok (.if_icmp .ne 19, 3) := by decide +kernel
theorem dX7_tell_28 : decode cX7_tell 28 = .ok (.aload_n 0, 1) := by decide +kernel
theorem dX7_tell_29 : decode cX7_tell 29 = .ok (.aload_n 1, 1) := by decide +kernel
theorem dX7_tell_30 : decode cX7_tell 30 = .ok (.iload_n 3, 1) := by decide +kernel
theorem dX7_tell_31 : decode cX7_tell 31 = .ok (.iload 4, 2) := by decide +kernel
theorem dX7_tell_33 : decode cX7_tell 33 = .ok (.invokevirtual 27, 3) := by decide +kernel
theorem dX7_tell_36 : decode cX7_tell 36 = .ok (.iinc 2 1, 3) := by decide +kernel
theorem dX7_tell_39 : decode cX7_tell 39 = .ok (.iload 4, 2) := by decide +kernel
theorem dX7_tell_41 : decode cX7_tell 41 = .ok (.iconst 1, 1) := by decide +kernel
theorem dX7_tell_42 : decode cX7_tell 42 = .ok (.iadd, 1) := by decide +kernel
theorem dX7_tell_43 : decode cX7_tell 43 = .ok (.istore_n 3, 1) := by decide +kernel
theorem dX7_tell_44 : decode cX7_tell 44 = .ok (.iinc 4 1, 3) := by decide +kernel
theorem dX7_tell_47 : decode cX7_tell 47 = .ok (.goto (-40), 3) := by decide +kernel
theorem dX7_tell_50 : decode cX7_tell 50 = .ok (.iload_n 2, 1) := by decide +kernel
theorem dX7_tell_51 : decode cX7_tell 51 = .ok (.ireturn, 1) := by decide +kernel
theorem dX7_brokenAt_0 : decode cX7_brokenAt 0 = .ok (.iconst 1, 1) := by decide +kernel
theorem dX7_brokenAt_1 : decode cX7_brokenAt 1 = .ok (.istore_n 1, 1) := by decide +kernel
theorem dX7_brokenAt_2 : decode cX7_brokenAt 2 = .ok (.iconst 0, 1) := by decide +kernel
theorem dX7_brokenAt_3 : decode cX7_brokenAt 3 = .ok (.istore_n 2, 1) := by decide +kernel
theorem dX7_brokenAt_4 : decode cX7_brokenAt 4 = .ok (.iconst 0, 1) := by decide +kernel
theorem dX7_brokenAt_5 : decode cX7_brokenAt 5 = .ok (.istore_n 3, 1) := by decide +kernel
theorem dX7_brokenAt_6 : decode cX7_brokenAt 6 = .ok (.iconst 0, 1) := by decide +kernel
theorem dX7_brokenAt_7 : decode cX7_brokenAt 7 = .ok (.istore 4, 2) := by decide +kernel
theorem dX7_brokenAt_9 : decode cX7_brokenAt 9 = .ok (.iload 4, 2) := by decide +kernel
theorem dX7_brokenAt_11 : decode cX7_brokenAt 11 = .ok (.aload_n 0, 1) := by decide +kernel
theorem dX7_brokenAt_12 : decode cX7_brokenAt 12 = .ok (.getfield 15, 3) := by decide +kernel
theorem dX7_brokenAt_15 : decode cX7_brokenAt 15 = .ok (.if_icmp .ge 105, 3) := by decide +kernel
theorem dX7_brokenAt_18 : decode cX7_brokenAt 18 = .ok (.aload_n 0, 1) := by decide +kernel
theorem dX7_brokenAt_19 : decode cX7_brokenAt 19 = .ok (.getfield 9, 3) := by decide +kernel
theorem dX7_brokenAt_22 : decode cX7_brokenAt 22 = .ok (.iload 4, 2) := by decide +kernel
theorem dX7_brokenAt_24 : decode cX7_brokenAt 24 = .ok (.caload, 1) := by decide +kernel
theorem dX7_brokenAt_25 : decode cX7_brokenAt 25 = .ok (.istore 5, 2) := by decide +kernel
theorem dX7_brokenAt_27 : decode cX7_brokenAt 27 = .ok (.iload_n 1, 1) := by decide +kernel
theorem dX7_brokenAt_28 : decode cX7_brokenAt 28 = .ok (.ifCond .eq 31, 3) := by decide +kernel
theorem dX7_brokenAt_31 : decode cX7_brokenAt 31 = .ok (.iload 5, 2) := by decide +kernel
theorem dX7_brokenAt_33 : decode cX7_brokenAt 33 = .ok (.invokestatic 31, 3) := by decide +kernel
theorem dX7_brokenAt_36 : decode cX7_brokenAt 36 = .ok (.istore_n 2, 1) := by decide +kernel
theorem dX7_brokenAt_37 : decode cX7_brokenAt 37 = .ok (.iload 5, 2) := by decide +kernel
theorem dX7_brokenAt_39 : decode cX7_brokenAt 39 = .ok (.bipush 99, 2) := by decide +kernel
theorem dX7_brokenAt_41 : decode cX7_brokenAt 41 = .ok (.if_icmp .ne 7, 3) := by decide +kernel
theorem dX7_brokenAt_44 : decode cX7_brokenAt 44 = .ok (.iconst 1, 1) := by decide +kernel
theorem dX7_brokenAt_45 : decode cX7_brokenAt 45 = .ok (.goto 4, 3) := by decide +kernel
theorem dX7_brokenAt_48 : decode cX7_brokenAt 48 = .ok (.iconst 0, 1) := by decide +kernel
theorem dX7_brokenAt_49 : decode cX7_brokenAt 49 = .ok (.istore_n 3, 1) := by decide +kernel
theorem dX7_brokenAt_50 : decode cX7_brokenAt 50 = .ok (.iconst 0, 1) := by decide +kernel
theorem dX7_brokenAt_51 : decode cX7_brokenAt 51 = .ok (.istore_n 1, 1) := by decide +kernel
theorem dX7_brokenAt_52 : decode cX7_brokenAt 52 = .ok (.iload_n 2, 1) := by decide +kernel
theorem dX7_brokenAt_53 : decode cX7_brokenAt 53 = .ok (.ifCond .ne 61, 3) := by decide +kernel
theorem dX7_brokenAt_56 : decode cX7_brokenAt 56 = .ok (.iload 4, 2) := by decide +kernel
theorem dX7_brokenAt_58 : decode cX7_brokenAt 58 = .ok (.ireturn, 1) := by decide +kernel
theorem dX7_brokenAt_59 : decode cX7_brokenAt 59 = .ok (.iload 5, 2) := by decide +kernel
theorem dX7_brokenAt_61 : decode cX7_brokenAt 61 = .ok (.invokestatic 35, 3) := by decide +kernel
theorem dX7_brokenAt_64 : decode cX7_brokenAt 64 = .ok (.ifCond .eq 13, 3) := by decide +kernel
theorem dX7_brokenAt_67 : decode cX7_brokenAt 67 = .ok (.iload_n 2, 1) := by decide +kernel
theorem dX7_brokenAt_68 : decode cX7_brokenAt 68 = .ok (.ifCond .le 9, 3) := by decide +kernel
theorem dX7_brokenAt_71 : decode cX7_brokenAt 71 = .ok (.iinc 2 (-1), 3) := by decide +kernel
theorem dX7_brokenAt_74 : decode cX7_brokenAt 74 = .ok (.goto 40, 3) := by decide +kernel
theorem dX7_brokenAt_77 : decode cX7_brokenAt 77 = .ok (.iload 5, 2) := by decide +kernel
theorem dX7_brokenAt_79 : decode cX7_brokenAt 79 = .ok (.invokestatic 35, 3) := by decide +kernel
theorem dX7_brokenAt_82 : decode cX7_brokenAt 82 = .ok (.ifCond .eq 13, 3) := by decide +kernel
theorem dX7_brokenAt_85 : decode cX7_brokenAt 85 = .ok (.iload_n 3, 1) := by decide +kernel
theorem dX7_brokenAt_86 : decode cX7_brokenAt 86 = .ok (.ifCond .le 9, 3) := by decide +kernel
theorem dX7_brokenAt_89 : decode cX7_brokenAt 89 = .ok (.iinc 3 (-1), 3) := by decide +kernel
theorem dX7_brokenAt_92 : decode cX7_brokenAt 92 = .ok (.goto 22, 3) := by decide +kernel
theorem dX7_brokenAt_95 : decode cX7_brokenAt 95 = .ok (.iload 5, 2) := by decide +kernel
theorem dX7_brokenAt_97 : decode cX7_brokenAt 97 = .ok (.bipush 59, 2) := by decide +kernel
theorem dX7_brokenAt_99 : decode cX7_brokenAt 99 = .ok (.if_icmp .ne 12, 3) := by decide +kernel
theorem dX7_brokenAt_102 : decode cX7_brokenAt 102 = .ok (.iload_n 2, 1) := by decide +kernel
theorem dX7_brokenAt_103 : decode cX7_brokenAt 103 = .ok (.ifCond .ne 8, 3) := by decide +kernel
theorem dX7_brokenAt_106 : decode cX7_brokenAt 106 = .ok (.iconst 1, 1) := by decide +kernel
theorem dX7_brokenAt_107 : decode cX7_brokenAt 107 = .ok (.istore_n 1, 1) := by decide +kernel
theorem dX7_brokenAt_108 : decode cX7_brokenAt 108 = .ok (.goto 6, 3) := by decide +kernel
theorem dX7_brokenAt_111 : decode cX7_brokenAt 111 = .ok (.iload 4, 2) := by decide +kernel
theorem dX7_brokenAt_113 : decode cX7_brokenAt 113 = .ok (.ireturn, 1) := by decide +kernel
theorem dX7_brokenAt_114 : decode cX7_brokenAt 114 = .ok (.iinc 4 1, 3) := by decide +kernel
theorem dX7_brokenAt_117 : decode cX7_brokenAt 117 = .ok (.goto (-108), 3) := by decide +kernel
theorem dX7_brokenAt_120 : decode cX7_brokenAt 120 = .ok (.aload_n 0, 1) := by decide +kernel
theorem dX7_brokenAt_121 : decode cX7_brokenAt 121 = .ok (.getfield 15, 3) := by decide +kernel
theorem dX7_brokenAt_124 : decode cX7_brokenAt 124 = .ok (.ifCond .le 12, 3) := by decide +kernel
theorem dX7_brokenAt_127 : decode cX7_brokenAt 127 = .ok (.iload_n 1, 1) := by decide +kernel
theorem dX7_brokenAt_128 : decode cX7_brokenAt 128 = .ok (.ifCond .eq 8, 3) := by decide +kernel
theorem dX7_brokenAt_131 : decode cX7_brokenAt 131 = .ok (.bipush (-9), 2) := by decide +kernel
theorem dX7_brokenAt_133 : decode cX7_brokenAt 133 = .ok (.goto 7, 3) := by decide +kernel
theorem dX7_brokenAt_136 : decode cX7_brokenAt 136 = .ok (.aload_n 0, 1) := by decide +kernel
theorem dX7_brokenAt_137 : decode cX7_brokenAt 137 = .ok (.getfield 15, 3) := by decide +kernel
theorem dX7_brokenAt_140 : decode cX7_brokenAt 140 = .ok (.ireturn, 1) := by decide +kernel
theorem dX7_digitsOf_0 : decode cX7_digitsOf 0 = .ok (.iload_n 0, 1) := by decide +kernel
theorem dX7_digitsOf_1 : decode cX7_digitsOf 1 = .ok (.bipush 109, 2) := by decide +kernel
theorem dX7_digitsOf_3 : decode cX7_digitsOf 3 = .ok (.if_icmp .eq 9, 3) := by decide +kernel
theorem dX7_digitsOf_6 : decode cX7_digitsOf 6 = .ok (.iload_n 0, 1) := by decide +kernel
theorem dX7_digitsOf_7 : decode cX7_digitsOf 7 = .ok (.bipush 108, 2) := by decide +kernel
theorem dX7_digitsOf_9 : decode cX7_digitsOf 9 = .ok (.if_icmp .ne 5, 3) := by decide +kernel
theorem dX7_digitsOf_12 : decode cX7_digitsOf 12 = .ok (.iconst 3, 1) := by decide +kernel
theorem dX7_digitsOf_13 : decode cX7_digitsOf 13 = .ok (.ireturn, 1) := by decide +kernel
theorem dX7_digitsOf_14 : decode cX7_digitsOf 14 = .ok (.iload_n 0, 1) := by decide +kernel
theorem dX7_digitsOf_15 : decode cX7_digitsOf 15 = .ok (.bipush 99, 2) := by decide +kernel
theorem dX7_digitsOf_17 : decode cX7_digitsOf 17 = .ok (.if_icmp .ne 7, 3) := by decide +kernel
theorem dX7_digitsOf_20 : decode cX7_digitsOf 20 = .ok (.iconst 1, 1) := by decide +kernel
theorem dX7_digitsOf_21 : decode cX7_digitsOf 21 = .ok (.goto 4, 3) := by decide +kernel
theorem dX7_digitsOf_24 : decode cX7_digitsOf 24 = .ok (.iconst 0, 1) := by decide +kernel
theorem dX7_digitsOf_25 : decode cX7_digitsOf 25 = .ok (.ireturn, 1) := by decide +kernel
theorem dX7_isDigit_0 : decode cX7_isDigit 0 = .ok (.iload_n 0, 1) := by decide +kernel
theorem dX7_isDigit_1 : decode cX7_isDigit 1 = .ok (.bipush 48, 2) := by decide +kernel
theorem dX7_isDigit_3 : decode cX7_isDigit 3 = .ok (.if_icmp .lt 13, 3) := by decide +kernel
theorem dX7_isDigit_6 : decode cX7_isDigit 6 = .ok (.iload_n 0, 1) := by decide +kernel
theorem dX7_isDigit_7 : decode cX7_isDigit 7 = .ok (.bipush 57, 2) := by decide +kernel
theorem dX7_isDigit_9 : decode cX7_isDigit 9 = .ok (.if_icmp .gt 7, 3) := by decide +kernel
theorem dX7_isDigit_12 : decode cX7_isDigit 12 = .ok (.iconst 1, 1) := by decide +kernel
theorem dX7_isDigit_13 : decode cX7_isDigit 13 = .ok (.goto 4, 3) := by decide +kernel
theorem dX7_isDigit_16 : decode cX7_isDigit 16 = .ok (.iconst 0, 1) := by decide +kernel
theorem dX7_isDigit_17 : decode cX7_isDigit 17 = .ok (.ireturn, 1) := by decide +kernel
theorem dX7_wrongAt_0 : decode cX7_wrongAt 0 = .ok (.aload_n 1, 1) := by decide +kernel
theorem dX7_wrongAt_1 : decode cX7_wrongAt 1 = .ok (.getfield 39, 3) := by decide +kernel
theorem dX7_wrongAt_4 : decode cX7_wrongAt 4 = .ok (.istore_n 2, 1) := by decide +kernel
theorem dX7_wrongAt_5 : decode cX7_wrongAt 5 = .ok (.iconst 0, 1) := by decide +kernel
theorem dX7_wrongAt_6 : decode cX7_wrongAt 6 = .ok (.istore_n 3, 1) := by decide +kernel
theorem dX7_wrongAt_7 : decode cX7_wrongAt 7 = .ok (.iconst 0, 1) := by decide +kernel
theorem dX7_wrongAt_8 : decode cX7_wrongAt 8 = .ok (.istore 4, 2) := by decide +kernel
theorem dX7_wrongAt_10 : decode cX7_wrongAt 10 = .ok (.iload 4, 2) := by decide +kernel
theorem dX7_wrongAt_12 : decode cX7_wrongAt 12 = .ok (.aload_n 0, 1) := by decide +kernel
theorem dX7_wrongAt_13 : decode cX7_wrongAt 13 = .ok (.getfield 15, 3) := by decide +kernel
theorem dX7_wrongAt_16 : decode cX7_wrongAt 16 = .ok (.if_icmp .ge 55, 3) := by decide +kernel
theorem dX7_wrongAt_19 : decode cX7_wrongAt 19 = .ok (.aload_n 0, 1) := by decide +kernel
theorem dX7_wrongAt_20 : decode cX7_wrongAt 20 = .ok (.getfield 9, 3) := by decide +kernel
theorem dX7_wrongAt_23 : decode cX7_wrongAt 23 = .ok (.iload 4, 2) := by decide +kernel
theorem dX7_wrongAt_25 : decode cX7_wrongAt 25 = .ok (.caload, 1) := by decide +kernel
theorem dX7_wrongAt_26 : decode cX7_wrongAt 26 = .ok (.bipush 59, 2) := by decide +kernel
theorem dX7_wrongAt_28 : decode cX7_wrongAt 28 = .ok (.if_icmp .ne 37, 3) := by decide +kernel
theorem dX7_wrongAt_31 : decode cX7_wrongAt 31 = .ok (.aload_n 0, 1) := by decide +kernel
theorem dX7_wrongAt_32 : decode cX7_wrongAt 32 = .ok (.getfield 9, 3) := by decide +kernel
theorem dX7_wrongAt_35 : decode cX7_wrongAt 35 = .ok (.iload_n 3, 1) := by decide +kernel
theorem dX7_wrongAt_36 : decode cX7_wrongAt 36 = .ok (.caload, 1) := by decide +kernel
theorem dX7_wrongAt_37 : decode cX7_wrongAt 37 = .ok (.bipush 109, 2) := by decide +kernel
theorem dX7_wrongAt_39 : decode cX7_wrongAt 39 = .ok (.if_icmp .ne 6, 3) := by decide +kernel
theorem dX7_wrongAt_42 : decode cX7_wrongAt 42 = .ok (.iinc 2 1, 3) := by decide +kernel
theorem dX7_wrongAt_45 : decode cX7_wrongAt 45 = .ok (.aload_n 0, 1) := by decide +kernel
theorem dX7_wrongAt_46 : decode cX7_wrongAt 46 = .ok (.iload_n 3, 1) := by decide +kernel
theorem dX7_wrongAt_47 : decode cX7_wrongAt 47 = .ok (.iload_n 2, 1) := by decide +kernel
theorem dX7_wrongAt_48 : decode cX7_wrongAt 48 = .ok (.aload_n 1, 1) := by decide +kernel
theorem dX7_wrongAt_49 : decode cX7_wrongAt 49 = .ok (.getfield 42, 3) := by decide +kernel
theorem dX7_wrongAt_52 : decode cX7_wrongAt 52 = .ok (.invokevirtual 46, 3) := by decide +kernel
theorem dX7_wrongAt_55 : decode cX7_wrongAt 55 = .ok (.ifCond .ne 5, 3) := by decide +kernel
theorem dX7_wrongAt_58 : decode cX7_wrongAt 58 = .ok (.iload_n 3, 1) := by decide +kernel
theorem dX7_wrongAt_59 : decode cX7_wrongAt 59 = .ok (.ireturn, 1) := by decide +kernel
theorem dX7_wrongAt_60 : decode cX7_wrongAt 60 = .ok (.iload 4, 2) := by decide +kernel
theorem dX7_wrongAt_62 : decode cX7_wrongAt 62 = .ok (.iconst 1, 1) := by decide +kernel
theorem dX7_wrongAt_63 : decode cX7_wrongAt 63 = .ok (.iadd, 1) := by decide +kernel
theorem dX7_wrongAt_64 : decode cX7_wrongAt 64 = .ok (.istore_n 3, 1) := by decide +kernel
theorem dX7_wrongAt_65 : decode cX7_wrongAt 65 = .ok (.iinc 4 1, 3) := by decide +kernel
theorem dX7_wrongAt_68 : decode cX7_wrongAt 68 = .ok (.goto (-58), 3) := by decide +kernel
theorem dX7_wrongAt_71 : decode cX7_wrongAt 71 = .ok (.bipush (-9), 2) := by decide +kernel
theorem dX7_wrongAt_73 : decode cX7_wrongAt 73 = .ok (.ireturn, 1) := by decide +kernel
theorem dX7_isRight_0 : decode cX7_isRight 0 = .ok (.aload_n 0, 1) := by decide +kernel
theorem dX7_isRight_1 : decode cX7_isRight 1 = .ok (.iload_n 1, 1) := by decide +kernel
theorem dX7_isRight_2 : decode cX7_isRight 2 = .ok (.iconst 1, 1) := by decide +kernel
theorem dX7_isRight_3 : decode cX7_isRight 3 = .ok (.iadd, 1) := by decide +kernel
theorem dX7_isRight_4 : decode cX7_isRight 4 = .ok (.invokevirtual 50, 3) := by decide +kernel
theorem dX7_isRight_7 : decode cX7_isRight 7 = .ok (.istore 4, 2) := by decide +kernel
theorem dX7_isRight_9 : decode cX7_isRight 9 = .ok (.aload_n 0, 1) := by decide +kernel
theorem dX7_isRight_10 : decode cX7_isRight 10 = .ok (.iload_n 1, 1) := by decide +kernel
theorem dX7_isRight_11 : decode cX7_isRight 11 = .ok (.iconst 2, 1) := by decide +kernel
theorem dX7_isRight_12 : decode cX7_isRight 12 = .ok (.iadd, 1) := by decide +kernel
theorem dX7_isRight_13 : decode cX7_isRight 13 = .ok (.invokevirtual 50, 3) := by decide +kernel
theorem dX7_isRight_16 : decode cX7_isRight 16 = .ok (.istore 5, 2) := by decide +kernel
theorem dX7_isRight_18 : decode cX7_isRight 18 = .ok (.aload_n 0, 1) := by decide +kernel
theorem dX7_isRight_19 : decode cX7_isRight 19 = .ok (.iload_n 1, 1) := by decide +kernel
theorem dX7_isRight_20 : decode cX7_isRight 20 = .ok (.iconst 3, 1) := by decide +kernel
theorem dX7_isRight_21 : decode cX7_isRight 21 = .ok (.iadd, 1) := by decide +kernel
theorem dX7_isRight_22 : decode cX7_isRight 22 = .ok (.invokevirtual 50, 3) := by decide +kernel
theorem dX7_isRight_25 : decode cX7_isRight 25 = .ok (.istore 6, 2) := by decide +kernel
theorem dX7_isRight_27 : decode cX7_isRight 27 = .ok (.aload_n 0, 1) := by decide +kernel
theorem dX7_isRight_28 : decode cX7_isRight 28 = .ok (.getfield 9, 3) := by decide +kernel
theorem dX7_isRight_31 : decode cX7_isRight 31 = .ok (.iload_n 1, 1) := by decide +kernel
theorem dX7_isRight_32 : decode cX7_isRight 32 = .ok (.caload, 1) := by decide +kernel
theorem dX7_isRight_33 : decode cX7_isRight 33 = .ok (.bipush 109, 2) := by decide +kernel
theorem dX7_isRight_35 : decode cX7_isRight 35 = .ok (.if_icmp .ne 32, 3) := by decide +kernel
theorem dX7_isRight_38 : decode cX7_isRight 38 = .ok (.iload 4, 2) := by decide +kernel
theorem dX7_isRight_40 : decode cX7_isRight 40 = .ok (.bipush 6, 2) := by decide +kernel
theorem dX7_isRight_42 : decode cX7_isRight 42 = .ok (.if_icmp .gt 23, 3) := by decide +kernel
theorem dX7_isRight_45 : decode cX7_isRight 45 = .ok (.iload 6, 2) := by decide +kernel
theorem dX7_isRight_47 : decode cX7_isRight 47 = .ok (.iconst 1, 1) := by decide +kernel
theorem dX7_isRight_48 : decode cX7_isRight 48 = .ok (.if_icmp .lt 17, 3) := by decide +kernel
theorem dX7_isRight_51 : decode cX7_isRight 51 = .ok (.iload_n 2, 1) := by decide +kernel
theorem dX7_isRight_52 : decode cX7_isRight 52 = .ok (.bipush 8, 2) := by decide +kernel
theorem dX7_isRight_54 : decode cX7_isRight 54 = .ok (.if_icmp .gt 11, 3) := by decide +kernel
theorem dX7_isRight_57 : decode cX7_isRight 57 = .ok (.iload_n 3, 1) := by decide +kernel
theorem dX7_isRight_58 : decode cX7_isRight 58 = .ok (.ifCond .ne 7, 3) := by decide +kernel
theorem dX7_isRight_61 : decode cX7_isRight 61 = .ok (.iconst 1, 1) := by decide +kernel
theorem dX7_isRight_62 : decode cX7_isRight 62 = .ok (.goto 4, 3) := by decide +kernel
theorem dX7_isRight_65 : decode cX7_isRight 65 = .ok (.iconst 0, 1) := by decide +kernel
theorem dX7_isRight_66 : decode cX7_isRight 66 = .ok (.ireturn, 1) := by decide +kernel
theorem dX7_isRight_67 : decode cX7_isRight 67 = .ok (.aload_n 0, 1) := by decide +kernel
theorem dX7_isRight_68 : decode cX7_isRight 68 = .ok (.getfield 9, 3) := by decide +kernel
theorem dX7_isRight_71 : decode cX7_isRight 71 = .ok (.iload_n 1, 1) := by decide +kernel
theorem dX7_isRight_72 : decode cX7_isRight 72 = .ok (.caload, 1) := by decide +kernel
theorem dX7_isRight_73 : decode cX7_isRight 73 = .ok (.bipush 108, 2) := by decide +kernel
theorem dX7_isRight_75 : decode cX7_isRight 75 = .ok (.if_icmp .ne 39, 3) := by decide +kernel
theorem dX7_isRight_78 : decode cX7_isRight 78 = .ok (.iload 4, 2) := by decide +kernel
theorem dX7_isRight_80 : decode cX7_isRight 80 = .ok (.getstatic 54, 3) := by decide +kernel
theorem dX7_isRight_83 : decode cX7_isRight 83 = .ok (.iconst 1, 1) := by decide +kernel
theorem dX7_isRight_84 : decode cX7_isRight 84 = .ok (.iaload, 1) := by decide +kernel
theorem dX7_isRight_85 : decode cX7_isRight 85 = .ok (.if_icmp .gt 27, 3) := by decide +kernel
theorem dX7_isRight_88 : decode cX7_isRight 88 = .ok (.iload 5, 2) := by decide +kernel
theorem dX7_isRight_90 : decode cX7_isRight 90 = .ok (.getstatic 54, 3) := by decide +kernel
theorem dX7_isRight_93 : decode cX7_isRight 93 = .ok (.iconst 2, 1) := by decide +kernel
theorem dX7_isRight_94 : decode cX7_isRight 94 = .ok (.iaload, 1) := by decide +kernel
theorem dX7_isRight_95 : decode cX7_isRight 95 = .ok (.if_icmp .gt 17, 3) := by decide +kernel
theorem dX7_isRight_98 : decode cX7_isRight 98 = .ok (.iload 6, 2) := by decide +kernel
theorem dX7_isRight_100 : decode cX7_isRight 100 = .ok (.getstatic 54, 3) := by decide +kernel
theorem dX7_isRight_103 : decode cX7_isRight 103 = .ok (.iconst 3, 1) := by decide +kernel
theorem dX7_isRight_104 : decode cX7_isRight 104 = .ok (.iaload, 1) := by decide +kernel
theorem dX7_isRight_105 : decode cX7_isRight 105 = .ok (.if_icmp .gt 7, 3) := by decide +kernel
theorem dX7_isRight_108 : decode cX7_isRight 108 = .ok (.iconst 1, 1) := by decide +kernel
theorem dX7_isRight_109 : decode cX7_isRight 109 = .ok (.goto 4, 3) := by decide +kernel
theorem dX7_isRight_112 : decode cX7_isRight 112 = .ok (.iconst 0, 1) := by decide +kernel
theorem dX7_isRight_113 : decode cX7_isRight 113 = .ok (.ireturn, 1) := by decide +kernel
theorem dX7_isRight_114 : decode cX7_isRight 114 = .ok (.iconst 1, 1) := by decide +kernel
theorem dX7_isRight_115 : decode cX7_isRight 115 = .ok (.ireturn, 1) := by decide +kernel
theorem dX7_tellOne_0 : decode cX7_tellOne 0 = .ok (.aload_n 0, 1) := by decide +kernel
theorem dX7_tellOne_1 : decode cX7_tellOne 1 = .ok (.iload_n 2, 1) := by decide +kernel
theorem dX7_tellOne_2 : decode cX7_tellOne 2 = .ok (.iconst 1, 1) := by decide +kernel
theorem dX7_tellOne_3 : decode cX7_tellOne 3 = .ok (.iadd, 1) := by decide +kernel
theorem dX7_tellOne_4 : decode cX7_tellOne 4 = .ok (.invokevirtual 50, 3) := by decide +kernel
theorem dX7_tellOne_7 : decode cX7_tellOne 7 = .ok (.istore 4, 2) := by decide +kernel
theorem dX7_tellOne_9 : decode cX7_tellOne 9 = .ok (.aload_n 0, 1) := by decide +kernel
theorem dX7_tellOne_10 : decode cX7_tellOne 10 = .ok (.iload_n 2, 1) := by decide +kernel
theorem dX7_tellOne_11 : decode cX7_tellOne 11 = .ok (.iconst 2, 1) := by decide +kernel
theorem dX7_tellOne_12 : decode cX7_tellOne 12 = .ok (.iadd, 1) := by decide +kernel
theorem dX7_tellOne_13 : decode cX7_tellOne 13 = .ok (.invokevirtual 50, 3) := by decide +kernel
theorem dX7_tellOne_16 : decode cX7_tellOne 16 = .ok (.istore 5, 2) := by decide +kernel
theorem dX7_tellOne_18 : decode cX7_tellOne 18 = .ok (.aload_n 0, 1) := by decide +kernel
theorem dX7_tellOne_19 : decode cX7_tellOne 19 = .ok (.iload_n 2, 1) := by decide +kernel
theorem dX7_tellOne_20 : decode cX7_tellOne 20 = .ok (.iconst 3, 1) := by decide +kernel
theorem dX7_tellOne_21 : decode cX7_tellOne 21 = .ok (.iadd, 1) := by decide +kernel
theorem dX7_tellOne_22 : decode cX7_tellOne 22 = .ok (.invokevirtual 50, 3) := by decide +kernel
theorem dX7_tellOne_25 : decode cX7_tellOne 25 = .ok (.istore 6, 2) := by decide +kernel
theorem dX7_tellOne_27 : decode cX7_tellOne 27 = .ok (.aload_n 0, 1) := by decide +kernel
theorem dX7_tellOne_28 : decode cX7_tellOne 28 = .ok (.getfield 9, 3) := by decide +kernel
theorem dX7_tellOne_31 : decode cX7_tellOne 31 = .ok (.iload_n 2, 1) := by decide +kernel
theorem dX7_tellOne_32 : decode cX7_tellOne 32 = .ok (.caload, 1) := by decide +kernel
theorem dX7_tellOne_33 : decode cX7_tellOne 33 = .ok (.bipush 109, 2) := by decide +kernel
theorem dX7_tellOne_35 : decode cX7_tellOne 35 = .ok (.if_icmp .ne 16, 3) := by decide +kernel
theorem dX7_tellOne_38 : decode cX7_tellOne 38 = .ok (.aload_n 1, 1) := by decide +kernel
theorem dX7_tellOne_39 : decode cX7_tellOne 39 = .ok (.iload 4, 2) := by decide +kernel
theorem dX7_tellOne_41 : decode cX7_tellOne 41 = .ok (.iload 5, 2) := by decide +kernel
theorem dX7_tellOne_43 : decode cX7_tellOne 43 = .ok (.iload 6, 2) := by decide +kernel
theorem dX7_tellOne_45 : decode cX7_tellOne 45 = .ok (.invokevirtual 58, 3) := by decide +kernel
theorem dX7_tellOne_48 : decode cX7_tellOne 48 = .ok (.goto 67, 3) := by decide +kernel
theorem dX7_tellOne_51 : decode cX7_tellOne 51 = .ok (.aload_n 0, 1) := by decide +kernel
theorem dX7_tellOne_52 : decode cX7_tellOne 52 = .ok (.getfield 9, 3) := by decide +kernel
theorem dX7_tellOne_55 : decode cX7_tellOne 55 = .ok (.iload_n 2, 1) := by decide +kernel
theorem dX7_tellOne_56 : decode cX7_tellOne 56 = .ok (.caload, 1) := by decide +kernel
theorem dX7_tellOne_57 : decode cX7_tellOne 57 = .ok (.bipush 108, 2) := by decide +kernel
theorem dX7_tellOne_59 : decode cX7_tellOne 59 = .ok (.if_icmp .ne 30, 3) := by decide +kernel
theorem dX7_tellOne_62 : decode cX7_tellOne 62 = .ok (.aload_n 1, 1) := by decide +kernel
theorem dX7_tellOne_63 : decode cX7_tellOne 63 = .ok (.getfield 62, 3) := by decide +kernel
theorem dX7_tellOne_66 : decode cX7_tellOne 66 = .ok (.iconst 1, 1) := by decide +kernel
theorem dX7_tellOne_67 : decode cX7_tellOne 67 = .ok (.iload 4, 2) := by decide +kernel
theorem dX7_tellOne_69 : decode cX7_tellOne 69 = .ok (.iastore, 1) := by decide +kernel
theorem dX7_tellOne_70 : decode cX7_tellOne 70 = .ok (.aload_n 1, 1) := by decide +kernel
theorem dX7_tellOne_71 : decode cX7_tellOne 71 = .ok (.getfield 62, 3) := by decide +kernel
theorem dX7_tellOne_74 : decode cX7_tellOne 74 = .ok (.iconst 2, 1) := by decide +kernel
theorem dX7_tellOne_75 : decode cX7_tellOne 75 = .ok (.iload 5, 2) := by decide +kernel
theorem dX7_tellOne_77 : decode cX7_tellOne 77 = .ok (.iastore, 1) := by decide +kernel
theorem dX7_tellOne_78 : decode cX7_tellOne 78 = .ok (.aload_n 1, 1) := by decide +kernel
theorem dX7_tellOne_79 : decode cX7_tellOne 79 = .ok (.getfield 62, 3) := by decide +kernel
theorem dX7_tellOne_82 : decode cX7_tellOne 82 = .ok (.iconst 3, 1) := by decide +kernel
theorem dX7_tellOne_83 : decode cX7_tellOne 83 = .ok (.iload 6, 2) := by decide +kernel
theorem dX7_tellOne_85 : decode cX7_tellOne 85 = .ok (.iastore, 1) := by decide +kernel
theorem dX7_tellOne_86 : decode cX7_tellOne 86 = .ok (.goto 29, 3) := by decide +kernel
theorem dX7_tellOne_89 : decode cX7_tellOne 89 = .ok (.aload_n 1, 1) := by decide +kernel
theorem dX7_tellOne_90 : decode cX7_tellOne 90 = .ok (.getfield 62, 3) := by decide +kernel
theorem dX7_tellOne_93 : decode cX7_tellOne 93 = .ok (.iconst 0, 1) := by decide +kernel
theorem dX7_tellOne_94 : decode cX7_tellOne 94 = .ok (.iload_n 3, 1) := by decide +kernel
theorem dX7_tellOne_95 : decode cX7_tellOne 95 = .ok (.iload_n 2, 1) := by decide +kernel
theorem dX7_tellOne_96 : decode cX7_tellOne 96 = .ok (.isub, 1) := by decide +kernel
theorem dX7_tellOne_97 : decode cX7_tellOne 97 = .ok (.iconst 3, 1) := by decide +kernel
theorem dX7_tellOne_98 : decode cX7_tellOne 98 = .ok (.if_icmp .ne 14, 3) := by decide +kernel
theorem dX7_tellOne_101 : decode cX7_tellOne 101 = .ok (.iload 4, 2) := by decide +kernel
theorem dX7_tellOne_103 : decode cX7_tellOne 103 = .ok (.bipush 10, 2) := by decide +kernel
theorem dX7_tellOne_105 : decode cX7_tellOne 105 = .ok (.imul, 1) := by decide +kernel
theorem dX7_tellOne_106 : decode cX7_tellOne 106 = .ok (.iload 5, 2) := by decide +kernel
theorem dX7_tellOne_108 : decode cX7_tellOne 108 = .ok (.iadd, 1) := by decide +kernel
theorem dX7_tellOne_109 : decode cX7_tellOne 109 = .ok (.goto 5, 3) := by decide +kernel
theorem dX7_tellOne_112 : decode cX7_tellOne 112 = .ok (.iload 4, 2) := by decide +kernel
theorem dX7_tellOne_114 : decode cX7_tellOne 114 = .ok (.iastore, 1) := by decide +kernel
theorem dX7_tellOne_115 : decode cX7_tellOne 115 = .ok (.return_, 1) := by decide +kernel
theorem dX7_digit_0 : decode cX7_digit 0 = .ok (.iload_n 1, 1) := by decide +kernel
theorem dX7_digit_1 : decode cX7_digit 1 = .ok (.ifCond .lt 23, 3) := by decide +kernel
theorem dX7_digit_4 : decode cX7_digit 4 = .ok (.iload_n 1, 1) := by decide +kernel
theorem dX7_digit_5 : decode cX7_digit 5 = .ok (.aload_n 0, 1) := by decide +kernel
theorem dX7_digit_6 : decode cX7_digit 6 = .ok (.getfield 15, 3) := by decide +kernel
theorem dX7_digit_9 : decode cX7_digit 9 = .ok (.if_icmp .ge 15, 3) := by decide +kernel
theorem dX7_digit_12 : decode cX7_digit 12 = .ok (.aload_n 0, 1) := by decide +kernel
theorem dX7_digit_13 : decode cX7_digit 13 = .ok (.getfield 9, 3) := by decide +kernel
theorem dX7_digit_16 : decode cX7_digit 16 = .ok (.iload_n 1, 1) := by decide +kernel
theorem dX7_digit_17 : decode cX7_digit 17 = .ok (.caload, 1) := by decide +kernel
theorem dX7_digit_18 : decode cX7_digit 18 = .ok (.bipush 48, 2) := by decide +kernel
theorem dX7_digit_20 : decode cX7_digit 20 = .ok (.isub, 1) := by decide +kernel
theorem dX7_digit_21 : decode cX7_digit 21 = .ok (.goto 4, 3) := by decide +kernel
theorem dX7_digit_24 : decode cX7_digit 24 = .ok (.iconst 0, 1) := by decide +kernel
theorem dX7_digit_25 : decode cX7_digit 25 = .ok (.ireturn, 1) := by decide +kernel
theorem dX8_init_0 : decode cX8_init 0 = .ok (.aload_n 0, 1) := by decide +kernel
theorem dX8_init_1 : decode cX8_init 1 = .ok (.invokespecial 1, 3) := by decide +kernel
theorem dX8_init_4 : decode cX8_init 4 = .ok (.return_, 1) := by decide +kernel
theorem dX8_ask_0 : decode cX8_ask 0 = .ok (.aload_n 0, 1) := by decide +kernel
theorem dX8_ask_1 : decode cX8_ask 1 = .ok (.iload_n 1, 1) := by decide +kernel
theorem dX8_ask_2 : decode cX8_ask 2 = .ok (.iload_n 2, 1) := by decide +kernel
theorem dX8_ask_3 : decode cX8_ask 3 = .ok (.iload_n 3, 1) := by decide +kernel
theorem dX8_ask_4 : decode cX8_ask 4 = .ok (.invokespecial 7, 3) := by decide +kernel
theorem dX8_ask_7 : decode cX8_ask 7 = .ok (.iconst 2, 1) := by decide +kernel
theorem dX8_ask_8 : decode cX8_ask 8 = .ok (.idiv, 1) := by decide +kernel
theorem dX8_ask_9 : decode cX8_ask 9 = .ok (.ireturn, 1) := by decide +kernel
theorem dX8_tell_0 : decode cX8_tell 0 = .ok (.aload_n 1, 1) := by decide +kernel
theorem dX8_tell_1 : decode cX8_tell 1 = .ok (.iload_n 2, 1) := by decide +kernel
theorem dX8_tell_2 : decode cX8_tell 2 = .ok (.aload_n 1, 1) := by decide +kernel
theorem dX8_tell_3 : decode cX8_tell 3 = .ok (.iload_n 2, 1) := by decide +kernel
theorem dX8_tell_4 : decode cX8_tell 4 = .ok (.invokevirtual 11, 3) := by decide +kernel
theorem dX8_tell_7 : decode cX8_tell 7 = .ok (.invokevirtual 17, 3) := by decide +kernel
theorem dX8_tell_10 : decode cX8_tell 10 = .ok (.return_, 1) := by decide +kernel
theorem dX10_init_0 : decode cX10_init 0 = .ok (.aload_n 0, 1) := by decide +kernel
theorem dX10_init_1 : decode cX10_init 1 = .ok (.invokespecial 1, 3) := by decide +kernel
theorem dX10_init_4 : decode cX10_init 4 = .ok (.return_, 1) := by decide +kernel
theorem dX10_ask_0 : decode cX10_ask 0 = .ok (.aload_n 0, 1) := by decide +kernel
theorem dX10_ask_1 : decode cX10_ask 1 = .ok (.iload_n 1, 1) := by decide +kernel
theorem dX10_ask_2 : decode cX10_ask 2 = .ok (.iload_n 2, 1) := by decide +kernel
theorem dX10_ask_3 : decode cX10_ask 3 = .ok (.iload_n 3, 1) := by decide +kernel
theorem dX10_ask_4 : decode cX10_ask 4 = .ok (.invokespecial 7, 3) := by decide +kernel
theorem dX10_ask_7 : decode cX10_ask 7 = .ok (.iload_n 2, 1) := by decide +kernel
theorem dX10_ask_8 : decode cX10_ask 8 = .ok (.iadd, 1) := by decide +kernel
theorem dX10_ask_9 : decode cX10_ask 9 = .ok (.ireturn, 1) := by decide +kernel
theorem dJ6_bitCount_0f7a4_0 : decode cJ6_bitCount_0f7a4 0 = .ok (.iload_n 0, 1) := by decide +kernel
theorem dJ6_bitCount_0f7a4_1 : decode cJ6_bitCount_0f7a4 1 = .ok (.iload_n 0, 1) := by decide +kernel
theorem dJ6_bitCount_0f7a4_2 : decode cJ6_bitCount_0f7a4 2 = .ok (.iconst 1, 1) := by decide +kernel
theorem dJ6_bitCount_0f7a4_3 : decode cJ6_bitCount_0f7a4 3 = .ok (.iushr, 1) := by decide +kernel
theorem dJ6_bitCount_0f7a4_4 : decode cJ6_bitCount_0f7a4 4 = .ok (.ldc_w 265, 3) := by decide +kernel
theorem dJ6_bitCount_0f7a4_7 : decode cJ6_bitCount_0f7a4 7 = .ok (.iand, 1) := by decide +kernel
theorem dJ6_bitCount_0f7a4_8 : decode cJ6_bitCount_0f7a4 8 = .ok (.isub, 1) := by decide +kernel
theorem dJ6_bitCount_0f7a4_9 : decode cJ6_bitCount_0f7a4 9 = .ok (.istore_n 0, 1) := by decide +kernel
theorem dJ6_bitCount_0f7a4_10 : decode cJ6_bitCount_0f7a4 10 = .ok (.iload_n 0, 1) := by decide +kernel
theorem dJ6_bitCount_0f7a4_11 : decode cJ6_bitCount_0f7a4 11 = .ok (.ldc_w 266, 3) := by decide +kernel
theorem dJ6_bitCount_0f7a4_14 : decode cJ6_bitCount_0f7a4 14 = .ok (.iand, 1) := by decide +kernel
theorem dJ6_bitCount_0f7a4_15 : decode cJ6_bitCount_0f7a4 15 = .ok (.iload_n 0, 1) := by decide +kernel
theorem dJ6_bitCount_0f7a4_16 : decode cJ6_bitCount_0f7a4 16 = .ok (.iconst 2, 1) := by decide +kernel
theorem dJ6_bitCount_0f7a4_17 : decode cJ6_bitCount_0f7a4 17 = .ok (.iushr, 1) := by decide +kernel
theorem dJ6_bitCount_0f7a4_18 : decode cJ6_bitCount_0f7a4 18 = .ok (.ldc_w 266, 3) := by decide +kernel
theorem dJ6_bitCount_0f7a4_21 : decode cJ6_bitCount_0f7a4 21 = .ok (.iand, 1) := by decide +kernel
theorem dJ6_bitCount_0f7a4_22 : decode cJ6_bitCount_0f7a4 22 = .ok (.iadd, 1) := by decide +kernel
theorem dJ6_bitCount_0f7a4_23 : decode cJ6_bitCount_0f7a4 23 = .ok (.istore_n 0, 1) := by decide +kernel
theorem dJ6_bitCount_0f7a4_24 : decode cJ6_bitCount_0f7a4 24 = .ok (.iload_n 0, 1) := by decide +kernel
theorem dJ6_bitCount_0f7a4_25 : decode cJ6_bitCount_0f7a4 25 = .ok (.iload_n 0, 1) := by decide +kernel
theorem dJ6_bitCount_0f7a4_26 : decode cJ6_bitCount_0f7a4 26 = .ok (.iconst 4, 1) := by decide +kernel
theorem dJ6_bitCount_0f7a4_27 : decode cJ6_bitCount_0f7a4 27 = .ok (.iushr, 1) := by decide +kernel
theorem dJ6_bitCount_0f7a4_28 : decode cJ6_bitCount_0f7a4 28 = .ok (.iadd, 1) := by decide +kernel
theorem dJ6_bitCount_0f7a4_29 : decode cJ6_bitCount_0f7a4 29 = .ok (.ldc_w 267, 3) := by decide +kernel
theorem dJ6_bitCount_0f7a4_32 : decode cJ6_bitCount_0f7a4 32 = .ok (.iand, 1) := by decide +kernel
theorem dJ6_bitCount_0f7a4_33 : decode cJ6_bitCount_0f7a4 33 = .ok (.istore_n 0, 1) := by decide +kernel
theorem dJ6_bitCount_0f7a4_34 : decode cJ6_bitCount_0f7a4 34 = .ok (.iload_n 0, 1) := by decide +kernel
theorem dJ6_bitCount_0f7a4_35 : decode cJ6_bitCount_0f7a4 35 = .ok (.iload_n 0, 1) := by decide +kernel
theorem dJ6_bitCount_0f7a4_36 : decode cJ6_bitCount_0f7a4 36 = .ok (.bipush 8, 2) := by decide +kernel
theorem dJ6_bitCount_0f7a4_38 : decode cJ6_bitCount_0f7a4 38 = .ok (.iushr, 1) := by decide +kernel
theorem dJ6_bitCount_0f7a4_39 : decode cJ6_bitCount_0f7a4 39 = .ok (.iadd, 1) := by decide +kernel
theorem dJ6_bitCount_0f7a4_40 : decode cJ6_bitCount_0f7a4 40 = .ok (.istore_n 0, 1) := by decide +kernel
theorem dJ6_bitCount_0f7a4_41 : decode cJ6_bitCount_0f7a4 41 = .ok (.iload_n 0, 1) := by decide +kernel
theorem dJ6_bitCount_0f7a4_42 : decode cJ6_bitCount_0f7a4 42 = .ok (.iload_n 0, 1) := by decide +kernel
theorem dJ6_bitCount_0f7a4_43 : decode cJ6_bitCount_0f7a4 43 = .ok (.bipush 16, 2) := by decide +kernel
theorem dJ6_bitCount_0f7a4_45 : decode cJ6_bitCount_0f7a4 45 = .ok (.iushr, 1) := by decide +kernel
theorem dJ6_bitCount_0f7a4_46 : decode cJ6_bitCount_0f7a4 46 = .ok (.iadd, 1) := by decide +kernel
theorem dJ6_bitCount_0f7a4_47 : decode cJ6_bitCount_0f7a4 47 = .ok (.istore_n 0, 1) := by decide +kernel
theorem dJ6_bitCount_0f7a4_48 : decode cJ6_bitCount_0f7a4 48 = .ok (.iload_n 0, 1) := by decide +kernel
theorem dJ6_bitCount_0f7a4_49 : decode cJ6_bitCount_0f7a4 49 = .ok (.bipush 63, 2) := by decide +kernel
theorem dJ6_bitCount_0f7a4_51 : decode cJ6_bitCount_0f7a4 51 = .ok (.iand, 1) := by decide +kernel
theorem dJ6_bitCount_0f7a4_52 : decode cJ6_bitCount_0f7a4 52 = .ok (.ireturn, 1) := by decide +kernel
theorem dJ9_max_7cf53_0 : decode cJ9_max_7cf53 0 = .ok (.iload_n 0, 1) := by decide +kernel
theorem dJ9_max_7cf53_1 : decode cJ9_max_7cf53 1 = .ok (.iload_n 1, 1) := by decide +kernel
theorem dJ9_max_7cf53_2 : decode cJ9_max_7cf53 2 = .ok (.if_icmp .lt 7, 3) := by decide +kernel
theorem dJ9_max_7cf53_5 : decode cJ9_max_7cf53 5 = .ok (.iload_n 0, 1) := by decide +kernel
theorem dJ9_max_7cf53_6 : decode cJ9_max_7cf53 6 = .ok (.goto 4, 3) := by decide +kernel
theorem dJ9_max_7cf53_9 : decode cJ9_max_7cf53 9 = .ok (.iload_n 1, 1) := by decide +kernel
theorem dJ9_max_7cf53_10 : decode cJ9_max_7cf53 10 = .ok (.ireturn, 1) := by decide +kernel
theorem dJ9_min_7cf53_0 : decode cJ9_min_7cf53 0 = .ok (.iload_n 0, 1) := by decide +kernel
theorem dJ9_min_7cf53_1 : decode cJ9_min_7cf53 1 = .ok (.iload_n 1, 1) := by decide +kernel
theorem dJ9_min_7cf53_2 : decode cJ9_min_7cf53 2 = .ok (.if_icmp .gt 7, 3) := by decide +kernel
theorem dJ9_min_7cf53_5 : decode cJ9_min_7cf53 5 = .ok (.iload_n 0, 1) := by decide +kernel
theorem dJ9_min_7cf53_6 : decode cJ9_min_7cf53 6 = .ok (.goto 4, 3) := by decide +kernel
theorem dJ9_min_7cf53_9 : decode cJ9_min_7cf53 9 = .ok (.iload_n 1, 1) := by decide +kernel
theorem dJ9_min_7cf53_10 : decode cJ9_min_7cf53 10 = .ok (.ireturn, 1) := by decide +kernel
theorem dJ7_fill_d0a16_0 : decode cJ7_fill_d0a16 0 = .ok (.iconst 0, 1) := by decide +kernel
theorem dJ7_fill_d0a16_1 : decode cJ7_fill_d0a16 1 = .ok (.istore_n 3, 1) := by decide +kernel
theorem dJ7_fill_d0a16_2 : decode cJ7_fill_d0a16 2 = .ok (.aload_n 0, 1) := by decide +kernel
theorem dJ7_fill_d0a16_3 : decode cJ7_fill_d0a16 3 = .ok (.arraylength, 1) := by decide +kernel
theorem dJ7_fill_d0a16_4 : decode cJ7_fill_d0a16 4 = .ok (.istore 4, 2) := by decide +kernel
theorem dJ7_fill_d0a16_6 : decode cJ7_fill_d0a16 6 = .ok (.iload_n 3, 1) := by decide +kernel
theorem dJ7_fill_d0a16_7 : decode cJ7_fill_d0a16 7 = .ok (.iload 4, 2) := by decide +kernel
theorem dJ7_fill_d0a16_9 : decode cJ7_fill_d0a16 9 = .ok (.if_icmp .ge 13, 3) := by decide +kernel
theorem dJ7_fill_d0a16_12 : decode cJ7_fill_d0a16 12 = .ok (.aload_n 0, 1) := by decide +kernel
theorem dJ7_fill_d0a16_13 : decode cJ7_fill_d0a16 13 = .ok (.iload_n 3, 1) := by decide +kernel
theorem dJ7_fill_d0a16_14 : decode cJ7_fill_d0a16 14 = .ok (.lload_n 1, 1) := by decide +kernel
theorem dJ7_fill_d0a16_15 : decode cJ7_fill_d0a16 15 = .ok (.lastore, 1) := by decide +kernel
theorem dJ7_fill_d0a16_16 : decode cJ7_fill_d0a16 16 = .ok (.iinc 3 1, 3) := by decide +kernel
theorem dJ7_fill_d0a16_19 : decode cJ7_fill_d0a16 19 = .ok (.goto (-13), 3) := by decide +kernel
theorem dJ7_fill_d0a16_22 : decode cJ7_fill_d0a16 22 = .ok (.return_, 1) := by decide +kernel
theorem dJ7_fill_53178_0 : decode cJ7_fill_53178 0 = .ok (.iconst 0, 1) := by decide +kernel
theorem dJ7_fill_53178_1 : decode cJ7_fill_53178 1 = .ok (.istore_n 2, 1) := by decide +kernel
theorem dJ7_fill_53178_2 : decode cJ7_fill_53178 2 = .ok (.aload_n 0, 1) := by decide +kernel
theorem dJ7_fill_53178_3 : decode cJ7_fill_53178 3 = .ok (.arraylength, 1) := by decide +kernel
theorem dJ7_fill_53178_4 : decode cJ7_fill_53178 4 = .ok (.istore_n 3, 1) := by decide +kernel
theorem dJ7_fill_53178_5 : decode cJ7_fill_53178 5 = .ok (.iload_n 2, 1) := by decide +kernel
theorem dJ7_fill_53178_6 : decode cJ7_fill_53178 6 = .ok (.iload_n 3, 1) := by decide +kernel
theorem dJ7_fill_53178_7 : decode cJ7_fill_53178 7 = .ok (.if_icmp .ge 13, 3) := by decide +kernel
theorem dJ7_fill_53178_10 : decode cJ7_fill_53178 10 = .ok (.aload_n 0, 1) := by decide +kernel
theorem dJ7_fill_53178_11 : decode cJ7_fill_53178 11 = .ok (.iload_n 2, 1) := by decide +kernel
theorem dJ7_fill_53178_12 : decode cJ7_fill_53178 12 = .ok (.iload_n 1, 1) := by decide +kernel
theorem dJ7_fill_53178_13 : decode cJ7_fill_53178 13 = .ok (.iastore, 1) := by decide +kernel
theorem dJ7_fill_53178_14 : decode cJ7_fill_53178 14 = .ok (.iinc 2 1, 3) := by decide +kernel
theorem dJ7_fill_53178_17 : decode cJ7_fill_53178 17 = .ok (.goto (-12), 3) := by decide +kernel
theorem dJ7_fill_53178_20 : decode cJ7_fill_53178 20 = .ok (.return_, 1) := by decide +kernel
