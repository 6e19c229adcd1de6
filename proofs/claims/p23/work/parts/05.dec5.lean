theorem dX12_carries_5 : decode cX12_carries 5 = .ok (.ifCond .ne 9, 3) := by decide +kernel
theorem dX12_carries_8 : decode cX12_carries 8 = .ok (.aload_n 0, 1) := by decide +kernel
theorem dX12_carries_9 : decode cX12_carries 9 = .ok (.iconst (-1), 1) := by decide +kernel
theorem dX12_carries_10 : decode cX12_carries 10 = .ok (.invokevirtual 93, 3) := by decide +kernel
theorem dX12_carries_13 : decode cX12_carries 13 = .ok (.ireturn, 1) := by decide +kernel
theorem dX12_carries_14 : decode cX12_carries 14 = .ok (.aload_n 0, 1) := by decide +kernel
theorem dX12_carries_15 : decode cX12_carries 15 = .ok (.invokevirtual 204, 3) := by decide +kernel
theorem dX12_carries_18 : decode cX12_carries 18 = .ok (.aload_n 0, 1) := by decide +kernel
theorem dX12_carries_19 : decode cX12_carries 19 = .ok (.getfield 61, 3) := by decide +kernel
theorem dX12_carries_22 : decode cX12_carries 22 = .ok (.iload_n 1, 1) := by decide +kernel
theorem dX12_carries_23 : decode cX12_carries 23 = .ok (.iaload, 1) := by decide +kernel
theorem dX12_carries_24 : decode cX12_carries 24 = .ok (.ireturn, 1) := by decide +kernel
theorem dX12_ends_0 : decode cX12_ends 0 = .ok (.aload_n 0, 1) := by decide +kernel
theorem dX12_ends_1 : decode cX12_ends 1 = .ok (.iload_n 1, 1) := by decide +kernel
theorem dX12_ends_2 : decode cX12_ends 2 = .ok (.invokevirtual 150, 3) := by decide +kernel
theorem dX12_ends_5 : decode cX12_ends 5 = .ok (.ifCond .ne 9, 3) := by decide +kernel
theorem dX12_ends_8 : decode cX12_ends 8 = .ok (.aload_n 0, 1) := by decide +kernel
theorem dX12_ends_9 : decode cX12_ends 9 = .ok (.iconst (-1), 1) := by decide +kernel
theorem dX12_ends_10 : decode cX12_ends 10 = .ok (.invokevirtual 93, 3) := by decide +kernel
theorem dX12_ends_13 : decode cX12_ends 13 = .ok (.ireturn, 1) := by decide +kernel
theorem dX12_ends_14 : decode cX12_ends 14 = .ok (.aload_n 0, 1) := by decide +kernel
theorem dX12_ends_15 : decode cX12_ends 15 = .ok (.invokevirtual 204, 3) := by decide +kernel
theorem dX12_ends_18 : decode cX12_ends 18 = .ok (.aload_n 0, 1) := by decide +kernel
theorem dX12_ends_19 : decode cX12_ends 19 = .ok (.getfield 58, 3) := by decide +kernel
theorem dX12_ends_22 : decode cX12_ends 22 = .ok (.iload_n 1, 1) := by decide +kernel
theorem dX12_ends_23 : decode cX12_ends 23 = .ok (.iaload, 1) := by decide +kernel
theorem dX12_ends_24 : decode cX12_ends 24 = .ok (.ireturn, 1) := by decide +kernel
theorem dX12_gets_0 : decode cX12_gets 0 = .ok (.aload_n 0, 1) := by decide +kernel
theorem dX12_gets_1 : decode cX12_gets 1 = .ok (.iload_n 1, 1) := by decide +kernel
theorem dX12_gets_2 : decode cX12_gets 2 = .ok (.iload_n 2, 1) := by decide +kernel
theorem dX12_gets_3 : decode cX12_gets 3 = .ok (.invokevirtual 201, 3) := by decide +kernel
theorem dX12_gets_6 : decode cX12_gets 6 = .ok (.ifCond .ne 9, 3) := by decide +kernel
theorem dX12_gets_9 : decode cX12_gets 9 = .ok (.aload_n 0, 1) := by decide +kernel
theorem dX12_gets_10 : decode cX12_gets 10 = .ok (.iconst (-1), 1) := by decide +kernel
theorem dX12_gets_11 : decode cX12_gets 11 = .ok (.invokevirtual 207, 3) := by decide +kernel
theorem dX12_gets_14 : decode cX12_gets 14 = .ok (.ireturn, 1) := by decide +kernel
theorem dX12_gets_15 : decode cX12_gets 15 = .ok (.aload_n 0, 1) := by decide +kernel
theorem dX12_gets_16 : decode cX12_gets 16 = .ok (.invokevirtual 204, 3) := by decide +kernel
theorem dX12_gets_19 : decode cX12_gets 19 = .ok (.aload_n 0, 1) := by decide +kernel
theorem dX12_gets_20 : decode cX12_gets 20 = .ok (.getfield 49, 3) := by decide +kernel
theorem dX12_gets_23 : decode cX12_gets 23 = .ok (.bipush 9, 2) := by decide +kernel
theorem dX12_gets_25 : decode cX12_gets 25 = .ok (.iload_n 1, 1) := by decide +kernel
theorem dX12_gets_26 : decode cX12_gets 26 = .ok (.imul, 1) := by decide +kernel
theorem dX12_gets_27 : decode cX12_gets 27 = .ok (.iload_n 2, 1) := by decide +kernel
theorem dX12_gets_28 : decode cX12_gets 28 = .ok (.iadd, 1) := by decide +kernel
theorem dX12_gets_29 : decode cX12_gets 29 = .ok (.iaload, 1) := by decide +kernel
theorem dX12_gets_30 : decode cX12_gets 30 = .ok (.ireturn, 1) := by decide +kernel
theorem dX12_bought_0 : decode cX12_bought 0 = .ok (.aload_n 0, 1) := by decide +kernel
theorem dX12_bought_1 : decode cX12_bought 1 = .ok (.iload_n 1, 1) := by decide +kernel
theorem dX12_bought_2 : decode cX12_bought 2 = .ok (.invokevirtual 150, 3) := by decide +kernel
theorem dX12_bought_5 : decode cX12_bought 5 = .ok (.ifCond .ne 9, 3) := by decide +kernel
theorem dX12_bought_8 : decode cX12_bought 8 = .ok (.aload_n 0, 1) := by decide +kernel
theorem dX12_bought_9 : decode cX12_bought 9 = .ok (.iconst (-1), 1) := by decide +kernel
theorem dX12_bought_10 : decode cX12_bought 10 = .ok (.invokevirtual 93, 3) := by decide +kernel
theorem dX12_bought_13 : decode cX12_bought 13 = .ok (.ireturn, 1) := by decide +kernel
theorem dX12_bought_14 : decode cX12_bought 14 = .ok (.aload_n 0, 1) := by decide +kernel
theorem dX12_bought_15 : decode cX12_bought 15 = .ok (.invokevirtual 204, 3) := by decide +kernel
theorem dX12_bought_18 : decode cX12_bought 18 = .ok (.aload_n 0, 1) := by decide +kernel
theorem dX12_bought_19 : decode cX12_bought 19 = .ok (.getfield 55, 3) := by decide +kernel
theorem dX12_bought_22 : decode cX12_bought 22 = .ok (.iload_n 1, 1) := by decide +kernel
theorem dX12_bought_23 : decode cX12_bought 23 = .ok (.iaload, 1) := by decide +kernel
theorem dX12_bought_24 : decode cX12_bought 24 = .ok (.ireturn, 1) := by decide +kernel
theorem dX12_row_0 : decode cX12_row 0 = .ok (.iload_n 1, 1) := by decide +kernel
theorem dX12_row_1 : decode cX12_row 1 = .ok (.iconst 0, 1) := by decide +kernel
theorem dX12_row_2 : decode cX12_row 2 = .ok (.bipush 99, 2) := by decide +kernel
theorem dX12_row_4 : decode cX12_row 4 = .ok (.invokestatic 86, 3) := by decide +kernel
theorem dX12_row_7 : decode cX12_row 7 = .ok (.istore_n 2, 1) := by decide +kernel
theorem dX12_row_8 : decode cX12_row 8 = .ok (.iload_n 2, 1) := by decide +kernel
theorem dX12_row_9 : decode cX12_row 9 = .ok (.ifCond .ne 15, 3) := by decide +kernel
theorem dX12_row_12 : decode cX12_row 12 = .ok (.aload_n 0, 1) := by decide +kernel
theorem dX12_row_13 : decode cX12_row 13 = .ok (.getfield 210, 3) := by decide +kernel
theorem dX12_row_16 : decode cX12_row 16 = .ok (.bipush 8, 2) := by decide +kernel
theorem dX12_row_18 : decode cX12_row 18 = .ok (.if_icmp .ne 6, 3) := by decide +kernel
theorem dX12_row_21 : decode cX12_row 21 = .ok (.bipush (-6), 2) := by decide +kernel
theorem dX12_row_23 : decode cX12_row 23 = .ok (.istore_n 2, 1) := by decide +kernel
theorem dX12_row_24 : decode cX12_row 24 = .ok (.iload_n 2, 1) := by decide +kernel
theorem dX12_row_25 : decode cX12_row 25 = .ok (.ifCond .eq 9, 3) := by decide +kernel
theorem dX12_row_28 : decode cX12_row 28 = .ok (.aload_n 0, 1) := by decide +kernel
theorem dX12_row_29 : decode cX12_row 29 = .ok (.iload_n 2, 1) := by decide +kernel
theorem dX12_row_30 : decode cX12_row 30 = .ok (.invokevirtual 93, 3) := by decide +kernel
theorem dX12_row_33 : decode cX12_row 33 = .ok (.ireturn, 1) := by decide +kernel
theorem dX12_row_34 : decode cX12_row 34 = .ok (.aload_n 0, 1) := by decide +kernel
theorem dX12_row_35 : decode cX12_row 35 = .ok (.getfield 64, 3) := by decide +kernel
theorem dX12_row_38 : decode cX12_row 38 = .ok (.aload_n 0, 1) := by decide +kernel
theorem dX12_row_39 : decode cX12_row 39 = .ok (.getfield 210, 3) := by decide +kernel
theorem dX12_row_42 : decode cX12_row 42 = .ok (.iload_n 1, 1) := by decide +kernel
theorem dX12_row_43 : decode cX12_row 43 = .ok (.iastore, 1) := by decide +kernel
theorem dX12_row_44 : decode cX12_row 44 = .ok (.aload_n 0, 1) := by decide +kernel
theorem dX12_row_45 : decode cX12_row 45 = .ok (.dup, 1) := by decide +kernel
theorem dX12_row_46 : decode cX12_row 46 = .ok (.getfield 210, 3) := by decide +kernel
theorem dX12_row_49 : decode cX12_row 49 = .ok (.iconst 1, 1) := by decide +kernel
theorem dX12_row_50 : decode cX12_row 50 = .ok (.iadd, 1) := by decide +kernel
theorem dX12_row_51 : decode cX12_row 51 = .ok (.putfield 210, 3) := by decide +kernel
theorem dX12_row_54 : decode cX12_row 54 = .ok (.aload_n 0, 1) := by decide +kernel
theorem dX12_row_55 : decode cX12_row 55 = .ok (.getfield 210, 3) := by decide +kernel
theorem dX12_row_58 : decode cX12_row 58 = .ok (.ireturn, 1) := by decide +kernel
theorem dX12_clear_0 : decode cX12_clear 0 = .ok (.aload_n 0, 1) := by decide +kernel
theorem dX12_clear_1 : decode cX12_clear 1 = .ok (.getfield 210, 3) := by decide +kernel
theorem dX12_clear_4 : decode cX12_clear 4 = .ok (.istore_n 1, 1) := by decide +kernel
theorem dX12_clear_5 : decode cX12_clear 5 = .ok (.aload_n 0, 1) := by decide +kernel
theorem dX12_clear_6 : decode cX12_clear 6 = .ok (.iconst 0, 1) := by decide +kernel
theorem dX12_clear_7 : decode cX12_clear 7 = .ok (.putfield 210, 3) := by decide +kernel
theorem dX12_clear_10 : decode cX12_clear 10 = .ok (.iload_n 1, 1) := by decide +kernel
theorem dX12_clear_11 : decode cX12_clear 11 = .ok (.ireturn, 1) := by decide +kernel
theorem dX12_isOver_0 : decode cX12_isOver 0 = .ok (.aload_n 0, 1) := by decide +kernel
theorem dX12_isOver_1 : decode cX12_isOver 1 = .ok (.getfield 82, 3) := by decide +kernel
theorem dX12_isOver_4 : decode cX12_isOver 4 = .ok (.ifCond .eq 11, 3) := by decide +kernel
theorem dX12_isOver_7 : decode cX12_isOver 7 = .ok (.aload_n 0, 1) := by decide +kernel
theorem dX12_isOver_8 : decode cX12_isOver 8 = .ok (.getfield 115, 3) := by decide +kernel
theorem dX12_isOver_11 : decode cX12_isOver 11 = .ok (.iconst 1, 1) := by decide +kernel
theorem dX12_isOver_12 : decode cX12_isOver 12 = .ok (.if_icmp .ne 7, 3) := by decide +kernel
theorem dX12_isOver_15 : decode cX12_isOver 15 = .ok (.iconst 1, 1) := by decide +kernel
theorem dX12_isOver_16 : decode cX12_isOver 16 = .ok (.goto 4, 3) := by decide +kernel
theorem dX12_isOver_19 : decode cX12_isOver 19 = .ok (.iconst 0, 1) := by decide +kernel
theorem dX12_isOver_20 : decode cX12_isOver 20 = .ok (.ireturn, 1) := by decide +kernel
theorem dX12_isOffer_0 : decode cX12_isOffer 0 = .ok (.iconst 0, 1) := by decide +kernel
theorem dX12_isOffer_1 : decode cX12_isOffer 1 = .ok (.istore_n 1, 1) := by decide +kernel
theorem dX12_isOffer_2 : decode cX12_isOffer 2 = .ok (.iconst 0, 1) := by decide +kernel
theorem dX12_isOffer_3 : decode cX12_isOffer 3 = .ok (.istore_n 2, 1) := by decide +kernel
theorem dX12_isOffer_4 : decode cX12_isOffer 4 = .ok (.iload_n 2, 1) := by decide +kernel
theorem dX12_isOffer_5 : decode cX12_isOffer 5 = .ok (.aload_n 0, 1) := by decide +kernel
theorem dX12_isOffer_6 : decode cX12_isOffer 6 = .ok (.getfield 210, 3) := by decide +kernel
theorem dX12_isOffer_9 : decode cX12_isOffer 9 = .ok (.if_icmp .ge 18, 3) := by decide +kernel
theorem dX12_isOffer_12 : decode cX12_isOffer 12 = .ok (.iload_n 1, 1) := by decide +kernel
theorem dX12_isOffer_13 : decode cX12_isOffer 13 = .ok (.aload_n 0, 1) := by decide +kernel
theorem dX12_isOffer_14 : decode cX12_isOffer 14 = .ok (.getfield 64, 3) := by decide +kernel
theorem dX12_isOffer_17 : decode cX12_isOffer 17 = .ok (.iload_n 2, 1) := by decide +kernel
theorem dX12_isOffer_18 : decode cX12_isOffer 18 = .ok (.iaload, 1) := by decide +kernel
theorem dX12_isOffer_19 : decode cX12_isOffer 19 = .ok (.iadd, 1) := by decide +kernel
theorem dX12_isOffer_20 : decode cX12_isOffer 20 = .ok (.istore_n 1, 1) := by decide +kernel
theorem dX12_isOffer_21 : decode cX12_isOffer 21 = .ok (.iinc 2 1, 3) := by decide +kernel
theorem dX12_isOffer_24 : decode cX12_isOffer 24 = .ok (.goto (-20), 3) := by decide +kernel
theorem dX12_isOffer_27 : decode cX12_isOffer 27 = .ok (.aload_n 0, 1) := by decide +kernel
theorem dX12_isOffer_28 : decode cX12_isOffer 28 = .ok (.getfield 210, 3) := by decide +kernel
theorem dX12_isOffer_31 : decode cX12_isOffer 31 = .ok (.aload_n 0, 1) := by decide +kernel
theorem dX12_isOffer_32 : decode cX12_isOffer 32 = .ok (.getfield 82, 3) := by decide +kernel
theorem dX12_isOffer_35 : decode cX12_isOffer 35 = .ok (.aload_n 0, 1) := by decide +kernel
theorem dX12_isOffer_36 : decode cX12_isOffer 36 = .ok (.getfield 144, 3) := by decide +kernel
theorem dX12_isOffer_39 : decode cX12_isOffer 39 = .ok (.isub, 1) := by decide +kernel
theorem dX12_isOffer_40 : decode cX12_isOffer 40 = .ok (.if_icmp .ne 17, 3) := by decide +kernel
theorem dX12_isOffer_43 : decode cX12_isOffer 43 = .ok (.iload_n 1, 1) := by decide +kernel
theorem dX12_isOffer_44 : decode cX12_isOffer 44 = .ok (.aload_n 0, 1) := by decide +kernel
theorem dX12_isOffer_45 : decode cX12_isOffer 45 = .ok (.getfield 25, 3) := by decide +kernel
theorem dX12_isOffer_48 : decode cX12_isOffer 48 = .ok (.iconst 0, 1) := by decide +kernel
theorem dX12_isOffer_49 : decode cX12_isOffer 49 = .ok (.iaload, 1) := by decide +kernel
theorem dX12_isOffer_50 : decode cX12_isOffer 50 = .ok (.if_icmp .ne 7, 3) := by decide +kernel
theorem dX12_isOffer_53 : decode cX12_isOffer 53 = .ok (.iconst 1, 1) := by decide +kernel
theorem dX12_isOffer_54 : decode cX12_isOffer 54 = .ok (.goto 4, 3) := by decide +kernel
theorem dX12_isOffer_57 : decode cX12_isOffer 57 = .ok (.iconst 0, 1) := by decide +kernel
theorem dX12_isOffer_58 : decode cX12_isOffer 58 = .ok (.ireturn, 1) := by decide +kernel
theorem dX12_judge_0 : decode cX12_judge 0 = .ok (.aload_n 0, 1) := by decide +kernel
theorem dX12_judge_1 : decode cX12_judge 1 = .ok (.invokevirtual 213, 3) := by decide +kernel
theorem dX12_judge_4 : decode cX12_judge 4 = .ok (.ifCond .eq 10, 3) := by decide +kernel
theorem dX12_judge_7 : decode cX12_judge 7 = .ok (.aload_n 0, 1) := by decide +kernel
theorem dX12_judge_8 : decode cX12_judge 8 = .ok (.bipush (-3), 2) := by decide +kernel
theorem dX12_judge_10 : decode cX12_judge 10 = .ok (.invokevirtual 93, 3) := by decide +kernel
theorem dX12_judge_13 : decode cX12_judge 13 = .ok (.ireturn, 1) := by decide +kernel
theorem dX12_judge_14 : decode cX12_judge 14 = .ok (.iload_n 1, 1) := by decide +kernel
theorem dX12_judge_15 : decode cX12_judge 15 = .ok (.ifCond .ge 10, 3) := by decide +kernel
theorem dX12_judge_18 : decode cX12_judge 18 = .ok (.aload_n 0, 1) := by decide +kernel
theorem dX12_judge_19 : decode cX12_judge 19 = .ok (.bipush (-4), 2) := by decide +kernel
theorem dX12_judge_21 : decode cX12_judge 21 = .ok (.invokevirtual 93, 3) := by decide +kernel
theorem dX12_judge_24 : decode cX12_judge 24 = .ok (.ireturn, 1) := by decide +kernel
theorem dX12_judge_25 : decode cX12_judge 25 = .ok (.aload_n 0, 1) := by decide +kernel
theorem dX12_judge_26 : decode cX12_judge 26 = .ok (.invokevirtual 216, 3) := by decide +kernel
theorem dX12_judge_29 : decode cX12_judge 29 = .ok (.ifCond .ne 5, 3) := by decide +kernel
theorem dX12_judge_32 : decode cX12_judge 32 = .ok (.iconst 0, 1) := by decide +kernel
theorem dX12_judge_33 : decode cX12_judge 33 = .ok (.ireturn, 1) := by decide +kernel
theorem dX12_judge_34 : decode cX12_judge 34 = .ok (.aload_n 0, 1) := by decide +kernel
theorem dX12_judge_35 : decode cX12_judge 35 = .ok (.invokevirtual 204, 3) := by decide +kernel
theorem dX12_judge_38 : decode cX12_judge 38 = .ok (.iconst 0, 1) := by decide +kernel
theorem dX12_judge_39 : decode cX12_judge 39 = .ok (.istore_n 2, 1) := by decide +kernel
theorem dX12_judge_40 : decode cX12_judge 40 = .ok (.iload_n 2, 1) := by decide +kernel
theorem dX12_judge_41 : decode cX12_judge 41 = .ok (.aload_n 0, 1) := by decide +kernel
theorem dX12_judge_42 : decode cX12_judge 42 = .ok (.getfield 210, 3) := by decide +kernel
theorem dX12_judge_45 : decode cX12_judge 45 = .ok (.if_icmp .ge 73, 3) := by decide +kernel
theorem dX12_judge_48 : decode cX12_judge 48 = .ok (.aload_n 0, 1) := by decide +kernel
theorem dX12_judge_49 : decode cX12_judge 49 = .ok (.getfield 144, 3) := by decide +kernel
theorem dX12_judge_52 : decode cX12_judge 52 = .ok (.iload_n 2, 1) := by decide +kernel
theorem dX12_judge_53 : decode cX12_judge 53 = .ok (.iadd, 1) := by decide +kernel
theorem dX12_judge_54 : decode cX12_judge 54 = .ok (.istore_n 3, 1) := by decide +kernel
theorem dX12_judge_55 : decode cX12_judge 55 = .ok (.iload_n 2, 1) := by decide +kernel
theorem dX12_judge_56 : decode cX12_judge 56 = .ok (.ifCond .eq 26, 3) := by decide +kernel
theorem dX12_judge_59 : decode cX12_judge 59 = .ok (.aload_n 0, 1) := by decide +kernel
theorem dX12_judge_60 : decode cX12_judge 60 = .ok (.getfield 64, 3) := by decide +kernel
theorem dX12_judge_63 : decode cX12_judge 63 = .ok (.iload_n 2, 1) := by decide +kernel
theorem dX12_judge_64 : decode cX12_judge 64 = .ok (.iaload, 1) := by decide +kernel
theorem dX12_judge_65 : decode cX12_judge 65 = .ok (.aload_n 0, 1) := by decide +kernel
theorem dX12_judge_66 : decode cX12_judge 66 = .ok (.getfield 43, 3) := by decide +kernel
theorem dX12_judge_69 : decode cX12_judge 69 = .ok (.bipush 9, 2) := by decide +kernel
theorem dX12_judge_71 : decode cX12_judge 71 = .ok (.aload_n 0, 1) := by decide +kernel
theorem dX12_judge_72 : decode cX12_judge 72 = .ok (.getfield 144, 3) := by decide +kernel
theorem dX12_judge_75 : decode cX12_judge 75 = .ok (.imul, 1) := by decide +kernel
theorem dX12_judge_76 : decode cX12_judge 76 = .ok (.iload_n 3, 1) := by decide +kernel
theorem dX12_judge_77 : decode cX12_judge 77 = .ok (.iadd, 1) := by decide +kernel
theorem dX12_judge_78 : decode cX12_judge 78 = .ok (.iaload, 1) := by decide +kernel
theorem dX12_judge_79 : decode cX12_judge 79 = .ok (.if_icmp .lt 7, 3) := by decide +kernel
theorem dX12_judge_82 : decode cX12_judge 82 = .ok (.iconst 1, 1) := by decide +kernel
theorem dX12_judge_83 : decode cX12_judge 83 = .ok (.goto 4, 3) := by decide +kernel
theorem dX12_judge_86 : decode cX12_judge 86 = .ok (.iconst 0, 1) := by decide +kernel
theorem dX12_judge_87 : decode cX12_judge 87 = .ok (.istore 4, 2) := by decide +kernel
theorem dX12_judge_89 : decode cX12_judge 89 = .ok (.iload 4, 2) := by decide +kernel
theorem dX12_judge_91 : decode cX12_judge 91 = .ok (.iload_n 1, 1) := by decide +kernel
theorem dX12_judge_92 : decode cX12_judge 92 = .ok (.iload_n 3, 1) := by decide +kernel
theorem dX12_judge_93 : decode cX12_judge 93 = .ok (.ishr, 1) := by decide +kernel
theorem dX12_judge_94 : decode cX12_judge 94 = .ok (.iconst 1, 1) := by decide +kernel
theorem dX12_judge_95 : decode cX12_judge 95 = .ok (.iand, 1) := by decide +kernel
theorem dX12_judge_96 : decode cX12_judge 96 = .ok (.iconst 1, 1) := by decide +kernel
theorem dX12_judge_97 : decode cX12_judge 97 = .ok (.if_icmp .ne 7, 3) := by decide +kernel
theorem dX12_judge_100 : decode cX12_judge 100 = .ok (.iconst 1, 1) := by decide +kernel
theorem dX12_judge_101 : decode cX12_judge 101 = .ok (.goto 4, 3) := by decide +kernel
theorem dX12_judge_104 : decode cX12_judge 104 = .ok (.iconst 0, 1) := by decide +kernel
theorem dX12_judge_105 : decode cX12_judge 105 = .ok (.if_icmp .eq 7, 3) := by decide +kernel
theorem dX12_judge_108 : decode cX12_judge 108 = .ok (.iload_n 2, 1) := by decide +kernel
theorem dX12_judge_109 : decode cX12_judge 109 = .ok (.iconst 1, 1) := by decide +kernel
theorem dX12_judge_110 : decode cX12_judge 110 = .ok (.iadd, 1) := by decide +kernel
theorem dX12_judge_111 : decode cX12_judge 111 = .ok (.ireturn, 1) := by decide +kernel
theorem dX12_judge_112 : decode cX12_judge 112 = .ok (.iinc 2 1, 3) := by decide +kernel
theorem dX12_judge_115 : decode cX12_judge 115 = .ok (.goto (-75), 3) := by decide +kernel
theorem dX12_judge_118 : decode cX12_judge 118 = .ok (.bipush (-9), 2) := by decide +kernel
theorem dX12_judge_120 : decode cX12_judge 120 = .ok (.ireturn, 1) := by decide +kernel
theorem dX12_decides_0 : decode cX12_decides 0 = .ok (.aload_n 0, 1) := by decide +kernel
theorem dX12_decides_1 : decode cX12_decides 1 = .ok (.aload_n 0, 1) := by decide +kernel
theorem dX12_decides_2 : decode cX12_decides 2 = .ok (.getfield 144, 3) := by decide +kernel
theorem dX12_decides_5 : decode cX12_decides 5 = .ok (.invokevirtual 159, 3) := by decide +kernel
theorem dX12_decides_8 : decode cX12_decides 8 = .ok (.istore_n 2, 1) := by decide +kernel
theorem dX12_decides_9 : decode cX12_decides 9 = .ok (.aload_n 0, 1) := by decide +kernel
theorem dX12_decides_10 : decode cX12_decides 10 = .ok (.getfield 25, 3) := by decide +kernel
theorem dX12_decides_13 : decode cX12_decides 13 = .ok (.iconst 1, 1) := by decide +kernel
theorem dX12_decides_14 : decode cX12_decides 14 = .ok (.iaload, 1) := by decide +kernel
theorem dX12_decides_15 : decode cX12_decides 15 = .ok (.aload_n 0, 1) := by decide +kernel
theorem dX12_decides_16 : decode cX12_decides 16 = .ok (.iload_n 1, 1) := by decide +kernel
theorem dX12_decides_17 : decode cX12_decides 17 = .ok (.iload_n 2, 1) := by decide +kernel
theorem dX12_decides_18 : decode cX12_decides 18 = .ok (.iand, 1) := by decide +kernel
theorem dX12_decides_19 : decode cX12_decides 19 = .ok (.invokevirtual 165, 3) := by decide +kernel
theorem dX12_decides_22 : decode cX12_decides 22 = .ok (.aload_n 0, 1) := by decide +kernel
theorem dX12_decides_23 : decode cX12_decides 23 = .ok (.iload_n 2, 1) := by decide +kernel
theorem dX12_decides_24 : decode cX12_decides 24 = .ok (.invokevirtual 165, 3) := by decide +kernel
theorem dX12_decides_27 : decode cX12_decides 27 = .ok (.invokestatic 168, 3) := by decide +kernel
theorem dX12_decides_30 : decode cX12_decides 30 = .ok (.istore_n 3, 1) := by decide +kernel
theorem dX12_decides_31 : decode cX12_decides 31 = .ok (.iload_n 3, 1) := by decide +kernel
theorem dX12_decides_32 : decode cX12_decides 32 = .ok (.ifCond .eq 48, 3) := by decide +kernel
theorem dX12_decides_35 : decode cX12_decides 35 = .ok (.iconst 0, 1) := by decide +kernel
theorem dX12_decides_36 : decode cX12_decides 36 = .ok (.istore 4, 2) := by decide +kernel
theorem dX12_decides_38 : decode cX12_decides 38 = .ok (.iload 4, 2) := by decide +kernel
theorem dX12_decides_40 : decode cX12_decides 40 = .ok (.aload_n 0, 1) := by decide +kernel
theorem dX12_decides_41 : decode cX12_decides 41 = .ok (.getfield 210, 3) := by decide +kernel
theorem dX12_decides_44 : decode cX12_decides 44 = .ok (.if_icmp .ge 28, 3) := by decide +kernel
theorem dX12_decides_47 : decode cX12_decides 47 = .ok (.aload_n 0, 1) := by decide +kernel
theorem dX12_decides_48 : decode cX12_decides 48 = .ok (.getfield 22, 3) := by decide +kernel
theorem dX12_decides_51 : decode cX12_decides 51 = .ok (.aload_n 0, 1) := by decide +kernel
theorem dX12_decides_52 : decode cX12_decides 52 = .ok (.getfield 144, 3) := by decide +kernel
theorem dX12_decides_55 : decode cX12_decides 55 = .ok (.iload 4, 2) := by decide +kernel
theorem dX12_decides_57 : decode cX12_decides 57 = .ok (.iadd, 1) := by decide +kernel
theorem dX12_decides_58 : decode cX12_decides 58 = .ok (.aload_n 0, 1) := by decide +kernel
theorem dX12_decides_59 : decode cX12_decides 59 = .ok (.getfield 64, 3) := by decide +kernel
theorem dX12_decides_62 : decode cX12_decides 62 = .ok (.iload 4, 2) := by decide +kernel
theorem dX12_decides_64 : decode cX12_decides 64 = .ok (.iaload, 1) := by decide +kernel
theorem dX12_decides_65 : decode cX12_decides 65 = .ok (.iastore, 1) := by decide +kernel
theorem dX12_decides_66 : decode cX12_decides 66 = .ok (.iinc 4 1, 3) := by decide +kernel
theorem dX12_decides_69 : decode cX12_decides 69 = .ok (.goto (-31), 3) := by decide +kernel
theorem dX12_decides_72 : decode cX12_decides 72 = .ok (.aload_n 0, 1) := by decide +kernel
theorem dX12_decides_73 : decode cX12_decides 73 = .ok (.iconst 1, 1) := by decide +kernel
theorem dX12_decides_74 : decode cX12_decides 74 = .ok (.putfield 115, 3) := by decide +kernel
theorem dX12_decides_77 : decode cX12_decides 77 = .ok (.goto 44, 3) := by decide +kernel
theorem dX12_decides_80 : decode cX12_decides 80 = .ok (.aload_n 0, 1) := by decide +kernel
theorem dX12_decides_81 : decode cX12_decides 81 = .ok (.getfield 22, 3) := by decide +kernel
theorem dX12_decides_84 : decode cX12_decides 84 = .ok (.aload_n 0, 1) := by decide +kernel
theorem dX12_decides_85 : decode cX12_decides 85 = .ok (.getfield 144, 3) := by decide +kernel
theorem dX12_decides_88 : decode cX12_decides 88 = .ok (.iconst (-1), 1) := by decide +kernel
theorem dX12_decides_89 : decode cX12_decides 89 = .ok (.iastore, 1) := by decide +kernel
theorem dX12_decides_90 : decode cX12_decides 90 = .ok (.aload_n 0, 1) := by decide +kernel
theorem dX12_decides_91 : decode cX12_decides 91 = .ok (.getfield 144, 3) := by decide +kernel
theorem dX12_decides_94 : decode cX12_decides 94 = .ok (.aload_n 0, 1) := by decide +kernel
theorem dX12_decides_95 : decode cX12_decides 95 = .ok (.getfield 82, 3) := by decide +kernel
theorem dX12_decides_98 : decode cX12_decides 98 = .ok (.iconst 1, 1) := by decide +kernel
theorem dX12_decides_99 : decode cX12_decides 99 = .ok (.isub, 1) := by decide +kernel
theorem dX12_decides_100 : decode cX12_decides 100 = .ok (.if_icmp .ne 11, 3) := by decide +kernel
theorem dX12_decides_103 : decode cX12_decides 103 = .ok (.aload_n 0, 1) := by decide +kernel
theorem dX12_decides_104 : decode cX12_decides 104 = .ok (.iconst 1, 1) := by decide +kernel
theorem dX12_decides_105 : decode cX12_decides 105 = .ok (.putfield 115, 3) := by decide +kernel
theorem dX12_decides_108 : decode cX12_decides 108 = .ok (.goto 13, 3) := by decide +kernel
theorem dX12_decides_111 : decode cX12_decides 111 = .ok (.aload_n 0, 1) := by decide +kernel
theorem dX12_decides_112 : decode cX12_decides 112 = .ok (.dup, 1) := by decide +kernel
theorem dX12_decides_113 : decode cX12_decides 113 = .ok (.getfield 144, 3) := by decide +kernel
theorem dX12_decides_116 : decode cX12_decides 116 = .ok (.iconst 1, 1) := by decide +kernel
theorem dX12_decides_117 : decode cX12_decides 117 = .ok (.iadd, 1) := by decide +kernel
theorem dX12_decides_118 : decode cX12_decides 118 = .ok (.putfield 144, 3) := by decide +kernel
theorem dX12_decides_121 : decode cX12_decides 121 = .ok (.aload_n 0, 1) := by decide +kernel
theorem dX12_decides_122 : decode cX12_decides 122 = .ok (.iconst 0, 1) := by decide +kernel
theorem dX12_decides_123 : decode cX12_decides 123 = .ok (.putfield 210, 3) := by decide +kernel
theorem dX12_decides_126 : decode cX12_decides 126 = .ok (.iload_n 3, 1) := by decide +kernel
theorem dX12_decides_127 : decode cX12_decides 127 = .ok (.ifCond .eq 7, 3) := by decide +kernel
theorem dX12_decides_130 : decode cX12_decides 130 = .ok (.iconst 1, 1) := by decide +kernel
theorem dX12_decides_131 : decode cX12_decides 131 = .ok (.goto 4, 3) := by decide +kernel
theorem dX12_decides_134 : decode cX12_decides 134 = .ok (.iconst 0, 1) := by decide +kernel
theorem dX12_decides_135 : decode cX12_decides 135 = .ok (.ireturn, 1) := by decide +kernel
theorem dX12_goes_0 : decode cX12_goes 0 = .ok (.aload_n 0, 1) := by decide +kernel
theorem dX12_goes_1 : decode cX12_goes 1 = .ok (.invokevirtual 213, 3) := by decide +kernel
theorem dX12_goes_4 : decode cX12_goes 4 = .ok (.ifCond .ne 10, 3) := by decide +kernel
theorem dX12_goes_7 : decode cX12_goes 7 = .ok (.aload_n 0, 1) := by decide +kernel
theorem dX12_goes_8 : decode cX12_goes 8 = .ok (.invokevirtual 216, 3) := by decide +kernel
theorem dX12_goes_11 : decode cX12_goes 11 = .ok (.ifCond .ne 10, 3) := by decide +kernel
theorem dX12_goes_14 : decode cX12_goes 14 = .ok (.aload_n 0, 1) := by decide +kernel
theorem dX12_goes_15 : decode cX12_goes 15 = .ok (.bipush (-3), 2) := by decide +kernel
theorem dX12_goes_17 : decode cX12_goes 17 = .ok (.invokevirtual 93, 3) := by decide +kernel
theorem dX12_goes_20 : decode cX12_goes 20 = .ok (.ireturn, 1) := by decide +kernel
theorem dX12_goes_21 : decode cX12_goes 21 = .ok (.iload_n 1, 1) := by decide +kernel
theorem dX12_goes_22 : decode cX12_goes 22 = .ok (.ifCond .ge 12, 3) := by decide +kernel
theorem dX12_goes_25 : decode cX12_goes 25 = .ok (.aload_n 0, 1) := by decide +kernel
theorem dX12_goes_26 : decode cX12_goes 26 = .ok (.bipush (-4), 2) := by decide +kernel
theorem dX12_goes_28 : decode cX12_goes 28 = .ok (.invokevirtual 93, 3) := by decide +kernel
theorem dX12_goes_31 : decode cX12_goes 31 = .ok (.goto 8, 3) := by decide +kernel
theorem dX12_goes_34 : decode cX12_goes 34 = .ok (.aload_n 0, 1) := by decide +kernel
theorem dX12_goes_35 : decode cX12_goes 35 = .ok (.iload_n 1, 1) := by decide +kernel
theorem dX12_goes_36 : decode cX12_goes 36 = .ok (.invokevirtual 219, 3) := by decide +kernel
theorem dX12_goes_39 : decode cX12_goes 39 = .ok (.ireturn, 1) := by decide +kernel
theorem dX12_says_0 : decode cX12_says 0 = .ok (.aload_n 0, 1) := by decide +kernel
theorem dX12_says_1 : decode cX12_says 1 = .ok (.invokevirtual 213, 3) := by decide +kernel
theorem dX12_says_4 : decode cX12_says 4 = .ok (.ifCond .eq 10, 3) := by decide +kernel
theorem dX12_says_7 : decode cX12_says 7 = .ok (.aload_n 0, 1) := by decide +kernel
theorem dX12_says_8 : decode cX12_says 8 = .ok (.bipush (-3), 2) := by decide +kernel
theorem dX12_says_10 : decode cX12_says 10 = .ok (.invokevirtual 93, 3) := by decide +kernel
theorem dX12_says_13 : decode cX12_says 13 = .ok (.ireturn, 1) := by decide +kernel
theorem dX12_says_14 : decode cX12_says 14 = .ok (.aload_n 0, 1) := by decide +kernel
theorem dX12_says_15 : decode cX12_says 15 = .ok (.invokevirtual 204, 3) := by decide +kernel
theorem dX12_says_18 : decode cX12_says 18 = .ok (.aload_n 0, 1) := by decide +kernel
theorem dX12_says_19 : decode cX12_says 19 = .ok (.getfield 210, 3) := by decide +kernel
theorem dX12_says_22 : decode cX12_says 22 = .ok (.istore_n 1, 1) := by decide +kernel
theorem dX12_says_23 : decode cX12_says 23 = .ok (.iconst 0, 1) := by decide +kernel
theorem dX12_says_24 : decode cX12_says 24 = .ok (.istore_n 2, 1) := by decide +kernel
theorem dX12_says_25 : decode cX12_says 25 = .ok (.iload_n 2, 1) := by decide +kernel
theorem dX12_says_26 : decode cX12_says 26 = .ok (.bipush 8, 2) := by decide +kernel
theorem dX12_says_28 : decode cX12_says 28 = .ok (.if_icmp .ge 21, 3) := by decide +kernel
theorem dX12_says_31 : decode cX12_says 31 = .ok (.aload_n 0, 1) := by decide +kernel
theorem dX12_says_32 : decode cX12_says 32 = .ok (.getfield 67, 3) := by decide +kernel
theorem dX12_says_35 : decode cX12_says 35 = .ok (.iload_n 2, 1) := by decide +kernel
theorem dX12_says_36 : decode cX12_says 36 = .ok (.aload_n 0, 1) := by decide +kernel
theorem dX12_says_37 : decode cX12_says 37 = .ok (.getfield 64, 3) := by decide +kernel
theorem dX12_says_40 : decode cX12_says 40 = .ok (.iload_n 2, 1) := by decide +kernel
theorem dX12_says_41 : decode cX12_says 41 = .ok (.iaload, 1) := by decide +kernel
theorem dX12_says_42 : decode cX12_says 42 = .ok (.iastore, 1) := by decide +kernel
theorem dX12_says_43 : decode cX12_says 43 = .ok (.iinc 2 1, 3) := by decide +kernel
theorem dX12_says_46 : decode cX12_says 46 = .ok (.goto (-21), 3) := by decide +kernel
theorem dX12_says_49 : decode cX12_says 49 = .ok (.aload_n 0, 1) := by decide +kernel
theorem dX12_says_50 : decode cX12_says 50 = .ok (.aload_n 0, 1) := by decide +kernel
theorem dX12_says_51 : decode cX12_says 51 = .ok (.getfield 82, 3) := by decide +kernel
theorem dX12_says_54 : decode cX12_says 54 = .ok (.aload_n 0, 1) := by decide +kernel
theorem dX12_says_55 : decode cX12_says 55 = .ok (.getfield 144, 3) := by decide +kernel
theorem dX12_says_58 : decode cX12_says 58 = .ok (.isub, 1) := by decide +kernel
theorem dX12_says_59 : decode cX12_says 59 = .ok (.putfield 210, 3) := by decide +kernel
theorem dX12_says_62 : decode cX12_says 62 = .ok (.iconst 0, 1) := by decide +kernel
theorem dX12_says_63 : decode cX12_says 63 = .ok (.istore_n 2, 1) := by decide +kernel
theorem dX12_says_64 : decode cX12_says 64 = .ok (.iload_n 2, 1) := by decide +kernel
theorem dX12_says_65 : decode cX12_says 65 = .ok (.aload_n 0, 1) := by decide +kernel
theorem dX12_says_66 : decode cX12_says 66 = .ok (.getfield 210, 3) := by decide +kernel
theorem dX12_says_69 : decode cX12_says 69 = .ok (.if_icmp .ge 34, 3) := by decide +kernel
theorem dX12_says_72 : decode cX12_says 72 = .ok (.aload_n 0, 1) := by decide +kernel
theorem dX12_says_73 : decode cX12_says 73 = .ok (.getfield 64, 3) := by decide +kernel
theorem dX12_says_76 : decode cX12_says 76 = .ok (.iload_n 2, 1) := by decide +kernel
theorem dX12_says_77 : decode cX12_says 77 = .ok (.aload_n 0, 1) := by decide +kernel
theorem dX12_says_78 : decode cX12_says 78 = .ok (.getfield 46, 3) := by decide +kernel
theorem dX12_says_81 : decode cX12_says 81 = .ok (.bipush 9, 2) := by decide +kernel
theorem dX12_says_83 : decode cX12_says 83 = .ok (.aload_n 0, 1) := by decide +kernel
theorem dX12_says_84 : decode cX12_says 84 = .ok (.getfield 144, 3) := by decide +kernel
theorem dX12_says_87 : decode cX12_says 87 = .ok (.imul, 1) := by decide +kernel
theorem dX12_says_88 : decode cX12_says 88 = .ok (.aload_n 0, 1) := by decide +kernel
theorem dX12_says_89 : decode cX12_says 89 = .ok (.getfield 144, 3) := by decide +kernel
theorem dX12_says_92 : decode cX12_says 92 = .ok (.iadd, 1) := by decide +kernel
theorem dX12_says_93 : decode cX12_says 93 = .ok (.iload_n 2, 1) := by decide +kernel
theorem dX12_says_94 : decode cX12_says 94 = .ok (.iadd, 1) := by decide +kernel
theorem dX12_says_95 : decode cX12_says 95 = .ok (.iaload, 1) := by decide +kernel
theorem dX12_says_96 : decode cX12_says 96 = .ok (.iastore, 1) := by decide +kernel
theorem dX12_says_97 : decode cX12_says 97 = .ok (.iinc 2 1, 3) := by decide +kernel
theorem dX12_says_100 : decode cX12_says 100 = .ok (.goto (-36), 3) := by decide +kernel
theorem dX12_says_103 : decode cX12_says 103 = .ok (.aload_n 0, 1) := by decide +kernel
theorem dX12_says_104 : decode cX12_says 104 = .ok (.aload_n 0, 1) := by decide +kernel
theorem dX12_says_105 : decode cX12_says 105 = .ok (.getfield 52, 3) := by decide +kernel
theorem dX12_says_108 : decode cX12_says 108 = .ok (.aload_n 0, 1) := by decide +kernel
theorem dX12_says_109 : decode cX12_says 109 = .ok (.getfield 144, 3) := by decide +kernel
theorem dX12_says_112 : decode cX12_says 112 = .ok (.iaload, 1) := by decide +kernel
theorem dX12_says_113 : decode cX12_says 113 = .ok (.invokevirtual 219, 3) := by decide +kernel
theorem dX12_says_116 : decode cX12_says 116 = .ok (.istore_n 2, 1) := by decide +kernel
theorem dX12_says_117 : decode cX12_says 117 = .ok (.iconst 0, 1) := by decide +kernel
theorem dX12_says_118 : decode cX12_says 118 = .ok (.istore_n 3, 1) := by decide +kernel
theorem dX12_says_119 : decode cX12_says 119 = .ok (.iload_n 3, 1) := by decide +kernel
theorem dX12_says_120 : decode cX12_says 120 = .ok (.bipush 8, 2) := by decide +kernel
theorem dX12_says_122 : decode cX12_says 122 = .ok (.if_icmp .ge 21, 3) := by decide +kernel
theorem dX12_says_125 : decode cX12_says 125 = .ok (.aload_n 0, 1) := by decide +kernel
theorem dX12_says_126 : decode cX12_says 126 = .ok (.getfield 64, 3) := by decide +kernel
theorem dX12_says_129 : decode cX12_says 129 = .ok (.iload_n 3, 1) := by decide +kernel
theorem dX12_says_130 : decode cX12_says 130 = .ok (.aload_n 0, 1) := by decide +kernel
theorem dX12_says_131 : decode cX12_says 131 = .ok (.getfield 67, 3) := by decide +kernel
theorem dX12_says_134 : decode cX12_says 134 = .ok (.iload_n 3, 1) := by decide +kernel
theorem dX12_says_135 : decode cX12_says 135 = .ok (.iaload, 1) := by decide +kernel
theorem dX12_says_136 : decode cX12_says 136 = .ok (.iastore, 1) := by decide +kernel
theorem dX12_says_137 : decode cX12_says 137 = .ok (.iinc 3 1, 3) := by decide +kernel
theorem dX12_says_140 : decode cX12_says 140 = .ok (.goto (-21), 3) := by decide +kernel
theorem dX12_says_143 : decode cX12_says 143 = .ok (.aload_n 0, 1) := by decide +kernel
theorem dX12_says_144 : decode cX12_says 144 = .ok (.iload_n 1, 1) := by decide +kernel
theorem dX12_says_145 : decode cX12_says 145 = .ok (.putfield 210, 3) := by decide +kernel
theorem dX12_says_148 : decode cX12_says 148 = .ok (.iload_n 2, 1) := by decide +kernel
theorem dX12_says_149 : decode cX12_says 149 = .ok (.ireturn, 1) := by decide +kernel
theorem dX12_got_0 : decode cX12_got 0 = .ok (.aload_n 0, 1) := by decide +kernel
theorem dX12_got_1 : decode cX12_got 1 = .ok (.iload_n 1, 1) := by decide +kernel
theorem dX12_got_2 : decode cX12_got 2 = .ok (.invokevirtual 150, 3) := by decide +kernel
theorem dX12_got_5 : decode cX12_got 5 = .ok (.ifCond .eq 12, 3) := by decide +kernel
theorem dX12_got_8 : decode cX12_got 8 = .ok (.aload_n 0, 1) := by decide +kernel
theorem dX12_got_9 : decode cX12_got 9 = .ok (.getfield 22, 3) := by decide +kernel
theorem dX12_got_12 : decode cX12_got 12 = .ok (.iload_n 1, 1) := by decide +kernel
theorem dX12_got_13 : decode cX12_got 13 = .ok (.iaload, 1) := by decide +kernel
theorem dX12_got_14 : decode cX12_got 14 = .ok (.goto 8, 3) := by decide +kernel
theorem dX12_got_17 : decode cX12_got 17 = .ok (.aload_n 0, 1) := by decide +kernel
theorem dX12_got_18 : decode cX12_got 18 = .ok (.iconst (-1), 1) := by decide +kernel
theorem dX12_got_19 : decode cX12_got 19 = .ok (.invokevirtual 207, 3) := by decide +kernel
theorem dX12_got_22 : decode cX12_got 22 = .ok (.ireturn, 1) := by decide +kernel
theorem dX12_enough_0 : decode cX12_enough 0 = .ok (.iconst 0, 1) := by decide +kernel
theorem dX12_enough_1 : decode cX12_enough 1 = .ok (.istore_n 2, 1) := by decide +kernel
theorem dX12_enough_2 : decode cX12_enough 2 = .ok (.aload_n 0, 1) := by decide +kernel
theorem dX12_enough_3 : decode cX12_enough 3 = .ok (.getfield 25, 3) := by decide +kernel
theorem dX12_enough_6 : decode cX12_enough 6 = .ok (.iconst 1, 1) := by decide +kernel
theorem dX12_enough_7 : decode cX12_enough 7 = .ok (.iaload, 1) := by decide +kernel
theorem dX12_enough_8 : decode cX12_enough 8 = .ok (.iload_n 2, 1) := by decide +kernel
theorem dX12_enough_9 : decode cX12_enough 9 = .ok (.iload_n 1, 1) := by decide +kernel
theorem dX12_enough_10 : decode cX12_enough 10 = .ok (.invokestatic 168, 3) := by decide +kernel
theorem dX12_enough_13 : decode cX12_enough 13 = .ok (.ifCond .ne 9, 3) := by decide +kernel
theorem dX12_enough_16 : decode cX12_enough 16 = .ok (.iinc 2 1, 3) := by decide +kernel
theorem dX12_enough_19 : decode cX12_enough 19 = .ok (.goto (-17), 3) := by decide +kernel
theorem dX12_enough_22 : decode cX12_enough 22 = .ok (.iload_n 2, 1) := by decide +kernel
theorem dX12_enough_23 : decode cX12_enough 23 = .ok (.ireturn, 1) := by decide +kernel
theorem dX12_withPrice_0 : decode cX12_withPrice 0 = .ok (.iconst 0, 1) := by decide +kernel
theorem dX12_withPrice_1 : decode cX12_withPrice 1 = .ok (.istore 4, 2) := by decide +kernel
theorem dX12_withPrice_3 : decode cX12_withPrice 3 = .ok (.iload_n 1, 1) := by decide +kernel
theorem dX12_withPrice_4 : decode cX12_withPrice 4 = .ok (.istore 5, 2) := by decide +kernel
theorem dX12_withPrice_6 : decode cX12_withPrice 6 = .ok (.iload 5, 2) := by decide +kernel
theorem dX12_withPrice_8 : decode cX12_withPrice 8 = .ok (.iload_n 2, 1) := by decide +kernel
theorem dX12_withPrice_9 : decode cX12_withPrice 9 = .ok (.if_icmp .ge 30, 3) := by decide +kernel
theorem dX12_withPrice_12 : decode cX12_withPrice 12 = .ok (.iload 4, 2) := by decide +kernel
theorem dX12_withPrice_14 : decode cX12_withPrice 14 = .ok (.aload_n 0, 1) := by decide +kernel
theorem dX12_withPrice_15 : decode cX12_withPrice 15 = .ok (.getfield 73, 3) := by decide +kernel
theorem dX12_withPrice_18 : decode cX12_withPrice 18 = .ok (.iload 5, 2) := by decide +kernel
theorem dX12_withPrice_20 : decode cX12_withPrice 20 = .ok (.iaload, 1) := by decide +kernel
theorem dX12_withPrice_21 : decode cX12_withPrice 21 = .ok (.iload_n 3, 1) := by decide +kernel
theorem dX12_withPrice_22 : decode cX12_withPrice 22 = .ok (.if_icmp .ne 7, 3) := by decide +kernel
theorem dX12_withPrice_25 : decode cX12_withPrice 25 = .ok (.iconst 1, 1) := by decide +kernel
theorem dX12_withPrice_26 : decode cX12_withPrice 26 = .ok (.goto 4, 3) := by decide +kernel
theorem dX12_withPrice_29 : decode cX12_withPrice 29 = .ok (.iconst 0, 1) := by decide +kernel
theorem dX12_withPrice_30 : decode cX12_withPrice 30 = .ok (.iadd, 1) := by decide +kernel
theorem dX12_withPrice_31 : decode cX12_withPrice 31 = .ok (.istore 4, 2) := by decide +kernel
theorem dX12_withPrice_33 : decode cX12_withPrice 33 = .ok (.iinc 5 1, 3) := by decide +kernel
theorem dX12_withPrice_36 : decode cX12_withPrice 36 = .ok (.goto (-30), 3) := by decide +kernel
theorem dX12_withPrice_39 : decode cX12_withPrice 39 = .ok (.iload 4, 2) := by decide +kernel
theorem dX12_withPrice_41 : decode cX12_withPrice 41 = .ok (.ireturn, 1) := by decide +kernel
theorem dX12_likeSays_0 : decode cX12_likeSays 0 = .ok (.aload_n 0, 1) := by decide +kernel
theorem dX12_likeSays_1 : decode cX12_likeSays 1 = .ok (.iload_n 2, 1) := by decide +kernel
theorem dX12_likeSays_2 : decode cX12_likeSays 2 = .ok (.iload_n 1, 1) := by decide +kernel
theorem dX12_likeSays_3 : decode cX12_likeSays 3 = .ok (.isub, 1) := by decide +kernel
theorem dX12_likeSays_4 : decode cX12_likeSays 4 = .ok (.invokevirtual 222, 3) := by decide +kernel
theorem dX12_likeSays_7 : decode cX12_likeSays 7 = .ok (.iconst 1, 1) := by decide +kernel
theorem dX12_likeSays_8 : decode cX12_likeSays 8 = .ok (.isub, 1) := by decide +kernel
theorem dX12_likeSays_9 : decode cX12_likeSays 9 = .ok (.istore 4, 2) := by decide +kernel
theorem dX12_likeSays_11 : decode cX12_likeSays 11 = .ok (.iload_n 1, 1) := by decide +kernel
theorem dX12_likeSays_12 : decode cX12_likeSays 12 = .ok (.iconst 1, 1) := by decide +kernel
theorem dX12_likeSays_13 : decode cX12_likeSays 13 = .ok (.iadd, 1) := by decide +kernel
theorem dX12_likeSays_14 : decode cX12_likeSays 14 = .ok (.istore 5, 2) := by decide +kernel
theorem dX12_likeSays_16 : decode cX12_likeSays 16 = .ok (.iload 5, 2) := by decide +kernel
theorem dX12_likeSays_18 : decode cX12_likeSays 18 = .ok (.iload_n 2, 1) := by decide +kernel
theorem dX12_likeSays_19 : decode cX12_likeSays 19 = .ok (.if_icmp .ge 48, 3) := by decide +kernel
theorem dX12_likeSays_22 : decode cX12_likeSays 22 = .ok (.aload_n 0, 1) := by decide +kernel
theorem dX12_likeSays_23 : decode cX12_likeSays 23 = .ok (.getfield 73, 3) := by decide +kernel
theorem dX12_likeSays_26 : decode cX12_likeSays 26 = .ok (.iload 5, 2) := by decide +kernel
theorem dX12_likeSays_28 : decode cX12_likeSays 28 = .ok (.aload_n 0, 1) := by decide +kernel
theorem dX12_likeSays_29 : decode cX12_likeSays 29 = .ok (.getfield 25, 3) := by decide +kernel
theorem dX12_likeSays_32 : decode cX12_likeSays 32 = .ok (.iconst 2, 1) := by decide +kernel
theorem dX12_likeSays_33 : decode cX12_likeSays 33 = .ok (.iaload, 1) := by decide +kernel
theorem dX12_likeSays_34 : decode cX12_likeSays 34 = .ok (.iconst 1, 1) := by decide +kernel
theorem dX12_likeSays_35 : decode cX12_likeSays 35 = .ok (.if_icmp .ne 13, 3) := by decide +kernel
theorem dX12_likeSays_38 : decode cX12_likeSays 38 = .ok (.aload_n 0, 1) := by decide +kernel
theorem dX12_likeSays_39 : decode cX12_likeSays 39 = .ok (.getfield 70, 3) := by decide +kernel
theorem dX12_likeSays_42 : decode cX12_likeSays 42 = .ok (.iload 5, 2) := by decide +kernel
theorem dX12_likeSays_44 : decode cX12_likeSays 44 = .ok (.iaload, 1) := by decide +kernel
theorem dX12_likeSays_45 : decode cX12_likeSays 45 = .ok (.goto 12, 3) := by decide +kernel
theorem dX12_likeSays_48 : decode cX12_likeSays 48 = .ok (.aload_n 0, 1) := by decide +kernel
theorem dX12_likeSays_49 : decode cX12_likeSays 49 = .ok (.getfield 70, 3) := by decide +kernel
theorem dX12_likeSays_52 : decode cX12_likeSays 52 = .ok (.iload 5, 2) := by decide +kernel
theorem dX12_likeSays_54 : decode cX12_likeSays 54 = .ok (.iaload, 1) := by decide +kernel
theorem dX12_likeSays_55 : decode cX12_likeSays 55 = .ok (.iconst 1, 1) := by decide +kernel
theorem dX12_likeSays_56 : decode cX12_likeSays 56 = .ok (.iadd, 1) := by decide +kernel
theorem dX12_likeSays_57 : decode cX12_likeSays 57 = .ok (.invokestatic 156, 3) := by decide +kernel
theorem dX12_likeSays_60 : decode cX12_likeSays 60 = .ok (.iastore, 1) := by decide +kernel
theorem dX12_likeSays_61 : decode cX12_likeSays 61 = .ok (.iinc 5 1, 3) := by decide +kernel
theorem dX12_likeSays_64 : decode cX12_likeSays 64 = .ok (.goto (-48), 3) := by decide +kernel
theorem dX12_likeSays_67 : decode cX12_likeSays 67 = .ok (.iload 4, 2) := by decide +kernel
theorem dX12_likeSays_69 : decode cX12_likeSays 69 = .ok (.aload_n 0, 1) := by decide +kernel
theorem dX12_likeSays_70 : decode cX12_likeSays 70 = .ok (.iload_n 1, 1) := by decide +kernel
theorem dX12_likeSays_71 : decode cX12_likeSays 71 = .ok (.iconst 1, 1) := by decide +kernel
theorem dX12_likeSays_72 : decode cX12_likeSays 72 = .ok (.iadd, 1) := by decide +kernel
theorem dX12_likeSays_73 : decode cX12_likeSays 73 = .ok (.iload_n 2, 1) := by decide +kernel
theorem dX12_likeSays_74 : decode cX12_likeSays 74 = .ok (.iconst 0, 1) := by decide +kernel
theorem dX12_likeSays_75 : decode cX12_likeSays 75 = .ok (.invokevirtual 225, 3) := by decide +kernel
theorem dX12_likeSays_78 : decode cX12_likeSays 78 = .ok (.isub, 1) := by decide +kernel
theorem dX12_likeSays_79 : decode cX12_likeSays 79 = .ok (.istore 4, 2) := by decide +kernel
theorem dX12_likeSays_81 : decode cX12_likeSays 81 = .ok (.iconst 0, 1) := by decide +kernel
theorem dX12_likeSays_82 : decode cX12_likeSays 82 = .ok (.istore 5, 2) := by decide +kernel
theorem dX12_likeSays_84 : decode cX12_likeSays 84 = .ok (.iconst 0, 1) := by decide +kernel
theorem dX12_likeSays_85 : decode cX12_likeSays 85 = .ok (.istore 6, 2) := by decide +kernel
theorem dX12_likeSays_87 : decode cX12_likeSays 87 = .ok (.iload 4, 2) := by decide +kernel
theorem dX12_likeSays_89 : decode cX12_likeSays 89 = .ok (.invokestatic 156, 3) := by decide +kernel
theorem dX12_likeSays_92 : decode cX12_likeSays 92 = .ok (.istore 7, 2) := by decide +kernel
theorem dX12_likeSays_94 : decode cX12_likeSays 94 = .ok (.iload 7, 2) := by decide +kernel
theorem dX12_likeSays_96 : decode cX12_likeSays 96 = .ok (.ifCond .le 69, 3) := by decide +kernel
theorem dX12_likeSays_99 : decode cX12_likeSays 99 = .ok (.iload 5, 2) := by decide +kernel
theorem dX12_likeSays_101 : decode cX12_likeSays 101 = .ok (.iload_n 3, 1) := by decide +kernel
theorem dX12_likeSays_102 : decode cX12_likeSays 102 = .ok (.if_icmp .gt 63, 3) := by decide +kernel
theorem dX12_likeSays_105 : decode cX12_likeSays 105 = .ok (.iinc 6 1, 3) := by decide +kernel
theorem dX12_likeSays_108 : decode cX12_likeSays 108 = .ok (.aload_n 0, 1) := by decide +kernel
theorem dX12_likeSays_109 : decode cX12_likeSays 109 = .ok (.iload_n 1, 1) := by decide +kernel
theorem dX12_likeSays_110 : decode cX12_likeSays 110 = .ok (.iconst 1, 1) := by decide +kernel
theorem dX12_likeSays_111 : decode cX12_likeSays 111 = .ok (.iadd, 1) := by decide +kernel
theorem dX12_likeSays_112 : decode cX12_likeSays 112 = .ok (.iload_n 2, 1) := by decide +kernel
theorem dX12_likeSays_113 : decode cX12_likeSays 113 = .ok (.iload 6, 2) := by decide +kernel
theorem dX12_likeSays_115 : decode cX12_likeSays 115 = .ok (.invokevirtual 225, 3) := by decide +kernel
theorem dX12_likeSays_118 : decode cX12_likeSays 118 = .ok (.istore 8, 2) := by decide +kernel
theorem dX12_likeSays_120 : decode cX12_likeSays 120 = .ok (.iload 8, 2) := by decide +kernel
theorem dX12_likeSays_122 : decode cX12_likeSays 122 = .ok (.iload 7, 2) := by decide +kernel
theorem dX12_likeSays_124 : decode cX12_likeSays 124 = .ok (.if_icmp .ge 8, 3) := by decide +kernel
theorem dX12_likeSays_127 : decode cX12_likeSays 127 = .ok (.iload 8, 2) := by decide +kernel
theorem dX12_likeSays_129 : decode cX12_likeSays 129 = .ok (.goto 5, 3) := by decide +kernel
theorem dX12_likeSays_132 : decode cX12_likeSays 132 = .ok (.iload 7, 2) := by decide +kernel
theorem dX12_likeSays_134 : decode cX12_likeSays 134 = .ok (.istore 9, 2) := by decide +kernel
theorem dX12_likeSays_136 : decode cX12_likeSays 136 = .ok (.iload 5, 2) := by decide +kernel
theorem dX12_likeSays_138 : decode cX12_likeSays 138 = .ok (.iload 6, 2) := by decide +kernel
theorem dX12_likeSays_140 : decode cX12_likeSays 140 = .ok (.iload 9, 2) := by decide +kernel
theorem dX12_likeSays_142 : decode cX12_likeSays 142 = .ok (.imul, 1) := by decide +kernel
theorem dX12_likeSays_143 : decode cX12_likeSays 143 = .ok (.iadd, 1) := by decide +kernel
theorem dX12_likeSays_144 : decode cX12_likeSays 144 = .ok (.istore 5, 2) := by decide +kernel
theorem dX12_likeSays_146 : decode cX12_likeSays 146 = .ok (.iload 7, 2) := by decide +kernel
theorem dX12_likeSays_148 : decode cX12_likeSays 148 = .ok (.iload 9, 2) := by decide +kernel
theorem dX12_likeSays_150 : decode cX12_likeSays 150 = .ok (.isub, 1) := by decide +kernel
theorem dX12_likeSays_151 : decode cX12_likeSays 151 = .ok (.istore 7, 2) := by decide +kernel
theorem dX12_likeSays_153 : decode cX12_likeSays 153 = .ok (.iload 6, 2) := by decide +kernel
theorem dX12_likeSays_155 : decode cX12_likeSays 155 = .ok (.bipush 100, 2) := by decide +kernel
theorem dX12_likeSays_157 : decode cX12_likeSays 157 = .ok (.if_icmp .le 5, 3) := by decide +kernel
theorem dX12_likeSays_160 : decode cX12_likeSays 160 = .ok (.iconst 0, 1) := by decide +kernel
theorem dX12_likeSays_161 : decode cX12_likeSays 161 = .ok (.ireturn, 1) := by decide +kernel
theorem dX12_likeSays_162 : decode cX12_likeSays 162 = .ok (.goto (-68), 3) := by decide +kernel
theorem dX12_likeSays_165 : decode cX12_likeSays 165 = .ok (.iload 5, 2) := by decide +kernel
theorem dX12_likeSays_167 : decode cX12_likeSays 167 = .ok (.iload_n 3, 1) := by decide +kernel
theorem dX12_likeSays_168 : decode cX12_likeSays 168 = .ok (.if_icmp .le 5, 3) := by decide +kernel
theorem dX12_likeSays_171 : decode cX12_likeSays 171 = .ok (.iconst 0, 1) := by decide +kernel
theorem dX12_likeSays_172 : decode cX12_likeSays 172 = .ok (.ireturn, 1) := by decide +kernel
theorem dX12_likeSays_173 : decode cX12_likeSays 173 = .ok (.aload_n 0, 1) := by decide +kernel
theorem dX12_likeSays_174 : decode cX12_likeSays 174 = .ok (.iload_n 1, 1) := by decide +kernel
theorem dX12_likeSays_175 : decode cX12_likeSays 175 = .ok (.iload_n 2, 1) := by decide +kernel
theorem dX12_likeSays_176 : decode cX12_likeSays 176 = .ok (.iload 6, 2) := by decide +kernel
theorem dX12_likeSays_178 : decode cX12_likeSays 178 = .ok (.iload 4, 2) := by decide +kernel
theorem dX12_likeSays_180 : decode cX12_likeSays 180 = .ok (.invokestatic 156, 3) := by decide +kernel
theorem dX12_likeSays_183 : decode cX12_likeSays 183 = .ok (.invokevirtual 228, 3) := by decide +kernel
theorem dX12_likeSays_186 : decode cX12_likeSays 186 = .ok (.aload_n 0, 1) := by decide +kernel
theorem dX12_likeSays_187 : decode cX12_likeSays 187 = .ok (.getfield 70, 3) := by decide +kernel
theorem dX12_likeSays_190 : decode cX12_likeSays 190 = .ok (.iload_n 1, 1) := by decide +kernel
theorem dX12_likeSays_191 : decode cX12_likeSays 191 = .ok (.iload_n 3, 1) := by decide +kernel
theorem dX12_likeSays_192 : decode cX12_likeSays 192 = .ok (.iload 5, 2) := by decide +kernel
theorem dX12_likeSays_194 : decode cX12_likeSays 194 = .ok (.isub, 1) := by decide +kernel
theorem dX12_likeSays_195 : decode cX12_likeSays 195 = .ok (.iastore, 1) := by decide +kernel
theorem dX12_likeSays_196 : decode cX12_likeSays 196 = .ok (.iconst 1, 1) := by decide +kernel
theorem dX12_likeSays_197 : decode cX12_likeSays 197 = .ok (.ireturn, 1) := by decide +kernel
theorem dX12_likeTakes_0 : decode cX12_likeTakes 0 = .ok (.iload 4, 2) := by decide +kernel
theorem dX12_likeTakes_2 : decode cX12_likeTakes 2 = .ok (.istore 5, 2) := by decide +kernel
theorem dX12_likeTakes_4 : decode cX12_likeTakes 4 = .ok (.iconst 1, 1) := by decide +kernel
theorem dX12_likeTakes_5 : decode cX12_likeTakes 5 = .ok (.istore 6, 2) := by decide +kernel
theorem dX12_likeTakes_7 : decode cX12_likeTakes 7 = .ok (.iload 6, 2) := by decide +kernel
theorem dX12_likeTakes_9 : decode cX12_likeTakes 9 = .ok (.iload_n 3, 1) := by decide +kernel
theorem dX12_likeTakes_10 : decode cX12_likeTakes 10 = .ok (.if_icmp .ge 24, 3) := by decide +kernel
theorem dX12_likeTakes_13 : decode cX12_likeTakes 13 = .ok (.iload 5, 2) := by decide +kernel
theorem dX12_likeTakes_15 : decode cX12_likeTakes 15 = .ok (.aload_n 0, 1) := by decide +kernel
theorem dX12_likeTakes_16 : decode cX12_likeTakes 16 = .ok (.iload_n 1, 1) := by decide +kernel
theorem dX12_likeTakes_17 : decode cX12_likeTakes 17 = .ok (.iconst 1, 1) := by decide +kernel
theorem dX12_likeTakes_18 : decode cX12_likeTakes 18 = .ok (.iadd, 1) := by decide +kernel
theorem dX12_likeTakes_19 : decode cX12_likeTakes 19 = .ok (.iload_n 2, 1) := by decide +kernel
theorem dX12_likeTakes_20 : decode cX12_likeTakes 20 = .ok (.iload 6, 2) := by decide +kernel
theorem dX12_likeTakes_22 : decode cX12_likeTakes 22 = .ok (.invokevirtual 225, 3) := by decide +kernel
theorem dX12_likeTakes_25 : decode cX12_likeTakes 25 = .ok (.isub, 1) := by decide +kernel
theorem dX12_likeTakes_26 : decode cX12_likeTakes 26 = .ok (.istore 5, 2) := by decide +kernel
theorem dX12_likeTakes_28 : decode cX12_likeTakes 28 = .ok (.iinc 6 1, 3) := by decide +kernel
theorem dX12_likeTakes_31 : decode cX12_likeTakes 31 = .ok (.goto (-24), 3) := by decide +kernel
theorem dX12_likeTakes_34 : decode cX12_likeTakes 34 = .ok (.iload_n 1, 1) := by decide +kernel
theorem dX12_likeTakes_35 : decode cX12_likeTakes 35 = .ok (.iconst 1, 1) := by decide +kernel
theorem dX12_likeTakes_36 : decode cX12_likeTakes 36 = .ok (.iadd, 1) := by decide +kernel
theorem dX12_likeTakes_37 : decode cX12_likeTakes 37 = .ok (.istore 6, 2) := by decide +kernel
theorem dX12_likeTakes_39 : decode cX12_likeTakes 39 = .ok (.iload 6, 2) := by decide +kernel
theorem dX12_likeTakes_41 : decode cX12_likeTakes 41 = .ok (.iload_n 2, 1) := by decide +kernel
theorem dX12_likeTakes_42 : decode cX12_likeTakes 42 = .ok (.if_icmp .ge 108, 3) := by decide +kernel
theorem dX12_likeTakes_45 : decode cX12_likeTakes 45 = .ok (.aload_n 0, 1) := by decide +kernel
theorem dX12_likeTakes_46 : decode cX12_likeTakes 46 = .ok (.getfield 25, 3) := by decide +kernel
theorem dX12_likeTakes_49 : decode cX12_likeTakes 49 = .ok (.iconst 3, 1) := by decide +kernel
theorem dX12_likeTakes_50 : decode cX12_likeTakes 50 = .ok (.iaload, 1) := by decide +kernel
theorem dX12_likeTakes_51 : decode cX12_likeTakes 51 = .ok (.ifCond .ne 8, 3) := by decide +kernel
theorem dX12_likeTakes_54 : decode cX12_likeTakes 54 = .ok (.iload 6, 2) := by decide +kernel
theorem dX12_likeTakes_56 : decode cX12_likeTakes 56 = .ok (.goto 9, 3) := by decide +kernel
theorem dX12_likeTakes_59 : decode cX12_likeTakes 59 = .ok (.iload_n 2, 1) := by decide +kernel
theorem dX12_likeTakes_60 : decode cX12_likeTakes 60 = .ok (.iload_n 1, 1) := by decide +kernel
theorem dX12_likeTakes_61 : decode cX12_likeTakes 61 = .ok (.iadd, 1) := by decide +kernel
theorem dX12_likeTakes_62 : decode cX12_likeTakes 62 = .ok (.iload 6, 2) := by decide +kernel
theorem dX12_likeTakes_64 : decode cX12_likeTakes 64 = .ok (.isub, 1) := by decide +kernel
theorem dX12_likeTakes_65 : decode cX12_likeTakes 65 = .ok (.istore 7, 2) := by decide +kernel
theorem dX12_likeTakes_67 : decode cX12_likeTakes 67 = .ok (.aload_n 0, 1) := by decide +kernel
theorem dX12_likeTakes_68 : decode cX12_likeTakes 68 = .ok (.getfield 73, 3) := by decide +kernel
theorem dX12_likeTakes_71 : decode cX12_likeTakes 71 = .ok (.iload 7, 2) := by decide +kernel
theorem dX12_likeTakes_73 : decode cX12_likeTakes 73 = .ok (.iaload, 1) := by decide +kernel
theorem dX12_likeTakes_74 : decode cX12_likeTakes 74 = .ok (.ifCond .le 18, 3) := by decide +kernel
theorem dX12_likeTakes_77 : decode cX12_likeTakes 77 = .ok (.aload_n 0, 1) := by decide +kernel
theorem dX12_likeTakes_78 : decode cX12_likeTakes 78 = .ok (.getfield 73, 3) := by decide +kernel
theorem dX12_likeTakes_81 : decode cX12_likeTakes 81 = .ok (.iload 7, 2) := by decide +kernel
theorem dX12_likeTakes_83 : decode cX12_likeTakes 83 = .ok (.iaload, 1) := by decide +kernel
theorem dX12_likeTakes_84 : decode cX12_likeTakes 84 = .ok (.iload_n 3, 1) := by decide +kernel
theorem dX12_likeTakes_85 : decode cX12_likeTakes 85 = .ok (.if_icmp .ge 7, 3) := by decide +kernel
theorem dX12_likeTakes_88 : decode cX12_likeTakes 88 = .ok (.iconst 1, 1) := by decide +kernel
theorem dX12_likeTakes_89 : decode cX12_likeTakes 89 = .ok (.goto 4, 3) := by decide +kernel
theorem dX12_likeTakes_92 : decode cX12_likeTakes 92 = .ok (.iconst 0, 1) := by decide +kernel
theorem dX12_likeTakes_93 : decode cX12_likeTakes 93 = .ok (.istore 8, 2) := by decide +kernel
theorem dX12_likeTakes_95 : decode cX12_likeTakes 95 = .ok (.aload_n 0, 1) := by decide +kernel
theorem dX12_likeTakes_96 : decode cX12_likeTakes 96 = .ok (.getfield 73, 3) := by decide +kernel
theorem dX12_likeTakes_99 : decode cX12_likeTakes 99 = .ok (.iload 7, 2) := by decide +kernel
theorem dX12_likeTakes_101 : decode cX12_likeTakes 101 = .ok (.iaload, 1) := by decide +kernel
theorem dX12_likeTakes_102 : decode cX12_likeTakes 102 = .ok (.iload_n 3, 1) := by decide +kernel
theorem dX12_likeTakes_103 : decode cX12_likeTakes 103 = .ok (.if_icmp .ne 18, 3) := by decide +kernel
theorem dX12_likeTakes_106 : decode cX12_likeTakes 106 = .ok (.iload_n 3, 1) := by decide +kernel
theorem dX12_likeTakes_107 : decode cX12_likeTakes 107 = .ok (.ifCond .le 14, 3) := by decide +kernel
theorem dX12_likeTakes_110 : decode cX12_likeTakes 110 = .ok (.iload 5, 2) := by decide +kernel
theorem dX12_likeTakes_112 : decode cX12_likeTakes 112 = .ok (.ifCond .le 9, 3) := by decide +kernel
theorem dX12_likeTakes_115 : decode cX12_likeTakes 115 = .ok (.iconst 1, 1) := by decide +kernel
theorem dX12_likeTakes_116 : decode cX12_likeTakes 116 = .ok (.istore 8, 2) := by decide +kernel
theorem dX12_likeTakes_118 : decode cX12_likeTakes 118 = .ok (.iinc 5 (-1), 3) := by decide +kernel
theorem dX12_likeTakes_121 : decode cX12_likeTakes 121 = .ok (.aload_n 0, 1) := by decide +kernel
theorem dX12_likeTakes_122 : decode cX12_likeTakes 122 = .ok (.getfield 70, 3) := by decide +kernel
theorem dX12_likeTakes_125 : decode cX12_likeTakes 125 = .ok (.iload 7, 2) := by decide +kernel
theorem dX12_likeTakes_127 : decode cX12_likeTakes 127 = .ok (.iload 8, 2) := by decide +kernel
theorem dX12_likeTakes_129 : decode cX12_likeTakes 129 = .ok (.ifCond .eq 13, 3) := by decide +kernel
theorem dX12_likeTakes_132 : decode cX12_likeTakes 132 = .ok (.aload_n 0, 1) := by decide +kernel
theorem dX12_likeTakes_133 : decode cX12_likeTakes 133 = .ok (.getfield 73, 3) := by decide +kernel
theorem dX12_likeTakes_136 : decode cX12_likeTakes 136 = .ok (.iload 7, 2) := by decide +kernel
theorem dX12_likeTakes_138 : decode cX12_likeTakes 138 = .ok (.iaload, 1) := by decide +kernel
theorem dX12_likeTakes_139 : decode cX12_likeTakes 139 = .ok (.goto 4, 3) := by decide +kernel
theorem dX12_likeTakes_142 : decode cX12_likeTakes 142 = .ok (.iconst 0, 1) := by decide +kernel
theorem dX12_likeTakes_143 : decode cX12_likeTakes 143 = .ok (.iastore, 1) := by decide +kernel
theorem dX12_likeTakes_144 : decode cX12_likeTakes 144 = .ok (.iinc 6 1, 3) := by decide +kernel
theorem dX12_likeTakes_147 : decode cX12_likeTakes 147 = .ok (.goto (-108), 3) := by decide +kernel
theorem dX12_likeTakes_150 : decode cX12_likeTakes 150 = .ok (.return_, 1) := by decide +kernel
theorem dX12_alike_0 : decode cX12_alike 0 = .ok (.iload_n 1, 1) := by decide +kernel
theorem dX12_alike_1 : decode cX12_alike 1 = .ok (.iconst 1, 1) := by decide +kernel
theorem dX12_alike_2 : decode cX12_alike 2 = .ok (.if_icmp .lt 11, 3) := by decide +kernel
theorem dX12_alike_5 : decode cX12_alike 5 = .ok (.iload_n 2, 1) := by decide +kernel
theorem dX12_alike_6 : decode cX12_alike 6 = .ok (.ifCond .lt 7, 3) := by decide +kernel
theorem dX12_alike_9 : decode cX12_alike 9 = .ok (.iload_n 3, 1) := by decide +kernel
theorem dX12_alike_10 : decode cX12_alike 10 = .ok (.ifCond .ge 8, 3) := by decide +kernel
theorem dX12_alike_13 : decode cX12_alike 13 = .ok (.bipush (-4), 2) := by decide +kernel
theorem dX12_alike_15 : decode cX12_alike 15 = .ok (.goto 26, 3) := by decide +kernel
theorem dX12_alike_18 : decode cX12_alike 18 = .ok (.iload_n 1, 1) := by decide +kernel
theorem dX12_alike_19 : decode cX12_alike 19 = .ok (.bipush 60, 2) := by decide +kernel
theorem dX12_alike_21 : decode cX12_alike 21 = .ok (.if_icmp .gt 14, 3) := by decide +kernel
theorem dX12_alike_24 : decode cX12_alike 24 = .ok (.iload_n 2, 1) := by decide +kernel
theorem dX12_alike_25 : decode cX12_alike 25 = .ok (.bipush 99, 2) := by decide +kernel
theorem dX12_alike_27 : decode cX12_alike 27 = .ok (.if_icmp .gt 8, 3) := by decide +kernel
theorem dX12_alike_30 : decode cX12_alike 30 = .ok (.iload_n 3, 1) := by decide +kernel
theorem dX12_alike_31 : decode cX12_alike 31 = .ok (.iload_n 1, 1) := by decide +kernel
theorem dX12_alike_32 : decode cX12_alike 32 = .ok (.if_icmp .lt 8, 3) := by decide +kernel
theorem dX12_alike_35 : decode cX12_alike 35 = .ok (.bipush (-6), 2) := by decide +kernel
theorem dX12_alike_37 : decode cX12_alike 37 = .ok (.goto 4, 3) := by decide +kernel
theorem dX12_alike_40 : decode cX12_alike 40 = .ok (.iconst 0, 1) := by decide +kernel
theorem dX12_alike_41 : decode cX12_alike 41 = .ok (.istore 5, 2) := by decide +kernel
theorem dX12_alike_43 : decode cX12_alike 43 = .ok (.iload 5, 2) := by decide +kernel
theorem dX12_alike_45 : decode cX12_alike 45 = .ok (.ifCond .eq 10, 3) := by decide +kernel
theorem dX12_alike_48 : decode cX12_alike 48 = .ok (.aload_n 0, 1) := by decide +kernel
theorem dX12_alike_49 : decode cX12_alike 49 = .ok (.iload 5, 2) := by decide +kernel
theorem dX12_alike_51 : decode cX12_alike 51 = .ok (.invokevirtual 207, 3) := by decide +kernel
theorem dX12_alike_54 : decode cX12_alike 54 = .ok (.ireturn, 1) := by decide +kernel
theorem dX12_alike_55 : decode cX12_alike 55 = .ok (.iconst 0, 1) := by decide +kernel
theorem dX12_alike_56 : decode cX12_alike 56 = .ok (.istore 6, 2) := by decide +kernel
theorem dX12_alike_58 : decode cX12_alike 58 = .ok (.iload_n 1, 1) := by decide +kernel
theorem dX12_alike_59 : decode cX12_alike 59 = .ok (.iconst 1, 1) := by decide +kernel
theorem dX12_alike_60 : decode cX12_alike 60 = .ok (.isub, 1) := by decide +kernel
theorem dX12_alike_61 : decode cX12_alike 61 = .ok (.istore 7, 2) := by decide +kernel
theorem dX12_alike_63 : decode cX12_alike 63 = .ok (.iload 7, 2) := by decide +kernel
theorem dX12_alike_65 : decode cX12_alike 65 = .ok (.ifCond .lt 32, 3) := by decide +kernel
theorem dX12_alike_68 : decode cX12_alike 68 = .ok (.aload_n 0, 1) := by decide +kernel
theorem dX12_alike_69 : decode cX12_alike 69 = .ok (.iload 7, 2) := by decide +kernel
theorem dX12_alike_71 : decode cX12_alike 71 = .ok (.iload_n 1, 1) := by decide +kernel
theorem dX12_alike_72 : decode cX12_alike 72 = .ok (.iload_n 2, 1) := by decide +kernel
theorem dX12_alike_73 : decode cX12_alike 73 = .ok (.invokevirtual 232, 3) := by decide +kernel
theorem dX12_alike_76 : decode cX12_alike 76 = .ok (.istore 6, 2) := by decide +kernel
theorem dX12_alike_78 : decode cX12_alike 78 = .ok (.iload 6, 2) := by decide +kernel
theorem dX12_alike_80 : decode cX12_alike 80 = .ok (.ifCond .ne 11, 3) := by decide +kernel
theorem dX12_alike_83 : decode cX12_alike 83 = .ok (.aload_n 0, 1) := by decide +kernel
theorem dX12_alike_84 : decode cX12_alike 84 = .ok (.getfield 70, 3) := by decide +kernel
theorem dX12_alike_87 : decode cX12_alike 87 = .ok (.iload 7, 2) := by decide +kernel
theorem dX12_alike_89 : decode cX12_alike 89 = .ok (.iconst (-1), 1) := by decide +kernel
theorem dX12_alike_90 : decode cX12_alike 90 = .ok (.iastore, 1) := by decide +kernel
theorem dX12_alike_91 : decode cX12_alike 91 = .ok (.iinc 7 (-1), 3) := by decide +kernel
theorem dX12_alike_94 : decode cX12_alike 94 = .ok (.goto (-31), 3) := by decide +kernel
theorem dX12_alike_97 : decode cX12_alike 97 = .ok (.iload 4, 2) := by decide +kernel
theorem dX12_alike_99 : decode cX12_alike 99 = .ok (.ifCond .eq 16, 3) := by decide +kernel
theorem dX12_alike_102 : decode cX12_alike 102 = .ok (.iload 6, 2) := by decide +kernel
theorem dX12_alike_104 : decode cX12_alike 104 = .ok (.ifCond .eq 7, 3) := by decide +kernel
theorem dX12_alike_107 : decode cX12_alike 107 = .ok (.iconst 1, 1) := by decide +kernel
theorem dX12_alike_108 : decode cX12_alike 108 = .ok (.goto 13, 3) := by decide +kernel
theorem dX12_alike_111 : decode cX12_alike 111 = .ok (.iconst 0, 1) := by decide +kernel
theorem dX12_alike_112 : decode cX12_alike 112 = .ok (.goto 9, 3) := by decide +kernel
theorem dX12_alike_115 : decode cX12_alike 115 = .ok (.aload_n 0, 1) := by decide +kernel
theorem dX12_alike_116 : decode cX12_alike 116 = .ok (.getfield 70, 3) := by decide +kernel
theorem dX12_alike_119 : decode cX12_alike 119 = .ok (.iload_n 3, 1) := by decide +kernel
theorem dX12_alike_120 : decode cX12_alike 120 = .ok (.iaload, 1) := by decide +kernel
theorem dX12_alike_121 : decode cX12_alike 121 = .ok (.ireturn, 1) := by decide +kernel
theorem dX12_fewest_0 : decode cX12_fewest 0 = .ok (.aload_n 0, 1) := by decide +kernel
theorem dX12_fewest_1 : decode cX12_fewest 1 = .ok (.invokevirtual 213, 3) := by decide +kernel
theorem dX12_fewest_4 : decode cX12_fewest 4 = .ok (.ifCond .eq 10, 3) := by decide +kernel
theorem dX12_fewest_7 : decode cX12_fewest 7 = .ok (.aload_n 0, 1) := by decide +kernel
theorem dX12_fewest_8 : decode cX12_fewest 8 = .ok (.bipush (-3), 2) := by decide +kernel
theorem dX12_fewest_10 : decode cX12_fewest 10 = .ok (.invokevirtual 93, 3) := by decide +kernel
theorem dX12_fewest_13 : decode cX12_fewest 13 = .ok (.ireturn, 1) := by decide +kernel
theorem dX12_fewest_14 : decode cX12_fewest 14 = .ok (.aload_n 0, 1) := by decide +kernel
theorem dX12_fewest_15 : decode cX12_fewest 15 = .ok (.getfield 25, 3) := by decide +kernel
theorem dX12_fewest_18 : decode cX12_fewest 18 = .ok (.iconst 0, 1) := by decide +kernel
theorem dX12_fewest_19 : decode cX12_fewest 19 = .ok (.iaload, 1) := by decide +kernel
theorem dX12_fewest_20 : decode cX12_fewest 20 = .ok (.istore_n 1, 1) := by decide +kernel
theorem dX12_fewest_21 : decode cX12_fewest 21 = .ok (.bipush (-9), 2) := by decide +kernel
theorem dX12_fewest_23 : decode cX12_fewest 23 = .ok (.istore_n 2, 1) := by decide +kernel
theorem dX12_fewest_24 : decode cX12_fewest 24 = .ok (.iconst 0, 1) := by decide +kernel
theorem dX12_fewest_25 : decode cX12_fewest 25 = .ok (.istore_n 3, 1) := by decide +kernel
theorem dX12_fewest_26 : decode cX12_fewest 26 = .ok (.iload_n 3, 1) := by decide +kernel
theorem dX12_fewest_27 : decode cX12_fewest 27 = .ok (.bipush 99, 2) := by decide +kernel
theorem dX12_fewest_29 : decode cX12_fewest 29 = .ok (.if_icmp .gt 39, 3) := by decide +kernel
theorem dX12_fewest_32 : decode cX12_fewest 32 = .ok (.iload_n 2, 1) := by decide +kernel
theorem dX12_fewest_33 : decode cX12_fewest 33 = .ok (.ifCond .ge 35, 3) := by decide +kernel
theorem dX12_fewest_36 : decode cX12_fewest 36 = .ok (.aload_n 0, 1) := by decide +kernel
theorem dX12_fewest_37 : decode cX12_fewest 37 = .ok (.getfield 25, 3) := by decide +kernel
theorem dX12_fewest_40 : decode cX12_fewest 40 = .ok (.iconst 0, 1) := by decide +kernel
theorem dX12_fewest_41 : decode cX12_fewest 41 = .ok (.iload_n 3, 1) := by decide +kernel
theorem dX12_fewest_42 : decode cX12_fewest 42 = .ok (.iastore, 1) := by decide +kernel
theorem dX12_fewest_43 : decode cX12_fewest 43 = .ok (.aload_n 0, 1) := by decide +kernel
theorem dX12_fewest_44 : decode cX12_fewest 44 = .ok (.invokevirtual 204, 3) := by decide +kernel
theorem dX12_fewest_47 : decode cX12_fewest 47 = .ok (.aload_n 0, 1) := by decide +kernel
theorem dX12_fewest_48 : decode cX12_fewest 48 = .ok (.getfield 61, 3) := by decide +kernel
theorem dX12_fewest_51 : decode cX12_fewest 51 = .ok (.aload_n 0, 1) := by decide +kernel
theorem dX12_fewest_52 : decode cX12_fewest 52 = .ok (.getfield 144, 3) := by decide +kernel
theorem dX12_fewest_55 : decode cX12_fewest 55 = .ok (.iaload, 1) := by decide +kernel
theorem dX12_fewest_56 : decode cX12_fewest 56 = .ok (.iconst 1, 1) := by decide +kernel
theorem dX12_fewest_57 : decode cX12_fewest 57 = .ok (.if_icmp .ne 5, 3) := by decide +kernel
theorem dX12_fewest_60 : decode cX12_fewest 60 = .ok (.iload_n 3, 1) := by decide +kernel
theorem dX12_fewest_61 : decode cX12_fewest 61 = .ok (.istore_n 2, 1) := by decide +kernel
theorem dX12_fewest_62 : decode cX12_fewest 62 = .ok (.iinc 3 1, 3) := by decide +kernel
theorem dX12_fewest_65 : decode cX12_fewest 65 = .ok (.goto (-39), 3) := by decide +kernel
theorem dX12_fewest_68 : decode cX12_fewest 68 = .ok (.aload_n 0, 1) := by decide +kernel
theorem dX12_fewest_69 : decode cX12_fewest 69 = .ok (.getfield 25, 3) := by decide +kernel
theorem dX12_fewest_72 : decode cX12_fewest 72 = .ok (.iconst 0, 1) := by decide +kernel
theorem dX12_fewest_73 : decode cX12_fewest 73 = .ok (.iload_n 1, 1) := by decide +kernel
theorem dX12_fewest_74 : decode cX12_fewest 74 = .ok (.iastore, 1) := by decide +kernel
theorem dX12_fewest_75 : decode cX12_fewest 75 = .ok (.iload_n 2, 1) := by decide +kernel
theorem dX12_fewest_76 : decode cX12_fewest 76 = .ok (.ireturn, 1) := by decide +kernel
theorem dX12_byLaw_0 : decode cX12_byLaw 0 = .ok (.iload_n 1, 1) := by decide +kernel
theorem dX12_byLaw_1 : decode cX12_byLaw 1 = .ok (.iconst 0, 1) := by decide +kernel
theorem dX12_byLaw_2 : decode cX12_byLaw 2 = .ok (.iconst 2, 1) := by decide +kernel
theorem dX12_byLaw_3 : decode cX12_byLaw 3 = .ok (.invokestatic 104, 3) := by decide +kernel
theorem dX12_byLaw_6 : decode cX12_byLaw 6 = .ok (.ifCond .eq 12, 3) := by decide +kernel
theorem dX12_byLaw_9 : decode cX12_byLaw 9 = .ok (.iload_n 2, 1) := by decide +kernel
theorem dX12_byLaw_10 : decode cX12_byLaw 10 = .ok (.iconst 0, 1) := by decide +kernel
theorem dX12_byLaw_11 : decode cX12_byLaw 11 = .ok (.iconst 1, 1) := by decide +kernel
theorem dX12_byLaw_12 : decode cX12_byLaw 12 = .ok (.invokestatic 104, 3) := by decide +kernel
theorem dX12_byLaw_15 : decode cX12_byLaw 15 = .ok (.ifCond .ne 10, 3) := by decide +kernel
theorem dX12_byLaw_18 : decode cX12_byLaw 18 = .ok (.aload_n 0, 1) := by decide +kernel
theorem dX12_byLaw_19 : decode cX12_byLaw 19 = .ok (.bipush (-2), 2) := by decide +kernel
theorem dX12_byLaw_21 : decode cX12_byLaw 21 = .ok (.invokevirtual 207, 3) := by decide +kernel
theorem dX12_byLaw_24 : decode cX12_byLaw 24 = .ok (.ireturn, 1) := by decide +kernel
theorem dX12_byLaw_25 : decode cX12_byLaw 25 = .ok (.aload_n 0, 1) := by decide +kernel
theorem dX12_byLaw_26 : decode cX12_byLaw 26 = .ok (.iload_n 3, 1) := by decide +kernel
theorem dX12_byLaw_27 : decode cX12_byLaw 27 = .ok (.invokevirtual 150, 3) := by decide +kernel
theorem dX12_byLaw_30 : decode cX12_byLaw 30 = .ok (.ifCond .eq 11, 3) := by decide +kernel
theorem dX12_byLaw_33 : decode cX12_byLaw 33 = .ok (.iload_n 3, 1) := by decide +kernel
