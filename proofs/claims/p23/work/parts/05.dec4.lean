theorem dX12_isCarried_20 : decode cX12_isCarried 20 = .ok (.iconst 1, 1) := by decide +kernel
theorem dX12_isCarried_21 : decode cX12_isCarried 21 = .ok (.if_icmp .ne 18, 3) := by decide +kernel
theorem dX12_isCarried_24 : decode cX12_isCarried 24 = .ok (.iconst 2, 1) := by decide +kernel
theorem dX12_isCarried_25 : decode cX12_isCarried 25 = .ok (.iload_n 1, 1) := by decide +kernel
theorem dX12_isCarried_26 : decode cX12_isCarried 26 = .ok (.imul, 1) := by decide +kernel
theorem dX12_isCarried_27 : decode cX12_isCarried 27 = .ok (.iload_n 2, 1) := by decide +kernel
theorem dX12_isCarried_28 : decode cX12_isCarried 28 = .ok (.if_icmp .le 7, 3) := by decide +kernel
theorem dX12_isCarried_31 : decode cX12_isCarried 31 = .ok (.iconst 1, 1) := by decide +kernel
theorem dX12_isCarried_32 : decode cX12_isCarried 32 = .ok (.goto 21, 3) := by decide +kernel
theorem dX12_isCarried_35 : decode cX12_isCarried 35 = .ok (.iconst 0, 1) := by decide +kernel
theorem dX12_isCarried_36 : decode cX12_isCarried 36 = .ok (.goto 17, 3) := by decide +kernel
theorem dX12_isCarried_39 : decode cX12_isCarried 39 = .ok (.iconst 3, 1) := by decide +kernel
theorem dX12_isCarried_40 : decode cX12_isCarried 40 = .ok (.iload_n 1, 1) := by decide +kernel
theorem dX12_isCarried_41 : decode cX12_isCarried 41 = .ok (.imul, 1) := by decide +kernel
theorem dX12_isCarried_42 : decode cX12_isCarried 42 = .ok (.iconst 2, 1) := by decide +kernel
theorem dX12_isCarried_43 : decode cX12_isCarried 43 = .ok (.iload_n 2, 1) := by decide +kernel
theorem dX12_isCarried_44 : decode cX12_isCarried 44 = .ok (.imul, 1) := by decide +kernel
theorem dX12_isCarried_45 : decode cX12_isCarried 45 = .ok (.if_icmp .lt 7, 3) := by decide +kernel
theorem dX12_isCarried_48 : decode cX12_isCarried 48 = .ok (.iconst 1, 1) := by decide +kernel
theorem dX12_isCarried_49 : decode cX12_isCarried 49 = .ok (.goto 4, 3) := by decide +kernel
theorem dX12_isCarried_52 : decode cX12_isCarried 52 = .ok (.iconst 0, 1) := by decide +kernel
theorem dX12_isCarried_53 : decode cX12_isCarried 53 = .ok (.ireturn, 1) := by decide +kernel
theorem dX12_weightOf_0 : decode cX12_weightOf 0 = .ok (.iconst 0, 1) := by decide +kernel
theorem dX12_weightOf_1 : decode cX12_weightOf 1 = .ok (.istore_n 2, 1) := by decide +kernel
theorem dX12_weightOf_2 : decode cX12_weightOf 2 = .ok (.iconst 0, 1) := by decide +kernel
theorem dX12_weightOf_3 : decode cX12_weightOf 3 = .ok (.istore_n 3, 1) := by decide +kernel
theorem dX12_weightOf_4 : decode cX12_weightOf 4 = .ok (.iload_n 3, 1) := by decide +kernel
theorem dX12_weightOf_5 : decode cX12_weightOf 5 = .ok (.aload_n 0, 1) := by decide +kernel
theorem dX12_weightOf_6 : decode cX12_weightOf 6 = .ok (.getfield 82, 3) := by decide +kernel
theorem dX12_weightOf_9 : decode cX12_weightOf 9 = .ok (.if_icmp .ge 24, 3) := by decide +kernel
theorem dX12_weightOf_12 : decode cX12_weightOf 12 = .ok (.iload_n 2, 1) := by decide +kernel
theorem dX12_weightOf_13 : decode cX12_weightOf 13 = .ok (.iload_n 1, 1) := by decide +kernel
theorem dX12_weightOf_14 : decode cX12_weightOf 14 = .ok (.iload_n 3, 1) := by decide +kernel
theorem dX12_weightOf_15 : decode cX12_weightOf 15 = .ok (.ishr, 1) := by decide +kernel
theorem dX12_weightOf_16 : decode cX12_weightOf 16 = .ok (.iconst 1, 1) := by decide +kernel
theorem dX12_weightOf_17 : decode cX12_weightOf 17 = .ok (.iand, 1) := by decide +kernel
theorem dX12_weightOf_18 : decode cX12_weightOf 18 = .ok (.aload_n 0, 1) := by decide +kernel
theorem dX12_weightOf_19 : decode cX12_weightOf 19 = .ok (.getfield 19, 3) := by decide +kernel
theorem dX12_weightOf_22 : decode cX12_weightOf 22 = .ok (.iload_n 3, 1) := by decide +kernel
theorem dX12_weightOf_23 : decode cX12_weightOf 23 = .ok (.iaload, 1) := by decide +kernel
theorem dX12_weightOf_24 : decode cX12_weightOf 24 = .ok (.imul, 1) := by decide +kernel
theorem dX12_weightOf_25 : decode cX12_weightOf 25 = .ok (.iadd, 1) := by decide +kernel
theorem dX12_weightOf_26 : decode cX12_weightOf 26 = .ok (.istore_n 2, 1) := by decide +kernel
theorem dX12_weightOf_27 : decode cX12_weightOf 27 = .ok (.iinc 3 1, 3) := by decide +kernel
theorem dX12_weightOf_30 : decode cX12_weightOf 30 = .ok (.goto (-26), 3) := by decide +kernel
theorem dX12_weightOf_33 : decode cX12_weightOf 33 = .ok (.iload_n 2, 1) := by decide +kernel
theorem dX12_weightOf_34 : decode cX12_weightOf 34 = .ok (.ireturn, 1) := by decide +kernel
theorem dX12_leftFrom_0 : decode cX12_leftFrom 0 = .ok (.iconst 1, 1) := by decide +kernel
theorem dX12_leftFrom_1 : decode cX12_leftFrom 1 = .ok (.aload_n 0, 1) := by decide +kernel
theorem dX12_leftFrom_2 : decode cX12_leftFrom 2 = .ok (.getfield 82, 3) := by decide +kernel
theorem dX12_leftFrom_5 : decode cX12_leftFrom 5 = .ok (.ishl, 1) := by decide +kernel
theorem dX12_leftFrom_6 : decode cX12_leftFrom 6 = .ok (.iconst 1, 1) := by decide +kernel
theorem dX12_leftFrom_7 : decode cX12_leftFrom 7 = .ok (.iload_n 1, 1) := by decide +kernel
theorem dX12_leftFrom_8 : decode cX12_leftFrom 8 = .ok (.ishl, 1) := by decide +kernel
theorem dX12_leftFrom_9 : decode cX12_leftFrom 9 = .ok (.isub, 1) := by decide +kernel
theorem dX12_leftFrom_10 : decode cX12_leftFrom 10 = .ok (.ireturn, 1) := by decide +kernel
theorem dX12_above_0 : decode cX12_above 0 = .ok (.iload_n 0, 1) := by decide +kernel
theorem dX12_above_1 : decode cX12_above 1 = .ok (.ifCond .ge 7, 3) := by decide +kernel
theorem dX12_above_4 : decode cX12_above 4 = .ok (.iconst 0, 1) := by decide +kernel
theorem dX12_above_5 : decode cX12_above 5 = .ok (.goto 4, 3) := by decide +kernel
theorem dX12_above_8 : decode cX12_above 8 = .ok (.iload_n 0, 1) := by decide +kernel
theorem dX12_above_9 : decode cX12_above 9 = .ok (.ireturn, 1) := by decide +kernel
theorem dX12_priceOf_0 : decode cX12_priceOf 0 = .ok (.aload_n 0, 1) := by decide +kernel
theorem dX12_priceOf_1 : decode cX12_priceOf 1 = .ok (.getfield 25, 3) := by decide +kernel
theorem dX12_priceOf_4 : decode cX12_priceOf 4 = .ok (.iconst 2, 1) := by decide +kernel
theorem dX12_priceOf_5 : decode cX12_priceOf 5 = .ok (.iaload, 1) := by decide +kernel
theorem dX12_priceOf_6 : decode cX12_priceOf 6 = .ok (.iconst 1, 1) := by decide +kernel
theorem dX12_priceOf_7 : decode cX12_priceOf 7 = .ok (.if_icmp .ne 7, 3) := by decide +kernel
theorem dX12_priceOf_10 : decode cX12_priceOf 10 = .ok (.iload_n 2, 1) := by decide +kernel
theorem dX12_priceOf_11 : decode cX12_priceOf 11 = .ok (.goto 6, 3) := by decide +kernel
theorem dX12_priceOf_14 : decode cX12_priceOf 14 = .ok (.iload_n 2, 1) := by decide +kernel
theorem dX12_priceOf_15 : decode cX12_priceOf 15 = .ok (.iconst 1, 1) := by decide +kernel
theorem dX12_priceOf_16 : decode cX12_priceOf 16 = .ok (.iadd, 1) := by decide +kernel
theorem dX12_priceOf_17 : decode cX12_priceOf 17 = .ok (.invokestatic 156, 3) := by decide +kernel
theorem dX12_priceOf_20 : decode cX12_priceOf 20 = .ok (.istore_n 3, 1) := by decide +kernel
theorem dX12_priceOf_21 : decode cX12_priceOf 21 = .ok (.iload_n 2, 1) := by decide +kernel
theorem dX12_priceOf_22 : decode cX12_priceOf 22 = .ok (.ifCond .lt 9, 3) := by decide +kernel
theorem dX12_priceOf_25 : decode cX12_priceOf 25 = .ok (.iload_n 3, 1) := by decide +kernel
theorem dX12_priceOf_26 : decode cX12_priceOf 26 = .ok (.iconst 1, 1) := by decide +kernel
theorem dX12_priceOf_27 : decode cX12_priceOf 27 = .ok (.iadd, 1) := by decide +kernel
theorem dX12_priceOf_28 : decode cX12_priceOf 28 = .ok (.goto 4, 3) := by decide +kernel
theorem dX12_priceOf_31 : decode cX12_priceOf 31 = .ok (.iload_n 3, 1) := by decide +kernel
theorem dX12_priceOf_32 : decode cX12_priceOf 32 = .ok (.istore 4, 2) := by decide +kernel
theorem dX12_priceOf_34 : decode cX12_priceOf 34 = .ok (.aload_n 0, 1) := by decide +kernel
theorem dX12_priceOf_35 : decode cX12_priceOf 35 = .ok (.getfield 13, 3) := by decide +kernel
theorem dX12_priceOf_38 : decode cX12_priceOf 38 = .ok (.iload_n 1, 1) := by decide +kernel
theorem dX12_priceOf_39 : decode cX12_priceOf 39 = .ok (.iaload, 1) := by decide +kernel
theorem dX12_priceOf_40 : decode cX12_priceOf 40 = .ok (.tableswitch 67 0 5 #[40, 42, 47, 42, 50, 57], 40) := by decide +kernel
theorem dX12_priceOf_80 : decode cX12_priceOf 80 = .ok (.iload_n 3, 1) := by decide +kernel
theorem dX12_priceOf_81 : decode cX12_priceOf 81 = .ok (.ireturn, 1) := by decide +kernel
theorem dX12_priceOf_82 : decode cX12_priceOf 82 = .ok (.iload_n 2, 1) := by decide +kernel
theorem dX12_priceOf_83 : decode cX12_priceOf 83 = .ok (.invokestatic 156, 3) := by decide +kernel
theorem dX12_priceOf_86 : decode cX12_priceOf 86 = .ok (.ireturn, 1) := by decide +kernel
theorem dX12_priceOf_87 : decode cX12_priceOf 87 = .ok (.iload 4, 2) := by decide +kernel
theorem dX12_priceOf_89 : decode cX12_priceOf 89 = .ok (.ireturn, 1) := by decide +kernel
theorem dX12_priceOf_90 : decode cX12_priceOf 90 = .ok (.aload_n 0, 1) := by decide +kernel
theorem dX12_priceOf_91 : decode cX12_priceOf 91 = .ok (.getfield 16, 3) := by decide +kernel
theorem dX12_priceOf_94 : decode cX12_priceOf 94 = .ok (.iload_n 1, 1) := by decide +kernel
theorem dX12_priceOf_95 : decode cX12_priceOf 95 = .ok (.iaload, 1) := by decide +kernel
theorem dX12_priceOf_96 : decode cX12_priceOf 96 = .ok (.ireturn, 1) := by decide +kernel
theorem dX12_priceOf_97 : decode cX12_priceOf 97 = .ok (.iload 4, 2) := by decide +kernel
theorem dX12_priceOf_99 : decode cX12_priceOf 99 = .ok (.aload_n 0, 1) := by decide +kernel
theorem dX12_priceOf_100 : decode cX12_priceOf 100 = .ok (.getfield 16, 3) := by decide +kernel
theorem dX12_priceOf_103 : decode cX12_priceOf 103 = .ok (.iload_n 1, 1) := by decide +kernel
theorem dX12_priceOf_104 : decode cX12_priceOf 104 = .ok (.iaload, 1) := by decide +kernel
theorem dX12_priceOf_105 : decode cX12_priceOf 105 = .ok (.iadd, 1) := by decide +kernel
theorem dX12_priceOf_106 : decode cX12_priceOf 106 = .ok (.ireturn, 1) := by decide +kernel
theorem dX12_priceOf_107 : decode cX12_priceOf 107 = .ok (.aload_n 0, 1) := by decide +kernel
theorem dX12_priceOf_108 : decode cX12_priceOf 108 = .ok (.getfield 16, 3) := by decide +kernel
theorem dX12_priceOf_111 : decode cX12_priceOf 111 = .ok (.iload_n 1, 1) := by decide +kernel
theorem dX12_priceOf_112 : decode cX12_priceOf 112 = .ok (.iaload, 1) := by decide +kernel
theorem dX12_priceOf_113 : decode cX12_priceOf 113 = .ok (.iconst 2, 1) := by decide +kernel
theorem dX12_priceOf_114 : decode cX12_priceOf 114 = .ok (.idiv, 1) := by decide +kernel
theorem dX12_priceOf_115 : decode cX12_priceOf 115 = .ok (.ireturn, 1) := by decide +kernel
theorem dX12_costOf_0 : decode cX12_costOf 0 = .ok (.iconst 0, 1) := by decide +kernel
theorem dX12_costOf_1 : decode cX12_costOf 1 = .ok (.istore_n 3, 1) := by decide +kernel
theorem dX12_costOf_2 : decode cX12_costOf 2 = .ok (.iload_n 1, 1) := by decide +kernel
theorem dX12_costOf_3 : decode cX12_costOf 3 = .ok (.iconst 1, 1) := by decide +kernel
theorem dX12_costOf_4 : decode cX12_costOf 4 = .ok (.iadd, 1) := by decide +kernel
theorem dX12_costOf_5 : decode cX12_costOf 5 = .ok (.istore 4, 2) := by decide +kernel
theorem dX12_costOf_7 : decode cX12_costOf 7 = .ok (.iload 4, 2) := by decide +kernel
theorem dX12_costOf_9 : decode cX12_costOf 9 = .ok (.aload_n 0, 1) := by decide +kernel
theorem dX12_costOf_10 : decode cX12_costOf 10 = .ok (.getfield 82, 3) := by decide +kernel
theorem dX12_costOf_13 : decode cX12_costOf 13 = .ok (.if_icmp .ge 31, 3) := by decide +kernel
theorem dX12_costOf_16 : decode cX12_costOf 16 = .ok (.iload_n 3, 1) := by decide +kernel
theorem dX12_costOf_17 : decode cX12_costOf 17 = .ok (.iload_n 2, 1) := by decide +kernel
theorem dX12_costOf_18 : decode cX12_costOf 18 = .ok (.iload 4, 2) := by decide +kernel
theorem dX12_costOf_20 : decode cX12_costOf 20 = .ok (.ishr, 1) := by decide +kernel
theorem dX12_costOf_21 : decode cX12_costOf 21 = .ok (.iconst 1, 1) := by decide +kernel
theorem dX12_costOf_22 : decode cX12_costOf 22 = .ok (.iand, 1) := by decide +kernel
theorem dX12_costOf_23 : decode cX12_costOf 23 = .ok (.aload_n 0, 1) := by decide +kernel
theorem dX12_costOf_24 : decode cX12_costOf 24 = .ok (.getfield 43, 3) := by decide +kernel
theorem dX12_costOf_27 : decode cX12_costOf 27 = .ok (.bipush 9, 2) := by decide +kernel
theorem dX12_costOf_29 : decode cX12_costOf 29 = .ok (.iload_n 1, 1) := by decide +kernel
theorem dX12_costOf_30 : decode cX12_costOf 30 = .ok (.imul, 1) := by decide +kernel
theorem dX12_costOf_31 : decode cX12_costOf 31 = .ok (.iload 4, 2) := by decide +kernel
theorem dX12_costOf_33 : decode cX12_costOf 33 = .ok (.iadd, 1) := by decide +kernel
theorem dX12_costOf_34 : decode cX12_costOf 34 = .ok (.iaload, 1) := by decide +kernel
theorem dX12_costOf_35 : decode cX12_costOf 35 = .ok (.imul, 1) := by decide +kernel
theorem dX12_costOf_36 : decode cX12_costOf 36 = .ok (.iadd, 1) := by decide +kernel
theorem dX12_costOf_37 : decode cX12_costOf 37 = .ok (.istore_n 3, 1) := by decide +kernel
theorem dX12_costOf_38 : decode cX12_costOf 38 = .ok (.iinc 4 1, 3) := by decide +kernel
theorem dX12_costOf_41 : decode cX12_costOf 41 = .ok (.goto (-34), 3) := by decide +kernel
theorem dX12_costOf_44 : decode cX12_costOf 44 = .ok (.iload_n 3, 1) := by decide +kernel
theorem dX12_costOf_45 : decode cX12_costOf 45 = .ok (.ireturn, 1) := by decide +kernel
theorem dX12_unbought_0 : decode cX12_unbought 0 = .ok (.iconst 0, 1) := by decide +kernel
theorem dX12_unbought_1 : decode cX12_unbought 1 = .ok (.istore_n 2, 1) := by decide +kernel
theorem dX12_unbought_2 : decode cX12_unbought 2 = .ok (.iload_n 1, 1) := by decide +kernel
theorem dX12_unbought_3 : decode cX12_unbought 3 = .ok (.iconst 1, 1) := by decide +kernel
theorem dX12_unbought_4 : decode cX12_unbought 4 = .ok (.iadd, 1) := by decide +kernel
theorem dX12_unbought_5 : decode cX12_unbought 5 = .ok (.istore_n 3, 1) := by decide +kernel
theorem dX12_unbought_6 : decode cX12_unbought 6 = .ok (.iload_n 3, 1) := by decide +kernel
theorem dX12_unbought_7 : decode cX12_unbought 7 = .ok (.aload_n 0, 1) := by decide +kernel
theorem dX12_unbought_8 : decode cX12_unbought 8 = .ok (.getfield 82, 3) := by decide +kernel
theorem dX12_unbought_11 : decode cX12_unbought 11 = .ok (.if_icmp .ge 33, 3) := by decide +kernel
theorem dX12_unbought_14 : decode cX12_unbought 14 = .ok (.iload_n 2, 1) := by decide +kernel
theorem dX12_unbought_15 : decode cX12_unbought 15 = .ok (.aload_n 0, 1) := by decide +kernel
theorem dX12_unbought_16 : decode cX12_unbought 16 = .ok (.getfield 43, 3) := by decide +kernel
theorem dX12_unbought_19 : decode cX12_unbought 19 = .ok (.bipush 9, 2) := by decide +kernel
theorem dX12_unbought_21 : decode cX12_unbought 21 = .ok (.iload_n 1, 1) := by decide +kernel
theorem dX12_unbought_22 : decode cX12_unbought 22 = .ok (.imul, 1) := by decide +kernel
theorem dX12_unbought_23 : decode cX12_unbought 23 = .ok (.iload_n 3, 1) := by decide +kernel
theorem dX12_unbought_24 : decode cX12_unbought 24 = .ok (.iadd, 1) := by decide +kernel
theorem dX12_unbought_25 : decode cX12_unbought 25 = .ok (.iaload, 1) := by decide +kernel
theorem dX12_unbought_26 : decode cX12_unbought 26 = .ok (.ifCond .ne 9, 3) := by decide +kernel
theorem dX12_unbought_29 : decode cX12_unbought 29 = .ok (.iconst 1, 1) := by decide +kernel
theorem dX12_unbought_30 : decode cX12_unbought 30 = .ok (.iload_n 3, 1) := by decide +kernel
theorem dX12_unbought_31 : decode cX12_unbought 31 = .ok (.ishl, 1) := by decide +kernel
theorem dX12_unbought_32 : decode cX12_unbought 32 = .ok (.goto 4, 3) := by decide +kernel
theorem dX12_unbought_35 : decode cX12_unbought 35 = .ok (.iconst 0, 1) := by decide +kernel
theorem dX12_unbought_36 : decode cX12_unbought 36 = .ok (.ior, 1) := by decide +kernel
theorem dX12_unbought_37 : decode cX12_unbought 37 = .ok (.istore_n 2, 1) := by decide +kernel
theorem dX12_unbought_38 : decode cX12_unbought 38 = .ok (.iinc 3 1, 3) := by decide +kernel
theorem dX12_unbought_41 : decode cX12_unbought 41 = .ok (.goto (-35), 3) := by decide +kernel
theorem dX12_unbought_44 : decode cX12_unbought 44 = .ok (.iload_n 2, 1) := by decide +kernel
theorem dX12_unbought_45 : decode cX12_unbought 45 = .ok (.ireturn, 1) := by decide +kernel
theorem dX12_isAhead_0 : decode cX12_isAhead 0 = .ok (.iload_n 1, 1) := by decide +kernel
theorem dX12_isAhead_1 : decode cX12_isAhead 1 = .ok (.iload_n 2, 1) := by decide +kernel
theorem dX12_isAhead_2 : decode cX12_isAhead 2 = .ok (.ixor, 1) := by decide +kernel
theorem dX12_isAhead_3 : decode cX12_isAhead 3 = .ok (.istore_n 3, 1) := by decide +kernel
theorem dX12_isAhead_4 : decode cX12_isAhead 4 = .ok (.iconst 0, 1) := by decide +kernel
theorem dX12_isAhead_5 : decode cX12_isAhead 5 = .ok (.istore 4, 2) := by decide +kernel
theorem dX12_isAhead_7 : decode cX12_isAhead 7 = .ok (.iload 4, 2) := by decide +kernel
theorem dX12_isAhead_9 : decode cX12_isAhead 9 = .ok (.aload_n 0, 1) := by decide +kernel
theorem dX12_isAhead_10 : decode cX12_isAhead 10 = .ok (.getfield 82, 3) := by decide +kernel
theorem dX12_isAhead_13 : decode cX12_isAhead 13 = .ok (.if_icmp .ge 60, 3) := by decide +kernel
theorem dX12_isAhead_16 : decode cX12_isAhead 16 = .ok (.aload_n 0, 1) := by decide +kernel
theorem dX12_isAhead_17 : decode cX12_isAhead 17 = .ok (.getfield 25, 3) := by decide +kernel
theorem dX12_isAhead_20 : decode cX12_isAhead 20 = .ok (.iconst 3, 1) := by decide +kernel
theorem dX12_isAhead_21 : decode cX12_isAhead 21 = .ok (.iaload, 1) := by decide +kernel
theorem dX12_isAhead_22 : decode cX12_isAhead 22 = .ok (.ifCond .ne 8, 3) := by decide +kernel
theorem dX12_isAhead_25 : decode cX12_isAhead 25 = .ok (.iload 4, 2) := by decide +kernel
theorem dX12_isAhead_27 : decode cX12_isAhead 27 = .ok (.goto 12, 3) := by decide +kernel
theorem dX12_isAhead_30 : decode cX12_isAhead 30 = .ok (.aload_n 0, 1) := by decide +kernel
theorem dX12_isAhead_31 : decode cX12_isAhead 31 = .ok (.getfield 82, 3) := by decide +kernel
theorem dX12_isAhead_34 : decode cX12_isAhead 34 = .ok (.iconst 1, 1) := by decide +kernel
theorem dX12_isAhead_35 : decode cX12_isAhead 35 = .ok (.isub, 1) := by decide +kernel
theorem dX12_isAhead_36 : decode cX12_isAhead 36 = .ok (.iload 4, 2) := by decide +kernel
theorem dX12_isAhead_38 : decode cX12_isAhead 38 = .ok (.isub, 1) := by decide +kernel
theorem dX12_isAhead_39 : decode cX12_isAhead 39 = .ok (.istore 5, 2) := by decide +kernel
theorem dX12_isAhead_41 : decode cX12_isAhead 41 = .ok (.iload_n 3, 1) := by decide +kernel
theorem dX12_isAhead_42 : decode cX12_isAhead 42 = .ok (.iload 5, 2) := by decide +kernel
theorem dX12_isAhead_44 : decode cX12_isAhead 44 = .ok (.ishr, 1) := by decide +kernel
theorem dX12_isAhead_45 : decode cX12_isAhead 45 = .ok (.iconst 1, 1) := by decide +kernel
theorem dX12_isAhead_46 : decode cX12_isAhead 46 = .ok (.iand, 1) := by decide +kernel
theorem dX12_isAhead_47 : decode cX12_isAhead 47 = .ok (.iconst 1, 1) := by decide +kernel
theorem dX12_isAhead_48 : decode cX12_isAhead 48 = .ok (.if_icmp .ne 19, 3) := by decide +kernel
theorem dX12_isAhead_51 : decode cX12_isAhead 51 = .ok (.iload_n 1, 1) := by decide +kernel
theorem dX12_isAhead_52 : decode cX12_isAhead 52 = .ok (.iload 5, 2) := by decide +kernel
theorem dX12_isAhead_54 : decode cX12_isAhead 54 = .ok (.ishr, 1) := by decide +kernel
theorem dX12_isAhead_55 : decode cX12_isAhead 55 = .ok (.iconst 1, 1) := by decide +kernel
theorem dX12_isAhead_56 : decode cX12_isAhead 56 = .ok (.iand, 1) := by decide +kernel
theorem dX12_isAhead_57 : decode cX12_isAhead 57 = .ok (.iconst 1, 1) := by decide +kernel
theorem dX12_isAhead_58 : decode cX12_isAhead 58 = .ok (.if_icmp .ne 7, 3) := by decide +kernel
theorem dX12_isAhead_61 : decode cX12_isAhead 61 = .ok (.iconst 1, 1) := by decide +kernel
theorem dX12_isAhead_62 : decode cX12_isAhead 62 = .ok (.goto 4, 3) := by decide +kernel
theorem dX12_isAhead_65 : decode cX12_isAhead 65 = .ok (.iconst 0, 1) := by decide +kernel
theorem dX12_isAhead_66 : decode cX12_isAhead 66 = .ok (.ireturn, 1) := by decide +kernel
theorem dX12_isAhead_67 : decode cX12_isAhead 67 = .ok (.iinc 4 1, 3) := by decide +kernel
theorem dX12_isAhead_70 : decode cX12_isAhead 70 = .ok (.goto (-63), 3) := by decide +kernel
theorem dX12_isAhead_73 : decode cX12_isAhead 73 = .ok (.iconst 0, 1) := by decide +kernel
theorem dX12_isAhead_74 : decode cX12_isAhead 74 = .ok (.ireturn, 1) := by decide +kernel
theorem dX12_buysBy_0 : decode cX12_buysBy 0 = .ok (.aload_n 0, 1) := by decide +kernel
theorem dX12_buysBy_1 : decode cX12_buysBy 1 = .ok (.iload_n 1, 1) := by decide +kernel
theorem dX12_buysBy_2 : decode cX12_buysBy 2 = .ok (.invokevirtual 159, 3) := by decide +kernel
theorem dX12_buysBy_5 : decode cX12_buysBy 5 = .ok (.iconst 1, 1) := by decide +kernel
theorem dX12_buysBy_6 : decode cX12_buysBy 6 = .ok (.iload_n 1, 1) := by decide +kernel
theorem dX12_buysBy_7 : decode cX12_buysBy 7 = .ok (.ishl, 1) := by decide +kernel
theorem dX12_buysBy_8 : decode cX12_buysBy 8 = .ok (.iconst (-1), 1) := by decide +kernel
theorem dX12_buysBy_9 : decode cX12_buysBy 9 = .ok (.ixor, 1) := by decide +kernel
theorem dX12_buysBy_10 : decode cX12_buysBy 10 = .ok (.iand, 1) := by decide +kernel
theorem dX12_buysBy_11 : decode cX12_buysBy 11 = .ok (.istore_n 2, 1) := by decide +kernel
theorem dX12_buysBy_12 : decode cX12_buysBy 12 = .ok (.bipush (-9), 2) := by decide +kernel
theorem dX12_buysBy_14 : decode cX12_buysBy 14 = .ok (.istore_n 3, 1) := by decide +kernel
theorem dX12_buysBy_15 : decode cX12_buysBy 15 = .ok (.iconst 0, 1) := by decide +kernel
theorem dX12_buysBy_16 : decode cX12_buysBy 16 = .ok (.istore 4, 2) := by decide +kernel
theorem dX12_buysBy_18 : decode cX12_buysBy 18 = .ok (.iload 4, 2) := by decide +kernel
theorem dX12_buysBy_20 : decode cX12_buysBy 20 = .ok (.iconst 1, 1) := by decide +kernel
theorem dX12_buysBy_21 : decode cX12_buysBy 21 = .ok (.aload_n 0, 1) := by decide +kernel
theorem dX12_buysBy_22 : decode cX12_buysBy 22 = .ok (.getfield 82, 3) := by decide +kernel
theorem dX12_buysBy_25 : decode cX12_buysBy 25 = .ok (.ishl, 1) := by decide +kernel
theorem dX12_buysBy_26 : decode cX12_buysBy 26 = .ok (.if_icmp .ge 105, 3) := by decide +kernel
theorem dX12_buysBy_29 : decode cX12_buysBy 29 = .ok (.iload 4, 2) := by decide +kernel
theorem dX12_buysBy_31 : decode cX12_buysBy 31 = .ok (.iload_n 2, 1) := by decide +kernel
theorem dX12_buysBy_32 : decode cX12_buysBy 32 = .ok (.iconst (-1), 1) := by decide +kernel
theorem dX12_buysBy_33 : decode cX12_buysBy 33 = .ok (.ixor, 1) := by decide +kernel
theorem dX12_buysBy_34 : decode cX12_buysBy 34 = .ok (.iand, 1) := by decide +kernel
theorem dX12_buysBy_35 : decode cX12_buysBy 35 = .ok (.ifCond .ne 90, 3) := by decide +kernel
theorem dX12_buysBy_38 : decode cX12_buysBy 38 = .ok (.aload_n 0, 1) := by decide +kernel
theorem dX12_buysBy_39 : decode cX12_buysBy 39 = .ok (.getfield 25, 3) := by decide +kernel
theorem dX12_buysBy_42 : decode cX12_buysBy 42 = .ok (.iconst 1, 1) := by decide +kernel
theorem dX12_buysBy_43 : decode cX12_buysBy 43 = .ok (.iaload, 1) := by decide +kernel
theorem dX12_buysBy_44 : decode cX12_buysBy 44 = .ok (.aload_n 0, 1) := by decide +kernel
theorem dX12_buysBy_45 : decode cX12_buysBy 45 = .ok (.iload 4, 2) := by decide +kernel
theorem dX12_buysBy_47 : decode cX12_buysBy 47 = .ok (.aload_n 0, 1) := by decide +kernel
theorem dX12_buysBy_48 : decode cX12_buysBy 48 = .ok (.iload_n 1, 1) := by decide +kernel
theorem dX12_buysBy_49 : decode cX12_buysBy 49 = .ok (.invokevirtual 162, 3) := by decide +kernel
theorem dX12_buysBy_52 : decode cX12_buysBy 52 = .ok (.ior, 1) := by decide +kernel
theorem dX12_buysBy_53 : decode cX12_buysBy 53 = .ok (.iconst 1, 1) := by decide +kernel
theorem dX12_buysBy_54 : decode cX12_buysBy 54 = .ok (.iload_n 1, 1) := by decide +kernel
theorem dX12_buysBy_55 : decode cX12_buysBy 55 = .ok (.ishl, 1) := by decide +kernel
theorem dX12_buysBy_56 : decode cX12_buysBy 56 = .ok (.ior, 1) := by decide +kernel
theorem dX12_buysBy_57 : decode cX12_buysBy 57 = .ok (.invokevirtual 165, 3) := by decide +kernel
theorem dX12_buysBy_60 : decode cX12_buysBy 60 = .ok (.aload_n 0, 1) := by decide +kernel
theorem dX12_buysBy_61 : decode cX12_buysBy 61 = .ok (.aload_n 0, 1) := by decide +kernel
theorem dX12_buysBy_62 : decode cX12_buysBy 62 = .ok (.iload_n 1, 1) := by decide +kernel
theorem dX12_buysBy_63 : decode cX12_buysBy 63 = .ok (.invokevirtual 159, 3) := by decide +kernel
theorem dX12_buysBy_66 : decode cX12_buysBy 66 = .ok (.invokevirtual 165, 3) := by decide +kernel
theorem dX12_buysBy_69 : decode cX12_buysBy 69 = .ok (.invokestatic 168, 3) := by decide +kernel
theorem dX12_buysBy_72 : decode cX12_buysBy 72 = .ok (.ifCond .ne 6, 3) := by decide +kernel
theorem dX12_buysBy_75 : decode cX12_buysBy 75 = .ok (.goto 50, 3) := by decide +kernel
theorem dX12_buysBy_78 : decode cX12_buysBy 78 = .ok (.iload_n 3, 1) := by decide +kernel
theorem dX12_buysBy_79 : decode cX12_buysBy 79 = .ok (.ifCond .ge 7, 3) := by decide +kernel
theorem dX12_buysBy_82 : decode cX12_buysBy 82 = .ok (.iconst (-1), 1) := by decide +kernel
theorem dX12_buysBy_83 : decode cX12_buysBy 83 = .ok (.goto 17, 3) := by decide +kernel
theorem dX12_buysBy_86 : decode cX12_buysBy 86 = .ok (.aload_n 0, 1) := by decide +kernel
theorem dX12_buysBy_87 : decode cX12_buysBy 87 = .ok (.iload_n 1, 1) := by decide +kernel
theorem dX12_buysBy_88 : decode cX12_buysBy 88 = .ok (.iload 4, 2) := by decide +kernel
theorem dX12_buysBy_90 : decode cX12_buysBy 90 = .ok (.invokevirtual 171, 3) := by decide +kernel
theorem dX12_buysBy_93 : decode cX12_buysBy 93 = .ok (.aload_n 0, 1) := by decide +kernel
theorem dX12_buysBy_94 : decode cX12_buysBy 94 = .ok (.iload_n 1, 1) := by decide +kernel
theorem dX12_buysBy_95 : decode cX12_buysBy 95 = .ok (.iload_n 3, 1) := by decide +kernel
theorem dX12_buysBy_96 : decode cX12_buysBy 96 = .ok (.invokevirtual 171, 3) := by decide +kernel
theorem dX12_buysBy_99 : decode cX12_buysBy 99 = .ok (.isub, 1) := by decide +kernel
theorem dX12_buysBy_100 : decode cX12_buysBy 100 = .ok (.istore 5, 2) := by decide +kernel
theorem dX12_buysBy_102 : decode cX12_buysBy 102 = .ok (.iload 5, 2) := by decide +kernel
theorem dX12_buysBy_104 : decode cX12_buysBy 104 = .ok (.ifCond .lt 18, 3) := by decide +kernel
theorem dX12_buysBy_107 : decode cX12_buysBy 107 = .ok (.iload 5, 2) := by decide +kernel
theorem dX12_buysBy_109 : decode cX12_buysBy 109 = .ok (.ifCond .ne 16, 3) := by decide +kernel
theorem dX12_buysBy_112 : decode cX12_buysBy 112 = .ok (.aload_n 0, 1) := by decide +kernel
theorem dX12_buysBy_113 : decode cX12_buysBy 113 = .ok (.iload 4, 2) := by decide +kernel
theorem dX12_buysBy_115 : decode cX12_buysBy 115 = .ok (.iload_n 3, 1) := by decide +kernel
theorem dX12_buysBy_116 : decode cX12_buysBy 116 = .ok (.invokevirtual 175, 3) := by decide +kernel
theorem dX12_buysBy_119 : decode cX12_buysBy 119 = .ok (.ifCond .eq 6, 3) := by decide +kernel
theorem dX12_buysBy_122 : decode cX12_buysBy 122 = .ok (.iload 4, 2) := by decide +kernel
theorem dX12_buysBy_124 : decode cX12_buysBy 124 = .ok (.istore_n 3, 1) := by decide +kernel
theorem dX12_buysBy_125 : decode cX12_buysBy 125 = .ok (.iinc 4 1, 3) := by decide +kernel
theorem dX12_buysBy_128 : decode cX12_buysBy 128 = .ok (.goto (-110), 3) := by decide +kernel
theorem dX12_buysBy_131 : decode cX12_buysBy 131 = .ok (.iload_n 3, 1) := by decide +kernel
theorem dX12_buysBy_132 : decode cX12_buysBy 132 = .ok (.ifCond .lt 22, 3) := by decide +kernel
theorem dX12_buysBy_135 : decode cX12_buysBy 135 = .ok (.aload_n 0, 1) := by decide +kernel
theorem dX12_buysBy_136 : decode cX12_buysBy 136 = .ok (.iload_n 1, 1) := by decide +kernel
theorem dX12_buysBy_137 : decode cX12_buysBy 137 = .ok (.iload_n 3, 1) := by decide +kernel
theorem dX12_buysBy_138 : decode cX12_buysBy 138 = .ok (.invokevirtual 171, 3) := by decide +kernel
theorem dX12_buysBy_141 : decode cX12_buysBy 141 = .ok (.aload_n 0, 1) := by decide +kernel
theorem dX12_buysBy_142 : decode cX12_buysBy 142 = .ok (.getfield 25, 3) := by decide +kernel
theorem dX12_buysBy_145 : decode cX12_buysBy 145 = .ok (.iconst 0, 1) := by decide +kernel
theorem dX12_buysBy_146 : decode cX12_buysBy 146 = .ok (.iaload, 1) := by decide +kernel
theorem dX12_buysBy_147 : decode cX12_buysBy 147 = .ok (.if_icmp .gt 7, 3) := by decide +kernel
theorem dX12_buysBy_150 : decode cX12_buysBy 150 = .ok (.iload_n 3, 1) := by decide +kernel
theorem dX12_buysBy_151 : decode cX12_buysBy 151 = .ok (.goto 5, 3) := by decide +kernel
theorem dX12_buysBy_154 : decode cX12_buysBy 154 = .ok (.bipush (-9), 2) := by decide +kernel
theorem dX12_buysBy_156 : decode cX12_buysBy 156 = .ok (.ireturn, 1) := by decide +kernel
theorem dX12_offersEach_0 : decode cX12_offersEach 0 = .ok (.aload_n 0, 1) := by decide +kernel
theorem dX12_offersEach_1 : decode cX12_offersEach 1 = .ok (.getfield 46, 3) := by decide +kernel
theorem dX12_offersEach_4 : decode cX12_offersEach 4 = .ok (.bipush 9, 2) := by decide +kernel
theorem dX12_offersEach_6 : decode cX12_offersEach 6 = .ok (.iload_n 1, 1) := by decide +kernel
theorem dX12_offersEach_7 : decode cX12_offersEach 7 = .ok (.imul, 1) := by decide +kernel
theorem dX12_offersEach_8 : decode cX12_offersEach 8 = .ok (.iload_n 2, 1) := by decide +kernel
theorem dX12_offersEach_9 : decode cX12_offersEach 9 = .ok (.iadd, 1) := by decide +kernel
theorem dX12_offersEach_10 : decode cX12_offersEach 10 = .ok (.iload_n 3, 1) := by decide +kernel
theorem dX12_offersEach_11 : decode cX12_offersEach 11 = .ok (.iastore, 1) := by decide +kernel
theorem dX12_offersEach_12 : decode cX12_offersEach 12 = .ok (.aload_n 0, 1) := by decide +kernel
theorem dX12_offersEach_13 : decode cX12_offersEach 13 = .ok (.getfield 46, 3) := by decide +kernel
theorem dX12_offersEach_16 : decode cX12_offersEach 16 = .ok (.bipush 9, 2) := by decide +kernel
theorem dX12_offersEach_18 : decode cX12_offersEach 18 = .ok (.iload_n 1, 1) := by decide +kernel
theorem dX12_offersEach_19 : decode cX12_offersEach 19 = .ok (.imul, 1) := by decide +kernel
theorem dX12_offersEach_20 : decode cX12_offersEach 20 = .ok (.iload_n 1, 1) := by decide +kernel
theorem dX12_offersEach_21 : decode cX12_offersEach 21 = .ok (.iadd, 1) := by decide +kernel
theorem dX12_offersEach_22 : decode cX12_offersEach 22 = .ok (.dup2, 1) := by decide +kernel
theorem dX12_offersEach_23 : decode cX12_offersEach 23 = .ok (.iaload, 1) := by decide +kernel
theorem dX12_offersEach_24 : decode cX12_offersEach 24 = .ok (.iload_n 3, 1) := by decide +kernel
theorem dX12_offersEach_25 : decode cX12_offersEach 25 = .ok (.isub, 1) := by decide +kernel
theorem dX12_offersEach_26 : decode cX12_offersEach 26 = .ok (.iastore, 1) := by decide +kernel
theorem dX12_offersEach_27 : decode cX12_offersEach 27 = .ok (.return_, 1) := by decide +kernel
theorem dX12_offersFools_0 : decode cX12_offersFools 0 = .ok (.iload_n 1, 1) := by decide +kernel
theorem dX12_offersFools_1 : decode cX12_offersFools 1 = .ok (.iconst 1, 1) := by decide +kernel
theorem dX12_offersFools_2 : decode cX12_offersFools 2 = .ok (.iadd, 1) := by decide +kernel
theorem dX12_offersFools_3 : decode cX12_offersFools 3 = .ok (.istore_n 3, 1) := by decide +kernel
theorem dX12_offersFools_4 : decode cX12_offersFools 4 = .ok (.iload_n 3, 1) := by decide +kernel
theorem dX12_offersFools_5 : decode cX12_offersFools 5 = .ok (.aload_n 0, 1) := by decide +kernel
theorem dX12_offersFools_6 : decode cX12_offersFools 6 = .ok (.getfield 82, 3) := by decide +kernel
theorem dX12_offersFools_9 : decode cX12_offersFools 9 = .ok (.if_icmp .ge 57, 3) := by decide +kernel
theorem dX12_offersFools_12 : decode cX12_offersFools 12 = .ok (.aload_n 0, 1) := by decide +kernel
theorem dX12_offersFools_13 : decode cX12_offersFools 13 = .ok (.getfield 46, 3) := by decide +kernel
theorem dX12_offersFools_16 : decode cX12_offersFools 16 = .ok (.bipush 9, 2) := by decide +kernel
theorem dX12_offersFools_18 : decode cX12_offersFools 18 = .ok (.iload_n 1, 1) := by decide +kernel
theorem dX12_offersFools_19 : decode cX12_offersFools 19 = .ok (.imul, 1) := by decide +kernel
theorem dX12_offersFools_20 : decode cX12_offersFools 20 = .ok (.iload_n 1, 1) := by decide +kernel
theorem dX12_offersFools_21 : decode cX12_offersFools 21 = .ok (.iadd, 1) := by decide +kernel
theorem dX12_offersFools_22 : decode cX12_offersFools 22 = .ok (.iaload, 1) := by decide +kernel
theorem dX12_offersFools_23 : decode cX12_offersFools 23 = .ok (.aload_n 0, 1) := by decide +kernel
theorem dX12_offersFools_24 : decode cX12_offersFools 24 = .ok (.getfield 16, 3) := by decide +kernel
theorem dX12_offersFools_27 : decode cX12_offersFools 27 = .ok (.iload_n 1, 1) := by decide +kernel
theorem dX12_offersFools_28 : decode cX12_offersFools 28 = .ok (.iaload, 1) := by decide +kernel
theorem dX12_offersFools_29 : decode cX12_offersFools 29 = .ok (.if_icmp .ge 4, 3) := by decide +kernel
theorem dX12_offersFools_32 : decode cX12_offersFools 32 = .ok (.return_, 1) := by decide +kernel
theorem dX12_offersFools_33 : decode cX12_offersFools 33 = .ok (.aload_n 0, 1) := by decide +kernel
theorem dX12_offersFools_34 : decode cX12_offersFools 34 = .ok (.iload_n 1, 1) := by decide +kernel
theorem dX12_offersFools_35 : decode cX12_offersFools 35 = .ok (.iload_n 2, 1) := by decide +kernel
theorem dX12_offersFools_36 : decode cX12_offersFools 36 = .ok (.ifCond .eq 14, 3) := by decide +kernel
theorem dX12_offersFools_39 : decode cX12_offersFools 39 = .ok (.aload_n 0, 1) := by decide +kernel
theorem dX12_offersFools_40 : decode cX12_offersFools 40 = .ok (.getfield 82, 3) := by decide +kernel
theorem dX12_offersFools_43 : decode cX12_offersFools 43 = .ok (.iload_n 1, 1) := by decide +kernel
theorem dX12_offersFools_44 : decode cX12_offersFools 44 = .ok (.iadd, 1) := by decide +kernel
theorem dX12_offersFools_45 : decode cX12_offersFools 45 = .ok (.iload_n 3, 1) := by decide +kernel
theorem dX12_offersFools_46 : decode cX12_offersFools 46 = .ok (.isub, 1) := by decide +kernel
theorem dX12_offersFools_47 : decode cX12_offersFools 47 = .ok (.goto 4, 3) := by decide +kernel
theorem dX12_offersFools_50 : decode cX12_offersFools 50 = .ok (.iload_n 3, 1) := by decide +kernel
theorem dX12_offersFools_51 : decode cX12_offersFools 51 = .ok (.aload_n 0, 1) := by decide +kernel
theorem dX12_offersFools_52 : decode cX12_offersFools 52 = .ok (.getfield 16, 3) := by decide +kernel
theorem dX12_offersFools_55 : decode cX12_offersFools 55 = .ok (.iload_n 1, 1) := by decide +kernel
theorem dX12_offersFools_56 : decode cX12_offersFools 56 = .ok (.iaload, 1) := by decide +kernel
theorem dX12_offersFools_57 : decode cX12_offersFools 57 = .ok (.invokevirtual 178, 3) := by decide +kernel
theorem dX12_offersFools_60 : decode cX12_offersFools 60 = .ok (.iinc 3 1, 3) := by decide +kernel
theorem dX12_offersFools_63 : decode cX12_offersFools 63 = .ok (.goto (-59), 3) := by decide +kernel
theorem dX12_offersFools_66 : decode cX12_offersFools 66 = .ok (.return_, 1) := by decide +kernel
theorem dX12_doesBuy_0 : decode cX12_doesBuy 0 = .ok (.iload_n 0, 1) := by decide +kernel
theorem dX12_doesBuy_1 : decode cX12_doesBuy 1 = .ok (.iconst 3, 1) := by decide +kernel
theorem dX12_doesBuy_2 : decode cX12_doesBuy 2 = .ok (.if_icmp .lt 8, 3) := by decide +kernel
theorem dX12_doesBuy_5 : decode cX12_doesBuy 5 = .ok (.iload_n 0, 1) := by decide +kernel
theorem dX12_doesBuy_6 : decode cX12_doesBuy 6 = .ok (.iconst 5, 1) := by decide +kernel
theorem dX12_doesBuy_7 : decode cX12_doesBuy 7 = .ok (.if_icmp .ne 7, 3) := by decide +kernel
theorem dX12_doesBuy_10 : decode cX12_doesBuy 10 = .ok (.iconst 1, 1) := by decide +kernel
theorem dX12_doesBuy_11 : decode cX12_doesBuy 11 = .ok (.goto 4, 3) := by decide +kernel
theorem dX12_doesBuy_14 : decode cX12_doesBuy 14 = .ok (.iconst 0, 1) := by decide +kernel
theorem dX12_doesBuy_15 : decode cX12_doesBuy 15 = .ok (.ireturn, 1) := by decide +kernel
theorem dX12_findOffer_0 : decode cX12_findOffer 0 = .ok (.iconst 0, 1) := by decide +kernel
theorem dX12_findOffer_1 : decode cX12_findOffer 1 = .ok (.istore_n 2, 1) := by decide +kernel
theorem dX12_findOffer_2 : decode cX12_findOffer 2 = .ok (.iload_n 2, 1) := by decide +kernel
theorem dX12_findOffer_3 : decode cX12_findOffer 3 = .ok (.aload_n 0, 1) := by decide +kernel
theorem dX12_findOffer_4 : decode cX12_findOffer 4 = .ok (.getfield 82, 3) := by decide +kernel
theorem dX12_findOffer_7 : decode cX12_findOffer 7 = .ok (.if_icmp .ge 21, 3) := by decide +kernel
theorem dX12_findOffer_10 : decode cX12_findOffer 10 = .ok (.aload_n 0, 1) := by decide +kernel
theorem dX12_findOffer_11 : decode cX12_findOffer 11 = .ok (.getfield 46, 3) := by decide +kernel
theorem dX12_findOffer_14 : decode cX12_findOffer 14 = .ok (.bipush 9, 2) := by decide +kernel
theorem dX12_findOffer_16 : decode cX12_findOffer 16 = .ok (.iload_n 1, 1) := by decide +kernel
theorem dX12_findOffer_17 : decode cX12_findOffer 17 = .ok (.imul, 1) := by decide +kernel
theorem dX12_findOffer_18 : decode cX12_findOffer 18 = .ok (.iload_n 2, 1) := by decide +kernel
theorem dX12_findOffer_19 : decode cX12_findOffer 19 = .ok (.iadd, 1) := by decide +kernel
theorem dX12_findOffer_20 : decode cX12_findOffer 20 = .ok (.iconst 0, 1) := by decide +kernel
theorem dX12_findOffer_21 : decode cX12_findOffer 21 = .ok (.iastore, 1) := by decide +kernel
theorem dX12_findOffer_22 : decode cX12_findOffer 22 = .ok (.iinc 2 1, 3) := by decide +kernel
theorem dX12_findOffer_25 : decode cX12_findOffer 25 = .ok (.goto (-23), 3) := by decide +kernel
theorem dX12_findOffer_28 : decode cX12_findOffer 28 = .ok (.aload_n 0, 1) := by decide +kernel
theorem dX12_findOffer_29 : decode cX12_findOffer 29 = .ok (.getfield 46, 3) := by decide +kernel
theorem dX12_findOffer_32 : decode cX12_findOffer 32 = .ok (.bipush 9, 2) := by decide +kernel
theorem dX12_findOffer_34 : decode cX12_findOffer 34 = .ok (.iload_n 1, 1) := by decide +kernel
theorem dX12_findOffer_35 : decode cX12_findOffer 35 = .ok (.imul, 1) := by decide +kernel
theorem dX12_findOffer_36 : decode cX12_findOffer 36 = .ok (.iload_n 1, 1) := by decide +kernel
theorem dX12_findOffer_37 : decode cX12_findOffer 37 = .ok (.iadd, 1) := by decide +kernel
theorem dX12_findOffer_38 : decode cX12_findOffer 38 = .ok (.aload_n 0, 1) := by decide +kernel
theorem dX12_findOffer_39 : decode cX12_findOffer 39 = .ok (.getfield 25, 3) := by decide +kernel
theorem dX12_findOffer_42 : decode cX12_findOffer 42 = .ok (.iconst 0, 1) := by decide +kernel
theorem dX12_findOffer_43 : decode cX12_findOffer 43 = .ok (.iaload, 1) := by decide +kernel
theorem dX12_findOffer_44 : decode cX12_findOffer 44 = .ok (.iastore, 1) := by decide +kernel
theorem dX12_findOffer_45 : decode cX12_findOffer 45 = .ok (.aload_n 0, 1) := by decide +kernel
theorem dX12_findOffer_46 : decode cX12_findOffer 46 = .ok (.getfield 55, 3) := by decide +kernel
theorem dX12_findOffer_49 : decode cX12_findOffer 49 = .ok (.iload_n 1, 1) := by decide +kernel
theorem dX12_findOffer_50 : decode cX12_findOffer 50 = .ok (.bipush (-9), 2) := by decide +kernel
theorem dX12_findOffer_52 : decode cX12_findOffer 52 = .ok (.iastore, 1) := by decide +kernel
theorem dX12_findOffer_53 : decode cX12_findOffer 53 = .ok (.aload_n 0, 1) := by decide +kernel
theorem dX12_findOffer_54 : decode cX12_findOffer 54 = .ok (.getfield 13, 3) := by decide +kernel
theorem dX12_findOffer_57 : decode cX12_findOffer 57 = .ok (.iload_n 1, 1) := by decide +kernel
theorem dX12_findOffer_58 : decode cX12_findOffer 58 = .ok (.iaload, 1) := by decide +kernel
theorem dX12_findOffer_59 : decode cX12_findOffer 59 = .ok (.invokestatic 182, 3) := by decide +kernel
theorem dX12_findOffer_62 : decode cX12_findOffer 62 = .ok (.ifCond .eq 75, 3) := by decide +kernel
theorem dX12_findOffer_65 : decode cX12_findOffer 65 = .ok (.aload_n 0, 1) := by decide +kernel
theorem dX12_findOffer_66 : decode cX12_findOffer 66 = .ok (.getfield 55, 3) := by decide +kernel
theorem dX12_findOffer_69 : decode cX12_findOffer 69 = .ok (.iload_n 1, 1) := by decide +kernel
theorem dX12_findOffer_70 : decode cX12_findOffer 70 = .ok (.aload_n 0, 1) := by decide +kernel
theorem dX12_findOffer_71 : decode cX12_findOffer 71 = .ok (.iload_n 1, 1) := by decide +kernel
theorem dX12_findOffer_72 : decode cX12_findOffer 72 = .ok (.invokevirtual 185, 3) := by decide +kernel
theorem dX12_findOffer_75 : decode cX12_findOffer 75 = .ok (.iastore, 1) := by decide +kernel
theorem dX12_findOffer_76 : decode cX12_findOffer 76 = .ok (.iload_n 1, 1) := by decide +kernel
theorem dX12_findOffer_77 : decode cX12_findOffer 77 = .ok (.iconst 1, 1) := by decide +kernel
theorem dX12_findOffer_78 : decode cX12_findOffer 78 = .ok (.iadd, 1) := by decide +kernel
theorem dX12_findOffer_79 : decode cX12_findOffer 79 = .ok (.istore_n 2, 1) := by decide +kernel
theorem dX12_findOffer_80 : decode cX12_findOffer 80 = .ok (.iload_n 2, 1) := by decide +kernel
theorem dX12_findOffer_81 : decode cX12_findOffer 81 = .ok (.aload_n 0, 1) := by decide +kernel
theorem dX12_findOffer_82 : decode cX12_findOffer 82 = .ok (.getfield 82, 3) := by decide +kernel
theorem dX12_findOffer_85 : decode cX12_findOffer 85 = .ok (.if_icmp .ge 49, 3) := by decide +kernel
theorem dX12_findOffer_88 : decode cX12_findOffer 88 = .ok (.aload_n 0, 1) := by decide +kernel
theorem dX12_findOffer_89 : decode cX12_findOffer 89 = .ok (.getfield 55, 3) := by decide +kernel
theorem dX12_findOffer_92 : decode cX12_findOffer 92 = .ok (.iload_n 1, 1) := by decide +kernel
theorem dX12_findOffer_93 : decode cX12_findOffer 93 = .ok (.iaload, 1) := by decide +kernel
theorem dX12_findOffer_94 : decode cX12_findOffer 94 = .ok (.ifCond .lt 40, 3) := by decide +kernel
theorem dX12_findOffer_97 : decode cX12_findOffer 97 = .ok (.aload_n 0, 1) := by decide +kernel
theorem dX12_findOffer_98 : decode cX12_findOffer 98 = .ok (.getfield 55, 3) := by decide +kernel
theorem dX12_findOffer_101 : decode cX12_findOffer 101 = .ok (.iload_n 1, 1) := by decide +kernel
theorem dX12_findOffer_102 : decode cX12_findOffer 102 = .ok (.iaload, 1) := by decide +kernel
theorem dX12_findOffer_103 : decode cX12_findOffer 103 = .ok (.iload_n 2, 1) := by decide +kernel
theorem dX12_findOffer_104 : decode cX12_findOffer 104 = .ok (.ishr, 1) := by decide +kernel
theorem dX12_findOffer_105 : decode cX12_findOffer 105 = .ok (.iconst 1, 1) := by decide +kernel
theorem dX12_findOffer_106 : decode cX12_findOffer 106 = .ok (.iand, 1) := by decide +kernel
theorem dX12_findOffer_107 : decode cX12_findOffer 107 = .ok (.iconst 1, 1) := by decide +kernel
theorem dX12_findOffer_108 : decode cX12_findOffer 108 = .ok (.if_icmp .ne 20, 3) := by decide +kernel
theorem dX12_findOffer_111 : decode cX12_findOffer 111 = .ok (.aload_n 0, 1) := by decide +kernel
theorem dX12_findOffer_112 : decode cX12_findOffer 112 = .ok (.iload_n 1, 1) := by decide +kernel
theorem dX12_findOffer_113 : decode cX12_findOffer 113 = .ok (.iload_n 2, 1) := by decide +kernel
theorem dX12_findOffer_114 : decode cX12_findOffer 114 = .ok (.aload_n 0, 1) := by decide +kernel
theorem dX12_findOffer_115 : decode cX12_findOffer 115 = .ok (.getfield 43, 3) := by decide +kernel
theorem dX12_findOffer_118 : decode cX12_findOffer 118 = .ok (.bipush 9, 2) := by decide +kernel
theorem dX12_findOffer_120 : decode cX12_findOffer 120 = .ok (.iload_n 1, 1) := by decide +kernel
theorem dX12_findOffer_121 : decode cX12_findOffer 121 = .ok (.imul, 1) := by decide +kernel
theorem dX12_findOffer_122 : decode cX12_findOffer 122 = .ok (.iload_n 2, 1) := by decide +kernel
theorem dX12_findOffer_123 : decode cX12_findOffer 123 = .ok (.iadd, 1) := by decide +kernel
theorem dX12_findOffer_124 : decode cX12_findOffer 124 = .ok (.iaload, 1) := by decide +kernel
theorem dX12_findOffer_125 : decode cX12_findOffer 125 = .ok (.invokevirtual 178, 3) := by decide +kernel
theorem dX12_findOffer_128 : decode cX12_findOffer 128 = .ok (.iinc 2 1, 3) := by decide +kernel
theorem dX12_findOffer_131 : decode cX12_findOffer 131 = .ok (.goto (-51), 3) := by decide +kernel
theorem dX12_findOffer_134 : decode cX12_findOffer 134 = .ok (.goto 74, 3) := by decide +kernel
theorem dX12_findOffer_137 : decode cX12_findOffer 137 = .ok (.aload_n 0, 1) := by decide +kernel
theorem dX12_findOffer_138 : decode cX12_findOffer 138 = .ok (.getfield 13, 3) := by decide +kernel
theorem dX12_findOffer_141 : decode cX12_findOffer 141 = .ok (.iload_n 1, 1) := by decide +kernel
theorem dX12_findOffer_142 : decode cX12_findOffer 142 = .ok (.iaload, 1) := by decide +kernel
theorem dX12_findOffer_143 : decode cX12_findOffer 143 = .ok (.iconst 3, 1) := by decide +kernel
theorem dX12_findOffer_144 : decode cX12_findOffer 144 = .ok (.if_icmp .ne 43, 3) := by decide +kernel
theorem dX12_findOffer_147 : decode cX12_findOffer 147 = .ok (.iload_n 1, 1) := by decide +kernel
theorem dX12_findOffer_148 : decode cX12_findOffer 148 = .ok (.iconst 1, 1) := by decide +kernel
theorem dX12_findOffer_149 : decode cX12_findOffer 149 = .ok (.iadd, 1) := by decide +kernel
theorem dX12_findOffer_150 : decode cX12_findOffer 150 = .ok (.istore_n 2, 1) := by decide +kernel
theorem dX12_findOffer_151 : decode cX12_findOffer 151 = .ok (.iload_n 2, 1) := by decide +kernel
theorem dX12_findOffer_152 : decode cX12_findOffer 152 = .ok (.aload_n 0, 1) := by decide +kernel
theorem dX12_findOffer_153 : decode cX12_findOffer 153 = .ok (.getfield 82, 3) := by decide +kernel
theorem dX12_findOffer_156 : decode cX12_findOffer 156 = .ok (.if_icmp .ge 28, 3) := by decide +kernel
theorem dX12_findOffer_159 : decode cX12_findOffer 159 = .ok (.aload_n 0, 1) := by decide +kernel
theorem dX12_findOffer_160 : decode cX12_findOffer 160 = .ok (.iload_n 1, 1) := by decide +kernel
theorem dX12_findOffer_161 : decode cX12_findOffer 161 = .ok (.iload_n 2, 1) := by decide +kernel
theorem dX12_findOffer_162 : decode cX12_findOffer 162 = .ok (.aload_n 0, 1) := by decide +kernel
theorem dX12_findOffer_163 : decode cX12_findOffer 163 = .ok (.getfield 25, 3) := by decide +kernel
theorem dX12_findOffer_166 : decode cX12_findOffer 166 = .ok (.iconst 0, 1) := by decide +kernel
theorem dX12_findOffer_167 : decode cX12_findOffer 167 = .ok (.iaload, 1) := by decide +kernel
theorem dX12_findOffer_168 : decode cX12_findOffer 168 = .ok (.aload_n 0, 1) := by decide +kernel
theorem dX12_findOffer_169 : decode cX12_findOffer 169 = .ok (.getfield 82, 3) := by decide +kernel
theorem dX12_findOffer_172 : decode cX12_findOffer 172 = .ok (.iload_n 1, 1) := by decide +kernel
theorem dX12_findOffer_173 : decode cX12_findOffer 173 = .ok (.isub, 1) := by decide +kernel
theorem dX12_findOffer_174 : decode cX12_findOffer 174 = .ok (.idiv, 1) := by decide +kernel
theorem dX12_findOffer_175 : decode cX12_findOffer 175 = .ok (.invokevirtual 178, 3) := by decide +kernel
theorem dX12_findOffer_178 : decode cX12_findOffer 178 = .ok (.iinc 2 1, 3) := by decide +kernel
theorem dX12_findOffer_181 : decode cX12_findOffer 181 = .ok (.goto (-30), 3) := by decide +kernel
theorem dX12_findOffer_184 : decode cX12_findOffer 184 = .ok (.goto 24, 3) := by decide +kernel
theorem dX12_findOffer_187 : decode cX12_findOffer 187 = .ok (.aload_n 0, 1) := by decide +kernel
theorem dX12_findOffer_188 : decode cX12_findOffer 188 = .ok (.iload_n 1, 1) := by decide +kernel
theorem dX12_findOffer_189 : decode cX12_findOffer 189 = .ok (.aload_n 0, 1) := by decide +kernel
theorem dX12_findOffer_190 : decode cX12_findOffer 190 = .ok (.getfield 13, 3) := by decide +kernel
theorem dX12_findOffer_193 : decode cX12_findOffer 193 = .ok (.iload_n 1, 1) := by decide +kernel
theorem dX12_findOffer_194 : decode cX12_findOffer 194 = .ok (.iaload, 1) := by decide +kernel
theorem dX12_findOffer_195 : decode cX12_findOffer 195 = .ok (.bipush 6, 2) := by decide +kernel
theorem dX12_findOffer_197 : decode cX12_findOffer 197 = .ok (.if_icmp .ne 7, 3) := by decide +kernel
theorem dX12_findOffer_200 : decode cX12_findOffer 200 = .ok (.iconst 1, 1) := by decide +kernel
theorem dX12_findOffer_201 : decode cX12_findOffer 201 = .ok (.goto 4, 3) := by decide +kernel
theorem dX12_findOffer_204 : decode cX12_findOffer 204 = .ok (.iconst 0, 1) := by decide +kernel
theorem dX12_findOffer_205 : decode cX12_findOffer 205 = .ok (.invokevirtual 188, 3) := by decide +kernel
theorem dX12_findOffer_208 : decode cX12_findOffer 208 = .ok (.return_, 1) := by decide +kernel
theorem dX12_solves_0 : decode cX12_solves 0 = .ok (.iload_n 1, 1) := by decide +kernel
theorem dX12_solves_1 : decode cX12_solves 1 = .ok (.iconst 1, 1) := by decide +kernel
theorem dX12_solves_2 : decode cX12_solves 2 = .ok (.iadd, 1) := by decide +kernel
theorem dX12_solves_3 : decode cX12_solves 3 = .ok (.istore_n 2, 1) := by decide +kernel
theorem dX12_solves_4 : decode cX12_solves 4 = .ok (.iload_n 2, 1) := by decide +kernel
theorem dX12_solves_5 : decode cX12_solves 5 = .ok (.aload_n 0, 1) := by decide +kernel
theorem dX12_solves_6 : decode cX12_solves 6 = .ok (.getfield 82, 3) := by decide +kernel
theorem dX12_solves_9 : decode cX12_solves 9 = .ok (.if_icmp .ge 38, 3) := by decide +kernel
theorem dX12_solves_12 : decode cX12_solves 12 = .ok (.aload_n 0, 1) := by decide +kernel
theorem dX12_solves_13 : decode cX12_solves 13 = .ok (.getfield 43, 3) := by decide +kernel
theorem dX12_solves_16 : decode cX12_solves 16 = .ok (.bipush 9, 2) := by decide +kernel
theorem dX12_solves_18 : decode cX12_solves 18 = .ok (.iload_n 1, 1) := by decide +kernel
theorem dX12_solves_19 : decode cX12_solves 19 = .ok (.imul, 1) := by decide +kernel
theorem dX12_solves_20 : decode cX12_solves 20 = .ok (.iload_n 2, 1) := by decide +kernel
theorem dX12_solves_21 : decode cX12_solves 21 = .ok (.iadd, 1) := by decide +kernel
theorem dX12_solves_22 : decode cX12_solves 22 = .ok (.aload_n 0, 1) := by decide +kernel
theorem dX12_solves_23 : decode cX12_solves 23 = .ok (.iload_n 2, 1) := by decide +kernel
theorem dX12_solves_24 : decode cX12_solves 24 = .ok (.aload_n 0, 1) := by decide +kernel
theorem dX12_solves_25 : decode cX12_solves 25 = .ok (.getfield 49, 3) := by decide +kernel
theorem dX12_solves_28 : decode cX12_solves 28 = .ok (.bipush 9, 2) := by decide +kernel
theorem dX12_solves_30 : decode cX12_solves 30 = .ok (.iload_n 1, 1) := by decide +kernel
theorem dX12_solves_31 : decode cX12_solves 31 = .ok (.iconst 1, 1) := by decide +kernel
theorem dX12_solves_32 : decode cX12_solves 32 = .ok (.iadd, 1) := by decide +kernel
theorem dX12_solves_33 : decode cX12_solves 33 = .ok (.imul, 1) := by decide +kernel
theorem dX12_solves_34 : decode cX12_solves 34 = .ok (.iload_n 2, 1) := by decide +kernel
theorem dX12_solves_35 : decode cX12_solves 35 = .ok (.iadd, 1) := by decide +kernel
theorem dX12_solves_36 : decode cX12_solves 36 = .ok (.iaload, 1) := by decide +kernel
theorem dX12_solves_37 : decode cX12_solves 37 = .ok (.invokevirtual 191, 3) := by decide +kernel
theorem dX12_solves_40 : decode cX12_solves 40 = .ok (.iastore, 1) := by decide +kernel
theorem dX12_solves_41 : decode cX12_solves 41 = .ok (.iinc 2 1, 3) := by decide +kernel
theorem dX12_solves_44 : decode cX12_solves 44 = .ok (.goto (-40), 3) := by decide +kernel
theorem dX12_solves_47 : decode cX12_solves 47 = .ok (.aload_n 0, 1) := by decide +kernel
theorem dX12_solves_48 : decode cX12_solves 48 = .ok (.iload_n 1, 1) := by decide +kernel
theorem dX12_solves_49 : decode cX12_solves 49 = .ok (.invokevirtual 194, 3) := by decide +kernel
theorem dX12_solves_52 : decode cX12_solves 52 = .ok (.aload_n 0, 1) := by decide +kernel
theorem dX12_solves_53 : decode cX12_solves 53 = .ok (.getfield 52, 3) := by decide +kernel
theorem dX12_solves_56 : decode cX12_solves 56 = .ok (.iload_n 1, 1) := by decide +kernel
theorem dX12_solves_57 : decode cX12_solves 57 = .ok (.iconst 1, 1) := by decide +kernel
theorem dX12_solves_58 : decode cX12_solves 58 = .ok (.iload_n 1, 1) := by decide +kernel
theorem dX12_solves_59 : decode cX12_solves 59 = .ok (.ishl, 1) := by decide +kernel
theorem dX12_solves_60 : decode cX12_solves 60 = .ok (.iastore, 1) := by decide +kernel
theorem dX12_solves_61 : decode cX12_solves 61 = .ok (.iload_n 1, 1) := by decide +kernel
theorem dX12_solves_62 : decode cX12_solves 62 = .ok (.iconst 1, 1) := by decide +kernel
theorem dX12_solves_63 : decode cX12_solves 63 = .ok (.iadd, 1) := by decide +kernel
theorem dX12_solves_64 : decode cX12_solves 64 = .ok (.istore_n 2, 1) := by decide +kernel
theorem dX12_solves_65 : decode cX12_solves 65 = .ok (.iload_n 2, 1) := by decide +kernel
theorem dX12_solves_66 : decode cX12_solves 66 = .ok (.aload_n 0, 1) := by decide +kernel
theorem dX12_solves_67 : decode cX12_solves 67 = .ok (.getfield 82, 3) := by decide +kernel
theorem dX12_solves_70 : decode cX12_solves 70 = .ok (.if_icmp .ge 50, 3) := by decide +kernel
theorem dX12_solves_73 : decode cX12_solves 73 = .ok (.aload_n 0, 1) := by decide +kernel
theorem dX12_solves_74 : decode cX12_solves 74 = .ok (.getfield 52, 3) := by decide +kernel
theorem dX12_solves_77 : decode cX12_solves 77 = .ok (.iload_n 1, 1) := by decide +kernel
theorem dX12_solves_78 : decode cX12_solves 78 = .ok (.dup2, 1) := by decide +kernel
theorem dX12_solves_79 : decode cX12_solves 79 = .ok (.iaload, 1) := by decide +kernel
theorem dX12_solves_80 : decode cX12_solves 80 = .ok (.aload_n 0, 1) := by decide +kernel
theorem dX12_solves_81 : decode cX12_solves 81 = .ok (.getfield 46, 3) := by decide +kernel
theorem dX12_solves_84 : decode cX12_solves 84 = .ok (.bipush 9, 2) := by decide +kernel
theorem dX12_solves_86 : decode cX12_solves 86 = .ok (.iload_n 1, 1) := by decide +kernel
theorem dX12_solves_87 : decode cX12_solves 87 = .ok (.imul, 1) := by decide +kernel
theorem dX12_solves_88 : decode cX12_solves 88 = .ok (.iload_n 2, 1) := by decide +kernel
theorem dX12_solves_89 : decode cX12_solves 89 = .ok (.iadd, 1) := by decide +kernel
theorem dX12_solves_90 : decode cX12_solves 90 = .ok (.iaload, 1) := by decide +kernel
theorem dX12_solves_91 : decode cX12_solves 91 = .ok (.aload_n 0, 1) := by decide +kernel
theorem dX12_solves_92 : decode cX12_solves 92 = .ok (.getfield 43, 3) := by decide +kernel
theorem dX12_solves_95 : decode cX12_solves 95 = .ok (.bipush 9, 2) := by decide +kernel
theorem dX12_solves_97 : decode cX12_solves 97 = .ok (.iload_n 1, 1) := by decide +kernel
theorem dX12_solves_98 : decode cX12_solves 98 = .ok (.imul, 1) := by decide +kernel
theorem dX12_solves_99 : decode cX12_solves 99 = .ok (.iload_n 2, 1) := by decide +kernel
theorem dX12_solves_100 : decode cX12_solves 100 = .ok (.iadd, 1) := by decide +kernel
theorem dX12_solves_101 : decode cX12_solves 101 = .ok (.iaload, 1) := by decide +kernel
theorem dX12_solves_102 : decode cX12_solves 102 = .ok (.if_icmp .lt 9, 3) := by decide +kernel
theorem dX12_solves_105 : decode cX12_solves 105 = .ok (.iconst 1, 1) := by decide +kernel
theorem dX12_solves_106 : decode cX12_solves 106 = .ok (.iload_n 2, 1) := by decide +kernel
theorem dX12_solves_107 : decode cX12_solves 107 = .ok (.ishl, 1) := by decide +kernel
theorem dX12_solves_108 : decode cX12_solves 108 = .ok (.goto 4, 3) := by decide +kernel
theorem dX12_solves_111 : decode cX12_solves 111 = .ok (.iconst 0, 1) := by decide +kernel
theorem dX12_solves_112 : decode cX12_solves 112 = .ok (.ior, 1) := by decide +kernel
theorem dX12_solves_113 : decode cX12_solves 113 = .ok (.iastore, 1) := by decide +kernel
theorem dX12_solves_114 : decode cX12_solves 114 = .ok (.iinc 2 1, 3) := by decide +kernel
theorem dX12_solves_117 : decode cX12_solves 117 = .ok (.goto (-52), 3) := by decide +kernel
theorem dX12_solves_120 : decode cX12_solves 120 = .ok (.aload_n 0, 1) := by decide +kernel
theorem dX12_solves_121 : decode cX12_solves 121 = .ok (.getfield 61, 3) := by decide +kernel
theorem dX12_solves_124 : decode cX12_solves 124 = .ok (.iload_n 1, 1) := by decide +kernel
theorem dX12_solves_125 : decode cX12_solves 125 = .ok (.aload_n 0, 1) := by decide +kernel
theorem dX12_solves_126 : decode cX12_solves 126 = .ok (.getfield 25, 3) := by decide +kernel
theorem dX12_solves_129 : decode cX12_solves 129 = .ok (.iconst 1, 1) := by decide +kernel
theorem dX12_solves_130 : decode cX12_solves 130 = .ok (.iaload, 1) := by decide +kernel
theorem dX12_solves_131 : decode cX12_solves 131 = .ok (.aload_n 0, 1) := by decide +kernel
theorem dX12_solves_132 : decode cX12_solves 132 = .ok (.aload_n 0, 1) := by decide +kernel
theorem dX12_solves_133 : decode cX12_solves 133 = .ok (.getfield 52, 3) := by decide +kernel
theorem dX12_solves_136 : decode cX12_solves 136 = .ok (.iload_n 1, 1) := by decide +kernel
theorem dX12_solves_137 : decode cX12_solves 137 = .ok (.iaload, 1) := by decide +kernel
theorem dX12_solves_138 : decode cX12_solves 138 = .ok (.invokevirtual 165, 3) := by decide +kernel
theorem dX12_solves_141 : decode cX12_solves 141 = .ok (.aload_n 0, 1) := by decide +kernel
theorem dX12_solves_142 : decode cX12_solves 142 = .ok (.aload_n 0, 1) := by decide +kernel
theorem dX12_solves_143 : decode cX12_solves 143 = .ok (.iload_n 1, 1) := by decide +kernel
theorem dX12_solves_144 : decode cX12_solves 144 = .ok (.invokevirtual 159, 3) := by decide +kernel
theorem dX12_solves_147 : decode cX12_solves 147 = .ok (.invokevirtual 165, 3) := by decide +kernel
theorem dX12_solves_150 : decode cX12_solves 150 = .ok (.invokestatic 168, 3) := by decide +kernel
theorem dX12_solves_153 : decode cX12_solves 153 = .ok (.ifCond .eq 7, 3) := by decide +kernel
theorem dX12_solves_156 : decode cX12_solves 156 = .ok (.iconst 1, 1) := by decide +kernel
theorem dX12_solves_157 : decode cX12_solves 157 = .ok (.goto 4, 3) := by decide +kernel
theorem dX12_solves_160 : decode cX12_solves 160 = .ok (.iconst 0, 1) := by decide +kernel
theorem dX12_solves_161 : decode cX12_solves 161 = .ok (.iastore, 1) := by decide +kernel
theorem dX12_solves_162 : decode cX12_solves 162 = .ok (.aload_n 0, 1) := by decide +kernel
theorem dX12_solves_163 : decode cX12_solves 163 = .ok (.getfield 58, 3) := by decide +kernel
theorem dX12_solves_166 : decode cX12_solves 166 = .ok (.iload_n 1, 1) := by decide +kernel
theorem dX12_solves_167 : decode cX12_solves 167 = .ok (.aload_n 0, 1) := by decide +kernel
theorem dX12_solves_168 : decode cX12_solves 168 = .ok (.getfield 61, 3) := by decide +kernel
theorem dX12_solves_171 : decode cX12_solves 171 = .ok (.iload_n 1, 1) := by decide +kernel
theorem dX12_solves_172 : decode cX12_solves 172 = .ok (.iaload, 1) := by decide +kernel
theorem dX12_solves_173 : decode cX12_solves 173 = .ok (.iconst 1, 1) := by decide +kernel
theorem dX12_solves_174 : decode cX12_solves 174 = .ok (.if_icmp .ne 7, 3) := by decide +kernel
theorem dX12_solves_177 : decode cX12_solves 177 = .ok (.iload_n 1, 1) := by decide +kernel
theorem dX12_solves_178 : decode cX12_solves 178 = .ok (.goto 11, 3) := by decide +kernel
theorem dX12_solves_181 : decode cX12_solves 181 = .ok (.aload_n 0, 1) := by decide +kernel
theorem dX12_solves_182 : decode cX12_solves 182 = .ok (.getfield 58, 3) := by decide +kernel
theorem dX12_solves_185 : decode cX12_solves 185 = .ok (.iload_n 1, 1) := by decide +kernel
theorem dX12_solves_186 : decode cX12_solves 186 = .ok (.iconst 1, 1) := by decide +kernel
theorem dX12_solves_187 : decode cX12_solves 187 = .ok (.iadd, 1) := by decide +kernel
theorem dX12_solves_188 : decode cX12_solves 188 = .ok (.iaload, 1) := by decide +kernel
theorem dX12_solves_189 : decode cX12_solves 189 = .ok (.iastore, 1) := by decide +kernel
theorem dX12_solves_190 : decode cX12_solves 190 = .ok (.iload_n 1, 1) := by decide +kernel
theorem dX12_solves_191 : decode cX12_solves 191 = .ok (.istore_n 2, 1) := by decide +kernel
theorem dX12_solves_192 : decode cX12_solves 192 = .ok (.iload_n 2, 1) := by decide +kernel
theorem dX12_solves_193 : decode cX12_solves 193 = .ok (.aload_n 0, 1) := by decide +kernel
theorem dX12_solves_194 : decode cX12_solves 194 = .ok (.getfield 82, 3) := by decide +kernel
theorem dX12_solves_197 : decode cX12_solves 197 = .ok (.if_icmp .ge 66, 3) := by decide +kernel
theorem dX12_solves_200 : decode cX12_solves 200 = .ok (.aload_n 0, 1) := by decide +kernel
theorem dX12_solves_201 : decode cX12_solves 201 = .ok (.getfield 49, 3) := by decide +kernel
theorem dX12_solves_204 : decode cX12_solves 204 = .ok (.bipush 9, 2) := by decide +kernel
theorem dX12_solves_206 : decode cX12_solves 206 = .ok (.iload_n 1, 1) := by decide +kernel
theorem dX12_solves_207 : decode cX12_solves 207 = .ok (.imul, 1) := by decide +kernel
theorem dX12_solves_208 : decode cX12_solves 208 = .ok (.iload_n 2, 1) := by decide +kernel
theorem dX12_solves_209 : decode cX12_solves 209 = .ok (.iadd, 1) := by decide +kernel
theorem dX12_solves_210 : decode cX12_solves 210 = .ok (.aload_n 0, 1) := by decide +kernel
theorem dX12_solves_211 : decode cX12_solves 211 = .ok (.getfield 61, 3) := by decide +kernel
theorem dX12_solves_214 : decode cX12_solves 214 = .ok (.iload_n 1, 1) := by decide +kernel
theorem dX12_solves_215 : decode cX12_solves 215 = .ok (.iaload, 1) := by decide +kernel
theorem dX12_solves_216 : decode cX12_solves 216 = .ok (.iconst 1, 1) := by decide +kernel
theorem dX12_solves_217 : decode cX12_solves 217 = .ok (.if_icmp .ne 17, 3) := by decide +kernel
theorem dX12_solves_220 : decode cX12_solves 220 = .ok (.aload_n 0, 1) := by decide +kernel
theorem dX12_solves_221 : decode cX12_solves 221 = .ok (.getfield 46, 3) := by decide +kernel
theorem dX12_solves_224 : decode cX12_solves 224 = .ok (.bipush 9, 2) := by decide +kernel
theorem dX12_solves_226 : decode cX12_solves 226 = .ok (.iload_n 1, 1) := by decide +kernel
theorem dX12_solves_227 : decode cX12_solves 227 = .ok (.imul, 1) := by decide +kernel
theorem dX12_solves_228 : decode cX12_solves 228 = .ok (.iload_n 2, 1) := by decide +kernel
theorem dX12_solves_229 : decode cX12_solves 229 = .ok (.iadd, 1) := by decide +kernel
theorem dX12_solves_230 : decode cX12_solves 230 = .ok (.iaload, 1) := by decide +kernel
theorem dX12_solves_231 : decode cX12_solves 231 = .ok (.goto 25, 3) := by decide +kernel
theorem dX12_solves_234 : decode cX12_solves 234 = .ok (.iload_n 2, 1) := by decide +kernel
theorem dX12_solves_235 : decode cX12_solves 235 = .ok (.iload_n 1, 1) := by decide +kernel
theorem dX12_solves_236 : decode cX12_solves 236 = .ok (.if_icmp .ne 7, 3) := by decide +kernel
theorem dX12_solves_239 : decode cX12_solves 239 = .ok (.iconst (-1), 1) := by decide +kernel
theorem dX12_solves_240 : decode cX12_solves 240 = .ok (.goto 16, 3) := by decide +kernel
theorem dX12_solves_243 : decode cX12_solves 243 = .ok (.aload_n 0, 1) := by decide +kernel
theorem dX12_solves_244 : decode cX12_solves 244 = .ok (.getfield 49, 3) := by decide +kernel
theorem dX12_solves_247 : decode cX12_solves 247 = .ok (.bipush 9, 2) := by decide +kernel
theorem dX12_solves_249 : decode cX12_solves 249 = .ok (.iload_n 1, 1) := by decide +kernel
theorem dX12_solves_250 : decode cX12_solves 250 = .ok (.iconst 1, 1) := by decide +kernel
theorem dX12_solves_251 : decode cX12_solves 251 = .ok (.iadd, 1) := by decide +kernel
theorem dX12_solves_252 : decode cX12_solves 252 = .ok (.imul, 1) := by decide +kernel
theorem dX12_solves_253 : decode cX12_solves 253 = .ok (.iload_n 2, 1) := by decide +kernel
theorem dX12_solves_254 : decode cX12_solves 254 = .ok (.iadd, 1) := by decide +kernel
theorem dX12_solves_255 : decode cX12_solves 255 = .ok (.iaload, 1) := by decide +kernel
theorem dX12_solves_256 : decode cX12_solves 256 = .ok (.iastore, 1) := by decide +kernel
theorem dX12_solves_257 : decode cX12_solves 257 = .ok (.iinc 2 1, 3) := by decide +kernel
theorem dX12_solves_260 : decode cX12_solves 260 = .ok (.goto (-68), 3) := by decide +kernel
theorem dX12_solves_263 : decode cX12_solves 263 = .ok (.return_, 1) := by decide +kernel
theorem dX12_solvesAll_0 : decode cX12_solvesAll 0 = .ok (.aload_n 0, 1) := by decide +kernel
theorem dX12_solvesAll_1 : decode cX12_solvesAll 1 = .ok (.getfield 82, 3) := by decide +kernel
theorem dX12_solvesAll_4 : decode cX12_solvesAll 4 = .ok (.iconst 1, 1) := by decide +kernel
theorem dX12_solvesAll_5 : decode cX12_solvesAll 5 = .ok (.isub, 1) := by decide +kernel
theorem dX12_solvesAll_6 : decode cX12_solvesAll 6 = .ok (.istore_n 1, 1) := by decide +kernel
theorem dX12_solvesAll_7 : decode cX12_solvesAll 7 = .ok (.iload_n 1, 1) := by decide +kernel
theorem dX12_solvesAll_8 : decode cX12_solvesAll 8 = .ok (.ifCond .lt 14, 3) := by decide +kernel
theorem dX12_solvesAll_11 : decode cX12_solvesAll 11 = .ok (.aload_n 0, 1) := by decide +kernel
theorem dX12_solvesAll_12 : decode cX12_solvesAll 12 = .ok (.iload_n 1, 1) := by decide +kernel
theorem dX12_solvesAll_13 : decode cX12_solvesAll 13 = .ok (.invokevirtual 198, 3) := by decide +kernel
theorem dX12_solvesAll_16 : decode cX12_solvesAll 16 = .ok (.iinc 1 (-1), 3) := by decide +kernel
theorem dX12_solvesAll_19 : decode cX12_solvesAll 19 = .ok (.goto (-12), 3) := by decide +kernel
theorem dX12_solvesAll_22 : decode cX12_solvesAll 22 = .ok (.return_, 1) := by decide +kernel
theorem dX12_areInOrder_0 : decode cX12_areInOrder 0 = .ok (.aload_n 0, 1) := by decide +kernel
theorem dX12_areInOrder_1 : decode cX12_areInOrder 1 = .ok (.iload_n 1, 1) := by decide +kernel
theorem dX12_areInOrder_2 : decode cX12_areInOrder 2 = .ok (.invokevirtual 150, 3) := by decide +kernel
theorem dX12_areInOrder_5 : decode cX12_areInOrder 5 = .ok (.ifCond .eq 20, 3) := by decide +kernel
theorem dX12_areInOrder_8 : decode cX12_areInOrder 8 = .ok (.aload_n 0, 1) := by decide +kernel
theorem dX12_areInOrder_9 : decode cX12_areInOrder 9 = .ok (.iload_n 2, 1) := by decide +kernel
theorem dX12_areInOrder_10 : decode cX12_areInOrder 10 = .ok (.invokevirtual 150, 3) := by decide +kernel
theorem dX12_areInOrder_13 : decode cX12_areInOrder 13 = .ok (.ifCond .eq 12, 3) := by decide +kernel
theorem dX12_areInOrder_16 : decode cX12_areInOrder 16 = .ok (.iload_n 2, 1) := by decide +kernel
theorem dX12_areInOrder_17 : decode cX12_areInOrder 17 = .ok (.iload_n 1, 1) := by decide +kernel
theorem dX12_areInOrder_18 : decode cX12_areInOrder 18 = .ok (.if_icmp .lt 7, 3) := by decide +kernel
theorem dX12_areInOrder_21 : decode cX12_areInOrder 21 = .ok (.iconst 1, 1) := by decide +kernel
theorem dX12_areInOrder_22 : decode cX12_areInOrder 22 = .ok (.goto 4, 3) := by decide +kernel
theorem dX12_areInOrder_25 : decode cX12_areInOrder 25 = .ok (.iconst 0, 1) := by decide +kernel
theorem dX12_areInOrder_26 : decode cX12_areInOrder 26 = .ok (.ireturn, 1) := by decide +kernel
theorem dX12_offered_0 : decode cX12_offered 0 = .ok (.aload_n 0, 1) := by decide +kernel
theorem dX12_offered_1 : decode cX12_offered 1 = .ok (.iload_n 1, 1) := by decide +kernel
theorem dX12_offered_2 : decode cX12_offered 2 = .ok (.iload_n 2, 1) := by decide +kernel
theorem dX12_offered_3 : decode cX12_offered 3 = .ok (.invokevirtual 201, 3) := by decide +kernel
theorem dX12_offered_6 : decode cX12_offered 6 = .ok (.ifCond .ne 9, 3) := by decide +kernel
theorem dX12_offered_9 : decode cX12_offered 9 = .ok (.aload_n 0, 1) := by decide +kernel
theorem dX12_offered_10 : decode cX12_offered 10 = .ok (.iconst (-1), 1) := by decide +kernel
theorem dX12_offered_11 : decode cX12_offered 11 = .ok (.invokevirtual 93, 3) := by decide +kernel
theorem dX12_offered_14 : decode cX12_offered 14 = .ok (.ireturn, 1) := by decide +kernel
theorem dX12_offered_15 : decode cX12_offered 15 = .ok (.aload_n 0, 1) := by decide +kernel
theorem dX12_offered_16 : decode cX12_offered 16 = .ok (.invokevirtual 204, 3) := by decide +kernel
theorem dX12_offered_19 : decode cX12_offered 19 = .ok (.aload_n 0, 1) := by decide +kernel
theorem dX12_offered_20 : decode cX12_offered 20 = .ok (.getfield 46, 3) := by decide +kernel
theorem dX12_offered_23 : decode cX12_offered 23 = .ok (.bipush 9, 2) := by decide +kernel
theorem dX12_offered_25 : decode cX12_offered 25 = .ok (.iload_n 1, 1) := by decide +kernel
theorem dX12_offered_26 : decode cX12_offered 26 = .ok (.imul, 1) := by decide +kernel
theorem dX12_offered_27 : decode cX12_offered 27 = .ok (.iload_n 2, 1) := by decide +kernel
theorem dX12_offered_28 : decode cX12_offered 28 = .ok (.iadd, 1) := by decide +kernel
theorem dX12_offered_29 : decode cX12_offered 29 = .ok (.iaload, 1) := by decide +kernel
theorem dX12_offered_30 : decode cX12_offered 30 = .ok (.ireturn, 1) := by decide +kernel
theorem dX12_price_0 : decode cX12_price 0 = .ok (.aload_n 0, 1) := by decide +kernel
theorem dX12_price_1 : decode cX12_price 1 = .ok (.iload_n 1, 1) := by decide +kernel
theorem dX12_price_2 : decode cX12_price 2 = .ok (.invokevirtual 150, 3) := by decide +kernel
theorem dX12_price_5 : decode cX12_price 5 = .ok (.ifCond .eq 11, 3) := by decide +kernel
theorem dX12_price_8 : decode cX12_price 8 = .ok (.aload_n 0, 1) := by decide +kernel
theorem dX12_price_9 : decode cX12_price 9 = .ok (.iload_n 2, 1) := by decide +kernel
theorem dX12_price_10 : decode cX12_price 10 = .ok (.invokevirtual 150, 3) := by decide +kernel
theorem dX12_price_13 : decode cX12_price 13 = .ok (.ifCond .ne 9, 3) := by decide +kernel
theorem dX12_price_16 : decode cX12_price 16 = .ok (.aload_n 0, 1) := by decide +kernel
theorem dX12_price_17 : decode cX12_price 17 = .ok (.iconst (-1), 1) := by decide +kernel
theorem dX12_price_18 : decode cX12_price 18 = .ok (.invokevirtual 93, 3) := by decide +kernel
theorem dX12_price_21 : decode cX12_price 21 = .ok (.ireturn, 1) := by decide +kernel
theorem dX12_price_22 : decode cX12_price 22 = .ok (.aload_n 0, 1) := by decide +kernel
theorem dX12_price_23 : decode cX12_price 23 = .ok (.invokevirtual 204, 3) := by decide +kernel
theorem dX12_price_26 : decode cX12_price 26 = .ok (.iload_n 2, 1) := by decide +kernel
theorem dX12_price_27 : decode cX12_price 27 = .ok (.iload_n 1, 1) := by decide +kernel
theorem dX12_price_28 : decode cX12_price 28 = .ok (.if_icmp .gt 8, 3) := by decide +kernel
theorem dX12_price_31 : decode cX12_price 31 = .ok (.bipush (-9), 2) := by decide +kernel
theorem dX12_price_33 : decode cX12_price 33 = .ok (.goto 14, 3) := by decide +kernel
theorem dX12_price_36 : decode cX12_price 36 = .ok (.aload_n 0, 1) := by decide +kernel
theorem dX12_price_37 : decode cX12_price 37 = .ok (.getfield 43, 3) := by decide +kernel
theorem dX12_price_40 : decode cX12_price 40 = .ok (.bipush 9, 2) := by decide +kernel
theorem dX12_price_42 : decode cX12_price 42 = .ok (.iload_n 1, 1) := by decide +kernel
theorem dX12_price_43 : decode cX12_price 43 = .ok (.imul, 1) := by decide +kernel
theorem dX12_price_44 : decode cX12_price 44 = .ok (.iload_n 2, 1) := by decide +kernel
theorem dX12_price_45 : decode cX12_price 45 = .ok (.iadd, 1) := by decide +kernel
theorem dX12_price_46 : decode cX12_price 46 = .ok (.iaload, 1) := by decide +kernel
theorem dX12_price_47 : decode cX12_price 47 = .ok (.ireturn, 1) := by decide +kernel
theorem dX12_votes_0 : decode cX12_votes 0 = .ok (.aload_n 0, 1) := by decide +kernel
theorem dX12_votes_1 : decode cX12_votes 1 = .ok (.iload_n 1, 1) := by decide +kernel
theorem dX12_votes_2 : decode cX12_votes 2 = .ok (.invokevirtual 150, 3) := by decide +kernel
theorem dX12_votes_5 : decode cX12_votes 5 = .ok (.ifCond .ne 9, 3) := by decide +kernel
theorem dX12_votes_8 : decode cX12_votes 8 = .ok (.aload_n 0, 1) := by decide +kernel
theorem dX12_votes_9 : decode cX12_votes 9 = .ok (.iconst (-1), 1) := by decide +kernel
theorem dX12_votes_10 : decode cX12_votes 10 = .ok (.invokevirtual 93, 3) := by decide +kernel
theorem dX12_votes_13 : decode cX12_votes 13 = .ok (.ireturn, 1) := by decide +kernel
theorem dX12_votes_14 : decode cX12_votes 14 = .ok (.aload_n 0, 1) := by decide +kernel
theorem dX12_votes_15 : decode cX12_votes 15 = .ok (.invokevirtual 204, 3) := by decide +kernel
theorem dX12_votes_18 : decode cX12_votes 18 = .ok (.aload_n 0, 1) := by decide +kernel
theorem dX12_votes_19 : decode cX12_votes 19 = .ok (.getfield 52, 3) := by decide +kernel
theorem dX12_votes_22 : decode cX12_votes 22 = .ok (.iload_n 1, 1) := by decide +kernel
theorem dX12_votes_23 : decode cX12_votes 23 = .ok (.iaload, 1) := by decide +kernel
theorem dX12_votes_24 : decode cX12_votes 24 = .ok (.ireturn, 1) := by decide +kernel
theorem dX12_carries_0 : decode cX12_carries 0 = .ok (.aload_n 0, 1) := by decide +kernel
theorem dX12_carries_1 : decode cX12_carries 1 = .ok (.iload_n 1, 1) := by decide +kernel
theorem dX12_carries_2 : decode cX12_carries 2 = .ok (.invokevirtual 150, 3) := by decide +kernel
