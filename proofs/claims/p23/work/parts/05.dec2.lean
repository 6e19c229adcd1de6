theorem dX11_isRowRight_44 : decode cX11_isRowRight 44 = .ok (.istore_n 1, 1) := by decide +kernel
theorem dX11_isRowRight_45 : decode cX11_isRowRight 45 = .ok (.iinc 2 1, 3) := by decide +kernel
theorem dX11_isRowRight_48 : decode cX11_isRowRight 48 = .ok (.goto (-20), 3) := by decide +kernel
theorem dX11_isRowRight_51 : decode cX11_isRowRight 51 = .ok (.iload_n 1, 1) := by decide +kernel
theorem dX11_isRowRight_52 : decode cX11_isRowRight 52 = .ok (.aload_n 0, 1) := by decide +kernel
theorem dX11_isRowRight_53 : decode cX11_isRowRight 53 = .ok (.getfield 77, 3) := by decide +kernel
theorem dX11_isRowRight_56 : decode cX11_isRowRight 56 = .ok (.getfield 130, 3) := by decide +kernel
theorem dX11_isRowRight_59 : decode cX11_isRowRight 59 = .ok (.iconst 0, 1) := by decide +kernel
theorem dX11_isRowRight_60 : decode cX11_isRowRight 60 = .ok (.iaload, 1) := by decide +kernel
theorem dX11_isRowRight_61 : decode cX11_isRowRight 61 = .ok (.if_icmp .ne 7, 3) := by decide +kernel
theorem dX11_isRowRight_64 : decode cX11_isRowRight 64 = .ok (.iconst 1, 1) := by decide +kernel
theorem dX11_isRowRight_65 : decode cX11_isRowRight 65 = .ok (.goto 4, 3) := by decide +kernel
theorem dX11_isRowRight_68 : decode cX11_isRowRight 68 = .ok (.iconst 0, 1) := by decide +kernel
theorem dX11_isRowRight_69 : decode cX11_isRowRight 69 = .ok (.ireturn, 1) := by decide +kernel
theorem dX11_firstOddVote_0 : decode cX11_firstOddVote 0 = .ok (.aload_n 0, 1) := by decide +kernel
theorem dX11_firstOddVote_1 : decode cX11_firstOddVote 1 = .ok (.invokevirtual 133, 3) := by decide +kernel
theorem dX11_firstOddVote_4 : decode cX11_firstOddVote 4 = .ok (.getfield 141, 3) := by decide +kernel
theorem dX11_firstOddVote_7 : decode cX11_firstOddVote 7 = .ok (.aload_n 0, 1) := by decide +kernel
theorem dX11_firstOddVote_8 : decode cX11_firstOddVote 8 = .ok (.getfield 77, 3) := by decide +kernel
theorem dX11_firstOddVote_11 : decode cX11_firstOddVote 11 = .ok (.getfield 170, 3) := by decide +kernel
theorem dX11_firstOddVote_14 : decode cX11_firstOddVote 14 = .ok (.aaload, 1) := by decide +kernel
theorem dX11_firstOddVote_15 : decode cX11_firstOddVote 15 = .ok (.astore_n 2, 1) := by decide +kernel
theorem dX11_firstOddVote_16 : decode cX11_firstOddVote 16 = .ok (.aload_n 0, 1) := by decide +kernel
theorem dX11_firstOddVote_17 : decode cX11_firstOddVote 17 = .ok (.getfield 77, 3) := by decide +kernel
theorem dX11_firstOddVote_20 : decode cX11_firstOddVote 20 = .ok (.getfield 170, 3) := by decide +kernel
theorem dX11_firstOddVote_23 : decode cX11_firstOddVote 23 = .ok (.istore_n 3, 1) := by decide +kernel
theorem dX11_firstOddVote_24 : decode cX11_firstOddVote 24 = .ok (.iload_n 3, 1) := by decide +kernel
theorem dX11_firstOddVote_25 : decode cX11_firstOddVote 25 = .ok (.aload_n 0, 1) := by decide +kernel
theorem dX11_firstOddVote_26 : decode cX11_firstOddVote 26 = .ok (.getfield 77, 3) := by decide +kernel
theorem dX11_firstOddVote_29 : decode cX11_firstOddVote 29 = .ok (.getfield 193, 3) := by decide +kernel
theorem dX11_firstOddVote_32 : decode cX11_firstOddVote 32 = .ok (.if_icmp .ge 73, 3) := by decide +kernel
theorem dX11_firstOddVote_35 : decode cX11_firstOddVote 35 = .ok (.iload_n 3, 1) := by decide +kernel
theorem dX11_firstOddVote_36 : decode cX11_firstOddVote 36 = .ok (.aload_n 0, 1) := by decide +kernel
theorem dX11_firstOddVote_37 : decode cX11_firstOddVote 37 = .ok (.getfield 77, 3) := by decide +kernel
theorem dX11_firstOddVote_40 : decode cX11_firstOddVote 40 = .ok (.getfield 170, 3) := by decide +kernel
theorem dX11_firstOddVote_43 : decode cX11_firstOddVote 43 = .ok (.isub, 1) := by decide +kernel
theorem dX11_firstOddVote_44 : decode cX11_firstOddVote 44 = .ok (.istore 4, 2) := by decide +kernel
theorem dX11_firstOddVote_46 : decode cX11_firstOddVote 46 = .ok (.iload 4, 2) := by decide +kernel
theorem dX11_firstOddVote_48 : decode cX11_firstOddVote 48 = .ok (.ifCond .eq 16, 3) := by decide +kernel
theorem dX11_firstOddVote_51 : decode cX11_firstOddVote 51 = .ok (.aload_n 0, 1) := by decide +kernel
theorem dX11_firstOddVote_52 : decode cX11_firstOddVote 52 = .ok (.getfield 27, 3) := by decide +kernel
theorem dX11_firstOddVote_55 : decode cX11_firstOddVote 55 = .ok (.iload 4, 2) := by decide +kernel
theorem dX11_firstOddVote_57 : decode cX11_firstOddVote 57 = .ok (.iaload, 1) := by decide +kernel
theorem dX11_firstOddVote_58 : decode cX11_firstOddVote 58 = .ok (.aload_n 2, 1) := by decide +kernel
theorem dX11_firstOddVote_59 : decode cX11_firstOddVote 59 = .ok (.iload_n 3, 1) := by decide +kernel
theorem dX11_firstOddVote_60 : decode cX11_firstOddVote 60 = .ok (.iaload, 1) := by decide +kernel
theorem dX11_firstOddVote_61 : decode cX11_firstOddVote 61 = .ok (.if_icmp .lt 7, 3) := by decide +kernel
theorem dX11_firstOddVote_64 : decode cX11_firstOddVote 64 = .ok (.iconst 1, 1) := by decide +kernel
theorem dX11_firstOddVote_65 : decode cX11_firstOddVote 65 = .ok (.goto 4, 3) := by decide +kernel
theorem dX11_firstOddVote_68 : decode cX11_firstOddVote 68 = .ok (.iconst 0, 1) := by decide +kernel
theorem dX11_firstOddVote_69 : decode cX11_firstOddVote 69 = .ok (.istore 5, 2) := by decide +kernel
theorem dX11_firstOddVote_71 : decode cX11_firstOddVote 71 = .ok (.iload_n 1, 1) := by decide +kernel
theorem dX11_firstOddVote_72 : decode cX11_firstOddVote 72 = .ok (.iload_n 3, 1) := by decide +kernel
theorem dX11_firstOddVote_73 : decode cX11_firstOddVote 73 = .ok (.ishr, 1) := by decide +kernel
theorem dX11_firstOddVote_74 : decode cX11_firstOddVote 74 = .ok (.iconst 1, 1) := by decide +kernel
theorem dX11_firstOddVote_75 : decode cX11_firstOddVote 75 = .ok (.iand, 1) := by decide +kernel
theorem dX11_firstOddVote_76 : decode cX11_firstOddVote 76 = .ok (.iconst 1, 1) := by decide +kernel
theorem dX11_firstOddVote_77 : decode cX11_firstOddVote 77 = .ok (.if_icmp .ne 7, 3) := by decide +kernel
theorem dX11_firstOddVote_80 : decode cX11_firstOddVote 80 = .ok (.iconst 1, 1) := by decide +kernel
theorem dX11_firstOddVote_81 : decode cX11_firstOddVote 81 = .ok (.goto 4, 3) := by decide +kernel
theorem dX11_firstOddVote_84 : decode cX11_firstOddVote 84 = .ok (.iconst 0, 1) := by decide +kernel
theorem dX11_firstOddVote_85 : decode cX11_firstOddVote 85 = .ok (.istore 6, 2) := by decide +kernel
theorem dX11_firstOddVote_87 : decode cX11_firstOddVote 87 = .ok (.iload 5, 2) := by decide +kernel
theorem dX11_firstOddVote_89 : decode cX11_firstOddVote 89 = .ok (.iload 6, 2) := by decide +kernel
theorem dX11_firstOddVote_91 : decode cX11_firstOddVote 91 = .ok (.if_icmp .eq 8, 3) := by decide +kernel
theorem dX11_firstOddVote_94 : decode cX11_firstOddVote 94 = .ok (.iload 4, 2) := by decide +kernel
theorem dX11_firstOddVote_96 : decode cX11_firstOddVote 96 = .ok (.iconst 1, 1) := by decide +kernel
theorem dX11_firstOddVote_97 : decode cX11_firstOddVote 97 = .ok (.iadd, 1) := by decide +kernel
theorem dX11_firstOddVote_98 : decode cX11_firstOddVote 98 = .ok (.ireturn, 1) := by decide +kernel
theorem dX11_firstOddVote_99 : decode cX11_firstOddVote 99 = .ok (.iinc 3 1, 3) := by decide +kernel
theorem dX11_firstOddVote_102 : decode cX11_firstOddVote 102 = .ok (.goto (-78), 3) := by decide +kernel
theorem dX11_firstOddVote_105 : decode cX11_firstOddVote 105 = .ok (.bipush (-9), 2) := by decide +kernel
theorem dX11_firstOddVote_107 : decode cX11_firstOddVote 107 = .ok (.ireturn, 1) := by decide +kernel
theorem dX11_orderAsIs_0 : decode cX11_orderAsIs 0 = .ok (.iconst 0, 1) := by decide +kernel
theorem dX11_orderAsIs_1 : decode cX11_orderAsIs 1 = .ok (.istore_n 1, 1) := by decide +kernel
theorem dX11_orderAsIs_2 : decode cX11_orderAsIs 2 = .ok (.iload_n 1, 1) := by decide +kernel
theorem dX11_orderAsIs_3 : decode cX11_orderAsIs 3 = .ok (.aload_n 0, 1) := by decide +kernel
theorem dX11_orderAsIs_4 : decode cX11_orderAsIs 4 = .ok (.getfield 77, 3) := by decide +kernel
theorem dX11_orderAsIs_7 : decode cX11_orderAsIs 7 = .ok (.getfield 193, 3) := by decide +kernel
theorem dX11_orderAsIs_10 : decode cX11_orderAsIs 10 = .ok (.if_icmp .ge 16, 3) := by decide +kernel
theorem dX11_orderAsIs_13 : decode cX11_orderAsIs 13 = .ok (.aload_n 0, 1) := by decide +kernel
theorem dX11_orderAsIs_14 : decode cX11_orderAsIs 14 = .ok (.getfield 23, 3) := by decide +kernel
theorem dX11_orderAsIs_17 : decode cX11_orderAsIs 17 = .ok (.iload_n 1, 1) := by decide +kernel
theorem dX11_orderAsIs_18 : decode cX11_orderAsIs 18 = .ok (.iload_n 1, 1) := by decide +kernel
theorem dX11_orderAsIs_19 : decode cX11_orderAsIs 19 = .ok (.iastore, 1) := by decide +kernel
theorem dX11_orderAsIs_20 : decode cX11_orderAsIs 20 = .ok (.iinc 1 1, 3) := by decide +kernel
theorem dX11_orderAsIs_23 : decode cX11_orderAsIs 23 = .ok (.goto (-21), 3) := by decide +kernel
theorem dX11_orderAsIs_26 : decode cX11_orderAsIs 26 = .ok (.return_, 1) := by decide +kernel
theorem dX11_orderWith_0 : decode cX11_orderWith 0 = .ok (.iconst 0, 1) := by decide +kernel
theorem dX11_orderWith_1 : decode cX11_orderWith 1 = .ok (.istore_n 3, 1) := by decide +kernel
theorem dX11_orderWith_2 : decode cX11_orderWith 2 = .ok (.iconst 0, 1) := by decide +kernel
theorem dX11_orderWith_3 : decode cX11_orderWith 3 = .ok (.istore 4, 2) := by decide +kernel
theorem dX11_orderWith_5 : decode cX11_orderWith 5 = .ok (.iload 4, 2) := by decide +kernel
theorem dX11_orderWith_7 : decode cX11_orderWith 7 = .ok (.aload_n 0, 1) := by decide +kernel
theorem dX11_orderWith_8 : decode cX11_orderWith 8 = .ok (.getfield 77, 3) := by decide +kernel
theorem dX11_orderWith_11 : decode cX11_orderWith 11 = .ok (.getfield 193, 3) := by decide +kernel
theorem dX11_orderWith_14 : decode cX11_orderWith 14 = .ok (.if_icmp .ge 45, 3) := by decide +kernel
theorem dX11_orderWith_17 : decode cX11_orderWith 17 = .ok (.iload 4, 2) := by decide +kernel
theorem dX11_orderWith_19 : decode cX11_orderWith 19 = .ok (.iload_n 2, 1) := by decide +kernel
theorem dX11_orderWith_20 : decode cX11_orderWith 20 = .ok (.if_icmp .ne 14, 3) := by decide +kernel
theorem dX11_orderWith_23 : decode cX11_orderWith 23 = .ok (.aload_n 0, 1) := by decide +kernel
theorem dX11_orderWith_24 : decode cX11_orderWith 24 = .ok (.getfield 23, 3) := by decide +kernel
theorem dX11_orderWith_27 : decode cX11_orderWith 27 = .ok (.iload 4, 2) := by decide +kernel
theorem dX11_orderWith_29 : decode cX11_orderWith 29 = .ok (.iload_n 1, 1) := by decide +kernel
theorem dX11_orderWith_30 : decode cX11_orderWith 30 = .ok (.iastore, 1) := by decide +kernel
theorem dX11_orderWith_31 : decode cX11_orderWith 31 = .ok (.goto 22, 3) := by decide +kernel
theorem dX11_orderWith_34 : decode cX11_orderWith 34 = .ok (.iload_n 3, 1) := by decide +kernel
theorem dX11_orderWith_35 : decode cX11_orderWith 35 = .ok (.iload_n 1, 1) := by decide +kernel
theorem dX11_orderWith_36 : decode cX11_orderWith 36 = .ok (.if_icmp .ne 6, 3) := by decide +kernel
theorem dX11_orderWith_39 : decode cX11_orderWith 39 = .ok (.iinc 3 1, 3) := by decide +kernel
theorem dX11_orderWith_42 : decode cX11_orderWith 42 = .ok (.aload_n 0, 1) := by decide +kernel
theorem dX11_orderWith_43 : decode cX11_orderWith 43 = .ok (.getfield 23, 3) := by decide +kernel
theorem dX11_orderWith_46 : decode cX11_orderWith 46 = .ok (.iload 4, 2) := by decide +kernel
theorem dX11_orderWith_48 : decode cX11_orderWith 48 = .ok (.iload_n 3, 1) := by decide +kernel
theorem dX11_orderWith_49 : decode cX11_orderWith 49 = .ok (.iastore, 1) := by decide +kernel
theorem dX11_orderWith_50 : decode cX11_orderWith 50 = .ok (.iinc 3 1, 3) := by decide +kernel
theorem dX11_orderWith_53 : decode cX11_orderWith 53 = .ok (.iinc 4 1, 3) := by decide +kernel
theorem dX11_orderWith_56 : decode cX11_orderWith 56 = .ok (.goto (-51), 3) := by decide +kernel
theorem dX11_orderWith_59 : decode cX11_orderWith 59 = .ok (.return_, 1) := by decide +kernel
theorem dX11_drawOrder_0 : decode cX11_drawOrder 0 = .ok (.iload_n 1, 1) := by decide +kernel
theorem dX11_drawOrder_1 : decode cX11_drawOrder 1 = .ok (.istore_n 2, 1) := by decide +kernel
theorem dX11_drawOrder_2 : decode cX11_drawOrder 2 = .ok (.aload_n 0, 1) := by decide +kernel
theorem dX11_drawOrder_3 : decode cX11_drawOrder 3 = .ok (.invokevirtual 199, 3) := by decide +kernel
theorem dX11_drawOrder_6 : decode cX11_drawOrder 6 = .ok (.aload_n 0, 1) := by decide +kernel
theorem dX11_drawOrder_7 : decode cX11_drawOrder 7 = .ok (.getfield 77, 3) := by decide +kernel
theorem dX11_drawOrder_10 : decode cX11_drawOrder 10 = .ok (.getfield 193, 3) := by decide +kernel
theorem dX11_drawOrder_13 : decode cX11_drawOrder 13 = .ok (.iconst 1, 1) := by decide +kernel
theorem dX11_drawOrder_14 : decode cX11_drawOrder 14 = .ok (.isub, 1) := by decide +kernel
theorem dX11_drawOrder_15 : decode cX11_drawOrder 15 = .ok (.istore_n 3, 1) := by decide +kernel
theorem dX11_drawOrder_16 : decode cX11_drawOrder 16 = .ok (.iload_n 3, 1) := by decide +kernel
theorem dX11_drawOrder_17 : decode cX11_drawOrder 17 = .ok (.iconst 1, 1) := by decide +kernel
theorem dX11_drawOrder_18 : decode cX11_drawOrder 18 = .ok (.if_icmp .lt 64, 3) := by decide +kernel
theorem dX11_drawOrder_21 : decode cX11_drawOrder 21 = .ok (.iload_n 2, 1) := by decide +kernel
theorem dX11_drawOrder_22 : decode cX11_drawOrder 22 = .ok (.ldc_w 258, 3) := by decide +kernel
theorem dX11_drawOrder_25 : decode cX11_drawOrder 25 = .ok (.imul, 1) := by decide +kernel
theorem dX11_drawOrder_26 : decode cX11_drawOrder 26 = .ok (.sipush 12345, 3) := by decide +kernel
theorem dX11_drawOrder_29 : decode cX11_drawOrder 29 = .ok (.iadd, 1) := by decide +kernel
theorem dX11_drawOrder_30 : decode cX11_drawOrder 30 = .ok (.istore_n 2, 1) := by decide +kernel
theorem dX11_drawOrder_31 : decode cX11_drawOrder 31 = .ok (.iload_n 2, 1) := by decide +kernel
theorem dX11_drawOrder_32 : decode cX11_drawOrder 32 = .ok (.ldc_w 259, 3) := by decide +kernel
theorem dX11_drawOrder_35 : decode cX11_drawOrder 35 = .ok (.iand, 1) := by decide +kernel
theorem dX11_drawOrder_36 : decode cX11_drawOrder 36 = .ok (.ldc_w 260, 3) := by decide +kernel
theorem dX11_drawOrder_39 : decode cX11_drawOrder 39 = .ok (.idiv, 1) := by decide +kernel
theorem dX11_drawOrder_40 : decode cX11_drawOrder 40 = .ok (.iload_n 3, 1) := by decide +kernel
theorem dX11_drawOrder_41 : decode cX11_drawOrder 41 = .ok (.iconst 1, 1) := by decide +kernel
theorem dX11_drawOrder_42 : decode cX11_drawOrder 42 = .ok (.iadd, 1) := by decide +kernel
theorem dX11_drawOrder_43 : decode cX11_drawOrder 43 = .ok (.irem, 1) := by decide +kernel
theorem dX11_drawOrder_44 : decode cX11_drawOrder 44 = .ok (.istore 4, 2) := by decide +kernel
theorem dX11_drawOrder_46 : decode cX11_drawOrder 46 = .ok (.aload_n 0, 1) := by decide +kernel
theorem dX11_drawOrder_47 : decode cX11_drawOrder 47 = .ok (.getfield 23, 3) := by decide +kernel
theorem dX11_drawOrder_50 : decode cX11_drawOrder 50 = .ok (.iload_n 3, 1) := by decide +kernel
theorem dX11_drawOrder_51 : decode cX11_drawOrder 51 = .ok (.iaload, 1) := by decide +kernel
theorem dX11_drawOrder_52 : decode cX11_drawOrder 52 = .ok (.istore 5, 2) := by decide +kernel
theorem dX11_drawOrder_54 : decode cX11_drawOrder 54 = .ok (.aload_n 0, 1) := by decide +kernel
theorem dX11_drawOrder_55 : decode cX11_drawOrder 55 = .ok (.getfield 23, 3) := by decide +kernel
theorem dX11_drawOrder_58 : decode cX11_drawOrder 58 = .ok (.iload_n 3, 1) := by decide +kernel
theorem dX11_drawOrder_59 : decode cX11_drawOrder 59 = .ok (.aload_n 0, 1) := by decide +kernel
theorem dX11_drawOrder_60 : decode cX11_drawOrder 60 = .ok (.getfield 23, 3) := by decide +kernel
theorem dX11_drawOrder_63 : decode cX11_drawOrder 63 = .ok (.iload 4, 2) := by decide +kernel
theorem dX11_drawOrder_65 : decode cX11_drawOrder 65 = .ok (.iaload, 1) := by decide +kernel
theorem dX11_drawOrder_66 : decode cX11_drawOrder 66 = .ok (.iastore, 1) := by decide +kernel
theorem dX11_drawOrder_67 : decode cX11_drawOrder 67 = .ok (.aload_n 0, 1) := by decide +kernel
theorem dX11_drawOrder_68 : decode cX11_drawOrder 68 = .ok (.getfield 23, 3) := by decide +kernel
theorem dX11_drawOrder_71 : decode cX11_drawOrder 71 = .ok (.iload 4, 2) := by decide +kernel
theorem dX11_drawOrder_73 : decode cX11_drawOrder 73 = .ok (.iload 5, 2) := by decide +kernel
theorem dX11_drawOrder_75 : decode cX11_drawOrder 75 = .ok (.iastore, 1) := by decide +kernel
theorem dX11_drawOrder_76 : decode cX11_drawOrder 76 = .ok (.iinc 3 (-1), 3) := by decide +kernel
theorem dX11_drawOrder_79 : decode cX11_drawOrder 79 = .ok (.goto (-63), 3) := by decide +kernel
theorem dX11_drawOrder_82 : decode cX11_drawOrder 82 = .ok (.iload_n 2, 1) := by decide +kernel
theorem dX11_drawOrder_83 : decode cX11_drawOrder 83 = .ok (.ireturn, 1) := by decide +kernel
theorem dX11_placeOf_0 : decode cX11_placeOf 0 = .ok (.iconst 0, 1) := by decide +kernel
theorem dX11_placeOf_1 : decode cX11_placeOf 1 = .ok (.istore_n 2, 1) := by decide +kernel
theorem dX11_placeOf_2 : decode cX11_placeOf 2 = .ok (.iconst 0, 1) := by decide +kernel
theorem dX11_placeOf_3 : decode cX11_placeOf 3 = .ok (.istore_n 3, 1) := by decide +kernel
theorem dX11_placeOf_4 : decode cX11_placeOf 4 = .ok (.iload_n 3, 1) := by decide +kernel
theorem dX11_placeOf_5 : decode cX11_placeOf 5 = .ok (.aload_n 0, 1) := by decide +kernel
theorem dX11_placeOf_6 : decode cX11_placeOf 6 = .ok (.getfield 77, 3) := by decide +kernel
theorem dX11_placeOf_9 : decode cX11_placeOf 9 = .ok (.getfield 193, 3) := by decide +kernel
theorem dX11_placeOf_12 : decode cX11_placeOf 12 = .ok (.if_icmp .ge 21, 3) := by decide +kernel
theorem dX11_placeOf_15 : decode cX11_placeOf 15 = .ok (.aload_n 0, 1) := by decide +kernel
theorem dX11_placeOf_16 : decode cX11_placeOf 16 = .ok (.getfield 23, 3) := by decide +kernel
theorem dX11_placeOf_19 : decode cX11_placeOf 19 = .ok (.iload_n 3, 1) := by decide +kernel
theorem dX11_placeOf_20 : decode cX11_placeOf 20 = .ok (.iaload, 1) := by decide +kernel
theorem dX11_placeOf_21 : decode cX11_placeOf 21 = .ok (.iload_n 1, 1) := by decide +kernel
theorem dX11_placeOf_22 : decode cX11_placeOf 22 = .ok (.if_icmp .ne 5, 3) := by decide +kernel
theorem dX11_placeOf_25 : decode cX11_placeOf 25 = .ok (.iload_n 3, 1) := by decide +kernel
theorem dX11_placeOf_26 : decode cX11_placeOf 26 = .ok (.istore_n 2, 1) := by decide +kernel
theorem dX11_placeOf_27 : decode cX11_placeOf 27 = .ok (.iinc 3 1, 3) := by decide +kernel
theorem dX11_placeOf_30 : decode cX11_placeOf 30 = .ok (.goto (-26), 3) := by decide +kernel
theorem dX11_placeOf_33 : decode cX11_placeOf 33 = .ok (.iload_n 2, 1) := by decide +kernel
theorem dX11_placeOf_34 : decode cX11_placeOf 34 = .ok (.ireturn, 1) := by decide +kernel
theorem dX11_seat_0 : decode cX11_seat 0 = .ok (.aload_n 0, 1) := by decide +kernel
theorem dX11_seat_1 : decode cX11_seat 1 = .ok (.getfield 80, 3) := by decide +kernel
theorem dX11_seat_4 : decode cX11_seat 4 = .ok (.aload_n 0, 1) := by decide +kernel
theorem dX11_seat_5 : decode cX11_seat 5 = .ok (.getfield 77, 3) := by decide +kernel
theorem dX11_seat_8 : decode cX11_seat 8 = .ok (.invokevirtual 186, 3) := by decide +kernel
theorem dX11_seat_11 : decode cX11_seat 11 = .ok (.iconst 0, 1) := by decide +kernel
theorem dX11_seat_12 : decode cX11_seat 12 = .ok (.istore_n 1, 1) := by decide +kernel
theorem dX11_seat_13 : decode cX11_seat 13 = .ok (.iload_n 1, 1) := by decide +kernel
theorem dX11_seat_14 : decode cX11_seat 14 = .ok (.aload_n 0, 1) := by decide +kernel
theorem dX11_seat_15 : decode cX11_seat 15 = .ok (.getfield 77, 3) := by decide +kernel
theorem dX11_seat_18 : decode cX11_seat 18 = .ok (.getfield 193, 3) := by decide +kernel
theorem dX11_seat_21 : decode cX11_seat 21 = .ok (.if_icmp .ge 81, 3) := by decide +kernel
theorem dX11_seat_24 : decode cX11_seat 24 = .ok (.aload_n 0, 1) := by decide +kernel
theorem dX11_seat_25 : decode cX11_seat 25 = .ok (.getfield 23, 3) := by decide +kernel
theorem dX11_seat_28 : decode cX11_seat 28 = .ok (.iload_n 1, 1) := by decide +kernel
theorem dX11_seat_29 : decode cX11_seat 29 = .ok (.iaload, 1) := by decide +kernel
theorem dX11_seat_30 : decode cX11_seat 30 = .ok (.istore_n 2, 1) := by decide +kernel
theorem dX11_seat_31 : decode cX11_seat 31 = .ok (.aload_n 0, 1) := by decide +kernel
theorem dX11_seat_32 : decode cX11_seat 32 = .ok (.getfield 77, 3) := by decide +kernel
theorem dX11_seat_35 : decode cX11_seat 35 = .ok (.iload_n 2, 1) := by decide +kernel
theorem dX11_seat_36 : decode cX11_seat 36 = .ok (.invokevirtual 114, 3) := by decide +kernel
theorem dX11_seat_39 : decode cX11_seat 39 = .ok (.ifCond .eq 57, 3) := by decide +kernel
theorem dX11_seat_42 : decode cX11_seat 42 = .ok (.aload_n 0, 1) := by decide +kernel
theorem dX11_seat_43 : decode cX11_seat 43 = .ok (.getfield 80, 3) := by decide +kernel
theorem dX11_seat_46 : decode cX11_seat 46 = .ok (.getfield 118, 3) := by decide +kernel
theorem dX11_seat_49 : decode cX11_seat 49 = .ok (.iload_n 1, 1) := by decide +kernel
theorem dX11_seat_50 : decode cX11_seat 50 = .ok (.aload_n 0, 1) := by decide +kernel
theorem dX11_seat_51 : decode cX11_seat 51 = .ok (.getfield 77, 3) := by decide +kernel
theorem dX11_seat_54 : decode cX11_seat 54 = .ok (.getfield 118, 3) := by decide +kernel
theorem dX11_seat_57 : decode cX11_seat 57 = .ok (.iload_n 2, 1) := by decide +kernel
theorem dX11_seat_58 : decode cX11_seat 58 = .ok (.iaload, 1) := by decide +kernel
theorem dX11_seat_59 : decode cX11_seat 59 = .ok (.iastore, 1) := by decide +kernel
theorem dX11_seat_60 : decode cX11_seat 60 = .ok (.aload_n 0, 1) := by decide +kernel
theorem dX11_seat_61 : decode cX11_seat 61 = .ok (.getfield 80, 3) := by decide +kernel
theorem dX11_seat_64 : decode cX11_seat 64 = .ok (.getfield 121, 3) := by decide +kernel
theorem dX11_seat_67 : decode cX11_seat 67 = .ok (.iload_n 1, 1) := by decide +kernel
theorem dX11_seat_68 : decode cX11_seat 68 = .ok (.aload_n 0, 1) := by decide +kernel
theorem dX11_seat_69 : decode cX11_seat 69 = .ok (.getfield 77, 3) := by decide +kernel
theorem dX11_seat_72 : decode cX11_seat 72 = .ok (.getfield 121, 3) := by decide +kernel
theorem dX11_seat_75 : decode cX11_seat 75 = .ok (.iload_n 2, 1) := by decide +kernel
theorem dX11_seat_76 : decode cX11_seat 76 = .ok (.iaload, 1) := by decide +kernel
theorem dX11_seat_77 : decode cX11_seat 77 = .ok (.iastore, 1) := by decide +kernel
theorem dX11_seat_78 : decode cX11_seat 78 = .ok (.aload_n 0, 1) := by decide +kernel
theorem dX11_seat_79 : decode cX11_seat 79 = .ok (.getfield 80, 3) := by decide +kernel
theorem dX11_seat_82 : decode cX11_seat 82 = .ok (.getfield 124, 3) := by decide +kernel
theorem dX11_seat_85 : decode cX11_seat 85 = .ok (.iload_n 1, 1) := by decide +kernel
theorem dX11_seat_86 : decode cX11_seat 86 = .ok (.aload_n 0, 1) := by decide +kernel
theorem dX11_seat_87 : decode cX11_seat 87 = .ok (.getfield 77, 3) := by decide +kernel
theorem dX11_seat_90 : decode cX11_seat 90 = .ok (.getfield 124, 3) := by decide +kernel
theorem dX11_seat_93 : decode cX11_seat 93 = .ok (.iload_n 2, 1) := by decide +kernel
theorem dX11_seat_94 : decode cX11_seat 94 = .ok (.iaload, 1) := by decide +kernel
theorem dX11_seat_95 : decode cX11_seat 95 = .ok (.iastore, 1) := by decide +kernel
theorem dX11_seat_96 : decode cX11_seat 96 = .ok (.iinc 1 1, 3) := by decide +kernel
theorem dX11_seat_99 : decode cX11_seat 99 = .ok (.goto (-86), 3) := by decide +kernel
theorem dX11_seat_102 : decode cX11_seat 102 = .ok (.return_, 1) := by decide +kernel
theorem dX11_shakeVotes_0 : decode cX11_shakeVotes 0 = .ok (.aload_n 0, 1) := by decide +kernel
theorem dX11_shakeVotes_1 : decode cX11_shakeVotes 1 = .ok (.getfield 33, 3) := by decide +kernel
theorem dX11_shakeVotes_4 : decode cX11_shakeVotes 4 = .ok (.lconst 0, 1) := by decide +kernel
theorem dX11_shakeVotes_5 : decode cX11_shakeVotes 5 = .ok (.invokestatic 261, 3) := by decide +kernel
theorem dX11_shakeVotes_8 : decode cX11_shakeVotes 8 = .ok (.aload_n 0, 1) := by decide +kernel
theorem dX11_shakeVotes_9 : decode cX11_shakeVotes 9 = .ok (.getfield 33, 3) := by decide +kernel
theorem dX11_shakeVotes_12 : decode cX11_shakeVotes 12 = .ok (.aload_n 0, 1) := by decide +kernel
theorem dX11_shakeVotes_13 : decode cX11_shakeVotes 13 = .ok (.getfield 77, 3) := by decide +kernel
theorem dX11_shakeVotes_16 : decode cX11_shakeVotes 16 = .ok (.getfield 124, 3) := by decide +kernel
theorem dX11_shakeVotes_19 : decode cX11_shakeVotes 19 = .ok (.aload_n 0, 1) := by decide +kernel
theorem dX11_shakeVotes_20 : decode cX11_shakeVotes 20 = .ok (.getfield 77, 3) := by decide +kernel
theorem dX11_shakeVotes_23 : decode cX11_shakeVotes 23 = .ok (.getfield 170, 3) := by decide +kernel
theorem dX11_shakeVotes_26 : decode cX11_shakeVotes 26 = .ok (.iaload, 1) := by decide +kernel
theorem dX11_shakeVotes_27 : decode cX11_shakeVotes 27 = .ok (.lconst 1, 1) := by decide +kernel
theorem dX11_shakeVotes_28 : decode cX11_shakeVotes 28 = .ok (.lastore, 1) := by decide +kernel
theorem dX11_shakeVotes_29 : decode cX11_shakeVotes 29 = .ok (.lconst 1, 1) := by decide +kernel
theorem dX11_shakeVotes_30 : decode cX11_shakeVotes 30 = .ok (.lstore_n 2, 1) := by decide +kernel
theorem dX11_shakeVotes_31 : decode cX11_shakeVotes 31 = .ok (.aload_n 0, 1) := by decide +kernel
theorem dX11_shakeVotes_32 : decode cX11_shakeVotes 32 = .ok (.getfield 77, 3) := by decide +kernel
theorem dX11_shakeVotes_35 : decode cX11_shakeVotes 35 = .ok (.getfield 170, 3) := by decide +kernel
theorem dX11_shakeVotes_38 : decode cX11_shakeVotes 38 = .ok (.iconst 1, 1) := by decide +kernel
theorem dX11_shakeVotes_39 : decode cX11_shakeVotes 39 = .ok (.iadd, 1) := by decide +kernel
theorem dX11_shakeVotes_40 : decode cX11_shakeVotes 40 = .ok (.istore 4, 2) := by decide +kernel
theorem dX11_shakeVotes_42 : decode cX11_shakeVotes 42 = .ok (.iload 4, 2) := by decide +kernel
theorem dX11_shakeVotes_44 : decode cX11_shakeVotes 44 = .ok (.aload_n 0, 1) := by decide +kernel
theorem dX11_shakeVotes_45 : decode cX11_shakeVotes 45 = .ok (.getfield 77, 3) := by decide +kernel
theorem dX11_shakeVotes_48 : decode cX11_shakeVotes 48 = .ok (.getfield 193, 3) := by decide +kernel
theorem dX11_shakeVotes_51 : decode cX11_shakeVotes 51 = .ok (.if_icmp .ge 64, 3) := by decide +kernel
theorem dX11_shakeVotes_54 : decode cX11_shakeVotes 54 = .ok (.aload_n 0, 1) := by decide +kernel
theorem dX11_shakeVotes_55 : decode cX11_shakeVotes 55 = .ok (.getfield 77, 3) := by decide +kernel
theorem dX11_shakeVotes_58 : decode cX11_shakeVotes 58 = .ok (.getfield 130, 3) := by decide +kernel
theorem dX11_shakeVotes_61 : decode cX11_shakeVotes 61 = .ok (.iconst 4, 1) := by decide +kernel
theorem dX11_shakeVotes_62 : decode cX11_shakeVotes 62 = .ok (.iaload, 1) := by decide +kernel
theorem dX11_shakeVotes_63 : decode cX11_shakeVotes 63 = .ok (.istore 5, 2) := by decide +kernel
theorem dX11_shakeVotes_65 : decode cX11_shakeVotes 65 = .ok (.iload_n 1, 1) := by decide +kernel
theorem dX11_shakeVotes_66 : decode cX11_shakeVotes 66 = .ok (.iload 4, 2) := by decide +kernel
theorem dX11_shakeVotes_68 : decode cX11_shakeVotes 68 = .ok (.ishr, 1) := by decide +kernel
theorem dX11_shakeVotes_69 : decode cX11_shakeVotes 69 = .ok (.iconst 1, 1) := by decide +kernel
theorem dX11_shakeVotes_70 : decode cX11_shakeVotes 70 = .ok (.iand, 1) := by decide +kernel
theorem dX11_shakeVotes_71 : decode cX11_shakeVotes 71 = .ok (.iconst 1, 1) := by decide +kernel
theorem dX11_shakeVotes_72 : decode cX11_shakeVotes 72 = .ok (.if_icmp .ne 11, 3) := by decide +kernel
theorem dX11_shakeVotes_75 : decode cX11_shakeVotes 75 = .ok (.bipush 100, 2) := by decide +kernel
theorem dX11_shakeVotes_77 : decode cX11_shakeVotes 77 = .ok (.iload 5, 2) := by decide +kernel
theorem dX11_shakeVotes_79 : decode cX11_shakeVotes 79 = .ok (.isub, 1) := by decide +kernel
theorem dX11_shakeVotes_80 : decode cX11_shakeVotes 80 = .ok (.goto 5, 3) := by decide +kernel
theorem dX11_shakeVotes_83 : decode cX11_shakeVotes 83 = .ok (.iload 5, 2) := by decide +kernel
theorem dX11_shakeVotes_85 : decode cX11_shakeVotes 85 = .ok (.istore 6, 2) := by decide +kernel
theorem dX11_shakeVotes_87 : decode cX11_shakeVotes 87 = .ok (.aload_n 0, 1) := by decide +kernel
theorem dX11_shakeVotes_88 : decode cX11_shakeVotes 88 = .ok (.aload_n 0, 1) := by decide +kernel
theorem dX11_shakeVotes_89 : decode cX11_shakeVotes 89 = .ok (.getfield 77, 3) := by decide +kernel
theorem dX11_shakeVotes_92 : decode cX11_shakeVotes 92 = .ok (.getfield 124, 3) := by decide +kernel
theorem dX11_shakeVotes_95 : decode cX11_shakeVotes 95 = .ok (.iload 4, 2) := by decide +kernel
theorem dX11_shakeVotes_97 : decode cX11_shakeVotes 97 = .ok (.iaload, 1) := by decide +kernel
theorem dX11_shakeVotes_98 : decode cX11_shakeVotes 98 = .ok (.iload 6, 2) := by decide +kernel
theorem dX11_shakeVotes_100 : decode cX11_shakeVotes 100 = .ok (.invokevirtual 267, 3) := by decide +kernel
theorem dX11_shakeVotes_103 : decode cX11_shakeVotes 103 = .ok (.lload_n 2, 1) := by decide +kernel
theorem dX11_shakeVotes_104 : decode cX11_shakeVotes 104 = .ok (.ldc2_w 270, 3) := by decide +kernel
theorem dX11_shakeVotes_107 : decode cX11_shakeVotes 107 = .ok (.lmul, 1) := by decide +kernel
theorem dX11_shakeVotes_108 : decode cX11_shakeVotes 108 = .ok (.lstore_n 2, 1) := by decide +kernel
theorem dX11_shakeVotes_109 : decode cX11_shakeVotes 109 = .ok (.iinc 4 1, 3) := by decide +kernel
theorem dX11_shakeVotes_112 : decode cX11_shakeVotes 112 = .ok (.goto (-70), 3) := by decide +kernel
theorem dX11_shakeVotes_115 : decode cX11_shakeVotes 115 = .ok (.lload_n 2, 1) := by decide +kernel
theorem dX11_shakeVotes_116 : decode cX11_shakeVotes 116 = .ok (.lreturn, 1) := by decide +kernel
theorem dX11_addVoter_0 : decode cX11_addVoter 0 = .ok (.aload_n 0, 1) := by decide +kernel
theorem dX11_addVoter_1 : decode cX11_addVoter 1 = .ok (.getfield 33, 3) := by decide +kernel
theorem dX11_addVoter_4 : decode cX11_addVoter 4 = .ok (.arraylength, 1) := by decide +kernel
theorem dX11_addVoter_5 : decode cX11_addVoter 5 = .ok (.iconst 1, 1) := by decide +kernel
theorem dX11_addVoter_6 : decode cX11_addVoter 6 = .ok (.isub, 1) := by decide +kernel
theorem dX11_addVoter_7 : decode cX11_addVoter 7 = .ok (.istore_n 3, 1) := by decide +kernel
theorem dX11_addVoter_8 : decode cX11_addVoter 8 = .ok (.iload_n 3, 1) := by decide +kernel
theorem dX11_addVoter_9 : decode cX11_addVoter 9 = .ok (.ifCond .lt 52, 3) := by decide +kernel
theorem dX11_addVoter_12 : decode cX11_addVoter 12 = .ok (.iload_n 3, 1) := by decide +kernel
theorem dX11_addVoter_13 : decode cX11_addVoter 13 = .ok (.iload_n 1, 1) := by decide +kernel
theorem dX11_addVoter_14 : decode cX11_addVoter 14 = .ok (.if_icmp .lt 14, 3) := by decide +kernel
theorem dX11_addVoter_17 : decode cX11_addVoter 17 = .ok (.aload_n 0, 1) := by decide +kernel
theorem dX11_addVoter_18 : decode cX11_addVoter 18 = .ok (.getfield 33, 3) := by decide +kernel
theorem dX11_addVoter_21 : decode cX11_addVoter 21 = .ok (.iload_n 3, 1) := by decide +kernel
theorem dX11_addVoter_22 : decode cX11_addVoter 22 = .ok (.iload_n 1, 1) := by decide +kernel
theorem dX11_addVoter_23 : decode cX11_addVoter 23 = .ok (.isub, 1) := by decide +kernel
theorem dX11_addVoter_24 : decode cX11_addVoter 24 = .ok (.laload, 1) := by decide +kernel
theorem dX11_addVoter_25 : decode cX11_addVoter 25 = .ok (.goto 4, 3) := by decide +kernel
theorem dX11_addVoter_28 : decode cX11_addVoter 28 = .ok (.lconst 0, 1) := by decide +kernel
theorem dX11_addVoter_29 : decode cX11_addVoter 29 = .ok (.lstore 4, 2) := by decide +kernel
theorem dX11_addVoter_31 : decode cX11_addVoter 31 = .ok (.aload_n 0, 1) := by decide +kernel
theorem dX11_addVoter_32 : decode cX11_addVoter 32 = .ok (.getfield 33, 3) := by decide +kernel
theorem dX11_addVoter_35 : decode cX11_addVoter 35 = .ok (.iload_n 3, 1) := by decide +kernel
theorem dX11_addVoter_36 : decode cX11_addVoter 36 = .ok (.aload_n 0, 1) := by decide +kernel
theorem dX11_addVoter_37 : decode cX11_addVoter 37 = .ok (.getfield 33, 3) := by decide +kernel
theorem dX11_addVoter_40 : decode cX11_addVoter 40 = .ok (.iload_n 3, 1) := by decide +kernel
theorem dX11_addVoter_41 : decode cX11_addVoter 41 = .ok (.laload, 1) := by decide +kernel
theorem dX11_addVoter_42 : decode cX11_addVoter 42 = .ok (.bipush 100, 2) := by decide +kernel
theorem dX11_addVoter_44 : decode cX11_addVoter 44 = .ok (.iload_n 2, 1) := by decide +kernel
theorem dX11_addVoter_45 : decode cX11_addVoter 45 = .ok (.isub, 1) := by decide +kernel
theorem dX11_addVoter_46 : decode cX11_addVoter 46 = .ok (.i2l, 1) := by decide +kernel
theorem dX11_addVoter_47 : decode cX11_addVoter 47 = .ok (.lmul, 1) := by decide +kernel
theorem dX11_addVoter_48 : decode cX11_addVoter 48 = .ok (.lload 4, 2) := by decide +kernel
theorem dX11_addVoter_50 : decode cX11_addVoter 50 = .ok (.iload_n 2, 1) := by decide +kernel
theorem dX11_addVoter_51 : decode cX11_addVoter 51 = .ok (.i2l, 1) := by decide +kernel
theorem dX11_addVoter_52 : decode cX11_addVoter 52 = .ok (.lmul, 1) := by decide +kernel
theorem dX11_addVoter_53 : decode cX11_addVoter 53 = .ok (.ladd, 1) := by decide +kernel
theorem dX11_addVoter_54 : decode cX11_addVoter 54 = .ok (.lastore, 1) := by decide +kernel
theorem dX11_addVoter_55 : decode cX11_addVoter 55 = .ok (.iinc 3 (-1), 3) := by decide +kernel
theorem dX11_addVoter_58 : decode cX11_addVoter 58 = .ok (.goto (-50), 3) := by decide +kernel
theorem dX11_addVoter_61 : decode cX11_addVoter 61 = .ok (.return_, 1) := by decide +kernel
theorem dX11_chanceCarried_0 : decode cX11_chanceCarried 0 = .ok (.aload_n 0, 1) := by decide +kernel
theorem dX11_chanceCarried_1 : decode cX11_chanceCarried 1 = .ok (.getfield 77, 3) := by decide +kernel
theorem dX11_chanceCarried_4 : decode cX11_chanceCarried 4 = .ok (.aload_n 0, 1) := by decide +kernel
theorem dX11_chanceCarried_5 : decode cX11_chanceCarried 5 = .ok (.getfield 77, 3) := by decide +kernel
theorem dX11_chanceCarried_8 : decode cX11_chanceCarried 8 = .ok (.getfield 170, 3) := by decide +kernel
theorem dX11_chanceCarried_11 : decode cX11_chanceCarried 11 = .ok (.invokevirtual 272, 3) := by decide +kernel
theorem dX11_chanceCarried_14 : decode cX11_chanceCarried 14 = .ok (.istore_n 1, 1) := by decide +kernel
theorem dX11_chanceCarried_15 : decode cX11_chanceCarried 15 = .ok (.lconst 0, 1) := by decide +kernel
theorem dX11_chanceCarried_16 : decode cX11_chanceCarried 16 = .ok (.lstore_n 2, 1) := by decide +kernel
theorem dX11_chanceCarried_17 : decode cX11_chanceCarried 17 = .ok (.iconst 0, 1) := by decide +kernel
theorem dX11_chanceCarried_18 : decode cX11_chanceCarried 18 = .ok (.istore 4, 2) := by decide +kernel
theorem dX11_chanceCarried_20 : decode cX11_chanceCarried 20 = .ok (.iload 4, 2) := by decide +kernel
theorem dX11_chanceCarried_22 : decode cX11_chanceCarried 22 = .ok (.aload_n 0, 1) := by decide +kernel
theorem dX11_chanceCarried_23 : decode cX11_chanceCarried 23 = .ok (.getfield 33, 3) := by decide +kernel
theorem dX11_chanceCarried_26 : decode cX11_chanceCarried 26 = .ok (.arraylength, 1) := by decide +kernel
theorem dX11_chanceCarried_27 : decode cX11_chanceCarried 27 = .ok (.if_icmp .ge 37, 3) := by decide +kernel
theorem dX11_chanceCarried_30 : decode cX11_chanceCarried 30 = .ok (.aload_n 0, 1) := by decide +kernel
theorem dX11_chanceCarried_31 : decode cX11_chanceCarried 31 = .ok (.getfield 77, 3) := by decide +kernel
theorem dX11_chanceCarried_34 : decode cX11_chanceCarried 34 = .ok (.getfield 130, 3) := by decide +kernel
theorem dX11_chanceCarried_37 : decode cX11_chanceCarried 37 = .ok (.iconst 1, 1) := by decide +kernel
theorem dX11_chanceCarried_38 : decode cX11_chanceCarried 38 = .ok (.iaload, 1) := by decide +kernel
theorem dX11_chanceCarried_39 : decode cX11_chanceCarried 39 = .ok (.iload 4, 2) := by decide +kernel
theorem dX11_chanceCarried_41 : decode cX11_chanceCarried 41 = .ok (.iload_n 1, 1) := by decide +kernel
theorem dX11_chanceCarried_42 : decode cX11_chanceCarried 42 = .ok (.invokestatic 275, 3) := by decide +kernel
theorem dX11_chanceCarried_45 : decode cX11_chanceCarried 45 = .ok (.ifCond .eq 13, 3) := by decide +kernel
theorem dX11_chanceCarried_48 : decode cX11_chanceCarried 48 = .ok (.lload_n 2, 1) := by decide +kernel
theorem dX11_chanceCarried_49 : decode cX11_chanceCarried 49 = .ok (.aload_n 0, 1) := by decide +kernel
theorem dX11_chanceCarried_50 : decode cX11_chanceCarried 50 = .ok (.getfield 33, 3) := by decide +kernel
theorem dX11_chanceCarried_53 : decode cX11_chanceCarried 53 = .ok (.iload 4, 2) := by decide +kernel
theorem dX11_chanceCarried_55 : decode cX11_chanceCarried 55 = .ok (.laload, 1) := by decide +kernel
theorem dX11_chanceCarried_56 : decode cX11_chanceCarried 56 = .ok (.ladd, 1) := by decide +kernel
theorem dX11_chanceCarried_57 : decode cX11_chanceCarried 57 = .ok (.lstore_n 2, 1) := by decide +kernel
theorem dX11_chanceCarried_58 : decode cX11_chanceCarried 58 = .ok (.iinc 4 1, 3) := by decide +kernel
theorem dX11_chanceCarried_61 : decode cX11_chanceCarried 61 = .ok (.goto (-41), 3) := by decide +kernel
theorem dX11_chanceCarried_64 : decode cX11_chanceCarried 64 = .ok (.lload_n 2, 1) := by decide +kernel
theorem dX11_chanceCarried_65 : decode cX11_chanceCarried 65 = .ok (.lreturn, 1) := by decide +kernel
theorem dX11_commonDivisor_0 : decode cX11_commonDivisor 0 = .ok (.lload_n 0, 1) := by decide +kernel
theorem dX11_commonDivisor_1 : decode cX11_commonDivisor 1 = .ok (.lstore 4, 2) := by decide +kernel
theorem dX11_commonDivisor_3 : decode cX11_commonDivisor 3 = .ok (.lload_n 2, 1) := by decide +kernel
theorem dX11_commonDivisor_4 : decode cX11_commonDivisor 4 = .ok (.lstore 6, 2) := by decide +kernel
theorem dX11_commonDivisor_6 : decode cX11_commonDivisor 6 = .ok (.iconst 0, 1) := by decide +kernel
theorem dX11_commonDivisor_7 : decode cX11_commonDivisor 7 = .ok (.istore 8, 2) := by decide +kernel
theorem dX11_commonDivisor_9 : decode cX11_commonDivisor 9 = .ok (.iload 8, 2) := by decide +kernel
theorem dX11_commonDivisor_11 : decode cX11_commonDivisor 11 = .ok (.bipush 100, 2) := by decide +kernel
theorem dX11_commonDivisor_13 : decode cX11_commonDivisor 13 = .ok (.if_icmp .ge 31, 3) := by decide +kernel
theorem dX11_commonDivisor_16 : decode cX11_commonDivisor 16 = .ok (.lload 6, 2) := by decide +kernel
theorem dX11_commonDivisor_18 : decode cX11_commonDivisor 18 = .ok (.lconst 0, 1) := by decide +kernel
theorem dX11_commonDivisor_19 : decode cX11_commonDivisor 19 = .ok (.lcmp, 1) := by decide +kernel
theorem dX11_commonDivisor_20 : decode cX11_commonDivisor 20 = .ok (.ifCond .eq 24, 3) := by decide +kernel
theorem dX11_commonDivisor_23 : decode cX11_commonDivisor 23 = .ok (.lload 4, 2) := by decide +kernel
theorem dX11_commonDivisor_25 : decode cX11_commonDivisor 25 = .ok (.lload 6, 2) := by decide +kernel
theorem dX11_commonDivisor_27 : decode cX11_commonDivisor 27 = .ok (.lrem, 1) := by decide +kernel
theorem dX11_commonDivisor_28 : decode cX11_commonDivisor 28 = .ok (.lstore 9, 2) := by decide +kernel
theorem dX11_commonDivisor_30 : decode cX11_commonDivisor 30 = .ok (.lload 6, 2) := by decide +kernel
theorem dX11_commonDivisor_32 : decode cX11_commonDivisor 32 = .ok (.lstore 4, 2) := by decide +kernel
theorem dX11_commonDivisor_34 : decode cX11_commonDivisor 34 = .ok (.lload 9, 2) := by decide +kernel
theorem dX11_commonDivisor_36 : decode cX11_commonDivisor 36 = .ok (.lstore 6, 2) := by decide +kernel
theorem dX11_commonDivisor_38 : decode cX11_commonDivisor 38 = .ok (.iinc 8 1, 3) := by decide +kernel
theorem dX11_commonDivisor_41 : decode cX11_commonDivisor 41 = .ok (.goto (-32), 3) := by decide +kernel
theorem dX11_commonDivisor_44 : decode cX11_commonDivisor 44 = .ok (.lload 4, 2) := by decide +kernel
theorem dX11_commonDivisor_46 : decode cX11_commonDivisor 46 = .ok (.lreturn, 1) := by decide +kernel
theorem dX11_isEnough_0 : decode cX11_isEnough 0 = .ok (.iload_n 0, 1) := by decide +kernel
theorem dX11_isEnough_1 : decode cX11_isEnough 1 = .ok (.lookupswitch 53 #[(0, 27), (1, 40)], 27) := by decide +kernel
theorem dX11_isEnough_28 : decode cX11_isEnough 28 = .ok (.iconst 2, 1) := by decide +kernel
theorem dX11_isEnough_29 : decode cX11_isEnough 29 = .ok (.iload_n 1, 1) := by decide +kernel
theorem dX11_isEnough_30 : decode cX11_isEnough 30 = .ok (.imul, 1) := by decide +kernel
theorem dX11_isEnough_31 : decode cX11_isEnough 31 = .ok (.iload_n 2, 1) := by decide +kernel
theorem dX11_isEnough_32 : decode cX11_isEnough 32 = .ok (.if_icmp .lt 7, 3) := by decide +kernel
theorem dX11_isEnough_35 : decode cX11_isEnough 35 = .ok (.iconst 1, 1) := by decide +kernel
theorem dX11_isEnough_36 : decode cX11_isEnough 36 = .ok (.goto 4, 3) := by decide +kernel
theorem dX11_isEnough_39 : decode cX11_isEnough 39 = .ok (.iconst 0, 1) := by decide +kernel
theorem dX11_isEnough_40 : decode cX11_isEnough 40 = .ok (.ireturn, 1) := by decide +kernel
theorem dX11_isEnough_41 : decode cX11_isEnough 41 = .ok (.iconst 2, 1) := by decide +kernel
theorem dX11_isEnough_42 : decode cX11_isEnough 42 = .ok (.iload_n 1, 1) := by decide +kernel
theorem dX11_isEnough_43 : decode cX11_isEnough 43 = .ok (.imul, 1) := by decide +kernel
theorem dX11_isEnough_44 : decode cX11_isEnough 44 = .ok (.iload_n 2, 1) := by decide +kernel
theorem dX11_isEnough_45 : decode cX11_isEnough 45 = .ok (.if_icmp .le 7, 3) := by decide +kernel
theorem dX11_isEnough_48 : decode cX11_isEnough 48 = .ok (.iconst 1, 1) := by decide +kernel
theorem dX11_isEnough_49 : decode cX11_isEnough 49 = .ok (.goto 4, 3) := by decide +kernel
theorem dX11_isEnough_52 : decode cX11_isEnough 52 = .ok (.iconst 0, 1) := by decide +kernel
theorem dX11_isEnough_53 : decode cX11_isEnough 53 = .ok (.ireturn, 1) := by decide +kernel
theorem dX11_isEnough_54 : decode cX11_isEnough 54 = .ok (.iconst 3, 1) := by decide +kernel
theorem dX11_isEnough_55 : decode cX11_isEnough 55 = .ok (.iload_n 1, 1) := by decide +kernel
theorem dX11_isEnough_56 : decode cX11_isEnough 56 = .ok (.imul, 1) := by decide +kernel
theorem dX11_isEnough_57 : decode cX11_isEnough 57 = .ok (.iconst 2, 1) := by decide +kernel
theorem dX11_isEnough_58 : decode cX11_isEnough 58 = .ok (.iload_n 2, 1) := by decide +kernel
theorem dX11_isEnough_59 : decode cX11_isEnough 59 = .ok (.imul, 1) := by decide +kernel
theorem dX11_isEnough_60 : decode cX11_isEnough 60 = .ok (.if_icmp .lt 7, 3) := by decide +kernel
theorem dX11_isEnough_63 : decode cX11_isEnough 63 = .ok (.iconst 1, 1) := by decide +kernel
theorem dX11_isEnough_64 : decode cX11_isEnough 64 = .ok (.goto 4, 3) := by decide +kernel
theorem dX11_isEnough_67 : decode cX11_isEnough 67 = .ok (.iconst 0, 1) := by decide +kernel
theorem dX11_isEnough_68 : decode cX11_isEnough 68 = .ok (.ireturn, 1) := by decide +kernel
theorem dX9_init_0 : decode cX9_init 0 = .ok (.aload_n 0, 1) := by decide +kernel
theorem dX9_init_1 : decode cX9_init 1 = .ok (.invokespecial 3, 3) := by decide +kernel
theorem dX9_init_4 : decode cX9_init 4 = .ok (.aload_n 0, 1) := by decide +kernel
theorem dX9_init_5 : decode cX9_init 5 = .ok (.bipush 8, 2) := by decide +kernel
theorem dX9_init_7 : decode cX9_init 7 = .ok (.bipush 8, 2) := by decide +kernel
theorem dX9_init_9 : decode cX9_init 9 = .ok (.multianewarray 9 2, 4) := by decide +kernel
theorem dX9_init_13 : decode cX9_init 13 = .ok (.putfield 11, 3) := by decide +kernel
theorem dX9_init_16 : decode cX9_init 16 = .ok (.aload_n 0, 1) := by decide +kernel
theorem dX9_init_17 : decode cX9_init 17 = .ok (.bipush 8, 2) := by decide +kernel
theorem dX9_init_19 : decode cX9_init 19 = .ok (.bipush 8, 2) := by decide +kernel
theorem dX9_init_21 : decode cX9_init 21 = .ok (.multianewarray 9 2, 4) := by decide +kernel
theorem dX9_init_25 : decode cX9_init 25 = .ok (.putfield 16, 3) := by decide +kernel
theorem dX9_init_28 : decode cX9_init 28 = .ok (.aload_n 0, 1) := by decide +kernel
theorem dX9_init_29 : decode cX9_init 29 = .ok (.bipush 8, 2) := by decide +kernel
theorem dX9_init_31 : decode cX9_init 31 = .ok (.bipush 8, 2) := by decide +kernel
theorem dX9_init_33 : decode cX9_init 33 = .ok (.multianewarray 9 2, 4) := by decide +kernel
theorem dX9_init_37 : decode cX9_init 37 = .ok (.putfield 19, 3) := by decide +kernel
theorem dX9_init_40 : decode cX9_init 40 = .ok (.aload_n 0, 1) := by decide +kernel
theorem dX9_init_41 : decode cX9_init 41 = .ok (.bipush 8, 2) := by decide +kernel
theorem dX9_init_43 : decode cX9_init 43 = .ok (.newarray .int, 2) := by decide +kernel
theorem dX9_init_45 : decode cX9_init 45 = .ok (.putfield 22, 3) := by decide +kernel
theorem dX9_init_48 : decode cX9_init 48 = .ok (.aload_n 0, 1) := by decide +kernel
theorem dX9_init_49 : decode cX9_init 49 = .ok (.bipush 8, 2) := by decide +kernel
theorem dX9_init_51 : decode cX9_init 51 = .ok (.newarray .int, 2) := by decide +kernel
theorem dX9_init_53 : decode cX9_init 53 = .ok (.putfield 26, 3) := by decide +kernel
theorem dX9_init_56 : decode cX9_init 56 = .ok (.aload_n 0, 1) := by decide +kernel
theorem dX9_init_57 : decode cX9_init 57 = .ok (.bipush 8, 2) := by decide +kernel
theorem dX9_init_59 : decode cX9_init 59 = .ok (.newarray .int, 2) := by decide +kernel
theorem dX9_init_61 : decode cX9_init 61 = .ok (.putfield 29, 3) := by decide +kernel
theorem dX9_init_64 : decode cX9_init 64 = .ok (.aload_n 0, 1) := by decide +kernel
theorem dX9_init_65 : decode cX9_init 65 = .ok (.new 32, 3) := by decide +kernel
theorem dX9_init_68 : decode cX9_init 68 = .ok (.dup, 1) := by decide +kernel
theorem dX9_init_69 : decode cX9_init 69 = .ok (.invokespecial 34, 3) := by decide +kernel
theorem dX9_init_72 : decode cX9_init 72 = .ok (.putfield 35, 3) := by decide +kernel
theorem dX9_init_75 : decode cX9_init 75 = .ok (.aload_n 0, 1) := by decide +kernel
theorem dX9_init_76 : decode cX9_init 76 = .ok (.bipush 7, 2) := by decide +kernel
theorem dX9_init_78 : decode cX9_init 78 = .ok (.newarray .int, 2) := by decide +kernel
theorem dX9_init_80 : decode cX9_init 80 = .ok (.putfield 39, 3) := by decide +kernel
theorem dX9_init_83 : decode cX9_init 83 = .ok (.aload_n 0, 1) := by decide +kernel
theorem dX9_init_84 : decode cX9_init 84 = .ok (.bipush 7, 2) := by decide +kernel
theorem dX9_init_86 : decode cX9_init 86 = .ok (.newarray .int, 2) := by decide +kernel
theorem dX9_init_88 : decode cX9_init 88 = .ok (.putfield 42, 3) := by decide +kernel
theorem dX9_init_91 : decode cX9_init 91 = .ok (.aload_n 0, 1) := by decide +kernel
theorem dX9_init_92 : decode cX9_init 92 = .ok (.sipush 128, 3) := by decide +kernel
theorem dX9_init_95 : decode cX9_init 95 = .ok (.newarray .int, 2) := by decide +kernel
theorem dX9_init_97 : decode cX9_init 97 = .ok (.putfield 45, 3) := by decide +kernel
theorem dX9_init_100 : decode cX9_init 100 = .ok (.aload_n 0, 1) := by decide +kernel
theorem dX9_init_101 : decode cX9_init 101 = .ok (.sipush 128, 3) := by decide +kernel
theorem dX9_init_104 : decode cX9_init 104 = .ok (.newarray .int, 2) := by decide +kernel
theorem dX9_init_106 : decode cX9_init 106 = .ok (.putfield 48, 3) := by decide +kernel
theorem dX9_init_109 : decode cX9_init 109 = .ok (.aload_n 0, 1) := by decide +kernel
theorem dX9_init_110 : decode cX9_init 110 = .ok (.aload_n 1, 1) := by decide +kernel
theorem dX9_init_111 : decode cX9_init 111 = .ok (.putfield 51, 3) := by decide +kernel
theorem dX9_init_114 : decode cX9_init 114 = .ok (.return_, 1) := by decide +kernel
theorem dX9_solve_0 : decode cX9_solve 0 = .ok (.aload_n 0, 1) := by decide +kernel
theorem dX9_solve_1 : decode cX9_solve 1 = .ok (.getfield 35, 3) := by decide +kernel
theorem dX9_solve_4 : decode cX9_solve 4 = .ok (.getfield 55, 3) := by decide +kernel
theorem dX9_solve_7 : decode cX9_solve 7 = .ok (.iconst 1, 1) := by decide +kernel
theorem dX9_solve_8 : decode cX9_solve 8 = .ok (.isub, 1) := by decide +kernel
theorem dX9_solve_9 : decode cX9_solve 9 = .ok (.istore_n 2, 1) := by decide +kernel
theorem dX9_solve_10 : decode cX9_solve 10 = .ok (.iload_n 2, 1) := by decide +kernel
theorem dX9_solve_11 : decode cX9_solve 11 = .ok (.iload_n 1, 1) := by decide +kernel
theorem dX9_solve_12 : decode cX9_solve 12 = .ok (.if_icmp .lt 51, 3) := by decide +kernel
theorem dX9_solve_15 : decode cX9_solve 15 = .ok (.iload_n 2, 1) := by decide +kernel
theorem dX9_solve_16 : decode cX9_solve 16 = .ok (.ifCond .lt 47, 3) := by decide +kernel
theorem dX9_solve_19 : decode cX9_solve 19 = .ok (.aload_n 0, 1) := by decide +kernel
theorem dX9_solve_20 : decode cX9_solve 20 = .ok (.iload_n 2, 1) := by decide +kernel
theorem dX9_solve_21 : decode cX9_solve 21 = .ok (.invokevirtual 59, 3) := by decide +kernel
theorem dX9_solve_24 : decode cX9_solve 24 = .ok (.aload_n 0, 1) := by decide +kernel
theorem dX9_solve_25 : decode cX9_solve 25 = .ok (.iload_n 2, 1) := by decide +kernel
theorem dX9_solve_26 : decode cX9_solve 26 = .ok (.invokevirtual 63, 3) := by decide +kernel
theorem dX9_solve_29 : decode cX9_solve 29 = .ok (.aload_n 0, 1) := by decide +kernel
theorem dX9_solve_30 : decode cX9_solve 30 = .ok (.getfield 29, 3) := by decide +kernel
theorem dX9_solve_33 : decode cX9_solve 33 = .ok (.iload_n 2, 1) := by decide +kernel
theorem dX9_solve_34 : decode cX9_solve 34 = .ok (.bipush (-9), 2) := by decide +kernel
theorem dX9_solve_36 : decode cX9_solve 36 = .ok (.iastore, 1) := by decide +kernel
theorem dX9_solve_37 : decode cX9_solve 37 = .ok (.aload_n 0, 1) := by decide +kernel
theorem dX9_solve_38 : decode cX9_solve 38 = .ok (.iload_n 2, 1) := by decide +kernel
theorem dX9_solve_39 : decode cX9_solve 39 = .ok (.invokevirtual 66, 3) := by decide +kernel
theorem dX9_solve_42 : decode cX9_solve 42 = .ok (.aload_n 0, 1) := by decide +kernel
theorem dX9_solve_43 : decode cX9_solve 43 = .ok (.iload_n 2, 1) := by decide +kernel
theorem dX9_solve_44 : decode cX9_solve 44 = .ok (.invokevirtual 70, 3) := by decide +kernel
theorem dX9_solve_47 : decode cX9_solve 47 = .ok (.aload_n 0, 1) := by decide +kernel
theorem dX9_solve_48 : decode cX9_solve 48 = .ok (.iload_n 2, 1) := by decide +kernel
theorem dX9_solve_49 : decode cX9_solve 49 = .ok (.invokevirtual 76, 3) := by decide +kernel
theorem dX9_solve_52 : decode cX9_solve 52 = .ok (.aload_n 0, 1) := by decide +kernel
theorem dX9_solve_53 : decode cX9_solve 53 = .ok (.iload_n 2, 1) := by decide +kernel
theorem dX9_solve_54 : decode cX9_solve 54 = .ok (.invokevirtual 79, 3) := by decide +kernel
theorem dX9_solve_57 : decode cX9_solve 57 = .ok (.iinc 2 (-1), 3) := by decide +kernel
theorem dX9_solve_60 : decode cX9_solve 60 = .ok (.goto (-50), 3) := by decide +kernel
theorem dX9_solve_63 : decode cX9_solve 63 = .ok (.return_, 1) := by decide +kernel
theorem dX9_kindOf_0 : decode cX9_kindOf 0 = .ok (.aload_n 0, 1) := by decide +kernel
theorem dX9_kindOf_1 : decode cX9_kindOf 1 = .ok (.getfield 35, 3) := by decide +kernel
theorem dX9_kindOf_4 : decode cX9_kindOf 4 = .ok (.getfield 82, 3) := by decide +kernel
theorem dX9_kindOf_7 : decode cX9_kindOf 7 = .ok (.iload_n 1, 1) := by decide +kernel
theorem dX9_kindOf_8 : decode cX9_kindOf 8 = .ok (.iaload, 1) := by decide +kernel
theorem dX9_kindOf_9 : decode cX9_kindOf 9 = .ok (.istore_n 2, 1) := by decide +kernel
theorem dX9_kindOf_10 : decode cX9_kindOf 10 = .ok (.aload_n 0, 1) := by decide +kernel
theorem dX9_kindOf_11 : decode cX9_kindOf 11 = .ok (.getfield 51, 3) := by decide +kernel
theorem dX9_kindOf_14 : decode cX9_kindOf 14 = .ok (.iload_n 2, 1) := by decide +kernel
theorem dX9_kindOf_15 : decode cX9_kindOf 15 = .ok (.ifCond .lt 16, 3) := by decide +kernel
theorem dX9_kindOf_18 : decode cX9_kindOf 18 = .ok (.iload_n 2, 1) := by decide +kernel
theorem dX9_kindOf_19 : decode cX9_kindOf 19 = .ok (.aload_n 0, 1) := by decide +kernel
theorem dX9_kindOf_20 : decode cX9_kindOf 20 = .ok (.getfield 51, 3) := by decide +kernel
theorem dX9_kindOf_23 : decode cX9_kindOf 23 = .ok (.arraylength, 1) := by decide +kernel
theorem dX9_kindOf_24 : decode cX9_kindOf 24 = .ok (.if_icmp .ge 7, 3) := by decide +kernel
theorem dX9_kindOf_27 : decode cX9_kindOf 27 = .ok (.iload_n 2, 1) := by decide +kernel
theorem dX9_kindOf_28 : decode cX9_kindOf 28 = .ok (.goto 4, 3) := by decide +kernel
theorem dX9_kindOf_31 : decode cX9_kindOf 31 = .ok (.iconst 0, 1) := by decide +kernel
theorem dX9_kindOf_32 : decode cX9_kindOf 32 = .ok (.aaload, 1) := by decide +kernel
theorem dX9_kindOf_33 : decode cX9_kindOf 33 = .ok (.areturn, 1) := by decide +kernel
theorem dX9_askYounger_0 : decode cX9_askYounger 0 = .ok (.iload_n 1, 1) := by decide +kernel
theorem dX9_askYounger_1 : decode cX9_askYounger 1 = .ok (.iconst 1, 1) := by decide +kernel
theorem dX9_askYounger_2 : decode cX9_askYounger 2 = .ok (.iadd, 1) := by decide +kernel
theorem dX9_askYounger_3 : decode cX9_askYounger 3 = .ok (.istore_n 2, 1) := by decide +kernel
theorem dX9_askYounger_4 : decode cX9_askYounger 4 = .ok (.iload_n 2, 1) := by decide +kernel
theorem dX9_askYounger_5 : decode cX9_askYounger 5 = .ok (.aload_n 0, 1) := by decide +kernel
theorem dX9_askYounger_6 : decode cX9_askYounger 6 = .ok (.getfield 35, 3) := by decide +kernel
theorem dX9_askYounger_9 : decode cX9_askYounger 9 = .ok (.getfield 55, 3) := by decide +kernel
theorem dX9_askYounger_12 : decode cX9_askYounger 12 = .ok (.if_icmp .ge 55, 3) := by decide +kernel
theorem dX9_askYounger_15 : decode cX9_askYounger 15 = .ok (.aload_n 0, 1) := by decide +kernel
theorem dX9_askYounger_16 : decode cX9_askYounger 16 = .ok (.getfield 19, 3) := by decide +kernel
theorem dX9_askYounger_19 : decode cX9_askYounger 19 = .ok (.iload_n 1, 1) := by decide +kernel
theorem dX9_askYounger_20 : decode cX9_askYounger 20 = .ok (.iconst 1, 1) := by decide +kernel
theorem dX9_askYounger_21 : decode cX9_askYounger 21 = .ok (.iadd, 1) := by decide +kernel
theorem dX9_askYounger_22 : decode cX9_askYounger 22 = .ok (.aaload, 1) := by decide +kernel
theorem dX9_askYounger_23 : decode cX9_askYounger 23 = .ok (.iload_n 2, 1) := by decide +kernel
theorem dX9_askYounger_24 : decode cX9_askYounger 24 = .ok (.iaload, 1) := by decide +kernel
theorem dX9_askYounger_25 : decode cX9_askYounger 25 = .ok (.istore_n 3, 1) := by decide +kernel
theorem dX9_askYounger_26 : decode cX9_askYounger 26 = .ok (.aload_n 0, 1) := by decide +kernel
theorem dX9_askYounger_27 : decode cX9_askYounger 27 = .ok (.getfield 16, 3) := by decide +kernel
theorem dX9_askYounger_30 : decode cX9_askYounger 30 = .ok (.iload_n 1, 1) := by decide +kernel
theorem dX9_askYounger_31 : decode cX9_askYounger 31 = .ok (.aaload, 1) := by decide +kernel
theorem dX9_askYounger_32 : decode cX9_askYounger 32 = .ok (.iload_n 2, 1) := by decide +kernel
theorem dX9_askYounger_33 : decode cX9_askYounger 33 = .ok (.aload_n 0, 1) := by decide +kernel
theorem dX9_askYounger_34 : decode cX9_askYounger 34 = .ok (.iload_n 2, 1) := by decide +kernel
theorem dX9_askYounger_35 : decode cX9_askYounger 35 = .ok (.invokevirtual 66, 3) := by decide +kernel
theorem dX9_askYounger_38 : decode cX9_askYounger 38 = .ok (.iload_n 3, 1) := by decide +kernel
theorem dX9_askYounger_39 : decode cX9_askYounger 39 = .ok (.aload_n 0, 1) := by decide +kernel
theorem dX9_askYounger_40 : decode cX9_askYounger 40 = .ok (.getfield 35, 3) := by decide +kernel
theorem dX9_askYounger_43 : decode cX9_askYounger 43 = .ok (.getfield 84, 3) := by decide +kernel
theorem dX9_askYounger_46 : decode cX9_askYounger 46 = .ok (.iload_n 2, 1) := by decide +kernel
theorem dX9_askYounger_47 : decode cX9_askYounger 47 = .ok (.iaload, 1) := by decide +kernel
theorem dX9_askYounger_48 : decode cX9_askYounger 48 = .ok (.aload_n 0, 1) := by decide +kernel
theorem dX9_askYounger_49 : decode cX9_askYounger 49 = .ok (.getfield 35, 3) := by decide +kernel
theorem dX9_askYounger_52 : decode cX9_askYounger 52 = .ok (.getfield 87, 3) := by decide +kernel
theorem dX9_askYounger_55 : decode cX9_askYounger 55 = .ok (.iconst 2, 1) := by decide +kernel
theorem dX9_askYounger_56 : decode cX9_askYounger 56 = .ok (.iaload, 1) := by decide +kernel
theorem dX9_askYounger_57 : decode cX9_askYounger 57 = .ok (.invokevirtual 90, 3) := by decide +kernel
theorem dX9_askYounger_60 : decode cX9_askYounger 60 = .ok (.iastore, 1) := by decide +kernel
theorem dX9_askYounger_61 : decode cX9_askYounger 61 = .ok (.iinc 2 1, 3) := by decide +kernel
theorem dX9_askYounger_64 : decode cX9_askYounger 64 = .ok (.goto (-60), 3) := by decide +kernel
theorem dX9_askYounger_67 : decode cX9_askYounger 67 = .ok (.return_, 1) := by decide +kernel
theorem dX9_keepAll_0 : decode cX9_keepAll 0 = .ok (.aload_n 0, 1) := by decide +kernel
theorem dX9_keepAll_1 : decode cX9_keepAll 1 = .ok (.getfield 11, 3) := by decide +kernel
theorem dX9_keepAll_4 : decode cX9_keepAll 4 = .ok (.iload_n 1, 1) := by decide +kernel
theorem dX9_keepAll_5 : decode cX9_keepAll 5 = .ok (.aaload, 1) := by decide +kernel
theorem dX9_keepAll_6 : decode cX9_keepAll 6 = .ok (.iconst 0, 1) := by decide +kernel
theorem dX9_keepAll_7 : decode cX9_keepAll 7 = .ok (.invokestatic 94, 3) := by decide +kernel
theorem dX9_keepAll_10 : decode cX9_keepAll 10 = .ok (.aload_n 0, 1) := by decide +kernel
theorem dX9_keepAll_11 : decode cX9_keepAll 11 = .ok (.getfield 11, 3) := by decide +kernel
theorem dX9_keepAll_14 : decode cX9_keepAll 14 = .ok (.iload_n 1, 1) := by decide +kernel
theorem dX9_keepAll_15 : decode cX9_keepAll 15 = .ok (.aaload, 1) := by decide +kernel
theorem dX9_keepAll_16 : decode cX9_keepAll 16 = .ok (.iload_n 1, 1) := by decide +kernel
theorem dX9_keepAll_17 : decode cX9_keepAll 17 = .ok (.aload_n 0, 1) := by decide +kernel
theorem dX9_keepAll_18 : decode cX9_keepAll 18 = .ok (.getfield 35, 3) := by decide +kernel
theorem dX9_keepAll_21 : decode cX9_keepAll 21 = .ok (.getfield 87, 3) := by decide +kernel
theorem dX9_keepAll_24 : decode cX9_keepAll 24 = .ok (.iconst 0, 1) := by decide +kernel
theorem dX9_keepAll_25 : decode cX9_keepAll 25 = .ok (.iaload, 1) := by decide +kernel
theorem dX9_keepAll_26 : decode cX9_keepAll 26 = .ok (.iastore, 1) := by decide +kernel
theorem dX9_keepAll_27 : decode cX9_keepAll 27 = .ok (.return_, 1) := by decide +kernel
theorem dX9_vote_0 : decode cX9_vote 0 = .ok (.aload_n 0, 1) := by decide +kernel
theorem dX9_vote_1 : decode cX9_vote 1 = .ok (.getfield 22, 3) := by decide +kernel
theorem dX9_vote_4 : decode cX9_vote 4 = .ok (.iload_n 1, 1) := by decide +kernel
theorem dX9_vote_5 : decode cX9_vote 5 = .ok (.iconst 1, 1) := by decide +kernel
theorem dX9_vote_6 : decode cX9_vote 6 = .ok (.iload_n 1, 1) := by decide +kernel
theorem dX9_vote_7 : decode cX9_vote 7 = .ok (.ishl, 1) := by decide +kernel
theorem dX9_vote_8 : decode cX9_vote 8 = .ok (.iastore, 1) := by decide +kernel
theorem dX9_vote_9 : decode cX9_vote 9 = .ok (.iload_n 1, 1) := by decide +kernel
theorem dX9_vote_10 : decode cX9_vote 10 = .ok (.iconst 1, 1) := by decide +kernel
theorem dX9_vote_11 : decode cX9_vote 11 = .ok (.iadd, 1) := by decide +kernel
theorem dX9_vote_12 : decode cX9_vote 12 = .ok (.istore_n 2, 1) := by decide +kernel
theorem dX9_vote_13 : decode cX9_vote 13 = .ok (.iload_n 2, 1) := by decide +kernel
theorem dX9_vote_14 : decode cX9_vote 14 = .ok (.aload_n 0, 1) := by decide +kernel
theorem dX9_vote_15 : decode cX9_vote 15 = .ok (.getfield 35, 3) := by decide +kernel
theorem dX9_vote_18 : decode cX9_vote 18 = .ok (.getfield 55, 3) := by decide +kernel
theorem dX9_vote_21 : decode cX9_vote 21 = .ok (.if_icmp .ge 40, 3) := by decide +kernel
theorem dX9_vote_24 : decode cX9_vote 24 = .ok (.aload_n 0, 1) := by decide +kernel
theorem dX9_vote_25 : decode cX9_vote 25 = .ok (.getfield 11, 3) := by decide +kernel
theorem dX9_vote_28 : decode cX9_vote 28 = .ok (.iload_n 1, 1) := by decide +kernel
theorem dX9_vote_29 : decode cX9_vote 29 = .ok (.aaload, 1) := by decide +kernel
theorem dX9_vote_30 : decode cX9_vote 30 = .ok (.iload_n 2, 1) := by decide +kernel
theorem dX9_vote_31 : decode cX9_vote 31 = .ok (.iaload, 1) := by decide +kernel
theorem dX9_vote_32 : decode cX9_vote 32 = .ok (.aload_n 0, 1) := by decide +kernel
theorem dX9_vote_33 : decode cX9_vote 33 = .ok (.getfield 16, 3) := by decide +kernel
theorem dX9_vote_36 : decode cX9_vote 36 = .ok (.iload_n 1, 1) := by decide +kernel
theorem dX9_vote_37 : decode cX9_vote 37 = .ok (.aaload, 1) := by decide +kernel
theorem dX9_vote_38 : decode cX9_vote 38 = .ok (.iload_n 2, 1) := by decide +kernel
theorem dX9_vote_39 : decode cX9_vote 39 = .ok (.iaload, 1) := by decide +kernel
theorem dX9_vote_40 : decode cX9_vote 40 = .ok (.if_icmp .lt 15, 3) := by decide +kernel
theorem dX9_vote_43 : decode cX9_vote 43 = .ok (.aload_n 0, 1) := by decide +kernel
theorem dX9_vote_44 : decode cX9_vote 44 = .ok (.getfield 22, 3) := by decide +kernel
theorem dX9_vote_47 : decode cX9_vote 47 = .ok (.iload_n 1, 1) := by decide +kernel
theorem dX9_vote_48 : decode cX9_vote 48 = .ok (.dup2, 1) := by decide +kernel
theorem dX9_vote_49 : decode cX9_vote 49 = .ok (.iaload, 1) := by decide +kernel
theorem dX9_vote_50 : decode cX9_vote 50 = .ok (.iconst 1, 1) := by decide +kernel
theorem dX9_vote_51 : decode cX9_vote 51 = .ok (.iload_n 2, 1) := by decide +kernel
theorem dX9_vote_52 : decode cX9_vote 52 = .ok (.ishl, 1) := by decide +kernel
theorem dX9_vote_53 : decode cX9_vote 53 = .ok (.ior, 1) := by decide +kernel
theorem dX9_vote_54 : decode cX9_vote 54 = .ok (.iastore, 1) := by decide +kernel
theorem dX9_vote_55 : decode cX9_vote 55 = .ok (.iinc 2 1, 3) := by decide +kernel
theorem dX9_vote_58 : decode cX9_vote 58 = .ok (.goto (-45), 3) := by decide +kernel
theorem dX9_vote_61 : decode cX9_vote 61 = .ok (.return_, 1) := by decide +kernel
theorem dX9_end_0 : decode cX9_end 0 = .ok (.iload_n 1, 1) := by decide +kernel
theorem dX9_end_1 : decode cX9_end 1 = .ok (.iconst 1, 1) := by decide +kernel
theorem dX9_end_2 : decode cX9_end 2 = .ok (.iadd, 1) := by decide +kernel
theorem dX9_end_3 : decode cX9_end 3 = .ok (.aload_n 0, 1) := by decide +kernel
theorem dX9_end_4 : decode cX9_end 4 = .ok (.getfield 35, 3) := by decide +kernel
theorem dX9_end_7 : decode cX9_end 7 = .ok (.getfield 55, 3) := by decide +kernel
theorem dX9_end_10 : decode cX9_end 10 = .ok (.if_icmp .lt 7, 3) := by decide +kernel
theorem dX9_end_13 : decode cX9_end 13 = .ok (.iconst 1, 1) := by decide +kernel
theorem dX9_end_14 : decode cX9_end 14 = .ok (.goto 4, 3) := by decide +kernel
theorem dX9_end_17 : decode cX9_end 17 = .ok (.iconst 0, 1) := by decide +kernel
theorem dX9_end_18 : decode cX9_end 18 = .ok (.istore_n 2, 1) := by decide +kernel
theorem dX9_end_19 : decode cX9_end 19 = .ok (.iload_n 2, 1) := by decide +kernel
theorem dX9_end_20 : decode cX9_end 20 = .ok (.ifCond .ne 20, 3) := by decide +kernel
theorem dX9_end_23 : decode cX9_end 23 = .ok (.aload_n 0, 1) := by decide +kernel
theorem dX9_end_24 : decode cX9_end 24 = .ok (.getfield 35, 3) := by decide +kernel
theorem dX9_end_27 : decode cX9_end 27 = .ok (.iload_n 1, 1) := by decide +kernel
theorem dX9_end_28 : decode cX9_end 28 = .ok (.aload_n 0, 1) := by decide +kernel
theorem dX9_end_29 : decode cX9_end 29 = .ok (.getfield 22, 3) := by decide +kernel
theorem dX9_end_32 : decode cX9_end 32 = .ok (.iload_n 1, 1) := by decide +kernel
theorem dX9_end_33 : decode cX9_end 33 = .ok (.iaload, 1) := by decide +kernel
theorem dX9_end_34 : decode cX9_end 34 = .ok (.invokevirtual 100, 3) := by decide +kernel
theorem dX9_end_37 : decode cX9_end 37 = .ok (.ifCond .eq 32, 3) := by decide +kernel
theorem dX9_end_40 : decode cX9_end 40 = .ok (.aload_n 0, 1) := by decide +kernel
theorem dX9_end_41 : decode cX9_end 41 = .ok (.getfield 26, 3) := by decide +kernel
theorem dX9_end_44 : decode cX9_end 44 = .ok (.iload_n 1, 1) := by decide +kernel
theorem dX9_end_45 : decode cX9_end 45 = .ok (.iload_n 1, 1) := by decide +kernel
theorem dX9_end_46 : decode cX9_end 46 = .ok (.iastore, 1) := by decide +kernel
theorem dX9_end_47 : decode cX9_end 47 = .ok (.aload_n 0, 1) := by decide +kernel
theorem dX9_end_48 : decode cX9_end 48 = .ok (.getfield 11, 3) := by decide +kernel
theorem dX9_end_51 : decode cX9_end 51 = .ok (.iload_n 1, 1) := by decide +kernel
theorem dX9_end_52 : decode cX9_end 52 = .ok (.aaload, 1) := by decide +kernel
theorem dX9_end_53 : decode cX9_end 53 = .ok (.iconst 0, 1) := by decide +kernel
theorem dX9_end_54 : decode cX9_end 54 = .ok (.aload_n 0, 1) := by decide +kernel
theorem dX9_end_55 : decode cX9_end 55 = .ok (.getfield 19, 3) := by decide +kernel
theorem dX9_end_58 : decode cX9_end 58 = .ok (.iload_n 1, 1) := by decide +kernel
theorem dX9_end_59 : decode cX9_end 59 = .ok (.aaload, 1) := by decide +kernel
theorem dX9_end_60 : decode cX9_end 60 = .ok (.iconst 0, 1) := by decide +kernel
theorem dX9_end_61 : decode cX9_end 61 = .ok (.bipush 8, 2) := by decide +kernel
theorem dX9_end_63 : decode cX9_end 63 = .ok (.invokestatic 104, 3) := by decide +kernel
theorem dX9_end_66 : decode cX9_end 66 = .ok (.goto 47, 3) := by decide +kernel
theorem dX9_end_69 : decode cX9_end 69 = .ok (.aload_n 0, 1) := by decide +kernel
theorem dX9_end_70 : decode cX9_end 70 = .ok (.getfield 26, 3) := by decide +kernel
theorem dX9_end_73 : decode cX9_end 73 = .ok (.iload_n 1, 1) := by decide +kernel
theorem dX9_end_74 : decode cX9_end 74 = .ok (.aload_n 0, 1) := by decide +kernel
theorem dX9_end_75 : decode cX9_end 75 = .ok (.getfield 26, 3) := by decide +kernel
theorem dX9_end_78 : decode cX9_end 78 = .ok (.iload_n 1, 1) := by decide +kernel
theorem dX9_end_79 : decode cX9_end 79 = .ok (.iconst 1, 1) := by decide +kernel
theorem dX9_end_80 : decode cX9_end 80 = .ok (.iadd, 1) := by decide +kernel
theorem dX9_end_81 : decode cX9_end 81 = .ok (.iaload, 1) := by decide +kernel
theorem dX9_end_82 : decode cX9_end 82 = .ok (.iastore, 1) := by decide +kernel
theorem dX9_end_83 : decode cX9_end 83 = .ok (.aload_n 0, 1) := by decide +kernel
theorem dX9_end_84 : decode cX9_end 84 = .ok (.getfield 19, 3) := by decide +kernel
theorem dX9_end_87 : decode cX9_end 87 = .ok (.iload_n 1, 1) := by decide +kernel
theorem dX9_end_88 : decode cX9_end 88 = .ok (.iconst 1, 1) := by decide +kernel
theorem dX9_end_89 : decode cX9_end 89 = .ok (.iadd, 1) := by decide +kernel
theorem dX9_end_90 : decode cX9_end 90 = .ok (.aaload, 1) := by decide +kernel
theorem dX9_end_91 : decode cX9_end 91 = .ok (.iconst 0, 1) := by decide +kernel
theorem dX9_end_92 : decode cX9_end 92 = .ok (.aload_n 0, 1) := by decide +kernel
theorem dX9_end_93 : decode cX9_end 93 = .ok (.getfield 19, 3) := by decide +kernel
theorem dX9_end_96 : decode cX9_end 96 = .ok (.iload_n 1, 1) := by decide +kernel
theorem dX9_end_97 : decode cX9_end 97 = .ok (.aaload, 1) := by decide +kernel
theorem dX9_end_98 : decode cX9_end 98 = .ok (.iconst 0, 1) := by decide +kernel
theorem dX9_end_99 : decode cX9_end 99 = .ok (.bipush 8, 2) := by decide +kernel
theorem dX9_end_101 : decode cX9_end 101 = .ok (.invokestatic 104, 3) := by decide +kernel
theorem dX9_end_104 : decode cX9_end 104 = .ok (.aload_n 0, 1) := by decide +kernel
theorem dX9_end_105 : decode cX9_end 105 = .ok (.getfield 19, 3) := by decide +kernel
theorem dX9_end_108 : decode cX9_end 108 = .ok (.iload_n 1, 1) := by decide +kernel
theorem dX9_end_109 : decode cX9_end 109 = .ok (.aaload, 1) := by decide +kernel
theorem dX9_end_110 : decode cX9_end 110 = .ok (.iload_n 1, 1) := by decide +kernel
theorem dX9_end_111 : decode cX9_end 111 = .ok (.iconst (-1), 1) := by decide +kernel
theorem dX9_end_112 : decode cX9_end 112 = .ok (.iastore, 1) := by decide +kernel
theorem dX9_end_113 : decode cX9_end 113 = .ok (.return_, 1) := by decide +kernel
theorem dX9_buyCheapest_0 : decode cX9_buyCheapest 0 = .ok (.aload_n 0, 1) := by decide +kernel
theorem dX9_buyCheapest_1 : decode cX9_buyCheapest 1 = .ok (.invokevirtual 110, 3) := by decide +kernel
theorem dX9_buyCheapest_4 : decode cX9_buyCheapest 4 = .ok (.aload_n 0, 1) := by decide +kernel
theorem dX9_buyCheapest_5 : decode cX9_buyCheapest 5 = .ok (.getfield 35, 3) := by decide +kernel
theorem dX9_buyCheapest_8 : decode cX9_buyCheapest 8 = .ok (.getfield 55, 3) := by decide +kernel
theorem dX9_buyCheapest_11 : decode cX9_buyCheapest 11 = .ok (.iconst 1, 1) := by decide +kernel
theorem dX9_buyCheapest_12 : decode cX9_buyCheapest 12 = .ok (.isub, 1) := by decide +kernel
theorem dX9_buyCheapest_13 : decode cX9_buyCheapest 13 = .ok (.iload_n 1, 1) := by decide +kernel
theorem dX9_buyCheapest_14 : decode cX9_buyCheapest 14 = .ok (.isub, 1) := by decide +kernel
theorem dX9_buyCheapest_15 : decode cX9_buyCheapest 15 = .ok (.istore_n 2, 1) := by decide +kernel
theorem dX9_buyCheapest_16 : decode cX9_buyCheapest 16 = .ok (.iconst 0, 1) := by decide +kernel
theorem dX9_buyCheapest_17 : decode cX9_buyCheapest 17 = .ok (.istore_n 3, 1) := by decide +kernel
theorem dX9_buyCheapest_18 : decode cX9_buyCheapest 18 = .ok (.iload_n 3, 1) := by decide +kernel
theorem dX9_buyCheapest_19 : decode cX9_buyCheapest 19 = .ok (.iload_n 2, 1) := by decide +kernel
theorem dX9_buyCheapest_20 : decode cX9_buyCheapest 20 = .ok (.if_icmp .ge 40, 3) := by decide +kernel
theorem dX9_buyCheapest_23 : decode cX9_buyCheapest 23 = .ok (.aload_n 0, 1) := by decide +kernel
theorem dX9_buyCheapest_24 : decode cX9_buyCheapest 24 = .ok (.iload_n 1, 1) := by decide +kernel
theorem dX9_buyCheapest_25 : decode cX9_buyCheapest 25 = .ok (.iload_n 3, 1) := by decide +kernel
theorem dX9_buyCheapest_26 : decode cX9_buyCheapest 26 = .ok (.invokevirtual 113, 3) := by decide +kernel
theorem dX9_buyCheapest_29 : decode cX9_buyCheapest 29 = .ok (.istore 4, 2) := by decide +kernel
theorem dX9_buyCheapest_31 : decode cX9_buyCheapest 31 = .ok (.aload_n 0, 1) := by decide +kernel
theorem dX9_buyCheapest_32 : decode cX9_buyCheapest 32 = .ok (.aload_n 0, 1) := by decide +kernel
theorem dX9_buyCheapest_33 : decode cX9_buyCheapest 33 = .ok (.getfield 16, 3) := by decide +kernel
theorem dX9_buyCheapest_36 : decode cX9_buyCheapest 36 = .ok (.iload_n 1, 1) := by decide +kernel
theorem dX9_buyCheapest_37 : decode cX9_buyCheapest 37 = .ok (.aaload, 1) := by decide +kernel
theorem dX9_buyCheapest_38 : decode cX9_buyCheapest 38 = .ok (.iload 4, 2) := by decide +kernel
theorem dX9_buyCheapest_40 : decode cX9_buyCheapest 40 = .ok (.iaload, 1) := by decide +kernel
theorem dX9_buyCheapest_41 : decode cX9_buyCheapest 41 = .ok (.aload_n 0, 1) := by decide +kernel
theorem dX9_buyCheapest_42 : decode cX9_buyCheapest 42 = .ok (.getfield 35, 3) := by decide +kernel
theorem dX9_buyCheapest_45 : decode cX9_buyCheapest 45 = .ok (.getfield 117, 3) := by decide +kernel
theorem dX9_buyCheapest_48 : decode cX9_buyCheapest 48 = .ok (.iload 4, 2) := by decide +kernel
theorem dX9_buyCheapest_50 : decode cX9_buyCheapest 50 = .ok (.iaload, 1) := by decide +kernel
theorem dX9_buyCheapest_51 : decode cX9_buyCheapest 51 = .ok (.invokevirtual 120, 3) := by decide +kernel
theorem dX9_buyCheapest_54 : decode cX9_buyCheapest 54 = .ok (.iinc 3 1, 3) := by decide +kernel
theorem dX9_buyCheapest_57 : decode cX9_buyCheapest 57 = .ok (.goto (-39), 3) := by decide +kernel
theorem dX9_buyCheapest_60 : decode cX9_buyCheapest 60 = .ok (.aload_n 0, 1) := by decide +kernel
theorem dX9_buyCheapest_61 : decode cX9_buyCheapest 61 = .ok (.iload_n 1, 1) := by decide +kernel
theorem dX9_buyCheapest_62 : decode cX9_buyCheapest 62 = .ok (.invokevirtual 124, 3) := by decide +kernel
theorem dX9_buyCheapest_65 : decode cX9_buyCheapest 65 = .ok (.istore_n 3, 1) := by decide +kernel
theorem dX9_buyCheapest_66 : decode cX9_buyCheapest 66 = .ok (.iload_n 3, 1) := by decide +kernel
theorem dX9_buyCheapest_67 : decode cX9_buyCheapest 67 = .ok (.ifCond .lt 21, 3) := by decide +kernel
theorem dX9_buyCheapest_70 : decode cX9_buyCheapest 70 = .ok (.aload_n 0, 1) := by decide +kernel
theorem dX9_buyCheapest_71 : decode cX9_buyCheapest 71 = .ok (.getfield 45, 3) := by decide +kernel
theorem dX9_buyCheapest_74 : decode cX9_buyCheapest 74 = .ok (.iload_n 3, 1) := by decide +kernel
theorem dX9_buyCheapest_75 : decode cX9_buyCheapest 75 = .ok (.iaload, 1) := by decide +kernel
theorem dX9_buyCheapest_76 : decode cX9_buyCheapest 76 = .ok (.aload_n 0, 1) := by decide +kernel
theorem dX9_buyCheapest_77 : decode cX9_buyCheapest 77 = .ok (.getfield 35, 3) := by decide +kernel
theorem dX9_buyCheapest_80 : decode cX9_buyCheapest 80 = .ok (.getfield 87, 3) := by decide +kernel
theorem dX9_buyCheapest_83 : decode cX9_buyCheapest 83 = .ok (.iconst 0, 1) := by decide +kernel
theorem dX9_buyCheapest_84 : decode cX9_buyCheapest 84 = .ok (.iaload, 1) := by decide +kernel
theorem dX9_buyCheapest_85 : decode cX9_buyCheapest 85 = .ok (.if_icmp .le 4, 3) := by decide +kernel
theorem dX9_buyCheapest_88 : decode cX9_buyCheapest 88 = .ok (.return_, 1) := by decide +kernel
theorem dX9_buyCheapest_89 : decode cX9_buyCheapest 89 = .ok (.aload_n 0, 1) := by decide +kernel
theorem dX9_buyCheapest_90 : decode cX9_buyCheapest 90 = .ok (.getfield 29, 3) := by decide +kernel
theorem dX9_buyCheapest_93 : decode cX9_buyCheapest 93 = .ok (.iload_n 1, 1) := by decide +kernel
theorem dX9_buyCheapest_94 : decode cX9_buyCheapest 94 = .ok (.iconst 0, 1) := by decide +kernel
theorem dX9_buyCheapest_95 : decode cX9_buyCheapest 95 = .ok (.iastore, 1) := by decide +kernel
theorem dX9_buyCheapest_96 : decode cX9_buyCheapest 96 = .ok (.iconst 0, 1) := by decide +kernel
theorem dX9_buyCheapest_97 : decode cX9_buyCheapest 97 = .ok (.istore 4, 2) := by decide +kernel
theorem dX9_buyCheapest_99 : decode cX9_buyCheapest 99 = .ok (.iload 4, 2) := by decide +kernel
theorem dX9_buyCheapest_101 : decode cX9_buyCheapest 101 = .ok (.aload_n 0, 1) := by decide +kernel
theorem dX9_buyCheapest_102 : decode cX9_buyCheapest 102 = .ok (.getfield 128, 3) := by decide +kernel
theorem dX9_buyCheapest_105 : decode cX9_buyCheapest 105 = .ok (.if_icmp .ge 57, 3) := by decide +kernel
theorem dX9_buyCheapest_108 : decode cX9_buyCheapest 108 = .ok (.iload_n 3, 1) := by decide +kernel
theorem dX9_buyCheapest_109 : decode cX9_buyCheapest 109 = .ok (.iload 4, 2) := by decide +kernel
theorem dX9_buyCheapest_111 : decode cX9_buyCheapest 111 = .ok (.ishr, 1) := by decide +kernel
theorem dX9_buyCheapest_112 : decode cX9_buyCheapest 112 = .ok (.iconst 1, 1) := by decide +kernel
theorem dX9_buyCheapest_113 : decode cX9_buyCheapest 113 = .ok (.iand, 1) := by decide +kernel
theorem dX9_buyCheapest_114 : decode cX9_buyCheapest 114 = .ok (.iconst 1, 1) := by decide +kernel
theorem dX9_buyCheapest_115 : decode cX9_buyCheapest 115 = .ok (.if_icmp .ne 41, 3) := by decide +kernel
theorem dX9_buyCheapest_118 : decode cX9_buyCheapest 118 = .ok (.aload_n 0, 1) := by decide +kernel
theorem dX9_buyCheapest_119 : decode cX9_buyCheapest 119 = .ok (.iload_n 1, 1) := by decide +kernel
theorem dX9_buyCheapest_120 : decode cX9_buyCheapest 120 = .ok (.iload 4, 2) := by decide +kernel
theorem dX9_buyCheapest_122 : decode cX9_buyCheapest 122 = .ok (.invokevirtual 113, 3) := by decide +kernel
theorem dX9_buyCheapest_125 : decode cX9_buyCheapest 125 = .ok (.istore 5, 2) := by decide +kernel
theorem dX9_buyCheapest_127 : decode cX9_buyCheapest 127 = .ok (.aload_n 0, 1) := by decide +kernel
theorem dX9_buyCheapest_128 : decode cX9_buyCheapest 128 = .ok (.getfield 29, 3) := by decide +kernel
theorem dX9_buyCheapest_131 : decode cX9_buyCheapest 131 = .ok (.iload_n 1, 1) := by decide +kernel
theorem dX9_buyCheapest_132 : decode cX9_buyCheapest 132 = .ok (.dup2, 1) := by decide +kernel
theorem dX9_buyCheapest_133 : decode cX9_buyCheapest 133 = .ok (.iaload, 1) := by decide +kernel
theorem dX9_buyCheapest_134 : decode cX9_buyCheapest 134 = .ok (.iconst 1, 1) := by decide +kernel
theorem dX9_buyCheapest_135 : decode cX9_buyCheapest 135 = .ok (.iload 5, 2) := by decide +kernel
theorem dX9_buyCheapest_137 : decode cX9_buyCheapest 137 = .ok (.ishl, 1) := by decide +kernel
theorem dX9_buyCheapest_138 : decode cX9_buyCheapest 138 = .ok (.ior, 1) := by decide +kernel
theorem dX9_buyCheapest_139 : decode cX9_buyCheapest 139 = .ok (.iastore, 1) := by decide +kernel
theorem dX9_buyCheapest_140 : decode cX9_buyCheapest 140 = .ok (.aload_n 0, 1) := by decide +kernel
theorem dX9_buyCheapest_141 : decode cX9_buyCheapest 141 = .ok (.getfield 11, 3) := by decide +kernel
theorem dX9_buyCheapest_144 : decode cX9_buyCheapest 144 = .ok (.iload_n 1, 1) := by decide +kernel
theorem dX9_buyCheapest_145 : decode cX9_buyCheapest 145 = .ok (.aaload, 1) := by decide +kernel
theorem dX9_buyCheapest_146 : decode cX9_buyCheapest 146 = .ok (.iload 5, 2) := by decide +kernel
theorem dX9_buyCheapest_148 : decode cX9_buyCheapest 148 = .ok (.aload_n 0, 1) := by decide +kernel
theorem dX9_buyCheapest_149 : decode cX9_buyCheapest 149 = .ok (.getfield 39, 3) := by decide +kernel
theorem dX9_buyCheapest_152 : decode cX9_buyCheapest 152 = .ok (.iload 4, 2) := by decide +kernel
theorem dX9_buyCheapest_154 : decode cX9_buyCheapest 154 = .ok (.iaload, 1) := by decide +kernel
theorem dX9_buyCheapest_155 : decode cX9_buyCheapest 155 = .ok (.iastore, 1) := by decide +kernel
theorem dX9_buyCheapest_156 : decode cX9_buyCheapest 156 = .ok (.iinc 4 1, 3) := by decide +kernel
theorem dX9_buyCheapest_159 : decode cX9_buyCheapest 159 = .ok (.goto (-60), 3) := by decide +kernel
theorem dX9_buyCheapest_162 : decode cX9_buyCheapest 162 = .ok (.aload_n 0, 1) := by decide +kernel
theorem dX9_buyCheapest_163 : decode cX9_buyCheapest 163 = .ok (.getfield 11, 3) := by decide +kernel
theorem dX9_buyCheapest_166 : decode cX9_buyCheapest 166 = .ok (.iload_n 1, 1) := by decide +kernel
theorem dX9_buyCheapest_167 : decode cX9_buyCheapest 167 = .ok (.aaload, 1) := by decide +kernel
theorem dX9_buyCheapest_168 : decode cX9_buyCheapest 168 = .ok (.iload_n 1, 1) := by decide +kernel
theorem dX9_buyCheapest_169 : decode cX9_buyCheapest 169 = .ok (.dup2, 1) := by decide +kernel
theorem dX9_buyCheapest_170 : decode cX9_buyCheapest 170 = .ok (.iaload, 1) := by decide +kernel
theorem dX9_buyCheapest_171 : decode cX9_buyCheapest 171 = .ok (.aload_n 0, 1) := by decide +kernel
theorem dX9_buyCheapest_172 : decode cX9_buyCheapest 172 = .ok (.getfield 45, 3) := by decide +kernel
theorem dX9_buyCheapest_175 : decode cX9_buyCheapest 175 = .ok (.iload_n 3, 1) := by decide +kernel
theorem dX9_buyCheapest_176 : decode cX9_buyCheapest 176 = .ok (.iaload, 1) := by decide +kernel
theorem dX9_buyCheapest_177 : decode cX9_buyCheapest 177 = .ok (.isub, 1) := by decide +kernel
theorem dX9_buyCheapest_178 : decode cX9_buyCheapest 178 = .ok (.iastore, 1) := by decide +kernel
theorem dX9_buyCheapest_179 : decode cX9_buyCheapest 179 = .ok (.return_, 1) := by decide +kernel
theorem dX9_manOfUnit_0 : decode cX9_manOfUnit 0 = .ok (.aload_n 0, 1) := by decide +kernel
theorem dX9_manOfUnit_1 : decode cX9_manOfUnit 1 = .ok (.getfield 35, 3) := by decide +kernel
theorem dX9_manOfUnit_4 : decode cX9_manOfUnit 4 = .ok (.getfield 87, 3) := by decide +kernel
theorem dX9_manOfUnit_7 : decode cX9_manOfUnit 7 = .ok (.iconst 3, 1) := by decide +kernel
theorem dX9_manOfUnit_8 : decode cX9_manOfUnit 8 = .ok (.iaload, 1) := by decide +kernel
theorem dX9_manOfUnit_9 : decode cX9_manOfUnit 9 = .ok (.ifCond .ne 17, 3) := by decide +kernel
theorem dX9_manOfUnit_12 : decode cX9_manOfUnit 12 = .ok (.aload_n 0, 1) := by decide +kernel
theorem dX9_manOfUnit_13 : decode cX9_manOfUnit 13 = .ok (.getfield 35, 3) := by decide +kernel
theorem dX9_manOfUnit_16 : decode cX9_manOfUnit 16 = .ok (.getfield 55, 3) := by decide +kernel
theorem dX9_manOfUnit_19 : decode cX9_manOfUnit 19 = .ok (.iconst 1, 1) := by decide +kernel
theorem dX9_manOfUnit_20 : decode cX9_manOfUnit 20 = .ok (.isub, 1) := by decide +kernel
theorem dX9_manOfUnit_21 : decode cX9_manOfUnit 21 = .ok (.iload_n 2, 1) := by decide +kernel
theorem dX9_manOfUnit_22 : decode cX9_manOfUnit 22 = .ok (.isub, 1) := by decide +kernel
theorem dX9_manOfUnit_23 : decode cX9_manOfUnit 23 = .ok (.goto 8, 3) := by decide +kernel
theorem dX9_manOfUnit_26 : decode cX9_manOfUnit 26 = .ok (.iload_n 1, 1) := by decide +kernel
theorem dX9_manOfUnit_27 : decode cX9_manOfUnit 27 = .ok (.iconst 1, 1) := by decide +kernel
theorem dX9_manOfUnit_28 : decode cX9_manOfUnit 28 = .ok (.iadd, 1) := by decide +kernel
theorem dX9_manOfUnit_29 : decode cX9_manOfUnit 29 = .ok (.iload_n 2, 1) := by decide +kernel
theorem dX9_manOfUnit_30 : decode cX9_manOfUnit 30 = .ok (.iadd, 1) := by decide +kernel
theorem dX9_manOfUnit_31 : decode cX9_manOfUnit 31 = .ok (.ireturn, 1) := by decide +kernel
theorem dX9_forgetUnits_0 : decode cX9_forgetUnits 0 = .ok (.aload_n 0, 1) := by decide +kernel
theorem dX9_forgetUnits_1 : decode cX9_forgetUnits 1 = .ok (.iconst 0, 1) := by decide +kernel
theorem dX9_forgetUnits_2 : decode cX9_forgetUnits 2 = .ok (.putfield 128, 3) := by decide +kernel
theorem dX9_forgetUnits_5 : decode cX9_forgetUnits 5 = .ok (.aload_n 0, 1) := by decide +kernel
theorem dX9_forgetUnits_6 : decode cX9_forgetUnits 6 = .ok (.iconst 0, 1) := by decide +kernel
theorem dX9_forgetUnits_7 : decode cX9_forgetUnits 7 = .ok (.putfield 131, 3) := by decide +kernel
theorem dX9_forgetUnits_10 : decode cX9_forgetUnits 10 = .ok (.return_, 1) := by decide +kernel
theorem dX9_addUnit_0 : decode cX9_addUnit 0 = .ok (.aload_n 0, 1) := by decide +kernel
theorem dX9_addUnit_1 : decode cX9_addUnit 1 = .ok (.getfield 128, 3) := by decide +kernel
theorem dX9_addUnit_4 : decode cX9_addUnit 4 = .ok (.aload_n 0, 1) := by decide +kernel
theorem dX9_addUnit_5 : decode cX9_addUnit 5 = .ok (.getfield 39, 3) := by decide +kernel
theorem dX9_addUnit_8 : decode cX9_addUnit 8 = .ok (.arraylength, 1) := by decide +kernel
theorem dX9_addUnit_9 : decode cX9_addUnit 9 = .ok (.if_icmp .ge 59, 3) := by decide +kernel
theorem dX9_addUnit_12 : decode cX9_addUnit 12 = .ok (.aload_n 0, 1) := by decide +kernel
theorem dX9_addUnit_13 : decode cX9_addUnit 13 = .ok (.getfield 39, 3) := by decide +kernel
theorem dX9_addUnit_16 : decode cX9_addUnit 16 = .ok (.aload_n 0, 1) := by decide +kernel
theorem dX9_addUnit_17 : decode cX9_addUnit 17 = .ok (.getfield 128, 3) := by decide +kernel
theorem dX9_addUnit_20 : decode cX9_addUnit 20 = .ok (.iload_n 1, 1) := by decide +kernel
theorem dX9_addUnit_21 : decode cX9_addUnit 21 = .ok (.iastore, 1) := by decide +kernel
theorem dX9_addUnit_22 : decode cX9_addUnit 22 = .ok (.aload_n 0, 1) := by decide +kernel
theorem dX9_addUnit_23 : decode cX9_addUnit 23 = .ok (.getfield 42, 3) := by decide +kernel
theorem dX9_addUnit_26 : decode cX9_addUnit 26 = .ok (.aload_n 0, 1) := by decide +kernel
theorem dX9_addUnit_27 : decode cX9_addUnit 27 = .ok (.getfield 128, 3) := by decide +kernel
theorem dX9_addUnit_30 : decode cX9_addUnit 30 = .ok (.iload_n 1, 1) := by decide +kernel
theorem dX9_addUnit_31 : decode cX9_addUnit 31 = .ok (.ifCond .le 7, 3) := by decide +kernel
theorem dX9_addUnit_34 : decode cX9_addUnit 34 = .ok (.iload_n 2, 1) := by decide +kernel
theorem dX9_addUnit_35 : decode cX9_addUnit 35 = .ok (.goto 4, 3) := by decide +kernel
theorem dX9_addUnit_38 : decode cX9_addUnit 38 = .ok (.iconst 0, 1) := by decide +kernel
theorem dX9_addUnit_39 : decode cX9_addUnit 39 = .ok (.iastore, 1) := by decide +kernel
theorem dX9_addUnit_40 : decode cX9_addUnit 40 = .ok (.aload_n 0, 1) := by decide +kernel
theorem dX9_addUnit_41 : decode cX9_addUnit 41 = .ok (.dup, 1) := by decide +kernel
theorem dX9_addUnit_42 : decode cX9_addUnit 42 = .ok (.getfield 131, 3) := by decide +kernel
theorem dX9_addUnit_45 : decode cX9_addUnit 45 = .ok (.iload_n 1, 1) := by decide +kernel
theorem dX9_addUnit_46 : decode cX9_addUnit 46 = .ok (.ifCond .le 7, 3) := by decide +kernel
theorem dX9_addUnit_49 : decode cX9_addUnit 49 = .ok (.iconst 0, 1) := by decide +kernel
theorem dX9_addUnit_50 : decode cX9_addUnit 50 = .ok (.goto 4, 3) := by decide +kernel
theorem dX9_addUnit_53 : decode cX9_addUnit 53 = .ok (.iload_n 2, 1) := by decide +kernel
theorem dX9_addUnit_54 : decode cX9_addUnit 54 = .ok (.iadd, 1) := by decide +kernel
theorem dX9_addUnit_55 : decode cX9_addUnit 55 = .ok (.putfield 131, 3) := by decide +kernel
theorem dX9_addUnit_58 : decode cX9_addUnit 58 = .ok (.aload_n 0, 1) := by decide +kernel
theorem dX9_addUnit_59 : decode cX9_addUnit 59 = .ok (.dup, 1) := by decide +kernel
theorem dX9_addUnit_60 : decode cX9_addUnit 60 = .ok (.getfield 128, 3) := by decide +kernel
theorem dX9_addUnit_63 : decode cX9_addUnit 63 = .ok (.iconst 1, 1) := by decide +kernel
theorem dX9_addUnit_64 : decode cX9_addUnit 64 = .ok (.iadd, 1) := by decide +kernel
theorem dX9_addUnit_65 : decode cX9_addUnit 65 = .ok (.putfield 128, 3) := by decide +kernel
theorem dX9_addUnit_68 : decode cX9_addUnit 68 = .ok (.return_, 1) := by decide +kernel
theorem dX9_cheapestSet_0 : decode cX9_cheapestSet 0 = .ok (.aload_n 0, 1) := by decide +kernel
theorem dX9_cheapestSet_1 : decode cX9_cheapestSet 1 = .ok (.aload_n 0, 1) := by decide +kernel
theorem dX9_cheapestSet_2 : decode cX9_cheapestSet 2 = .ok (.getfield 35, 3) := by decide +kernel
theorem dX9_cheapestSet_5 : decode cX9_cheapestSet 5 = .ok (.getfield 117, 3) := by decide +kernel
theorem dX9_cheapestSet_8 : decode cX9_cheapestSet 8 = .ok (.iload_n 1, 1) := by decide +kernel
theorem dX9_cheapestSet_9 : decode cX9_cheapestSet 9 = .ok (.iaload, 1) := by decide +kernel
theorem dX9_cheapestSet_10 : decode cX9_cheapestSet 10 = .ok (.invokevirtual 134, 3) := by decide +kernel
theorem dX9_cheapestSet_13 : decode cX9_cheapestSet 13 = .ok (.istore_n 2, 1) := by decide +kernel
theorem dX9_cheapestSet_14 : decode cX9_cheapestSet 14 = .ok (.aload_n 0, 1) := by decide +kernel
theorem dX9_cheapestSet_15 : decode cX9_cheapestSet 15 = .ok (.getfield 35, 3) := by decide +kernel
theorem dX9_cheapestSet_18 : decode cX9_cheapestSet 18 = .ok (.iload_n 1, 1) := by decide +kernel
theorem dX9_cheapestSet_19 : decode cX9_cheapestSet 19 = .ok (.invokevirtual 137, 3) := by decide +kernel
theorem dX9_cheapestSet_22 : decode cX9_cheapestSet 22 = .ok (.istore_n 3, 1) := by decide +kernel
theorem dX9_cheapestSet_23 : decode cX9_cheapestSet 23 = .ok (.bipush (-9), 2) := by decide +kernel
theorem dX9_cheapestSet_25 : decode cX9_cheapestSet 25 = .ok (.istore 4, 2) := by decide +kernel
theorem dX9_cheapestSet_27 : decode cX9_cheapestSet 27 = .ok (.iconst 0, 1) := by decide +kernel
theorem dX9_cheapestSet_28 : decode cX9_cheapestSet 28 = .ok (.istore 5, 2) := by decide +kernel
theorem dX9_cheapestSet_30 : decode cX9_cheapestSet 30 = .ok (.iload 5, 2) := by decide +kernel
theorem dX9_cheapestSet_32 : decode cX9_cheapestSet 32 = .ok (.iload_n 2, 1) := by decide +kernel
theorem dX9_cheapestSet_33 : decode cX9_cheapestSet 33 = .ok (.if_icmp .ge 70, 3) := by decide +kernel
theorem dX9_cheapestSet_36 : decode cX9_cheapestSet 36 = .ok (.iload 4, 2) := by decide +kernel
theorem dX9_cheapestSet_38 : decode cX9_cheapestSet 38 = .ok (.ifCond .lt 20, 3) := by decide +kernel
theorem dX9_cheapestSet_41 : decode cX9_cheapestSet 41 = .ok (.aload_n 0, 1) := by decide +kernel
theorem dX9_cheapestSet_42 : decode cX9_cheapestSet 42 = .ok (.getfield 45, 3) := by decide +kernel
theorem dX9_cheapestSet_45 : decode cX9_cheapestSet 45 = .ok (.iload 5, 2) := by decide +kernel
theorem dX9_cheapestSet_47 : decode cX9_cheapestSet 47 = .ok (.iaload, 1) := by decide +kernel
theorem dX9_cheapestSet_48 : decode cX9_cheapestSet 48 = .ok (.aload_n 0, 1) := by decide +kernel
theorem dX9_cheapestSet_49 : decode cX9_cheapestSet 49 = .ok (.getfield 45, 3) := by decide +kernel
theorem dX9_cheapestSet_52 : decode cX9_cheapestSet 52 = .ok (.iload 4, 2) := by decide +kernel
theorem dX9_cheapestSet_54 : decode cX9_cheapestSet 54 = .ok (.iaload, 1) := by decide +kernel
theorem dX9_cheapestSet_55 : decode cX9_cheapestSet 55 = .ok (.if_icmp .gt 7, 3) := by decide +kernel
theorem dX9_cheapestSet_58 : decode cX9_cheapestSet 58 = .ok (.iconst 1, 1) := by decide +kernel
theorem dX9_cheapestSet_59 : decode cX9_cheapestSet 59 = .ok (.goto 4, 3) := by decide +kernel
theorem dX9_cheapestSet_62 : decode cX9_cheapestSet 62 = .ok (.iconst 0, 1) := by decide +kernel
theorem dX9_cheapestSet_63 : decode cX9_cheapestSet 63 = .ok (.istore 6, 2) := by decide +kernel
theorem dX9_cheapestSet_65 : decode cX9_cheapestSet 65 = .ok (.iload 6, 2) := by decide +kernel
theorem dX9_cheapestSet_67 : decode cX9_cheapestSet 67 = .ok (.ifCond .eq 30, 3) := by decide +kernel
theorem dX9_cheapestSet_70 : decode cX9_cheapestSet 70 = .ok (.aload_n 0, 1) := by decide +kernel
theorem dX9_cheapestSet_71 : decode cX9_cheapestSet 71 = .ok (.getfield 35, 3) := by decide +kernel
theorem dX9_cheapestSet_74 : decode cX9_cheapestSet 74 = .ok (.getfield 87, 3) := by decide +kernel
theorem dX9_cheapestSet_77 : decode cX9_cheapestSet 77 = .ok (.iconst 1, 1) := by decide +kernel
theorem dX9_cheapestSet_78 : decode cX9_cheapestSet 78 = .ok (.iaload, 1) := by decide +kernel
theorem dX9_cheapestSet_79 : decode cX9_cheapestSet 79 = .ok (.aload_n 0, 1) := by decide +kernel
theorem dX9_cheapestSet_80 : decode cX9_cheapestSet 80 = .ok (.getfield 48, 3) := by decide +kernel
theorem dX9_cheapestSet_83 : decode cX9_cheapestSet 83 = .ok (.iload 5, 2) := by decide +kernel
theorem dX9_cheapestSet_85 : decode cX9_cheapestSet 85 = .ok (.iaload, 1) := by decide +kernel
theorem dX9_cheapestSet_86 : decode cX9_cheapestSet 86 = .ok (.iload_n 3, 1) := by decide +kernel
theorem dX9_cheapestSet_87 : decode cX9_cheapestSet 87 = .ok (.invokestatic 140, 3) := by decide +kernel
theorem dX9_cheapestSet_90 : decode cX9_cheapestSet 90 = .ok (.ifCond .eq 7, 3) := by decide +kernel
theorem dX9_cheapestSet_93 : decode cX9_cheapestSet 93 = .ok (.iload 5, 2) := by decide +kernel
theorem dX9_cheapestSet_95 : decode cX9_cheapestSet 95 = .ok (.istore 4, 2) := by decide +kernel
theorem dX9_cheapestSet_97 : decode cX9_cheapestSet 97 = .ok (.iinc 5 1, 3) := by decide +kernel
theorem dX9_cheapestSet_100 : decode cX9_cheapestSet 100 = .ok (.goto (-70), 3) := by decide +kernel
theorem dX9_cheapestSet_103 : decode cX9_cheapestSet 103 = .ok (.iload 4, 2) := by decide +kernel
theorem dX9_cheapestSet_105 : decode cX9_cheapestSet 105 = .ok (.ireturn, 1) := by decide +kernel
theorem dX9_listSets_0 : decode cX9_listSets 0 = .ok (.aload_n 0, 1) := by decide +kernel
theorem dX9_listSets_1 : decode cX9_listSets 1 = .ok (.getfield 45, 3) := by decide +kernel
theorem dX9_listSets_4 : decode cX9_listSets 4 = .ok (.iconst 0, 1) := by decide +kernel
theorem dX9_listSets_5 : decode cX9_listSets 5 = .ok (.iconst 0, 1) := by decide +kernel
theorem dX9_listSets_6 : decode cX9_listSets 6 = .ok (.iastore, 1) := by decide +kernel
theorem dX9_listSets_7 : decode cX9_listSets 7 = .ok (.aload_n 0, 1) := by decide +kernel
theorem dX9_listSets_8 : decode cX9_listSets 8 = .ok (.getfield 48, 3) := by decide +kernel
theorem dX9_listSets_11 : decode cX9_listSets 11 = .ok (.iconst 0, 1) := by decide +kernel
theorem dX9_listSets_12 : decode cX9_listSets 12 = .ok (.iload_n 1, 1) := by decide +kernel
theorem dX9_listSets_13 : decode cX9_listSets 13 = .ok (.aload_n 0, 1) := by decide +kernel
theorem dX9_listSets_14 : decode cX9_listSets 14 = .ok (.getfield 131, 3) := by decide +kernel
theorem dX9_listSets_17 : decode cX9_listSets 17 = .ok (.iadd, 1) := by decide +kernel
theorem dX9_listSets_18 : decode cX9_listSets 18 = .ok (.iastore, 1) := by decide +kernel
theorem dX9_listSets_19 : decode cX9_listSets 19 = .ok (.iconst 0, 1) := by decide +kernel
theorem dX9_listSets_20 : decode cX9_listSets 20 = .ok (.istore_n 2, 1) := by decide +kernel
theorem dX9_listSets_21 : decode cX9_listSets 21 = .ok (.iload_n 2, 1) := by decide +kernel
theorem dX9_listSets_22 : decode cX9_listSets 22 = .ok (.aload_n 0, 1) := by decide +kernel
theorem dX9_listSets_23 : decode cX9_listSets 23 = .ok (.getfield 128, 3) := by decide +kernel
theorem dX9_listSets_26 : decode cX9_listSets 26 = .ok (.if_icmp .ge 74, 3) := by decide +kernel
theorem dX9_listSets_29 : decode cX9_listSets 29 = .ok (.iconst 1, 1) := by decide +kernel
theorem dX9_listSets_30 : decode cX9_listSets 30 = .ok (.iload_n 2, 1) := by decide +kernel
theorem dX9_listSets_31 : decode cX9_listSets 31 = .ok (.ishl, 1) := by decide +kernel
theorem dX9_listSets_32 : decode cX9_listSets 32 = .ok (.istore_n 3, 1) := by decide +kernel
theorem dX9_listSets_33 : decode cX9_listSets 33 = .ok (.iconst 0, 1) := by decide +kernel
theorem dX9_listSets_34 : decode cX9_listSets 34 = .ok (.istore 4, 2) := by decide +kernel
theorem dX9_listSets_36 : decode cX9_listSets 36 = .ok (.iload 4, 2) := by decide +kernel
theorem dX9_listSets_38 : decode cX9_listSets 38 = .ok (.iload_n 3, 1) := by decide +kernel
theorem dX9_listSets_39 : decode cX9_listSets 39 = .ok (.if_icmp .ge 55, 3) := by decide +kernel
theorem dX9_listSets_42 : decode cX9_listSets 42 = .ok (.aload_n 0, 1) := by decide +kernel
theorem dX9_listSets_43 : decode cX9_listSets 43 = .ok (.getfield 45, 3) := by decide +kernel
theorem dX9_listSets_46 : decode cX9_listSets 46 = .ok (.iload_n 3, 1) := by decide +kernel
theorem dX9_listSets_47 : decode cX9_listSets 47 = .ok (.iload 4, 2) := by decide +kernel
theorem dX9_listSets_49 : decode cX9_listSets 49 = .ok (.iadd, 1) := by decide +kernel
theorem dX9_listSets_50 : decode cX9_listSets 50 = .ok (.aload_n 0, 1) := by decide +kernel
theorem dX9_listSets_51 : decode cX9_listSets 51 = .ok (.getfield 45, 3) := by decide +kernel
theorem dX9_listSets_54 : decode cX9_listSets 54 = .ok (.iload 4, 2) := by decide +kernel
theorem dX9_listSets_56 : decode cX9_listSets 56 = .ok (.iaload, 1) := by decide +kernel
theorem dX9_listSets_57 : decode cX9_listSets 57 = .ok (.aload_n 0, 1) := by decide +kernel
theorem dX9_listSets_58 : decode cX9_listSets 58 = .ok (.getfield 39, 3) := by decide +kernel
theorem dX9_listSets_61 : decode cX9_listSets 61 = .ok (.iload_n 2, 1) := by decide +kernel
theorem dX9_listSets_62 : decode cX9_listSets 62 = .ok (.iaload, 1) := by decide +kernel
theorem dX9_listSets_63 : decode cX9_listSets 63 = .ok (.iadd, 1) := by decide +kernel
theorem dX9_listSets_64 : decode cX9_listSets 64 = .ok (.iastore, 1) := by decide +kernel
theorem dX9_listSets_65 : decode cX9_listSets 65 = .ok (.aload_n 0, 1) := by decide +kernel
theorem dX9_listSets_66 : decode cX9_listSets 66 = .ok (.getfield 48, 3) := by decide +kernel
theorem dX9_listSets_69 : decode cX9_listSets 69 = .ok (.iload_n 3, 1) := by decide +kernel
theorem dX9_listSets_70 : decode cX9_listSets 70 = .ok (.iload 4, 2) := by decide +kernel
theorem dX9_listSets_72 : decode cX9_listSets 72 = .ok (.iadd, 1) := by decide +kernel
theorem dX9_listSets_73 : decode cX9_listSets 73 = .ok (.aload_n 0, 1) := by decide +kernel
theorem dX9_listSets_74 : decode cX9_listSets 74 = .ok (.getfield 48, 3) := by decide +kernel
theorem dX9_listSets_77 : decode cX9_listSets 77 = .ok (.iload 4, 2) := by decide +kernel
theorem dX9_listSets_79 : decode cX9_listSets 79 = .ok (.iaload, 1) := by decide +kernel
theorem dX9_listSets_80 : decode cX9_listSets 80 = .ok (.aload_n 0, 1) := by decide +kernel
theorem dX9_listSets_81 : decode cX9_listSets 81 = .ok (.getfield 42, 3) := by decide +kernel
theorem dX9_listSets_84 : decode cX9_listSets 84 = .ok (.iload_n 2, 1) := by decide +kernel
theorem dX9_listSets_85 : decode cX9_listSets 85 = .ok (.iaload, 1) := by decide +kernel
theorem dX9_listSets_86 : decode cX9_listSets 86 = .ok (.iadd, 1) := by decide +kernel
theorem dX9_listSets_87 : decode cX9_listSets 87 = .ok (.iastore, 1) := by decide +kernel
theorem dX9_listSets_88 : decode cX9_listSets 88 = .ok (.iinc 4 1, 3) := by decide +kernel
theorem dX9_listSets_91 : decode cX9_listSets 91 = .ok (.goto (-55), 3) := by decide +kernel
theorem dX9_listSets_94 : decode cX9_listSets 94 = .ok (.iinc 2 1, 3) := by decide +kernel
theorem dX9_listSets_97 : decode cX9_listSets 97 = .ok (.goto (-76), 3) := by decide +kernel
theorem dX9_listSets_100 : decode cX9_listSets 100 = .ok (.iconst 1, 1) := by decide +kernel
theorem dX9_listSets_101 : decode cX9_listSets 101 = .ok (.aload_n 0, 1) := by decide +kernel
theorem dX9_listSets_102 : decode cX9_listSets 102 = .ok (.getfield 128, 3) := by decide +kernel
theorem dX9_listSets_105 : decode cX9_listSets 105 = .ok (.ishl, 1) := by decide +kernel
theorem dX9_listSets_106 : decode cX9_listSets 106 = .ok (.ireturn, 1) := by decide +kernel
theorem dX9_canBuy_0 : decode cX9_canBuy 0 = .ok (.aload_n 0, 1) := by decide +kernel
theorem dX9_canBuy_1 : decode cX9_canBuy 1 = .ok (.invokevirtual 110, 3) := by decide +kernel
theorem dX9_canBuy_4 : decode cX9_canBuy 4 = .ok (.iconst 0, 1) := by decide +kernel
theorem dX9_canBuy_5 : decode cX9_canBuy 5 = .ok (.istore_n 3, 1) := by decide +kernel
theorem dX9_canBuy_6 : decode cX9_canBuy 6 = .ok (.iconst 0, 1) := by decide +kernel
theorem dX9_canBuy_7 : decode cX9_canBuy 7 = .ok (.istore 4, 2) := by decide +kernel
theorem dX9_canBuy_9 : decode cX9_canBuy 9 = .ok (.iload_n 1, 1) := by decide +kernel
theorem dX9_canBuy_10 : decode cX9_canBuy 10 = .ok (.iconst 1, 1) := by decide +kernel
theorem dX9_canBuy_11 : decode cX9_canBuy 11 = .ok (.iadd, 1) := by decide +kernel
theorem dX9_canBuy_12 : decode cX9_canBuy 12 = .ok (.istore 5, 2) := by decide +kernel
theorem dX9_canBuy_14 : decode cX9_canBuy 14 = .ok (.iload 5, 2) := by decide +kernel
theorem dX9_canBuy_16 : decode cX9_canBuy 16 = .ok (.aload_n 0, 1) := by decide +kernel
theorem dX9_canBuy_17 : decode cX9_canBuy 17 = .ok (.getfield 35, 3) := by decide +kernel
theorem dX9_canBuy_20 : decode cX9_canBuy 20 = .ok (.getfield 55, 3) := by decide +kernel
theorem dX9_canBuy_23 : decode cX9_canBuy 23 = .ok (.if_icmp .ge 72, 3) := by decide +kernel
theorem dX9_canBuy_26 : decode cX9_canBuy 26 = .ok (.iload_n 2, 1) := by decide +kernel
theorem dX9_canBuy_27 : decode cX9_canBuy 27 = .ok (.iload 5, 2) := by decide +kernel
theorem dX9_canBuy_29 : decode cX9_canBuy 29 = .ok (.ishr, 1) := by decide +kernel
theorem dX9_canBuy_30 : decode cX9_canBuy 30 = .ok (.iconst 1, 1) := by decide +kernel
theorem dX9_canBuy_31 : decode cX9_canBuy 31 = .ok (.iand, 1) := by decide +kernel
theorem dX9_canBuy_32 : decode cX9_canBuy 32 = .ok (.iconst 1, 1) := by decide +kernel
theorem dX9_canBuy_33 : decode cX9_canBuy 33 = .ok (.if_icmp .ne 33, 3) := by decide +kernel
theorem dX9_canBuy_36 : decode cX9_canBuy 36 = .ok (.iload_n 3, 1) := by decide +kernel
theorem dX9_canBuy_37 : decode cX9_canBuy 37 = .ok (.aload_n 0, 1) := by decide +kernel
theorem dX9_canBuy_38 : decode cX9_canBuy 38 = .ok (.getfield 16, 3) := by decide +kernel
theorem dX9_canBuy_41 : decode cX9_canBuy 41 = .ok (.iload_n 1, 1) := by decide +kernel
theorem dX9_canBuy_42 : decode cX9_canBuy 42 = .ok (.aaload, 1) := by decide +kernel
theorem dX9_canBuy_43 : decode cX9_canBuy 43 = .ok (.iload 5, 2) := by decide +kernel
theorem dX9_canBuy_45 : decode cX9_canBuy 45 = .ok (.iaload, 1) := by decide +kernel
theorem dX9_canBuy_46 : decode cX9_canBuy 46 = .ok (.iadd, 1) := by decide +kernel
theorem dX9_canBuy_47 : decode cX9_canBuy 47 = .ok (.istore_n 3, 1) := by decide +kernel
theorem dX9_canBuy_48 : decode cX9_canBuy 48 = .ok (.iload 4, 2) := by decide +kernel
theorem dX9_canBuy_50 : decode cX9_canBuy 50 = .ok (.aload_n 0, 1) := by decide +kernel
theorem dX9_canBuy_51 : decode cX9_canBuy 51 = .ok (.getfield 35, 3) := by decide +kernel
theorem dX9_canBuy_54 : decode cX9_canBuy 54 = .ok (.getfield 117, 3) := by decide +kernel
theorem dX9_canBuy_57 : decode cX9_canBuy 57 = .ok (.iload 5, 2) := by decide +kernel
theorem dX9_canBuy_59 : decode cX9_canBuy 59 = .ok (.iaload, 1) := by decide +kernel
theorem dX9_canBuy_60 : decode cX9_canBuy 60 = .ok (.iadd, 1) := by decide +kernel
theorem dX9_canBuy_61 : decode cX9_canBuy 61 = .ok (.istore 4, 2) := by decide +kernel
theorem dX9_canBuy_63 : decode cX9_canBuy 63 = .ok (.goto 26, 3) := by decide +kernel
theorem dX9_canBuy_66 : decode cX9_canBuy 66 = .ok (.aload_n 0, 1) := by decide +kernel
theorem dX9_canBuy_67 : decode cX9_canBuy 67 = .ok (.aload_n 0, 1) := by decide +kernel
theorem dX9_canBuy_68 : decode cX9_canBuy 68 = .ok (.getfield 16, 3) := by decide +kernel
theorem dX9_canBuy_71 : decode cX9_canBuy 71 = .ok (.iload_n 1, 1) := by decide +kernel
theorem dX9_canBuy_72 : decode cX9_canBuy 72 = .ok (.aaload, 1) := by decide +kernel
theorem dX9_canBuy_73 : decode cX9_canBuy 73 = .ok (.iload 5, 2) := by decide +kernel
theorem dX9_canBuy_75 : decode cX9_canBuy 75 = .ok (.iaload, 1) := by decide +kernel
theorem dX9_canBuy_76 : decode cX9_canBuy 76 = .ok (.aload_n 0, 1) := by decide +kernel
theorem dX9_canBuy_77 : decode cX9_canBuy 77 = .ok (.getfield 35, 3) := by decide +kernel
theorem dX9_canBuy_80 : decode cX9_canBuy 80 = .ok (.getfield 117, 3) := by decide +kernel
theorem dX9_canBuy_83 : decode cX9_canBuy 83 = .ok (.iload 5, 2) := by decide +kernel
theorem dX9_canBuy_85 : decode cX9_canBuy 85 = .ok (.iaload, 1) := by decide +kernel
theorem dX9_canBuy_86 : decode cX9_canBuy 86 = .ok (.invokevirtual 120, 3) := by decide +kernel
theorem dX9_canBuy_89 : decode cX9_canBuy 89 = .ok (.iinc 5 1, 3) := by decide +kernel
theorem dX9_canBuy_92 : decode cX9_canBuy 92 = .ok (.goto (-78), 3) := by decide +kernel
theorem dX9_canBuy_95 : decode cX9_canBuy 95 = .ok (.aload_n 0, 1) := by decide +kernel
theorem dX9_canBuy_96 : decode cX9_canBuy 96 = .ok (.iload_n 3, 1) := by decide +kernel
theorem dX9_canBuy_97 : decode cX9_canBuy 97 = .ok (.iload 4, 2) := by decide +kernel
theorem dX9_canBuy_99 : decode cX9_canBuy 99 = .ok (.invokevirtual 120, 3) := by decide +kernel
theorem dX9_canBuy_102 : decode cX9_canBuy 102 = .ok (.aload_n 0, 1) := by decide +kernel
theorem dX9_canBuy_103 : decode cX9_canBuy 103 = .ok (.iload_n 1, 1) := by decide +kernel
theorem dX9_canBuy_104 : decode cX9_canBuy 104 = .ok (.invokevirtual 124, 3) := by decide +kernel
theorem dX9_canBuy_107 : decode cX9_canBuy 107 = .ok (.istore 5, 2) := by decide +kernel
theorem dX9_canBuy_109 : decode cX9_canBuy 109 = .ok (.iload 5, 2) := by decide +kernel
theorem dX9_canBuy_111 : decode cX9_canBuy 111 = .ok (.ifCond .lt 26, 3) := by decide +kernel
theorem dX9_canBuy_114 : decode cX9_canBuy 114 = .ok (.aload_n 0, 1) := by decide +kernel
theorem dX9_canBuy_115 : decode cX9_canBuy 115 = .ok (.getfield 45, 3) := by decide +kernel
theorem dX9_canBuy_118 : decode cX9_canBuy 118 = .ok (.iload 5, 2) := by decide +kernel
theorem dX9_canBuy_120 : decode cX9_canBuy 120 = .ok (.iaload, 1) := by decide +kernel
theorem dX9_canBuy_121 : decode cX9_canBuy 121 = .ok (.aload_n 0, 1) := by decide +kernel
theorem dX9_canBuy_122 : decode cX9_canBuy 122 = .ok (.getfield 35, 3) := by decide +kernel
theorem dX9_canBuy_125 : decode cX9_canBuy 125 = .ok (.getfield 87, 3) := by decide +kernel
theorem dX9_canBuy_128 : decode cX9_canBuy 128 = .ok (.iconst 0, 1) := by decide +kernel
theorem dX9_canBuy_129 : decode cX9_canBuy 129 = .ok (.iaload, 1) := by decide +kernel
theorem dX9_canBuy_130 : decode cX9_canBuy 130 = .ok (.if_icmp .gt 7, 3) := by decide +kernel
theorem dX9_canBuy_133 : decode cX9_canBuy 133 = .ok (.iconst 1, 1) := by decide +kernel
theorem dX9_canBuy_134 : decode cX9_canBuy 134 = .ok (.goto 4, 3) := by decide +kernel
theorem dX9_canBuy_137 : decode cX9_canBuy 137 = .ok (.iconst 0, 1) := by decide +kernel
theorem dX9_canBuy_138 : decode cX9_canBuy 138 = .ok (.ireturn, 1) := by decide +kernel
theorem dX9_shareFairly_0 : decode cX9_shareFairly 0 = .ok (.aload_n 0, 1) := by decide +kernel
theorem dX9_shareFairly_1 : decode cX9_shareFairly 1 = .ok (.getfield 35, 3) := by decide +kernel
theorem dX9_shareFairly_4 : decode cX9_shareFairly 4 = .ok (.getfield 55, 3) := by decide +kernel
theorem dX9_shareFairly_7 : decode cX9_shareFairly 7 = .ok (.iload_n 1, 1) := by decide +kernel
theorem dX9_shareFairly_8 : decode cX9_shareFairly 8 = .ok (.isub, 1) := by decide +kernel
theorem dX9_shareFairly_9 : decode cX9_shareFairly 9 = .ok (.istore_n 2, 1) := by decide +kernel
theorem dX9_shareFairly_10 : decode cX9_shareFairly 10 = .ok (.iload_n 2, 1) := by decide +kernel
theorem dX9_shareFairly_11 : decode cX9_shareFairly 11 = .ok (.ifCond .gt 4, 3) := by decide +kernel
theorem dX9_shareFairly_14 : decode cX9_shareFairly 14 = .ok (.return_, 1) := by decide +kernel
theorem dX9_shareFairly_15 : decode cX9_shareFairly 15 = .ok (.aload_n 0, 1) := by decide +kernel
theorem dX9_shareFairly_16 : decode cX9_shareFairly 16 = .ok (.getfield 35, 3) := by decide +kernel
theorem dX9_shareFairly_19 : decode cX9_shareFairly 19 = .ok (.getfield 87, 3) := by decide +kernel
theorem dX9_shareFairly_22 : decode cX9_shareFairly 22 = .ok (.iconst 0, 1) := by decide +kernel
theorem dX9_shareFairly_23 : decode cX9_shareFairly 23 = .ok (.iaload, 1) := by decide +kernel
theorem dX9_shareFairly_24 : decode cX9_shareFairly 24 = .ok (.iload_n 2, 1) := by decide +kernel
theorem dX9_shareFairly_25 : decode cX9_shareFairly 25 = .ok (.idiv, 1) := by decide +kernel
theorem dX9_shareFairly_26 : decode cX9_shareFairly 26 = .ok (.istore_n 3, 1) := by decide +kernel
theorem dX9_shareFairly_27 : decode cX9_shareFairly 27 = .ok (.iload_n 1, 1) := by decide +kernel
theorem dX9_shareFairly_28 : decode cX9_shareFairly 28 = .ok (.iconst 1, 1) := by decide +kernel
theorem dX9_shareFairly_29 : decode cX9_shareFairly 29 = .ok (.iadd, 1) := by decide +kernel
theorem dX9_shareFairly_30 : decode cX9_shareFairly 30 = .ok (.istore 4, 2) := by decide +kernel
theorem dX9_shareFairly_32 : decode cX9_shareFairly 32 = .ok (.iload 4, 2) := by decide +kernel
theorem dX9_shareFairly_34 : decode cX9_shareFairly 34 = .ok (.aload_n 0, 1) := by decide +kernel
theorem dX9_shareFairly_35 : decode cX9_shareFairly 35 = .ok (.getfield 35, 3) := by decide +kernel
theorem dX9_shareFairly_38 : decode cX9_shareFairly 38 = .ok (.getfield 55, 3) := by decide +kernel
theorem dX9_shareFairly_41 : decode cX9_shareFairly 41 = .ok (.if_icmp .ge 17, 3) := by decide +kernel
theorem dX9_shareFairly_44 : decode cX9_shareFairly 44 = .ok (.aload_n 0, 1) := by decide +kernel
theorem dX9_shareFairly_45 : decode cX9_shareFairly 45 = .ok (.iload_n 1, 1) := by decide +kernel
theorem dX9_shareFairly_46 : decode cX9_shareFairly 46 = .ok (.iload 4, 2) := by decide +kernel
theorem dX9_shareFairly_48 : decode cX9_shareFairly 48 = .ok (.iload_n 3, 1) := by decide +kernel
theorem dX9_shareFairly_49 : decode cX9_shareFairly 49 = .ok (.invokevirtual 144, 3) := by decide +kernel
theorem dX9_shareFairly_52 : decode cX9_shareFairly 52 = .ok (.iinc 4 1, 3) := by decide +kernel
theorem dX9_shareFairly_55 : decode cX9_shareFairly 55 = .ok (.goto (-23), 3) := by decide +kernel
theorem dX9_shareFairly_58 : decode cX9_shareFairly 58 = .ok (.return_, 1) := by decide +kernel
theorem dX9_spreadFromEldest_0 : decode cX9_spreadFromEldest 0 = .ok (.iload_n 1, 1) := by decide +kernel
theorem dX9_spreadFromEldest_1 : decode cX9_spreadFromEldest 1 = .ok (.iconst 1, 1) := by decide +kernel
theorem dX9_spreadFromEldest_2 : decode cX9_spreadFromEldest 2 = .ok (.iadd, 1) := by decide +kernel
theorem dX9_spreadFromEldest_3 : decode cX9_spreadFromEldest 3 = .ok (.istore_n 3, 1) := by decide +kernel
theorem dX9_spreadFromEldest_4 : decode cX9_spreadFromEldest 4 = .ok (.iload_n 3, 1) := by decide +kernel
theorem dX9_spreadFromEldest_5 : decode cX9_spreadFromEldest 5 = .ok (.aload_n 0, 1) := by decide +kernel
theorem dX9_spreadFromEldest_6 : decode cX9_spreadFromEldest 6 = .ok (.getfield 35, 3) := by decide +kernel
theorem dX9_spreadFromEldest_9 : decode cX9_spreadFromEldest 9 = .ok (.getfield 55, 3) := by decide +kernel
theorem dX9_spreadFromEldest_12 : decode cX9_spreadFromEldest 12 = .ok (.if_icmp .ge 16, 3) := by decide +kernel
theorem dX9_spreadFromEldest_15 : decode cX9_spreadFromEldest 15 = .ok (.aload_n 0, 1) := by decide +kernel
theorem dX9_spreadFromEldest_16 : decode cX9_spreadFromEldest 16 = .ok (.iload_n 1, 1) := by decide +kernel
theorem dX9_spreadFromEldest_17 : decode cX9_spreadFromEldest 17 = .ok (.iload_n 3, 1) := by decide +kernel
theorem dX9_spreadFromEldest_18 : decode cX9_spreadFromEldest 18 = .ok (.iload_n 2, 1) := by decide +kernel
theorem dX9_spreadFromEldest_19 : decode cX9_spreadFromEldest 19 = .ok (.invokevirtual 144, 3) := by decide +kernel
theorem dX9_spreadFromEldest_22 : decode cX9_spreadFromEldest 22 = .ok (.iinc 3 1, 3) := by decide +kernel
theorem dX9_spreadFromEldest_25 : decode cX9_spreadFromEldest 25 = .ok (.goto (-21), 3) := by decide +kernel
theorem dX9_spreadFromEldest_28 : decode cX9_spreadFromEldest 28 = .ok (.return_, 1) := by decide +kernel
theorem dX9_spreadFromYoungest_0 : decode cX9_spreadFromYoungest 0 = .ok (.aload_n 0, 1) := by decide +kernel
theorem dX9_spreadFromYoungest_1 : decode cX9_spreadFromYoungest 1 = .ok (.getfield 35, 3) := by decide +kernel
theorem dX9_spreadFromYoungest_4 : decode cX9_spreadFromYoungest 4 = .ok (.getfield 55, 3) := by decide +kernel
theorem dX9_spreadFromYoungest_7 : decode cX9_spreadFromYoungest 7 = .ok (.iconst 1, 1) := by decide +kernel
theorem dX9_spreadFromYoungest_8 : decode cX9_spreadFromYoungest 8 = .ok (.isub, 1) := by decide +kernel
theorem dX9_spreadFromYoungest_9 : decode cX9_spreadFromYoungest 9 = .ok (.istore_n 3, 1) := by decide +kernel
theorem dX9_spreadFromYoungest_10 : decode cX9_spreadFromYoungest 10 = .ok (.iload_n 3, 1) := by decide +kernel
theorem dX9_spreadFromYoungest_11 : decode cX9_spreadFromYoungest 11 = .ok (.iload_n 1, 1) := by decide +kernel
theorem dX9_spreadFromYoungest_12 : decode cX9_spreadFromYoungest 12 = .ok (.if_icmp .le 16, 3) := by decide +kernel
theorem dX9_spreadFromYoungest_15 : decode cX9_spreadFromYoungest 15 = .ok (.aload_n 0, 1) := by decide +kernel
theorem dX9_spreadFromYoungest_16 : decode cX9_spreadFromYoungest 16 = .ok (.iload_n 1, 1) := by decide +kernel
theorem dX9_spreadFromYoungest_17 : decode cX9_spreadFromYoungest 17 = .ok (.iload_n 3, 1) := by decide +kernel
theorem dX9_spreadFromYoungest_18 : decode cX9_spreadFromYoungest 18 = .ok (.iload_n 2, 1) := by decide +kernel
theorem dX9_spreadFromYoungest_19 : decode cX9_spreadFromYoungest 19 = .ok (.invokevirtual 144, 3) := by decide +kernel
theorem dX9_spreadFromYoungest_22 : decode cX9_spreadFromYoungest 22 = .ok (.iinc 3 (-1), 3) := by decide +kernel
theorem dX9_spreadFromYoungest_25 : decode cX9_spreadFromYoungest 25 = .ok (.goto (-15), 3) := by decide +kernel
theorem dX9_spreadFromYoungest_28 : decode cX9_spreadFromYoungest 28 = .ok (.return_, 1) := by decide +kernel
theorem dX9_figureOf_0 : decode cX9_figureOf 0 = .ok (.aload_n 0, 1) := by decide +kernel
theorem dX9_figureOf_1 : decode cX9_figureOf 1 = .ok (.getfield 35, 3) := by decide +kernel
theorem dX9_figureOf_4 : decode cX9_figureOf 4 = .ok (.getfield 84, 3) := by decide +kernel
theorem dX9_figureOf_7 : decode cX9_figureOf 7 = .ok (.iload_n 1, 1) := by decide +kernel
theorem dX9_figureOf_8 : decode cX9_figureOf 8 = .ok (.iaload, 1) := by decide +kernel
theorem dX9_figureOf_9 : decode cX9_figureOf 9 = .ok (.ireturn, 1) := by decide +kernel
theorem dX9_give_0 : decode cX9_give 0 = .ok (.aload_n 0, 1) := by decide +kernel
theorem dX9_give_1 : decode cX9_give 1 = .ok (.getfield 11, 3) := by decide +kernel
theorem dX9_give_4 : decode cX9_give 4 = .ok (.iload_n 1, 1) := by decide +kernel
theorem dX9_give_5 : decode cX9_give 5 = .ok (.aaload, 1) := by decide +kernel
theorem dX9_give_6 : decode cX9_give 6 = .ok (.iload_n 1, 1) := by decide +kernel
theorem dX9_give_7 : decode cX9_give 7 = .ok (.iaload, 1) := by decide +kernel
theorem dX9_give_8 : decode cX9_give 8 = .ok (.iload_n 3, 1) := by decide +kernel
theorem dX9_give_9 : decode cX9_give 9 = .ok (.if_icmp .lt 24, 3) := by decide +kernel
theorem dX9_give_12 : decode cX9_give 12 = .ok (.aload_n 0, 1) := by decide +kernel
theorem dX9_give_13 : decode cX9_give 13 = .ok (.getfield 11, 3) := by decide +kernel
theorem dX9_give_16 : decode cX9_give 16 = .ok (.iload_n 1, 1) := by decide +kernel
theorem dX9_give_17 : decode cX9_give 17 = .ok (.aaload, 1) := by decide +kernel
theorem dX9_give_18 : decode cX9_give 18 = .ok (.iload_n 2, 1) := by decide +kernel
theorem dX9_give_19 : decode cX9_give 19 = .ok (.iload_n 3, 1) := by decide +kernel
theorem dX9_give_20 : decode cX9_give 20 = .ok (.iastore, 1) := by decide +kernel
theorem dX9_give_21 : decode cX9_give 21 = .ok (.aload_n 0, 1) := by decide +kernel
theorem dX9_give_22 : decode cX9_give 22 = .ok (.getfield 11, 3) := by decide +kernel
theorem dX9_give_25 : decode cX9_give 25 = .ok (.iload_n 1, 1) := by decide +kernel
theorem dX9_give_26 : decode cX9_give 26 = .ok (.aaload, 1) := by decide +kernel
theorem dX9_give_27 : decode cX9_give 27 = .ok (.iload_n 1, 1) := by decide +kernel
theorem dX9_give_28 : decode cX9_give 28 = .ok (.dup2, 1) := by decide +kernel
theorem dX9_give_29 : decode cX9_give 29 = .ok (.iaload, 1) := by decide +kernel
theorem dX9_give_30 : decode cX9_give 30 = .ok (.iload_n 3, 1) := by decide +kernel
theorem dX9_give_31 : decode cX9_give 31 = .ok (.isub, 1) := by decide +kernel
theorem dX9_give_32 : decode cX9_give 32 = .ok (.iastore, 1) := by decide +kernel
theorem dX9_give_33 : decode cX9_give 33 = .ok (.return_, 1) := by decide +kernel
