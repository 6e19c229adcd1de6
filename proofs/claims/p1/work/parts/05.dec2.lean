theorem dX11_bestAge_30 : decode cX11_bestAge 30 = .ok (.getfield 193, 3) := by decide +kernel
theorem dX11_bestAge_33 : decode cX11_bestAge 33 = .ok (.if_icmp .ge 60, 3) := by decide +kernel
theorem dX11_bestAge_36 : decode cX11_bestAge 36 = .ok (.aload_n 0, 1) := by decide +kernel
theorem dX11_bestAge_37 : decode cX11_bestAge 37 = .ok (.iload_n 1, 1) := by decide +kernel
theorem dX11_bestAge_38 : decode cX11_bestAge 38 = .ok (.iload 4, 2) := by decide +kernel
theorem dX11_bestAge_40 : decode cX11_bestAge 40 = .ok (.invokevirtual 205, 3) := by decide +kernel
theorem dX11_bestAge_43 : decode cX11_bestAge 43 = .ok (.aload_n 0, 1) := by decide +kernel
theorem dX11_bestAge_44 : decode cX11_bestAge 44 = .ok (.invokevirtual 202, 3) := by decide +kernel
theorem dX11_bestAge_47 : decode cX11_bestAge 47 = .ok (.aload_n 0, 1) := by decide +kernel
theorem dX11_bestAge_48 : decode cX11_bestAge 48 = .ok (.getfield 71, 3) := by decide +kernel
theorem dX11_bestAge_51 : decode cX11_bestAge 51 = .ok (.iconst 0, 1) := by decide +kernel
theorem dX11_bestAge_52 : decode cX11_bestAge 52 = .ok (.invokevirtual 190, 3) := by decide +kernel
theorem dX11_bestAge_55 : decode cX11_bestAge 55 = .ok (.aload_n 0, 1) := by decide +kernel
theorem dX11_bestAge_56 : decode cX11_bestAge 56 = .ok (.getfield 71, 3) := by decide +kernel
theorem dX11_bestAge_59 : decode cX11_bestAge 59 = .ok (.getfield 151, 3) := by decide +kernel
theorem dX11_bestAge_62 : decode cX11_bestAge 62 = .ok (.iconst 0, 1) := by decide +kernel
theorem dX11_bestAge_63 : decode cX11_bestAge 63 = .ok (.aaload, 1) := by decide +kernel
theorem dX11_bestAge_64 : decode cX11_bestAge 64 = .ok (.iload 4, 2) := by decide +kernel
theorem dX11_bestAge_66 : decode cX11_bestAge 66 = .ok (.iaload, 1) := by decide +kernel
theorem dX11_bestAge_67 : decode cX11_bestAge 67 = .ok (.iload_n 3, 1) := by decide +kernel
theorem dX11_bestAge_68 : decode cX11_bestAge 68 = .ok (.if_icmp .le 19, 3) := by decide +kernel
theorem dX11_bestAge_71 : decode cX11_bestAge 71 = .ok (.aload_n 0, 1) := by decide +kernel
theorem dX11_bestAge_72 : decode cX11_bestAge 72 = .ok (.getfield 71, 3) := by decide +kernel
theorem dX11_bestAge_75 : decode cX11_bestAge 75 = .ok (.getfield 151, 3) := by decide +kernel
theorem dX11_bestAge_78 : decode cX11_bestAge 78 = .ok (.iconst 0, 1) := by decide +kernel
theorem dX11_bestAge_79 : decode cX11_bestAge 79 = .ok (.aaload, 1) := by decide +kernel
theorem dX11_bestAge_80 : decode cX11_bestAge 80 = .ok (.iload 4, 2) := by decide +kernel
theorem dX11_bestAge_82 : decode cX11_bestAge 82 = .ok (.iaload, 1) := by decide +kernel
theorem dX11_bestAge_83 : decode cX11_bestAge 83 = .ok (.istore_n 3, 1) := by decide +kernel
theorem dX11_bestAge_84 : decode cX11_bestAge 84 = .ok (.iload 4, 2) := by decide +kernel
theorem dX11_bestAge_86 : decode cX11_bestAge 86 = .ok (.istore_n 2, 1) := by decide +kernel
theorem dX11_bestAge_87 : decode cX11_bestAge 87 = .ok (.iinc 4 1, 3) := by decide +kernel
theorem dX11_bestAge_90 : decode cX11_bestAge 90 = .ok (.goto (-66), 3) := by decide +kernel
theorem dX11_bestAge_93 : decode cX11_bestAge 93 = .ok (.iload_n 2, 1) := by decide +kernel
theorem dX11_bestAge_94 : decode cX11_bestAge 94 = .ok (.ireturn, 1) := by decide +kernel
theorem dX11_league_0 : decode cX11_league 0 = .ok (.aload_n 0, 1) := by decide +kernel
theorem dX11_league_1 : decode cX11_league 1 = .ok (.getfield 77, 3) := by decide +kernel
theorem dX11_league_4 : decode cX11_league 4 = .ok (.invokevirtual 161, 3) := by decide +kernel
theorem dX11_league_7 : decode cX11_league 7 = .ok (.ifCond .eq 10, 3) := by decide +kernel
theorem dX11_league_10 : decode cX11_league 10 = .ok (.aload_n 0, 1) := by decide +kernel
theorem dX11_league_11 : decode cX11_league 11 = .ok (.bipush (-3), 2) := by decide +kernel
theorem dX11_league_13 : decode cX11_league 13 = .ok (.invokevirtual 92, 3) := by decide +kernel
theorem dX11_league_16 : decode cX11_league 16 = .ok (.ireturn, 1) := by decide +kernel
theorem dX11_league_17 : decode cX11_league 17 = .ok (.iconst 1, 1) := by decide +kernel
theorem dX11_league_18 : decode cX11_league 18 = .ok (.aload_n 0, 1) := by decide +kernel
theorem dX11_league_19 : decode cX11_league 19 = .ok (.getfield 77, 3) := by decide +kernel
theorem dX11_league_22 : decode cX11_league 22 = .ok (.getfield 193, 3) := by decide +kernel
theorem dX11_league_25 : decode cX11_league 25 = .ok (.ishl, 1) := by decide +kernel
theorem dX11_league_26 : decode cX11_league 26 = .ok (.iconst 2, 1) := by decide +kernel
theorem dX11_league_27 : decode cX11_league 27 = .ok (.aload_n 0, 1) := by decide +kernel
theorem dX11_league_28 : decode cX11_league 28 = .ok (.getfield 77, 3) := by decide +kernel
theorem dX11_league_31 : decode cX11_league 31 = .ok (.getfield 170, 3) := by decide +kernel
theorem dX11_league_34 : decode cX11_league 34 = .ok (.ishl, 1) := by decide +kernel
theorem dX11_league_35 : decode cX11_league 35 = .ok (.isub, 1) := by decide +kernel
theorem dX11_league_36 : decode cX11_league 36 = .ok (.istore_n 2, 1) := by decide +kernel
theorem dX11_league_37 : decode cX11_league 37 = .ok (.iload_n 1, 1) := by decide +kernel
theorem dX11_league_38 : decode cX11_league 38 = .ok (.iload_n 2, 1) := by decide +kernel
theorem dX11_league_39 : decode cX11_league 39 = .ok (.iconst (-1), 1) := by decide +kernel
theorem dX11_league_40 : decode cX11_league 40 = .ok (.ixor, 1) := by decide +kernel
theorem dX11_league_41 : decode cX11_league 41 = .ok (.iand, 1) := by decide +kernel
theorem dX11_league_42 : decode cX11_league 42 = .ok (.ifCond .ne 11, 3) := by decide +kernel
theorem dX11_league_45 : decode cX11_league 45 = .ok (.iload_n 1, 1) := by decide +kernel
theorem dX11_league_46 : decode cX11_league 46 = .ok (.invokestatic 209, 3) := by decide +kernel
theorem dX11_league_49 : decode cX11_league 49 = .ok (.iconst 2, 1) := by decide +kernel
theorem dX11_league_50 : decode cX11_league 50 = .ok (.if_icmp .ge 9, 3) := by decide +kernel
theorem dX11_league_53 : decode cX11_league 53 = .ok (.aload_n 0, 1) := by decide +kernel
theorem dX11_league_54 : decode cX11_league 54 = .ok (.iconst (-1), 1) := by decide +kernel
theorem dX11_league_55 : decode cX11_league 55 = .ok (.invokevirtual 92, 3) := by decide +kernel
theorem dX11_league_58 : decode cX11_league 58 = .ok (.ireturn, 1) := by decide +kernel
theorem dX11_league_59 : decode cX11_league 59 = .ok (.aload_n 0, 1) := by decide +kernel
theorem dX11_league_60 : decode cX11_league 60 = .ok (.invokevirtual 133, 3) := by decide +kernel
theorem dX11_league_63 : decode cX11_league 63 = .ok (.aload_n 0, 1) := by decide +kernel
theorem dX11_league_64 : decode cX11_league 64 = .ok (.getfield 77, 3) := by decide +kernel
theorem dX11_league_67 : decode cX11_league 67 = .ok (.getfield 170, 3) := by decide +kernel
theorem dX11_league_70 : decode cX11_league 70 = .ok (.iload_n 1, 1) := by decide +kernel
theorem dX11_league_71 : decode cX11_league 71 = .ok (.invokevirtual 214, 3) := by decide +kernel
theorem dX11_league_74 : decode cX11_league 74 = .ok (.ifCond .eq 7, 3) := by decide +kernel
theorem dX11_league_77 : decode cX11_league 77 = .ok (.iconst 1, 1) := by decide +kernel
theorem dX11_league_78 : decode cX11_league 78 = .ok (.goto 4, 3) := by decide +kernel
theorem dX11_league_81 : decode cX11_league 81 = .ok (.iconst 0, 1) := by decide +kernel
theorem dX11_league_82 : decode cX11_league 82 = .ok (.ireturn, 1) := by decide +kernel
theorem dX11_shaken_0 : decode cX11_shaken 0 = .ok (.iload_n 1, 1) := by decide +kernel
theorem dX11_shaken_1 : decode cX11_shaken 1 = .ok (.ifCond .lt 8, 3) := by decide +kernel
theorem dX11_shaken_4 : decode cX11_shaken 4 = .ok (.iload_n 1, 1) := by decide +kernel
theorem dX11_shaken_5 : decode cX11_shaken 5 = .ok (.iconst 1, 1) := by decide +kernel
theorem dX11_shaken_6 : decode cX11_shaken 6 = .ok (.if_icmp .le 15, 3) := by decide +kernel
theorem dX11_shaken_9 : decode cX11_shaken 9 = .ok (.ldc2_w 218, 3) := by decide +kernel
theorem dX11_shaken_12 : decode cX11_shaken 12 = .ok (.aload_n 0, 1) := by decide +kernel
theorem dX11_shaken_13 : decode cX11_shaken 13 = .ok (.bipush (-2), 2) := by decide +kernel
theorem dX11_shaken_15 : decode cX11_shaken 15 = .ok (.invokevirtual 92, 3) := by decide +kernel
theorem dX11_shaken_18 : decode cX11_shaken 18 = .ok (.i2l, 1) := by decide +kernel
theorem dX11_shaken_19 : decode cX11_shaken 19 = .ok (.lsub, 1) := by decide +kernel
theorem dX11_shaken_20 : decode cX11_shaken 20 = .ok (.lreturn, 1) := by decide +kernel
theorem dX11_shaken_21 : decode cX11_shaken 21 = .ok (.aload_n 0, 1) := by decide +kernel
theorem dX11_shaken_22 : decode cX11_shaken 22 = .ok (.getfield 77, 3) := by decide +kernel
theorem dX11_shaken_25 : decode cX11_shaken 25 = .ok (.invokevirtual 161, 3) := by decide +kernel
theorem dX11_shaken_28 : decode cX11_shaken 28 = .ok (.ifCond .eq 15, 3) := by decide +kernel
theorem dX11_shaken_31 : decode cX11_shaken 31 = .ok (.ldc2_w 218, 3) := by decide +kernel
theorem dX11_shaken_34 : decode cX11_shaken 34 = .ok (.aload_n 0, 1) := by decide +kernel
theorem dX11_shaken_35 : decode cX11_shaken 35 = .ok (.bipush (-3), 2) := by decide +kernel
theorem dX11_shaken_37 : decode cX11_shaken 37 = .ok (.invokevirtual 92, 3) := by decide +kernel
theorem dX11_shaken_40 : decode cX11_shaken 40 = .ok (.i2l, 1) := by decide +kernel
theorem dX11_shaken_41 : decode cX11_shaken 41 = .ok (.lsub, 1) := by decide +kernel
theorem dX11_shaken_42 : decode cX11_shaken 42 = .ok (.lreturn, 1) := by decide +kernel
theorem dX11_shaken_43 : decode cX11_shaken 43 = .ok (.aload_n 0, 1) := by decide +kernel
theorem dX11_shaken_44 : decode cX11_shaken 44 = .ok (.aload_n 0, 1) := by decide +kernel
theorem dX11_shaken_45 : decode cX11_shaken 45 = .ok (.invokevirtual 133, 3) := by decide +kernel
theorem dX11_shaken_48 : decode cX11_shaken 48 = .ok (.getfield 144, 3) := by decide +kernel
theorem dX11_shaken_51 : decode cX11_shaken 51 = .ok (.aload_n 0, 1) := by decide +kernel
theorem dX11_shaken_52 : decode cX11_shaken 52 = .ok (.getfield 77, 3) := by decide +kernel
theorem dX11_shaken_55 : decode cX11_shaken 55 = .ok (.getfield 170, 3) := by decide +kernel
theorem dX11_shaken_58 : decode cX11_shaken 58 = .ok (.iaload, 1) := by decide +kernel
theorem dX11_shaken_59 : decode cX11_shaken 59 = .ok (.invokevirtual 220, 3) := by decide +kernel
theorem dX11_shaken_62 : decode cX11_shaken 62 = .ok (.lstore_n 2, 1) := by decide +kernel
theorem dX11_shaken_63 : decode cX11_shaken 63 = .ok (.aload_n 0, 1) := by decide +kernel
theorem dX11_shaken_64 : decode cX11_shaken 64 = .ok (.invokevirtual 224, 3) := by decide +kernel
theorem dX11_shaken_67 : decode cX11_shaken 67 = .ok (.lstore 4, 2) := by decide +kernel
theorem dX11_shaken_69 : decode cX11_shaken 69 = .ok (.lload 4, 2) := by decide +kernel
theorem dX11_shaken_71 : decode cX11_shaken 71 = .ok (.lload_n 2, 1) := by decide +kernel
theorem dX11_shaken_72 : decode cX11_shaken 72 = .ok (.invokestatic 228, 3) := by decide +kernel
theorem dX11_shaken_75 : decode cX11_shaken 75 = .ok (.lstore 6, 2) := by decide +kernel
theorem dX11_shaken_77 : decode cX11_shaken 77 = .ok (.lload 6, 2) := by decide +kernel
theorem dX11_shaken_79 : decode cX11_shaken 79 = .ok (.lconst 0, 1) := by decide +kernel
theorem dX11_shaken_80 : decode cX11_shaken 80 = .ok (.lcmp, 1) := by decide +kernel
theorem dX11_shaken_81 : decode cX11_shaken 81 = .ok (.ifCond .gt 5, 3) := by decide +kernel
theorem dX11_shaken_84 : decode cX11_shaken 84 = .ok (.lconst 0, 1) := by decide +kernel
theorem dX11_shaken_85 : decode cX11_shaken 85 = .ok (.lreturn, 1) := by decide +kernel
theorem dX11_shaken_86 : decode cX11_shaken 86 = .ok (.iload_n 1, 1) := by decide +kernel
theorem dX11_shaken_87 : decode cX11_shaken 87 = .ok (.ifCond .ne 8, 3) := by decide +kernel
theorem dX11_shaken_90 : decode cX11_shaken 90 = .ok (.lload 4, 2) := by decide +kernel
theorem dX11_shaken_92 : decode cX11_shaken 92 = .ok (.goto 4, 3) := by decide +kernel
theorem dX11_shaken_95 : decode cX11_shaken 95 = .ok (.lload_n 2, 1) := by decide +kernel
theorem dX11_shaken_96 : decode cX11_shaken 96 = .ok (.lload 6, 2) := by decide +kernel
theorem dX11_shaken_98 : decode cX11_shaken 98 = .ok (.ldiv, 1) := by decide +kernel
theorem dX11_shaken_99 : decode cX11_shaken 99 = .ok (.lreturn, 1) := by decide +kernel
theorem dX11_seeds_0 : decode cX11_seeds 0 = .ok (.aload_n 0, 1) := by decide +kernel
theorem dX11_seeds_1 : decode cX11_seeds 1 = .ok (.getfield 77, 3) := by decide +kernel
theorem dX11_seeds_4 : decode cX11_seeds 4 = .ok (.iload_n 1, 1) := by decide +kernel
theorem dX11_seeds_5 : decode cX11_seeds 5 = .ok (.invokevirtual 114, 3) := by decide +kernel
theorem dX11_seeds_8 : decode cX11_seeds 8 = .ok (.ifCond .ne 9, 3) := by decide +kernel
theorem dX11_seeds_11 : decode cX11_seeds 11 = .ok (.aload_n 0, 1) := by decide +kernel
theorem dX11_seeds_12 : decode cX11_seeds 12 = .ok (.iconst (-1), 1) := by decide +kernel
theorem dX11_seeds_13 : decode cX11_seeds 13 = .ok (.invokevirtual 92, 3) := by decide +kernel
theorem dX11_seeds_16 : decode cX11_seeds 16 = .ok (.ireturn, 1) := by decide +kernel
theorem dX11_seeds_17 : decode cX11_seeds 17 = .ok (.iload_n 2, 1) := by decide +kernel
theorem dX11_seeds_18 : decode cX11_seeds 18 = .ok (.iconst 1, 1) := by decide +kernel
theorem dX11_seeds_19 : decode cX11_seeds 19 = .ok (.if_icmp .ge 10, 3) := by decide +kernel
theorem dX11_seeds_22 : decode cX11_seeds 22 = .ok (.aload_n 0, 1) := by decide +kernel
theorem dX11_seeds_23 : decode cX11_seeds 23 = .ok (.bipush (-4), 2) := by decide +kernel
theorem dX11_seeds_25 : decode cX11_seeds 25 = .ok (.invokevirtual 92, 3) := by decide +kernel
theorem dX11_seeds_28 : decode cX11_seeds 28 = .ok (.ireturn, 1) := by decide +kernel
theorem dX11_seeds_29 : decode cX11_seeds 29 = .ok (.iload_n 2, 1) := by decide +kernel
theorem dX11_seeds_30 : decode cX11_seeds 30 = .ok (.bipush 30, 2) := by decide +kernel
theorem dX11_seeds_32 : decode cX11_seeds 32 = .ok (.if_icmp .le 10, 3) := by decide +kernel
theorem dX11_seeds_35 : decode cX11_seeds 35 = .ok (.aload_n 0, 1) := by decide +kernel
theorem dX11_seeds_36 : decode cX11_seeds 36 = .ok (.bipush (-6), 2) := by decide +kernel
theorem dX11_seeds_38 : decode cX11_seeds 38 = .ok (.invokevirtual 92, 3) := by decide +kernel
theorem dX11_seeds_41 : decode cX11_seeds 41 = .ok (.ireturn, 1) := by decide +kernel
theorem dX11_seeds_42 : decode cX11_seeds 42 = .ok (.iload_n 3, 1) := by decide +kernel
theorem dX11_seeds_43 : decode cX11_seeds 43 = .ok (.istore 4, 2) := by decide +kernel
theorem dX11_seeds_45 : decode cX11_seeds 45 = .ok (.iconst 0, 1) := by decide +kernel
theorem dX11_seeds_46 : decode cX11_seeds 46 = .ok (.istore 5, 2) := by decide +kernel
theorem dX11_seeds_48 : decode cX11_seeds 48 = .ok (.iconst 0, 1) := by decide +kernel
theorem dX11_seeds_49 : decode cX11_seeds 49 = .ok (.istore 6, 2) := by decide +kernel
theorem dX11_seeds_51 : decode cX11_seeds 51 = .ok (.iload 6, 2) := by decide +kernel
theorem dX11_seeds_53 : decode cX11_seeds 53 = .ok (.iload_n 2, 1) := by decide +kernel
theorem dX11_seeds_54 : decode cX11_seeds 54 = .ok (.if_icmp .ge 53, 3) := by decide +kernel
theorem dX11_seeds_57 : decode cX11_seeds 57 = .ok (.aload_n 0, 1) := by decide +kernel
theorem dX11_seeds_58 : decode cX11_seeds 58 = .ok (.iload 4, 2) := by decide +kernel
theorem dX11_seeds_60 : decode cX11_seeds 60 = .ok (.invokevirtual 232, 3) := by decide +kernel
theorem dX11_seeds_63 : decode cX11_seeds 63 = .ok (.istore 4, 2) := by decide +kernel
theorem dX11_seeds_65 : decode cX11_seeds 65 = .ok (.aload_n 0, 1) := by decide +kernel
theorem dX11_seeds_66 : decode cX11_seeds 66 = .ok (.invokevirtual 202, 3) := by decide +kernel
theorem dX11_seeds_69 : decode cX11_seeds 69 = .ok (.aload_n 0, 1) := by decide +kernel
theorem dX11_seeds_70 : decode cX11_seeds 70 = .ok (.getfield 71, 3) := by decide +kernel
theorem dX11_seeds_73 : decode cX11_seeds 73 = .ok (.iconst 0, 1) := by decide +kernel
theorem dX11_seeds_74 : decode cX11_seeds 74 = .ok (.invokevirtual 190, 3) := by decide +kernel
theorem dX11_seeds_77 : decode cX11_seeds 77 = .ok (.iload 5, 2) := by decide +kernel
theorem dX11_seeds_79 : decode cX11_seeds 79 = .ok (.iconst 0, 1) := by decide +kernel
theorem dX11_seeds_80 : decode cX11_seeds 80 = .ok (.aload_n 0, 1) := by decide +kernel
theorem dX11_seeds_81 : decode cX11_seeds 81 = .ok (.getfield 71, 3) := by decide +kernel
theorem dX11_seeds_84 : decode cX11_seeds 84 = .ok (.getfield 151, 3) := by decide +kernel
theorem dX11_seeds_87 : decode cX11_seeds 87 = .ok (.iconst 0, 1) := by decide +kernel
theorem dX11_seeds_88 : decode cX11_seeds 88 = .ok (.aaload, 1) := by decide +kernel
theorem dX11_seeds_89 : decode cX11_seeds 89 = .ok (.aload_n 0, 1) := by decide +kernel
theorem dX11_seeds_90 : decode cX11_seeds 90 = .ok (.iload_n 1, 1) := by decide +kernel
theorem dX11_seeds_91 : decode cX11_seeds 91 = .ok (.invokevirtual 235, 3) := by decide +kernel
theorem dX11_seeds_94 : decode cX11_seeds 94 = .ok (.iaload, 1) := by decide +kernel
theorem dX11_seeds_95 : decode cX11_seeds 95 = .ok (.invokestatic 238, 3) := by decide +kernel
theorem dX11_seeds_98 : decode cX11_seeds 98 = .ok (.iadd, 1) := by decide +kernel
theorem dX11_seeds_99 : decode cX11_seeds 99 = .ok (.istore 5, 2) := by decide +kernel
theorem dX11_seeds_101 : decode cX11_seeds 101 = .ok (.iinc 6 1, 3) := by decide +kernel
theorem dX11_seeds_104 : decode cX11_seeds 104 = .ok (.goto (-53), 3) := by decide +kernel
theorem dX11_seeds_107 : decode cX11_seeds 107 = .ok (.iload 5, 2) := by decide +kernel
theorem dX11_seeds_109 : decode cX11_seeds 109 = .ok (.ireturn, 1) := by decide +kernel
theorem dX11_clear_0 : decode cX11_clear 0 = .ok (.aload_n 0, 1) := by decide +kernel
theorem dX11_clear_1 : decode cX11_clear 1 = .ok (.getfield 157, 3) := by decide +kernel
theorem dX11_clear_4 : decode cX11_clear 4 = .ok (.istore_n 1, 1) := by decide +kernel
theorem dX11_clear_5 : decode cX11_clear 5 = .ok (.aload_n 0, 1) := by decide +kernel
theorem dX11_clear_6 : decode cX11_clear 6 = .ok (.iconst 0, 1) := by decide +kernel
theorem dX11_clear_7 : decode cX11_clear 7 = .ok (.putfield 157, 3) := by decide +kernel
theorem dX11_clear_10 : decode cX11_clear 10 = .ok (.iload_n 1, 1) := by decide +kernel
theorem dX11_clear_11 : decode cX11_clear 11 = .ok (.ireturn, 1) := by decide +kernel
theorem dX11_image_0 : decode cX11_image 0 = .ok (.aload_n 0, 1) := by decide +kernel
theorem dX11_image_1 : decode cX11_image 1 = .ok (.getfield 10, 3) := by decide +kernel
theorem dX11_image_4 : decode cX11_image 4 = .ok (.aload_n 0, 1) := by decide +kernel
theorem dX11_image_5 : decode cX11_image 5 = .ok (.getfield 77, 3) := by decide +kernel
theorem dX11_image_8 : decode cX11_image 8 = .ok (.invokevirtual 186, 3) := by decide +kernel
theorem dX11_image_11 : decode cX11_image 11 = .ok (.aload_n 0, 1) := by decide +kernel
theorem dX11_image_12 : decode cX11_image 12 = .ok (.iconst 1, 1) := by decide +kernel
theorem dX11_image_13 : decode cX11_image 13 = .ok (.putfield 244, 3) := by decide +kernel
theorem dX11_image_16 : decode cX11_image 16 = .ok (.aload_n 0, 1) := by decide +kernel
theorem dX11_image_17 : decode cX11_image 17 = .ok (.getfield 77, 3) := by decide +kernel
theorem dX11_image_20 : decode cX11_image 20 = .ok (.getfield 193, 3) := by decide +kernel
theorem dX11_image_23 : decode cX11_image 23 = .ok (.ireturn, 1) := by decide +kernel
theorem dX11_restore_0 : decode cX11_restore 0 = .ok (.aload_n 0, 1) := by decide +kernel
theorem dX11_restore_1 : decode cX11_restore 1 = .ok (.getfield 244, 3) := by decide +kernel
theorem dX11_restore_4 : decode cX11_restore 4 = .ok (.ifCond .ne 10, 3) := by decide +kernel
theorem dX11_restore_7 : decode cX11_restore 7 = .ok (.aload_n 0, 1) := by decide +kernel
theorem dX11_restore_8 : decode cX11_restore 8 = .ok (.bipush (-3), 2) := by decide +kernel
theorem dX11_restore_10 : decode cX11_restore 10 = .ok (.invokevirtual 92, 3) := by decide +kernel
theorem dX11_restore_13 : decode cX11_restore 13 = .ok (.ireturn, 1) := by decide +kernel
theorem dX11_restore_14 : decode cX11_restore 14 = .ok (.aload_n 0, 1) := by decide +kernel
theorem dX11_restore_15 : decode cX11_restore 15 = .ok (.getfield 77, 3) := by decide +kernel
theorem dX11_restore_18 : decode cX11_restore 18 = .ok (.aload_n 0, 1) := by decide +kernel
theorem dX11_restore_19 : decode cX11_restore 19 = .ok (.getfield 10, 3) := by decide +kernel
theorem dX11_restore_22 : decode cX11_restore 22 = .ok (.invokevirtual 186, 3) := by decide +kernel
theorem dX11_restore_25 : decode cX11_restore 25 = .ok (.aload_n 0, 1) := by decide +kernel
theorem dX11_restore_26 : decode cX11_restore 26 = .ok (.iconst 1, 1) := by decide +kernel
theorem dX11_restore_27 : decode cX11_restore 27 = .ok (.putfield 37, 3) := by decide +kernel
theorem dX11_restore_30 : decode cX11_restore 30 = .ok (.aload_n 0, 1) := by decide +kernel
theorem dX11_restore_31 : decode cX11_restore 31 = .ok (.getfield 77, 3) := by decide +kernel
theorem dX11_restore_34 : decode cX11_restore 34 = .ok (.getfield 193, 3) := by decide +kernel
theorem dX11_restore_37 : decode cX11_restore 37 = .ok (.ireturn, 1) := by decide +kernel
theorem dX11_count_0 : decode cX11_count 0 = .ok (.iload_n 1, 1) := by decide +kernel
theorem dX11_count_1 : decode cX11_count 1 = .ok (.tableswitch 134 0 6 #[43, 51, 59, 75, 83, 91, 96], 43) := by decide +kernel
theorem dX11_count_44 : decode cX11_count 44 = .ok (.aload_n 0, 1) := by decide +kernel
theorem dX11_count_45 : decode cX11_count 45 = .ok (.getfield 77, 3) := by decide +kernel
theorem dX11_count_48 : decode cX11_count 48 = .ok (.getfield 193, 3) := by decide +kernel
theorem dX11_count_51 : decode cX11_count 51 = .ok (.ireturn, 1) := by decide +kernel
theorem dX11_count_52 : decode cX11_count 52 = .ok (.aload_n 0, 1) := by decide +kernel
theorem dX11_count_53 : decode cX11_count 53 = .ok (.getfield 77, 3) := by decide +kernel
theorem dX11_count_56 : decode cX11_count 56 = .ok (.getfield 170, 3) := by decide +kernel
theorem dX11_count_59 : decode cX11_count 59 = .ok (.ireturn, 1) := by decide +kernel
theorem dX11_count_60 : decode cX11_count 60 = .ok (.aload_n 0, 1) := by decide +kernel
theorem dX11_count_61 : decode cX11_count 61 = .ok (.getfield 77, 3) := by decide +kernel
theorem dX11_count_64 : decode cX11_count 64 = .ok (.getfield 247, 3) := by decide +kernel
theorem dX11_count_67 : decode cX11_count 67 = .ok (.ifCond .eq 7, 3) := by decide +kernel
theorem dX11_count_70 : decode cX11_count 70 = .ok (.iconst 1, 1) := by decide +kernel
theorem dX11_count_71 : decode cX11_count 71 = .ok (.goto 4, 3) := by decide +kernel
theorem dX11_count_74 : decode cX11_count 74 = .ok (.iconst 0, 1) := by decide +kernel
theorem dX11_count_75 : decode cX11_count 75 = .ok (.ireturn, 1) := by decide +kernel
theorem dX11_count_76 : decode cX11_count 76 = .ok (.aload_n 0, 1) := by decide +kernel
theorem dX11_count_77 : decode cX11_count 77 = .ok (.getfield 77, 3) := by decide +kernel
theorem dX11_count_80 : decode cX11_count 80 = .ok (.invokevirtual 250, 3) := by decide +kernel
theorem dX11_count_83 : decode cX11_count 83 = .ok (.ireturn, 1) := by decide +kernel
theorem dX11_count_84 : decode cX11_count 84 = .ok (.aload_n 0, 1) := by decide +kernel
theorem dX11_count_85 : decode cX11_count 85 = .ok (.getfield 19, 3) := by decide +kernel
theorem dX11_count_88 : decode cX11_count 88 = .ok (.getfield 254, 3) := by decide +kernel
theorem dX11_count_91 : decode cX11_count 91 = .ok (.ireturn, 1) := by decide +kernel
theorem dX11_count_92 : decode cX11_count 92 = .ok (.aload_n 0, 1) := by decide +kernel
theorem dX11_count_93 : decode cX11_count 93 = .ok (.getfield 157, 3) := by decide +kernel
theorem dX11_count_96 : decode cX11_count 96 = .ok (.ireturn, 1) := by decide +kernel
theorem dX11_count_97 : decode cX11_count 97 = .ok (.aload_n 0, 1) := by decide +kernel
theorem dX11_count_98 : decode cX11_count 98 = .ok (.getfield 77, 3) := by decide +kernel
theorem dX11_count_101 : decode cX11_count 101 = .ok (.invokevirtual 161, 3) := by decide +kernel
theorem dX11_count_104 : decode cX11_count 104 = .ok (.ifCond .eq 7, 3) := by decide +kernel
theorem dX11_count_107 : decode cX11_count 107 = .ok (.iconst 0, 1) := by decide +kernel
theorem dX11_count_108 : decode cX11_count 108 = .ok (.goto 26, 3) := by decide +kernel
theorem dX11_count_111 : decode cX11_count 111 = .ok (.aload_n 0, 1) := by decide +kernel
theorem dX11_count_112 : decode cX11_count 112 = .ok (.invokevirtual 133, 3) := by decide +kernel
theorem dX11_count_115 : decode cX11_count 115 = .ok (.getfield 147, 3) := by decide +kernel
theorem dX11_count_118 : decode cX11_count 118 = .ok (.aload_n 0, 1) := by decide +kernel
theorem dX11_count_119 : decode cX11_count 119 = .ok (.getfield 77, 3) := by decide +kernel
theorem dX11_count_122 : decode cX11_count 122 = .ok (.getfield 170, 3) := by decide +kernel
theorem dX11_count_125 : decode cX11_count 125 = .ok (.iaload, 1) := by decide +kernel
theorem dX11_count_126 : decode cX11_count 126 = .ok (.aload_n 0, 1) := by decide +kernel
theorem dX11_count_127 : decode cX11_count 127 = .ok (.getfield 77, 3) := by decide +kernel
theorem dX11_count_130 : decode cX11_count 130 = .ok (.getfield 170, 3) := by decide +kernel
theorem dX11_count_133 : decode cX11_count 133 = .ok (.isub, 1) := by decide +kernel
theorem dX11_count_134 : decode cX11_count 134 = .ok (.ireturn, 1) := by decide +kernel
theorem dX11_count_135 : decode cX11_count 135 = .ok (.aload_n 0, 1) := by decide +kernel
theorem dX11_count_136 : decode cX11_count 136 = .ok (.iload_n 1, 1) := by decide +kernel
theorem dX11_count_137 : decode cX11_count 137 = .ok (.bipush 10, 2) := by decide +kernel
theorem dX11_count_139 : decode cX11_count 139 = .ok (.isub, 1) := by decide +kernel
theorem dX11_count_140 : decode cX11_count 140 = .ok (.invokevirtual 255, 3) := by decide +kernel
theorem dX11_count_143 : decode cX11_count 143 = .ok (.ireturn, 1) := by decide +kernel
theorem dX11_countRefusals_0 : decode cX11_countRefusals 0 = .ok (.iload_n 1, 1) := by decide +kernel
theorem dX11_countRefusals_1 : decode cX11_countRefusals 1 = .ok (.iconst 1, 1) := by decide +kernel
theorem dX11_countRefusals_2 : decode cX11_countRefusals 2 = .ok (.if_icmp .lt 18, 3) := by decide +kernel
theorem dX11_countRefusals_5 : decode cX11_countRefusals 5 = .ok (.iload_n 1, 1) := by decide +kernel
theorem dX11_countRefusals_6 : decode cX11_countRefusals 6 = .ok (.bipush 6, 2) := by decide +kernel
theorem dX11_countRefusals_8 : decode cX11_countRefusals 8 = .ok (.if_icmp .gt 12, 3) := by decide +kernel
theorem dX11_countRefusals_11 : decode cX11_countRefusals 11 = .ok (.aload_n 0, 1) := by decide +kernel
theorem dX11_countRefusals_12 : decode cX11_countRefusals 12 = .ok (.getfield 30, 3) := by decide +kernel
theorem dX11_countRefusals_15 : decode cX11_countRefusals 15 = .ok (.iload_n 1, 1) := by decide +kernel
theorem dX11_countRefusals_16 : decode cX11_countRefusals 16 = .ok (.iaload, 1) := by decide +kernel
theorem dX11_countRefusals_17 : decode cX11_countRefusals 17 = .ok (.goto 5, 3) := by decide +kernel
theorem dX11_countRefusals_20 : decode cX11_countRefusals 20 = .ok (.bipush (-9), 2) := by decide +kernel
theorem dX11_countRefusals_22 : decode cX11_countRefusals 22 = .ok (.ireturn, 1) := by decide +kernel
theorem dX11_refuse_0 : decode cX11_refuse 0 = .ok (.iload_n 1, 1) := by decide +kernel
theorem dX11_refuse_1 : decode cX11_refuse 1 = .ok (.ifCond .ge 20, 3) := by decide +kernel
theorem dX11_refuse_4 : decode cX11_refuse 4 = .ok (.iload_n 1, 1) := by decide +kernel
theorem dX11_refuse_5 : decode cX11_refuse 5 = .ok (.bipush (-6), 2) := by decide +kernel
theorem dX11_refuse_7 : decode cX11_refuse 7 = .ok (.if_icmp .lt 14, 3) := by decide +kernel
theorem dX11_refuse_10 : decode cX11_refuse 10 = .ok (.aload_n 0, 1) := by decide +kernel
theorem dX11_refuse_11 : decode cX11_refuse 11 = .ok (.getfield 30, 3) := by decide +kernel
theorem dX11_refuse_14 : decode cX11_refuse 14 = .ok (.iload_n 1, 1) := by decide +kernel
theorem dX11_refuse_15 : decode cX11_refuse 15 = .ok (.ineg, 1) := by decide +kernel
theorem dX11_refuse_16 : decode cX11_refuse 16 = .ok (.dup2, 1) := by decide +kernel
theorem dX11_refuse_17 : decode cX11_refuse 17 = .ok (.iaload, 1) := by decide +kernel
theorem dX11_refuse_18 : decode cX11_refuse 18 = .ok (.iconst 1, 1) := by decide +kernel
theorem dX11_refuse_19 : decode cX11_refuse 19 = .ok (.iadd, 1) := by decide +kernel
theorem dX11_refuse_20 : decode cX11_refuse 20 = .ok (.iastore, 1) := by decide +kernel
theorem dX11_refuse_21 : decode cX11_refuse 21 = .ok (.iload_n 1, 1) := by decide +kernel
theorem dX11_refuse_22 : decode cX11_refuse 22 = .ok (.ireturn, 1) := by decide +kernel
theorem dX11_solved_0 : decode cX11_solved 0 = .ok (.aload_n 0, 1) := by decide +kernel
theorem dX11_solved_1 : decode cX11_solved 1 = .ok (.getfield 37, 3) := by decide +kernel
theorem dX11_solved_4 : decode cX11_solved 4 = .ok (.ifCond .eq 16, 3) := by decide +kernel
theorem dX11_solved_7 : decode cX11_solved 7 = .ok (.aload_n 0, 1) := by decide +kernel
theorem dX11_solved_8 : decode cX11_solved 8 = .ok (.getfield 67, 3) := by decide +kernel
theorem dX11_solved_11 : decode cX11_solved 11 = .ok (.iconst 0, 1) := by decide +kernel
theorem dX11_solved_12 : decode cX11_solved 12 = .ok (.invokevirtual 190, 3) := by decide +kernel
theorem dX11_solved_15 : decode cX11_solved 15 = .ok (.aload_n 0, 1) := by decide +kernel
theorem dX11_solved_16 : decode cX11_solved 16 = .ok (.iconst 0, 1) := by decide +kernel
theorem dX11_solved_17 : decode cX11_solved 17 = .ok (.putfield 37, 3) := by decide +kernel
theorem dX11_solved_20 : decode cX11_solved 20 = .ok (.aload_n 0, 1) := by decide +kernel
theorem dX11_solved_21 : decode cX11_solved 21 = .ok (.getfield 67, 3) := by decide +kernel
theorem dX11_solved_24 : decode cX11_solved 24 = .ok (.areturn, 1) := by decide +kernel
theorem dX11_isRowRight_0 : decode cX11_isRowRight 0 = .ok (.aload_n 0, 1) := by decide +kernel
theorem dX11_isRowRight_1 : decode cX11_isRowRight 1 = .ok (.getfield 157, 3) := by decide +kernel
theorem dX11_isRowRight_4 : decode cX11_isRowRight 4 = .ok (.aload_n 0, 1) := by decide +kernel
theorem dX11_isRowRight_5 : decode cX11_isRowRight 5 = .ok (.getfield 77, 3) := by decide +kernel
theorem dX11_isRowRight_8 : decode cX11_isRowRight 8 = .ok (.getfield 193, 3) := by decide +kernel
theorem dX11_isRowRight_11 : decode cX11_isRowRight 11 = .ok (.aload_n 0, 1) := by decide +kernel
theorem dX11_isRowRight_12 : decode cX11_isRowRight 12 = .ok (.getfield 77, 3) := by decide +kernel
theorem dX11_isRowRight_15 : decode cX11_isRowRight 15 = .ok (.getfield 170, 3) := by decide +kernel
theorem dX11_isRowRight_18 : decode cX11_isRowRight 18 = .ok (.isub, 1) := by decide +kernel
theorem dX11_isRowRight_19 : decode cX11_isRowRight 19 = .ok (.if_icmp .eq 5, 3) := by decide +kernel
theorem dX11_isRowRight_22 : decode cX11_isRowRight 22 = .ok (.iconst 0, 1) := by decide +kernel
theorem dX11_isRowRight_23 : decode cX11_isRowRight 23 = .ok (.ireturn, 1) := by decide +kernel
theorem dX11_isRowRight_24 : decode cX11_isRowRight 24 = .ok (.iconst 0, 1) := by decide +kernel
theorem dX11_isRowRight_25 : decode cX11_isRowRight 25 = .ok (.istore_n 1, 1) := by decide +kernel
theorem dX11_isRowRight_26 : decode cX11_isRowRight 26 = .ok (.iconst 0, 1) := by decide +kernel
theorem dX11_isRowRight_27 : decode cX11_isRowRight 27 = .ok (.istore_n 2, 1) := by decide +kernel
theorem dX11_isRowRight_28 : decode cX11_isRowRight 28 = .ok (.iload_n 2, 1) := by decide +kernel
theorem dX11_isRowRight_29 : decode cX11_isRowRight 29 = .ok (.aload_n 0, 1) := by decide +kernel
theorem dX11_isRowRight_30 : decode cX11_isRowRight 30 = .ok (.getfield 157, 3) := by decide +kernel
theorem dX11_isRowRight_33 : decode cX11_isRowRight 33 = .ok (.if_icmp .ge 18, 3) := by decide +kernel
theorem dX11_isRowRight_36 : decode cX11_isRowRight 36 = .ok (.iload_n 1, 1) := by decide +kernel
theorem dX11_isRowRight_37 : decode cX11_isRowRight 37 = .ok (.aload_n 0, 1) := by decide +kernel
theorem dX11_isRowRight_38 : decode cX11_isRowRight 38 = .ok (.getfield 27, 3) := by decide +kernel
theorem dX11_isRowRight_41 : decode cX11_isRowRight 41 = .ok (.iload_n 2, 1) := by decide +kernel
theorem dX11_isRowRight_42 : decode cX11_isRowRight 42 = .ok (.iaload, 1) := by decide +kernel
theorem dX11_isRowRight_43 : decode cX11_isRowRight 43 = .ok (.iadd, 1) := by decide +kernel
theorem dX11_isRowRight_44 : decode cX11_isRowRight 44 = .ok (.istore_n 1, 1) := by decide +kernel
theorem dX11_isRowRight_45 : decode cX11_isRowRight 45 = .ok (.iinc 2 1, 3) := by decide +kernel
theorem dX11_isRowRight_48 : decode cX11_isRowRight 48 = .ok (.goto (-20), 3) := by decide +kernel
theorem dX11_isRowRight_51 : decode cX11_isRowRight 51 = .ok (.iload_n 1, 1) := by decide +kernel
theorem dX11_isRowRight_52 : decode cX11_isRowRight 52 = .ok (.aload_n 0, 1) := by decide +kernel
theorem dX11_isRowRight_53 : decode cX11_isRowRight 53 = .ok (.getfield 77, 3) := by decide +kernel
theorem dX11_isRowRight_56 : decode cX11_isRowRight 56 = .ok (.getfield 130, 3) := by decide +kernel
theorem dX11_isRowRight_59 : decode cX11_isRowRight 59 = .ok (.iconst 0, 1) := by decide +kernel
theorem dX11_isRowRight_60 : decode cX11_isRowRight 60 = .ok (.iaload, 1) := by decide +kernel
theorem dX11_isRowRight_61 : decode cX11_isRowRight 61 = .ok (.if_icmp .ne 7, 3) := by decide +kernel
theorem dX11_isRowRight_64 : decode cX11_isRowRight 64 = .ok (.iconst 1, 1) := by decide +kernel
theorem dX11_isRowRight_65 : decode cX11_isRowRight 65 = .ok (.goto 4, 3) := by decide +kernel
theorem dX11_isRowRight_68 : decode cX11_isRowRight 68 = .ok (.iconst 0, 1) := by decide +kernel
theorem dX11_isRowRight_69 : decode cX11_isRowRight 69 = .ok (.ireturn, 1) := by decide +kernel
theorem dX11_firstOddVote_0 : decode cX11_firstOddVote 0 = .ok (.aload_n 0, 1) := by decide +kernel
theorem dX11_firstOddVote_1 : decode cX11_firstOddVote 1 = .ok (.invokevirtual 133, 3) := by decide +kernel
theorem dX11_firstOddVote_4 : decode cX11_firstOddVote 4 = .ok (.getfield 141, 3) := by decide +kernel
theorem dX11_firstOddVote_7 : decode cX11_firstOddVote 7 = .ok (.aload_n 0, 1) := by decide +kernel
theorem dX11_firstOddVote_8 : decode cX11_firstOddVote 8 = .ok (.getfield 77, 3) := by decide +kernel
theorem dX11_firstOddVote_11 : decode cX11_firstOddVote 11 = .ok (.getfield 170, 3) := by decide +kernel
theorem dX11_firstOddVote_14 : decode cX11_firstOddVote 14 = .ok (.aaload, 1) := by decide +kernel
theorem dX11_firstOddVote_15 : decode cX11_firstOddVote 15 = .ok (.astore_n 2, 1) := by decide +kernel
theorem dX11_firstOddVote_16 : decode cX11_firstOddVote 16 = .ok (.aload_n 0, 1) := by decide +kernel
theorem dX11_firstOddVote_17 : decode cX11_firstOddVote 17 = .ok (.getfield 77, 3) := by decide +kernel
theorem dX11_firstOddVote_20 : decode cX11_firstOddVote 20 = .ok (.getfield 170, 3) := by decide +kernel
theorem dX11_firstOddVote_23 : decode cX11_firstOddVote 23 = .ok (.istore_n 3, 1) := by decide +kernel
theorem dX11_firstOddVote_24 : decode cX11_firstOddVote 24 = .ok (.iload_n 3, 1) := by decide +kernel
theorem dX11_firstOddVote_25 : decode cX11_firstOddVote 25 = .ok (.aload_n 0, 1) := by decide +kernel
theorem dX11_firstOddVote_26 : decode cX11_firstOddVote 26 = .ok (.getfield 77, 3) := by decide +kernel
theorem dX11_firstOddVote_29 : decode cX11_firstOddVote 29 = .ok (.getfield 193, 3) := by decide +kernel
theorem dX11_firstOddVote_32 : decode cX11_firstOddVote 32 = .ok (.if_icmp .ge 73, 3) := by decide +kernel
theorem dX11_firstOddVote_35 : decode cX11_firstOddVote 35 = .ok (.iload_n 3, 1) := by decide +kernel
theorem dX11_firstOddVote_36 : decode cX11_firstOddVote 36 = .ok (.aload_n 0, 1) := by decide +kernel
theorem dX11_firstOddVote_37 : decode cX11_firstOddVote 37 = .ok (.getfield 77, 3) := by decide +kernel
theorem dX11_firstOddVote_40 : decode cX11_firstOddVote 40 = .ok (.getfield 170, 3) := by decide +kernel
theorem dX11_firstOddVote_43 : decode cX11_firstOddVote 43 = .ok (.isub, 1) := by decide +kernel
theorem dX11_firstOddVote_44 : decode cX11_firstOddVote 44 = .ok (.istore 4, 2) := by decide +kernel
theorem dX11_firstOddVote_46 : decode cX11_firstOddVote 46 = .ok (.iload 4, 2) := by decide +kernel
theorem dX11_firstOddVote_48 : decode cX11_firstOddVote 48 = .ok (.ifCond .eq 16, 3) := by decide +kernel
theorem dX11_firstOddVote_51 : decode cX11_firstOddVote 51 = .ok (.aload_n 0, 1) := by decide +kernel
theorem dX11_firstOddVote_52 : decode cX11_firstOddVote 52 = .ok (.getfield 27, 3) := by decide +kernel
theorem dX11_firstOddVote_55 : decode cX11_firstOddVote 55 = .ok (.iload 4, 2) := by decide +kernel
theorem dX11_firstOddVote_57 : decode cX11_firstOddVote 57 = .ok (.iaload, 1) := by decide +kernel
theorem dX11_firstOddVote_58 : decode cX11_firstOddVote 58 = .ok (.aload_n 2, 1) := by decide +kernel
theorem dX11_firstOddVote_59 : decode cX11_firstOddVote 59 = .ok (.iload_n 3, 1) := by decide +kernel
theorem dX11_firstOddVote_60 : decode cX11_firstOddVote 60 = .ok (.iaload, 1) := by decide +kernel
theorem dX11_firstOddVote_61 : decode cX11_firstOddVote 61 = .ok (.if_icmp .lt 7, 3) := by decide +kernel
theorem dX11_firstOddVote_64 : decode cX11_firstOddVote 64 = .ok (.iconst 1, 1) := by decide +kernel
theorem dX11_firstOddVote_65 : decode cX11_firstOddVote 65 = .ok (.goto 4, 3) := by decide +kernel
theorem dX11_firstOddVote_68 : decode cX11_firstOddVote 68 = .ok (.iconst 0, 1) := by decide +kernel
theorem dX11_firstOddVote_69 : decode cX11_firstOddVote 69 = .ok (.istore 5, 2) := by decide +kernel
theorem dX11_firstOddVote_71 : decode cX11_firstOddVote 71 = .ok (.iload_n 1, 1) := by decide +kernel
theorem dX11_firstOddVote_72 : decode cX11_firstOddVote 72 = .ok (.iload_n 3, 1) := by decide +kernel
theorem dX11_firstOddVote_73 : decode cX11_firstOddVote 73 = .ok (.ishr, 1) := by decide +kernel
theorem dX11_firstOddVote_74 : decode cX11_firstOddVote 74 = .ok (.iconst 1, 1) := by decide +kernel
theorem dX11_firstOddVote_75 : decode cX11_firstOddVote 75 = .ok (.iand, 1) := by decide +kernel
theorem dX11_firstOddVote_76 : decode cX11_firstOddVote 76 = .ok (.iconst 1, 1) := by decide +kernel
theorem dX11_firstOddVote_77 : decode cX11_firstOddVote 77 = .ok (.if_icmp .ne 7, 3) := by decide +kernel
theorem dX11_firstOddVote_80 : decode cX11_firstOddVote 80 = .ok (.iconst 1, 1) := by decide +kernel
theorem dX11_firstOddVote_81 : decode cX11_firstOddVote 81 = .ok (.goto 4, 3) := by decide +kernel
theorem dX11_firstOddVote_84 : decode cX11_firstOddVote 84 = .ok (.iconst 0, 1) := by decide +kernel
theorem dX11_firstOddVote_85 : decode cX11_firstOddVote 85 = .ok (.istore 6, 2) := by decide +kernel
theorem dX11_firstOddVote_87 : decode cX11_firstOddVote 87 = .ok (.iload 5, 2) := by decide +kernel
theorem dX11_firstOddVote_89 : decode cX11_firstOddVote 89 = .ok (.iload 6, 2) := by decide +kernel
theorem dX11_firstOddVote_91 : decode cX11_firstOddVote 91 = .ok (.if_icmp .eq 8, 3) := by decide +kernel
theorem dX11_firstOddVote_94 : decode cX11_firstOddVote 94 = .ok (.iload 4, 2) := by decide +kernel
theorem dX11_firstOddVote_96 : decode cX11_firstOddVote 96 = .ok (.iconst 1, 1) := by decide +kernel
theorem dX11_firstOddVote_97 : decode cX11_firstOddVote 97 = .ok (.iadd, 1) := by decide +kernel
theorem dX11_firstOddVote_98 : decode cX11_firstOddVote 98 = .ok (.ireturn, 1) := by decide +kernel
theorem dX11_firstOddVote_99 : decode cX11_firstOddVote 99 = .ok (.iinc 3 1, 3) := by decide +kernel
theorem dX11_firstOddVote_102 : decode cX11_firstOddVote 102 = .ok (.goto (-78), 3) := by decide +kernel
theorem dX11_firstOddVote_105 : decode cX11_firstOddVote 105 = .ok (.bipush (-9), 2) := by decide +kernel
theorem dX11_firstOddVote_107 : decode cX11_firstOddVote 107 = .ok (.ireturn, 1) := by decide +kernel
theorem dX11_orderAsIs_0 : decode cX11_orderAsIs 0 = .ok (.iconst 0, 1) := by decide +kernel
theorem dX11_orderAsIs_1 : decode cX11_orderAsIs 1 = .ok (.istore_n 1, 1) := by decide +kernel
theorem dX11_orderAsIs_2 : decode cX11_orderAsIs 2 = .ok (.iload_n 1, 1) := by decide +kernel
theorem dX11_orderAsIs_3 : decode cX11_orderAsIs 3 = .ok (.aload_n 0, 1) := by decide +kernel
theorem dX11_orderAsIs_4 : decode cX11_orderAsIs 4 = .ok (.getfield 77, 3) := by decide +kernel
theorem dX11_orderAsIs_7 : decode cX11_orderAsIs 7 = .ok (.getfield 193, 3) := by decide +kernel
theorem dX11_orderAsIs_10 : decode cX11_orderAsIs 10 = .ok (.if_icmp .ge 16, 3) := by decide +kernel
theorem dX11_orderAsIs_13 : decode cX11_orderAsIs 13 = .ok (.aload_n 0, 1) := by decide +kernel
theorem dX11_orderAsIs_14 : decode cX11_orderAsIs 14 = .ok (.getfield 23, 3) := by decide +kernel
theorem dX11_orderAsIs_17 : decode cX11_orderAsIs 17 = .ok (.iload_n 1, 1) := by decide +kernel
theorem dX11_orderAsIs_18 : decode cX11_orderAsIs 18 = .ok (.iload_n 1, 1) := by decide +kernel
theorem dX11_orderAsIs_19 : decode cX11_orderAsIs 19 = .ok (.iastore, 1) := by decide +kernel
theorem dX11_orderAsIs_20 : decode cX11_orderAsIs 20 = .ok (.iinc 1 1, 3) := by decide +kernel
theorem dX11_orderAsIs_23 : decode cX11_orderAsIs 23 = .ok (.goto (-21), 3) := by decide +kernel
theorem dX11_orderAsIs_26 : decode cX11_orderAsIs 26 = .ok (.return_, 1) := by decide +kernel
theorem dX11_orderWith_0 : decode cX11_orderWith 0 = .ok (.iconst 0, 1) := by decide +kernel
theorem dX11_orderWith_1 : decode cX11_orderWith 1 = .ok (.istore_n 3, 1) := by decide +kernel
theorem dX11_orderWith_2 : decode cX11_orderWith 2 = .ok (.iconst 0, 1) := by decide +kernel
theorem dX11_orderWith_3 : decode cX11_orderWith 3 = .ok (.istore 4, 2) := by decide +kernel
theorem dX11_orderWith_5 : decode cX11_orderWith 5 = .ok (.iload 4, 2) := by decide +kernel
theorem dX11_orderWith_7 : decode cX11_orderWith 7 = .ok (.aload_n 0, 1) := by decide +kernel
theorem dX11_orderWith_8 : decode cX11_orderWith 8 = .ok (.getfield 77, 3) := by decide +kernel
theorem dX11_orderWith_11 : decode cX11_orderWith 11 = .ok (.getfield 193, 3) := by decide +kernel
theorem dX11_orderWith_14 : decode cX11_orderWith 14 = .ok (.if_icmp .ge 45, 3) := by decide +kernel
theorem dX11_orderWith_17 : decode cX11_orderWith 17 = .ok (.iload 4, 2) := by decide +kernel
theorem dX11_orderWith_19 : decode cX11_orderWith 19 = .ok (.iload_n 2, 1) := by decide +kernel
theorem dX11_orderWith_20 : decode cX11_orderWith 20 = .ok (.if_icmp .ne 14, 3) := by decide +kernel
theorem dX11_orderWith_23 : decode cX11_orderWith 23 = .ok (.aload_n 0, 1) := by decide +kernel
theorem dX11_orderWith_24 : decode cX11_orderWith 24 = .ok (.getfield 23, 3) := by decide +kernel
theorem dX11_orderWith_27 : decode cX11_orderWith 27 = .ok (.iload 4, 2) := by decide +kernel
theorem dX11_orderWith_29 : decode cX11_orderWith 29 = .ok (.iload_n 1, 1) := by decide +kernel
theorem dX11_orderWith_30 : decode cX11_orderWith 30 = .ok (.iastore, 1) := by decide +kernel
theorem dX11_orderWith_31 : decode cX11_orderWith 31 = .ok (.goto 22, 3) := by decide +kernel
theorem dX11_orderWith_34 : decode cX11_orderWith 34 = .ok (.iload_n 3, 1) := by decide +kernel
theorem dX11_orderWith_35 : decode cX11_orderWith 35 = .ok (.iload_n 1, 1) := by decide +kernel
theorem dX11_orderWith_36 : decode cX11_orderWith 36 = .ok (.if_icmp .ne 6, 3) := by decide +kernel
theorem dX11_orderWith_39 : decode cX11_orderWith 39 = .ok (.iinc 3 1, 3) := by decide +kernel
theorem dX11_orderWith_42 : decode cX11_orderWith 42 = .ok (.aload_n 0, 1) := by decide +kernel
theorem dX11_orderWith_43 : decode cX11_orderWith 43 = .ok (.getfield 23, 3) := by decide +kernel
theorem dX11_orderWith_46 : decode cX11_orderWith 46 = .ok (.iload 4, 2) := by decide +kernel
theorem dX11_orderWith_48 : decode cX11_orderWith 48 = .ok (.iload_n 3, 1) := by decide +kernel
theorem dX11_orderWith_49 : decode cX11_orderWith 49 = .ok (.iastore, 1) := by decide +kernel
theorem dX11_orderWith_50 : decode cX11_orderWith 50 = .ok (.iinc 3 1, 3) := by decide +kernel
theorem dX11_orderWith_53 : decode cX11_orderWith 53 = .ok (.iinc 4 1, 3) := by decide +kernel
theorem dX11_orderWith_56 : decode cX11_orderWith 56 = .ok (.goto (-51), 3) := by decide +kernel
theorem dX11_orderWith_59 : decode cX11_orderWith 59 = .ok (.return_, 1) := by decide +kernel
theorem dX11_drawOrder_0 : decode cX11_drawOrder 0 = .ok (.iload_n 1, 1) := by decide +kernel
theorem dX11_drawOrder_1 : decode cX11_drawOrder 1 = .ok (.istore_n 2, 1) := by decide +kernel
theorem dX11_drawOrder_2 : decode cX11_drawOrder 2 = .ok (.aload_n 0, 1) := by decide +kernel
theorem dX11_drawOrder_3 : decode cX11_drawOrder 3 = .ok (.invokevirtual 199, 3) := by decide +kernel
theorem dX11_drawOrder_6 : decode cX11_drawOrder 6 = .ok (.aload_n 0, 1) := by decide +kernel
theorem dX11_drawOrder_7 : decode cX11_drawOrder 7 = .ok (.getfield 77, 3) := by decide +kernel
theorem dX11_drawOrder_10 : decode cX11_drawOrder 10 = .ok (.getfield 193, 3) := by decide +kernel
theorem dX11_drawOrder_13 : decode cX11_drawOrder 13 = .ok (.iconst 1, 1) := by decide +kernel
theorem dX11_drawOrder_14 : decode cX11_drawOrder 14 = .ok (.isub, 1) := by decide +kernel
theorem dX11_drawOrder_15 : decode cX11_drawOrder 15 = .ok (.istore_n 3, 1) := by decide +kernel
theorem dX11_drawOrder_16 : decode cX11_drawOrder 16 = .ok (.iload_n 3, 1) := by decide +kernel
theorem dX11_drawOrder_17 : decode cX11_drawOrder 17 = .ok (.iconst 1, 1) := by decide +kernel
theorem dX11_drawOrder_18 : decode cX11_drawOrder 18 = .ok (.if_icmp .lt 64, 3) := by decide +kernel
theorem dX11_drawOrder_21 : decode cX11_drawOrder 21 = .ok (.iload_n 2, 1) := by decide +kernel
theorem dX11_drawOrder_22 : decode cX11_drawOrder 22 = .ok (.ldc_w 258, 3) := by decide +kernel
theorem dX11_drawOrder_25 : decode cX11_drawOrder 25 = .ok (.imul, 1) := by decide +kernel
theorem dX11_drawOrder_26 : decode cX11_drawOrder 26 = .ok (.sipush 12345, 3) := by decide +kernel
theorem dX11_drawOrder_29 : decode cX11_drawOrder 29 = .ok (.iadd, 1) := by decide +kernel
theorem dX11_drawOrder_30 : decode cX11_drawOrder 30 = .ok (.istore_n 2, 1) := by decide +kernel
theorem dX11_drawOrder_31 : decode cX11_drawOrder 31 = .ok (.iload_n 2, 1) := by decide +kernel
theorem dX11_drawOrder_32 : decode cX11_drawOrder 32 = .ok (.ldc_w 259, 3) := by decide +kernel
theorem dX11_drawOrder_35 : decode cX11_drawOrder 35 = .ok (.iand, 1) := by decide +kernel
theorem dX11_drawOrder_36 : decode cX11_drawOrder 36 = .ok (.ldc_w 260, 3) := by decide +kernel
theorem dX11_drawOrder_39 : decode cX11_drawOrder 39 = .ok (.idiv, 1) := by decide +kernel
theorem dX11_drawOrder_40 : decode cX11_drawOrder 40 = .ok (.iload_n 3, 1) := by decide +kernel
theorem dX11_drawOrder_41 : decode cX11_drawOrder 41 = .ok (.iconst 1, 1) := by decide +kernel
theorem dX11_drawOrder_42 : decode cX11_drawOrder 42 = .ok (.iadd, 1) := by decide +kernel
theorem dX11_drawOrder_43 : decode cX11_drawOrder 43 = .ok (.irem, 1) := by decide +kernel
theorem dX11_drawOrder_44 : decode cX11_drawOrder 44 = .ok (.istore 4, 2) := by decide +kernel
theorem dX11_drawOrder_46 : decode cX11_drawOrder 46 = .ok (.aload_n 0, 1) := by decide +kernel
theorem dX11_drawOrder_47 : decode cX11_drawOrder 47 = .ok (.getfield 23, 3) := by decide +kernel
theorem dX11_drawOrder_50 : decode cX11_drawOrder 50 = .ok (.iload_n 3, 1) := by decide +kernel
theorem dX11_drawOrder_51 : decode cX11_drawOrder 51 = .ok (.iaload, 1) := by decide +kernel
theorem dX11_drawOrder_52 : decode cX11_drawOrder 52 = .ok (.istore 5, 2) := by decide +kernel
theorem dX11_drawOrder_54 : decode cX11_drawOrder 54 = .ok (.aload_n 0, 1) := by decide +kernel
theorem dX11_drawOrder_55 : decode cX11_drawOrder 55 = .ok (.getfield 23, 3) := by decide +kernel
theorem dX11_drawOrder_58 : decode cX11_drawOrder 58 = .ok (.iload_n 3, 1) := by decide +kernel
theorem dX11_drawOrder_59 : decode cX11_drawOrder 59 = .ok (.aload_n 0, 1) := by decide +kernel
theorem dX11_drawOrder_60 : decode cX11_drawOrder 60 = .ok (.getfield 23, 3) := by decide +kernel
theorem dX11_drawOrder_63 : decode cX11_drawOrder 63 = .ok (.iload 4, 2) := by decide +kernel
theorem dX11_drawOrder_65 : decode cX11_drawOrder 65 = .ok (.iaload, 1) := by decide +kernel
theorem dX11_drawOrder_66 : decode cX11_drawOrder 66 = .ok (.iastore, 1) := by decide +kernel
theorem dX11_drawOrder_67 : decode cX11_drawOrder 67 = .ok (.aload_n 0, 1) := by decide +kernel
theorem dX11_drawOrder_68 : decode cX11_drawOrder 68 = .ok (.getfield 23, 3) := by decide +kernel
theorem dX11_drawOrder_71 : decode cX11_drawOrder 71 = .ok (.iload 4, 2) := by decide +kernel
theorem dX11_drawOrder_73 : decode cX11_drawOrder 73 = .ok (.iload 5, 2) := by decide +kernel
theorem dX11_drawOrder_75 : decode cX11_drawOrder 75 = .ok (.iastore, 1) := by decide +kernel
theorem dX11_drawOrder_76 : decode cX11_drawOrder 76 = .ok (.iinc 3 (-1), 3) := by decide +kernel
theorem dX11_drawOrder_79 : decode cX11_drawOrder 79 = .ok (.goto (-63), 3) := by decide +kernel
theorem dX11_drawOrder_82 : decode cX11_drawOrder 82 = .ok (.iload_n 2, 1) := by decide +kernel
theorem dX11_drawOrder_83 : decode cX11_drawOrder 83 = .ok (.ireturn, 1) := by decide +kernel
theorem dX11_placeOf_0 : decode cX11_placeOf 0 = .ok (.iconst 0, 1) := by decide +kernel
theorem dX11_placeOf_1 : decode cX11_placeOf 1 = .ok (.istore_n 2, 1) := by decide +kernel
theorem dX11_placeOf_2 : decode cX11_placeOf 2 = .ok (.iconst 0, 1) := by decide +kernel
theorem dX11_placeOf_3 : decode cX11_placeOf 3 = .ok (.istore_n 3, 1) := by decide +kernel
theorem dX11_placeOf_4 : decode cX11_placeOf 4 = .ok (.iload_n 3, 1) := by decide +kernel
theorem dX11_placeOf_5 : decode cX11_placeOf 5 = .ok (.aload_n 0, 1) := by decide +kernel
theorem dX11_placeOf_6 : decode cX11_placeOf 6 = .ok (.getfield 77, 3) := by decide +kernel
theorem dX11_placeOf_9 : decode cX11_placeOf 9 = .ok (.getfield 193, 3) := by decide +kernel
theorem dX11_placeOf_12 : decode cX11_placeOf 12 = .ok (.if_icmp .ge 21, 3) := by decide +kernel
theorem dX11_placeOf_15 : decode cX11_placeOf 15 = .ok (.aload_n 0, 1) := by decide +kernel
theorem dX11_placeOf_16 : decode cX11_placeOf 16 = .ok (.getfield 23, 3) := by decide +kernel
theorem dX11_placeOf_19 : decode cX11_placeOf 19 = .ok (.iload_n 3, 1) := by decide +kernel
theorem dX11_placeOf_20 : decode cX11_placeOf 20 = .ok (.iaload, 1) := by decide +kernel
theorem dX11_placeOf_21 : decode cX11_placeOf 21 = .ok (.iload_n 1, 1) := by decide +kernel
theorem dX11_placeOf_22 : decode cX11_placeOf 22 = .ok (.if_icmp .ne 5, 3) := by decide +kernel
theorem dX11_placeOf_25 : decode cX11_placeOf 25 = .ok (.iload_n 3, 1) := by decide +kernel
theorem dX11_placeOf_26 : decode cX11_placeOf 26 = .ok (.istore_n 2, 1) := by decide +kernel
theorem dX11_placeOf_27 : decode cX11_placeOf 27 = .ok (.iinc 3 1, 3) := by decide +kernel
theorem dX11_placeOf_30 : decode cX11_placeOf 30 = .ok (.goto (-26), 3) := by decide +kernel
theorem dX11_placeOf_33 : decode cX11_placeOf 33 = .ok (.iload_n 2, 1) := by decide +kernel
theorem dX11_placeOf_34 : decode cX11_placeOf 34 = .ok (.ireturn, 1) := by decide +kernel
theorem dX11_seat_0 : decode cX11_seat 0 = .ok (.aload_n 0, 1) := by decide +kernel
theorem dX11_seat_1 : decode cX11_seat 1 = .ok (.getfield 80, 3) := by decide +kernel
theorem dX11_seat_4 : decode cX11_seat 4 = .ok (.aload_n 0, 1) := by decide +kernel
theorem dX11_seat_5 : decode cX11_seat 5 = .ok (.getfield 77, 3) := by decide +kernel
theorem dX11_seat_8 : decode cX11_seat 8 = .ok (.invokevirtual 186, 3) := by decide +kernel
theorem dX11_seat_11 : decode cX11_seat 11 = .ok (.iconst 0, 1) := by decide +kernel
theorem dX11_seat_12 : decode cX11_seat 12 = .ok (.istore_n 1, 1) := by decide +kernel
theorem dX11_seat_13 : decode cX11_seat 13 = .ok (.iload_n 1, 1) := by decide +kernel
theorem dX11_seat_14 : decode cX11_seat 14 = .ok (.aload_n 0, 1) := by decide +kernel
theorem dX11_seat_15 : decode cX11_seat 15 = .ok (.getfield 77, 3) := by decide +kernel
theorem dX11_seat_18 : decode cX11_seat 18 = .ok (.getfield 193, 3) := by decide +kernel
theorem dX11_seat_21 : decode cX11_seat 21 = .ok (.if_icmp .ge 81, 3) := by decide +kernel
theorem dX11_seat_24 : decode cX11_seat 24 = .ok (.aload_n 0, 1) := by decide +kernel
theorem dX11_seat_25 : decode cX11_seat 25 = .ok (.getfield 23, 3) := by decide +kernel
theorem dX11_seat_28 : decode cX11_seat 28 = .ok (.iload_n 1, 1) := by decide +kernel
theorem dX11_seat_29 : decode cX11_seat 29 = .ok (.iaload, 1) := by decide +kernel
theorem dX11_seat_30 : decode cX11_seat 30 = .ok (.istore_n 2, 1) := by decide +kernel
theorem dX11_seat_31 : decode cX11_seat 31 = .ok (.aload_n 0, 1) := by decide +kernel
theorem dX11_seat_32 : decode cX11_seat 32 = .ok (.getfield 77, 3) := by decide +kernel
theorem dX11_seat_35 : decode cX11_seat 35 = .ok (.iload_n 2, 1) := by decide +kernel
theorem dX11_seat_36 : decode cX11_seat 36 = .ok (.invokevirtual 114, 3) := by decide +kernel
theorem dX11_seat_39 : decode cX11_seat 39 = .ok (.ifCond .eq 57, 3) := by decide +kernel
theorem dX11_seat_42 : decode cX11_seat 42 = .ok (.aload_n 0, 1) := by decide +kernel
theorem dX11_seat_43 : decode cX11_seat 43 = .ok (.getfield 80, 3) := by decide +kernel
theorem dX11_seat_46 : decode cX11_seat 46 = .ok (.getfield 118, 3) := by decide +kernel
theorem dX11_seat_49 : decode cX11_seat 49 = .ok (.iload_n 1, 1) := by decide +kernel
theorem dX11_seat_50 : decode cX11_seat 50 = .ok (.aload_n 0, 1) := by decide +kernel
theorem dX11_seat_51 : decode cX11_seat 51 = .ok (.getfield 77, 3) := by decide +kernel
theorem dX11_seat_54 : decode cX11_seat 54 = .ok (.getfield 118, 3) := by decide +kernel
theorem dX11_seat_57 : decode cX11_seat 57 = .ok (.iload_n 2, 1) := by decide +kernel
theorem dX11_seat_58 : decode cX11_seat 58 = .ok (.iaload, 1) := by decide +kernel
theorem dX11_seat_59 : decode cX11_seat 59 = .ok (.iastore, 1) := by decide +kernel
theorem dX11_seat_60 : decode cX11_seat 60 = .ok (.aload_n 0, 1) := by decide +kernel
theorem dX11_seat_61 : decode cX11_seat 61 = .ok (.getfield 80, 3) := by decide +kernel
theorem dX11_seat_64 : decode cX11_seat 64 = .ok (.getfield 121, 3) := by decide +kernel
theorem dX11_seat_67 : decode cX11_seat 67 = .ok (.iload_n 1, 1) := by decide +kernel
theorem dX11_seat_68 : decode cX11_seat 68 = .ok (.aload_n 0, 1) := by decide +kernel
theorem dX11_seat_69 : decode cX11_seat 69 = .ok (.getfield 77, 3) := by decide +kernel
theorem dX11_seat_72 : decode cX11_seat 72 = .ok (.getfield 121, 3) := by decide +kernel
theorem dX11_seat_75 : decode cX11_seat 75 = .ok (.iload_n 2, 1) := by decide +kernel
theorem dX11_seat_76 : decode cX11_seat 76 = .ok (.iaload, 1) := by decide +kernel
theorem dX11_seat_77 : decode cX11_seat 77 = .ok (.iastore, 1) := by decide +kernel
theorem dX11_seat_78 : decode cX11_seat 78 = .ok (.aload_n 0, 1) := by decide +kernel
theorem dX11_seat_79 : decode cX11_seat 79 = .ok (.getfield 80, 3) := by decide +kernel
theorem dX11_seat_82 : decode cX11_seat 82 = .ok (.getfield 124, 3) := by decide +kernel
theorem dX11_seat_85 : decode cX11_seat 85 = .ok (.iload_n 1, 1) := by decide +kernel
theorem dX11_seat_86 : decode cX11_seat 86 = .ok (.aload_n 0, 1) := by decide +kernel
theorem dX11_seat_87 : decode cX11_seat 87 = .ok (.getfield 77, 3) := by decide +kernel
theorem dX11_seat_90 : decode cX11_seat 90 = .ok (.getfield 124, 3) := by decide +kernel
theorem dX11_seat_93 : decode cX11_seat 93 = .ok (.iload_n 2, 1) := by decide +kernel
theorem dX11_seat_94 : decode cX11_seat 94 = .ok (.iaload, 1) := by decide +kernel
theorem dX11_seat_95 : decode cX11_seat 95 = .ok (.iastore, 1) := by decide +kernel
theorem dX11_seat_96 : decode cX11_seat 96 = .ok (.iinc 1 1, 3) := by decide +kernel
theorem dX11_seat_99 : decode cX11_seat 99 = .ok (.goto (-86), 3) := by decide +kernel
theorem dX11_seat_102 : decode cX11_seat 102 = .ok (.return_, 1) := by decide +kernel
theorem dX11_shakeVotes_0 : decode cX11_shakeVotes 0 = .ok (.aload_n 0, 1) := by decide +kernel
theorem dX11_shakeVotes_1 : decode cX11_shakeVotes 1 = .ok (.getfield 33, 3) := by decide +kernel
theorem dX11_shakeVotes_4 : decode cX11_shakeVotes 4 = .ok (.lconst 0, 1) := by decide +kernel
theorem dX11_shakeVotes_5 : decode cX11_shakeVotes 5 = .ok (.invokestatic 261, 3) := by decide +kernel
theorem dX11_shakeVotes_8 : decode cX11_shakeVotes 8 = .ok (.aload_n 0, 1) := by decide +kernel
theorem dX11_shakeVotes_9 : decode cX11_shakeVotes 9 = .ok (.getfield 33, 3) := by decide +kernel
theorem dX11_shakeVotes_12 : decode cX11_shakeVotes 12 = .ok (.aload_n 0, 1) := by decide +kernel
theorem dX11_shakeVotes_13 : decode cX11_shakeVotes 13 = .ok (.getfield 77, 3) := by decide +kernel
theorem dX11_shakeVotes_16 : decode cX11_shakeVotes 16 = .ok (.getfield 124, 3) := by decide +kernel
theorem dX11_shakeVotes_19 : decode cX11_shakeVotes 19 = .ok (.aload_n 0, 1) := by decide +kernel
theorem dX11_shakeVotes_20 : decode cX11_shakeVotes 20 = .ok (.getfield 77, 3) := by decide +kernel
theorem dX11_shakeVotes_23 : decode cX11_shakeVotes 23 = .ok (.getfield 170, 3) := by decide +kernel
theorem dX11_shakeVotes_26 : decode cX11_shakeVotes 26 = .ok (.iaload, 1) := by decide +kernel
theorem dX11_shakeVotes_27 : decode cX11_shakeVotes 27 = .ok (.lconst 1, 1) := by decide +kernel
theorem dX11_shakeVotes_28 : decode cX11_shakeVotes 28 = .ok (.lastore, 1) := by decide +kernel
theorem dX11_shakeVotes_29 : decode cX11_shakeVotes 29 = .ok (.lconst 1, 1) := by decide +kernel
theorem dX11_shakeVotes_30 : decode cX11_shakeVotes 30 = .ok (.lstore_n 2, 1) := by decide +kernel
theorem dX11_shakeVotes_31 : decode cX11_shakeVotes 31 = .ok (.aload_n 0, 1) := by decide +kernel
theorem dX11_shakeVotes_32 : decode cX11_shakeVotes 32 = .ok (.getfield 77, 3) := by decide +kernel
theorem dX11_shakeVotes_35 : decode cX11_shakeVotes 35 = .ok (.getfield 170, 3) := by decide +kernel
theorem dX11_shakeVotes_38 : decode cX11_shakeVotes 38 = .ok (.iconst 1, 1) := by decide +kernel
theorem dX11_shakeVotes_39 : decode cX11_shakeVotes 39 = .ok (.iadd, 1) := by decide +kernel
theorem dX11_shakeVotes_40 : decode cX11_shakeVotes 40 = .ok (.istore 4, 2) := by decide +kernel
theorem dX11_shakeVotes_42 : decode cX11_shakeVotes 42 = .ok (.iload 4, 2) := by decide +kernel
theorem dX11_shakeVotes_44 : decode cX11_shakeVotes 44 = .ok (.aload_n 0, 1) := by decide +kernel
theorem dX11_shakeVotes_45 : decode cX11_shakeVotes 45 = .ok (.getfield 77, 3) := by decide +kernel
theorem dX11_shakeVotes_48 : decode cX11_shakeVotes 48 = .ok (.getfield 193, 3) := by decide +kernel
theorem dX11_shakeVotes_51 : decode cX11_shakeVotes 51 = .ok (.if_icmp .ge 64, 3) := by decide +kernel
theorem dX11_shakeVotes_54 : decode cX11_shakeVotes 54 = .ok (.aload_n 0, 1) := by decide +kernel
theorem dX11_shakeVotes_55 : decode cX11_shakeVotes 55 = .ok (.getfield 77, 3) := by decide +kernel
theorem dX11_shakeVotes_58 : decode cX11_shakeVotes 58 = .ok (.getfield 130, 3) := by decide +kernel
theorem dX11_shakeVotes_61 : decode cX11_shakeVotes 61 = .ok (.iconst 4, 1) := by decide +kernel
theorem dX11_shakeVotes_62 : decode cX11_shakeVotes 62 = .ok (.iaload, 1) := by decide +kernel
theorem dX11_shakeVotes_63 : decode cX11_shakeVotes 63 = .ok (.istore 5, 2) := by decide +kernel
theorem dX11_shakeVotes_65 : decode cX11_shakeVotes 65 = .ok (.iload_n 1, 1) := by decide +kernel
theorem dX11_shakeVotes_66 : decode cX11_shakeVotes 66 = .ok (.iload 4, 2) := by decide +kernel
theorem dX11_shakeVotes_68 : decode cX11_shakeVotes 68 = .ok (.ishr, 1) := by decide +kernel
theorem dX11_shakeVotes_69 : decode cX11_shakeVotes 69 = .ok (.iconst 1, 1) := by decide +kernel
theorem dX11_shakeVotes_70 : decode cX11_shakeVotes 70 = .ok (.iand, 1) := by decide +kernel
theorem dX11_shakeVotes_71 : decode cX11_shakeVotes 71 = .ok (.iconst 1, 1) := by decide +kernel
theorem dX11_shakeVotes_72 : decode cX11_shakeVotes 72 = .ok (.if_icmp .ne 11, 3) := by decide +kernel
theorem dX11_shakeVotes_75 : decode cX11_shakeVotes 75 = .ok (.bipush 100, 2) := by decide +kernel
theorem dX11_shakeVotes_77 : decode cX11_shakeVotes 77 = .ok (.iload 5, 2) := by decide +kernel
theorem dX11_shakeVotes_79 : decode cX11_shakeVotes 79 = .ok (.isub, 1) := by decide +kernel
theorem dX11_shakeVotes_80 : decode cX11_shakeVotes 80 = .ok (.goto 5, 3) := by decide +kernel
theorem dX11_shakeVotes_83 : decode cX11_shakeVotes 83 = .ok (.iload 5, 2) := by decide +kernel
theorem dX11_shakeVotes_85 : decode cX11_shakeVotes 85 = .ok (.istore 6, 2) := by decide +kernel
theorem dX11_shakeVotes_87 : decode cX11_shakeVotes 87 = .ok (.aload_n 0, 1) := by decide +kernel
theorem dX11_shakeVotes_88 : decode cX11_shakeVotes 88 = .ok (.aload_n 0, 1) := by decide +kernel
theorem dX11_shakeVotes_89 : decode cX11_shakeVotes 89 = .ok (.getfield 77, 3) := by decide +kernel
theorem dX11_shakeVotes_92 : decode cX11_shakeVotes 92 = .ok (.getfield 124, 3) := by decide +kernel
theorem dX11_shakeVotes_95 : decode cX11_shakeVotes 95 = .ok (.iload 4, 2) := by decide +kernel
theorem dX11_shakeVotes_97 : decode cX11_shakeVotes 97 = .ok (.iaload, 1) := by decide +kernel
theorem dX11_shakeVotes_98 : decode cX11_shakeVotes 98 = .ok (.iload 6, 2) := by decide +kernel
theorem dX11_shakeVotes_100 : decode cX11_shakeVotes 100 = .ok (.invokevirtual 267, 3) := by decide +kernel
theorem dX11_shakeVotes_103 : decode cX11_shakeVotes 103 = .ok (.lload_n 2, 1) := by decide +kernel
theorem dX11_shakeVotes_104 : decode cX11_shakeVotes 104 = .ok (.ldc2_w 270, 3) := by decide +kernel
theorem dX11_shakeVotes_107 : decode cX11_shakeVotes 107 = .ok (.lmul, 1) := by decide +kernel
theorem dX11_shakeVotes_108 : decode cX11_shakeVotes 108 = .ok (.lstore_n 2, 1) := by decide +kernel
theorem dX11_shakeVotes_109 : decode cX11_shakeVotes 109 = .ok (.iinc 4 1, 3) := by decide +kernel
theorem dX11_shakeVotes_112 : decode cX11_shakeVotes 112 = .ok (.goto (-70), 3) := by decide +kernel
theorem dX11_shakeVotes_115 : decode cX11_shakeVotes 115 = .ok (.lload_n 2, 1) := by decide +kernel
theorem dX11_shakeVotes_116 : decode cX11_shakeVotes 116 = .ok (.lreturn, 1) := by decide +kernel
theorem dX11_addVoter_0 : decode cX11_addVoter 0 = .ok (.aload_n 0, 1) := by decide +kernel
theorem dX11_addVoter_1 : decode cX11_addVoter 1 = .ok (.getfield 33, 3) := by decide +kernel
theorem dX11_addVoter_4 : decode cX11_addVoter 4 = .ok (.arraylength, 1) := by decide +kernel
theorem dX11_addVoter_5 : decode cX11_addVoter 5 = .ok (.iconst 1, 1) := by decide +kernel
theorem dX11_addVoter_6 : decode cX11_addVoter 6 = .ok (.isub, 1) := by decide +kernel
theorem dX11_addVoter_7 : decode cX11_addVoter 7 = .ok (.istore_n 3, 1) := by decide +kernel
theorem dX11_addVoter_8 : decode cX11_addVoter 8 = .ok (.iload_n 3, 1) := by decide +kernel
theorem dX11_addVoter_9 : decode cX11_addVoter 9 = .ok (.ifCond .lt 52, 3) := by decide +kernel
theorem dX11_addVoter_12 : decode cX11_addVoter 12 = .ok (.iload_n 3, 1) := by decide +kernel
theorem dX11_addVoter_13 : decode cX11_addVoter 13 = .ok (.iload_n 1, 1) := by decide +kernel
theorem dX11_addVoter_14 : decode cX11_addVoter 14 = .ok (.if_icmp .lt 14, 3) := by decide +kernel
theorem dX11_addVoter_17 : decode cX11_addVoter 17 = .ok (.aload_n 0, 1) := by decide +kernel
theorem dX11_addVoter_18 : decode cX11_addVoter 18 = .ok (.getfield 33, 3) := by decide +kernel
theorem dX11_addVoter_21 : decode cX11_addVoter 21 = .ok (.iload_n 3, 1) := by decide +kernel
theorem dX11_addVoter_22 : decode cX11_addVoter 22 = .ok (.iload_n 1, 1) := by decide +kernel
theorem dX11_addVoter_23 : decode cX11_addVoter 23 = .ok (.isub, 1) := by decide +kernel
theorem dX11_addVoter_24 : decode cX11_addVoter 24 = .ok (.laload, 1) := by decide +kernel
theorem dX11_addVoter_25 : decode cX11_addVoter 25 = .ok (.goto 4, 3) := by decide +kernel
theorem dX11_addVoter_28 : decode cX11_addVoter 28 = .ok (.lconst 0, 1) := by decide +kernel
theorem dX11_addVoter_29 : decode cX11_addVoter 29 = .ok (.lstore 4, 2) := by decide +kernel
theorem dX11_addVoter_31 : decode cX11_addVoter 31 = .ok (.aload_n 0, 1) := by decide +kernel
theorem dX11_addVoter_32 : decode cX11_addVoter 32 = .ok (.getfield 33, 3) := by decide +kernel
theorem dX11_addVoter_35 : decode cX11_addVoter 35 = .ok (.iload_n 3, 1) := by decide +kernel
theorem dX11_addVoter_36 : decode cX11_addVoter 36 = .ok (.aload_n 0, 1) := by decide +kernel
theorem dX11_addVoter_37 : decode cX11_addVoter 37 = .ok (.getfield 33, 3) := by decide +kernel
theorem dX11_addVoter_40 : decode cX11_addVoter 40 = .ok (.iload_n 3, 1) := by decide +kernel
theorem dX11_addVoter_41 : decode cX11_addVoter 41 = .ok (.laload, 1) := by decide +kernel
theorem dX11_addVoter_42 : decode cX11_addVoter 42 = .ok (.bipush 100, 2) := by decide +kernel
theorem dX11_addVoter_44 : decode cX11_addVoter 44 = .ok (.iload_n 2, 1) := by decide +kernel
theorem dX11_addVoter_45 : decode cX11_addVoter 45 = .ok (.isub, 1) := by decide +kernel
theorem dX11_addVoter_46 : decode cX11_addVoter 46 = .ok (.i2l, 1) := by decide +kernel
theorem dX11_addVoter_47 : decode cX11_addVoter 47 = .ok (.lmul, 1) := by decide +kernel
theorem dX11_addVoter_48 : decode cX11_addVoter 48 = .ok (.lload 4, 2) := by decide +kernel
theorem dX11_addVoter_50 : decode cX11_addVoter 50 = .ok (.iload_n 2, 1) := by decide +kernel
theorem dX11_addVoter_51 : decode cX11_addVoter 51 = .ok (.i2l, 1) := by decide +kernel
theorem dX11_addVoter_52 : decode cX11_addVoter 52 = .ok (.lmul, 1) := by decide +kernel
theorem dX11_addVoter_53 : decode cX11_addVoter 53 = .ok (.ladd, 1) := by decide +kernel
theorem dX11_addVoter_54 : decode cX11_addVoter 54 = .ok (.lastore, 1) := by decide +kernel
theorem dX11_addVoter_55 : decode cX11_addVoter 55 = .ok (.iinc 3 (-1), 3) := by decide +kernel
theorem dX11_addVoter_58 : decode cX11_addVoter 58 = .ok (.goto (-50), 3) := by decide +kernel
theorem dX11_addVoter_61 : decode cX11_addVoter 61 = .ok (.return_, 1) := by decide +kernel
theorem dX11_chanceCarried_0 : decode cX11_chanceCarried 0 = .ok (.aload_n 0, 1) := by decide +kernel
theorem dX11_chanceCarried_1 : decode cX11_chanceCarried 1 = .ok (.getfield 77, 3) := by decide +kernel
theorem dX11_chanceCarried_4 : decode cX11_chanceCarried 4 = .ok (.aload_n 0, 1) := by decide +kernel
theorem dX11_chanceCarried_5 : decode cX11_chanceCarried 5 = .ok (.getfield 77, 3) := by decide +kernel
theorem dX11_chanceCarried_8 : decode cX11_chanceCarried 8 = .ok (.getfield 170, 3) := by decide +kernel
theorem dX11_chanceCarried_11 : decode cX11_chanceCarried 11 = .ok (.invokevirtual 272, 3) := by decide +kernel
theorem dX11_chanceCarried_14 : decode cX11_chanceCarried 14 = .ok (.istore_n 1, 1) := by decide +kernel
theorem dX11_chanceCarried_15 : decode cX11_chanceCarried 15 = .ok (.lconst 0, 1) := by decide +kernel
theorem dX11_chanceCarried_16 : decode cX11_chanceCarried 16 = .ok (.lstore_n 2, 1) := by decide +kernel
theorem dX11_chanceCarried_17 : decode cX11_chanceCarried 17 = .ok (.iconst 0, 1) := by decide +kernel
theorem dX11_chanceCarried_18 : decode cX11_chanceCarried 18 = .ok (.istore 4, 2) := by decide +kernel
theorem dX11_chanceCarried_20 : decode cX11_chanceCarried 20 = .ok (.iload 4, 2) := by decide +kernel
theorem dX11_chanceCarried_22 : decode cX11_chanceCarried 22 = .ok (.aload_n 0, 1) := by decide +kernel
theorem dX11_chanceCarried_23 : decode cX11_chanceCarried 23 = .ok (.getfield 33, 3) := by decide +kernel
theorem dX11_chanceCarried_26 : decode cX11_chanceCarried 26 = .ok (.arraylength, 1) := by decide +kernel
theorem dX11_chanceCarried_27 : decode cX11_chanceCarried 27 = .ok (.if_icmp .ge 37, 3) := by decide +kernel
theorem dX11_chanceCarried_30 : decode cX11_chanceCarried 30 = .ok (.aload_n 0, 1) := by decide +kernel
theorem dX11_chanceCarried_31 : decode cX11_chanceCarried 31 = .ok (.getfield 77, 3) := by decide +kernel
theorem dX11_chanceCarried_34 : decode cX11_chanceCarried 34 = .ok (.getfield 130, 3) := by decide +kernel
theorem dX11_chanceCarried_37 : decode cX11_chanceCarried 37 = .ok (.iconst 1, 1) := by decide +kernel
theorem dX11_chanceCarried_38 : decode cX11_chanceCarried 38 = .ok (.iaload, 1) := by decide +kernel
theorem dX11_chanceCarried_39 : decode cX11_chanceCarried 39 = .ok (.iload 4, 2) := by decide +kernel
theorem dX11_chanceCarried_41 : decode cX11_chanceCarried 41 = .ok (.iload_n 1, 1) := by decide +kernel
theorem dX11_chanceCarried_42 : decode cX11_chanceCarried 42 = .ok (.invokestatic 275, 3) := by decide +kernel
theorem dX11_chanceCarried_45 : decode cX11_chanceCarried 45 = .ok (.ifCond .eq 13, 3) := by decide +kernel
theorem dX11_chanceCarried_48 : decode cX11_chanceCarried 48 = .ok (.lload_n 2, 1) := by decide +kernel
theorem dX11_chanceCarried_49 : decode cX11_chanceCarried 49 = .ok (.aload_n 0, 1) := by decide +kernel
theorem dX11_chanceCarried_50 : decode cX11_chanceCarried 50 = .ok (.getfield 33, 3) := by decide +kernel
theorem dX11_chanceCarried_53 : decode cX11_chanceCarried 53 = .ok (.iload 4, 2) := by decide +kernel
theorem dX11_chanceCarried_55 : decode cX11_chanceCarried 55 = .ok (.laload, 1) := by decide +kernel
theorem dX11_chanceCarried_56 : decode cX11_chanceCarried 56 = .ok (.ladd, 1) := by decide +kernel
theorem dX11_chanceCarried_57 : decode cX11_chanceCarried 57 = .ok (.lstore_n 2, 1) := by decide +kernel
theorem dX11_chanceCarried_58 : decode cX11_chanceCarried 58 = .ok (.iinc 4 1, 3) := by decide +kernel
theorem dX11_chanceCarried_61 : decode cX11_chanceCarried 61 = .ok (.goto (-41), 3) := by decide +kernel
theorem dX11_chanceCarried_64 : decode cX11_chanceCarried 64 = .ok (.lload_n 2, 1) := by decide +kernel
theorem dX11_chanceCarried_65 : decode cX11_chanceCarried 65 = .ok (.lreturn, 1) := by decide +kernel
theorem dX11_commonDivisor_0 : decode cX11_commonDivisor 0 = .ok (.lload_n 0, 1) := by decide +kernel
theorem dX11_commonDivisor_1 : decode cX11_commonDivisor 1 = .ok (.lstore 4, 2) := by decide +kernel
theorem dX11_commonDivisor_3 : decode cX11_commonDivisor 3 = .ok (.lload_n 2, 1) := by decide +kernel
theorem dX11_commonDivisor_4 : decode cX11_commonDivisor 4 = .ok (.lstore 6, 2) := by decide +kernel
theorem dX11_commonDivisor_6 : decode cX11_commonDivisor 6 = .ok (.iconst 0, 1) := by decide +kernel
theorem dX11_commonDivisor_7 : decode cX11_commonDivisor 7 = .ok (.istore 8, 2) := by decide +kernel
theorem dX11_commonDivisor_9 : decode cX11_commonDivisor 9 = .ok (.iload 8, 2) := by decide +kernel
theorem dX11_commonDivisor_11 : decode cX11_commonDivisor 11 = .ok (.bipush 100, 2) := by decide +kernel
theorem dX11_commonDivisor_13 : decode cX11_commonDivisor 13 = .ok (.if_icmp .ge 31, 3) := by decide +kernel
theorem dX11_commonDivisor_16 : decode cX11_commonDivisor 16 = .ok (.lload 6, 2) := by decide +kernel
theorem dX11_commonDivisor_18 : decode cX11_commonDivisor 18 = .ok (.lconst 0, 1) := by decide +kernel
theorem dX11_commonDivisor_19 : decode cX11_commonDivisor 19 = .ok (.lcmp, 1) := by decide +kernel
theorem dX11_commonDivisor_20 : decode cX11_commonDivisor 20 = .ok (.ifCond .eq 24, 3) := by decide +kernel
theorem dX11_commonDivisor_23 : decode cX11_commonDivisor 23 = .ok (.lload 4, 2) := by decide +kernel
theorem dX11_commonDivisor_25 : decode cX11_commonDivisor 25 = .ok (.lload 6, 2) := by decide +kernel
theorem dX11_commonDivisor_27 : decode cX11_commonDivisor 27 = .ok (.lrem, 1) := by decide +kernel
theorem dX11_commonDivisor_28 : decode cX11_commonDivisor 28 = .ok (.lstore 9, 2) := by decide +kernel
theorem dX11_commonDivisor_30 : decode cX11_commonDivisor 30 = .ok (.lload 6, 2) := by decide +kernel
theorem dX11_commonDivisor_32 : decode cX11_commonDivisor 32 = .ok (.lstore 4, 2) := by decide +kernel
theorem dX11_commonDivisor_34 : decode cX11_commonDivisor 34 = .ok (.lload 9, 2) := by decide +kernel
theorem dX11_commonDivisor_36 : decode cX11_commonDivisor 36 = .ok (.lstore 6, 2) := by decide +kernel
theorem dX11_commonDivisor_38 : decode cX11_commonDivisor 38 = .ok (.iinc 8 1, 3) := by decide +kernel
theorem dX11_commonDivisor_41 : decode cX11_commonDivisor 41 = .ok (.goto (-32), 3) := by decide +kernel
theorem dX11_commonDivisor_44 : decode cX11_commonDivisor 44 = .ok (.lload 4, 2) := by decide +kernel
theorem dX11_commonDivisor_46 : decode cX11_commonDivisor 46 = .ok (.lreturn, 1) := by decide +kernel
theorem dX11_isEnough_0 : decode cX11_isEnough 0 = .ok (.iload_n 0, 1) := by decide +kernel
theorem dX11_isEnough_1 : decode cX11_isEnough 1 = .ok (.lookupswitch 53 #[(0, 27), (1, 40)], 27) := by decide +kernel
theorem dX11_isEnough_28 : decode cX11_isEnough 28 = .ok (.iconst 2, 1) := by decide +kernel
theorem dX11_isEnough_29 : decode cX11_isEnough 29 = .ok (.iload_n 1, 1) := by decide +kernel
theorem dX11_isEnough_30 : decode cX11_isEnough 30 = .ok (.imul, 1) := by decide +kernel
theorem dX11_isEnough_31 : decode cX11_isEnough 31 = .ok (.iload_n 2, 1) := by decide +kernel
theorem dX11_isEnough_32 : decode cX11_isEnough 32 = .ok (.if_icmp .lt 7, 3) := by decide +kernel
theorem dX11_isEnough_35 : decode cX11_isEnough 35 = .ok (.iconst 1, 1) := by decide +kernel
theorem dX11_isEnough_36 : decode cX11_isEnough 36 = .ok (.goto 4, 3) := by decide +kernel
theorem dX11_isEnough_39 : decode cX11_isEnough 39 = .ok (.iconst 0, 1) := by decide +kernel
theorem dX11_isEnough_40 : decode cX11_isEnough 40 = .ok (.ireturn, 1) := by decide +kernel
theorem dX11_isEnough_41 : decode cX11_isEnough 41 = .ok (.iconst 2, 1) := by decide +kernel
theorem dX11_isEnough_42 : decode cX11_isEnough 42 = .ok (.iload_n 1, 1) := by decide +kernel
theorem dX11_isEnough_43 : decode cX11_isEnough 43 = .ok (.imul, 1) := by decide +kernel
theorem dX11_isEnough_44 : decode cX11_isEnough 44 = .ok (.iload_n 2, 1) := by decide +kernel
theorem dX11_isEnough_45 : decode cX11_isEnough 45 = .ok (.if_icmp .le 7, 3) := by decide +kernel
theorem dX11_isEnough_48 : decode cX11_isEnough 48 = .ok (.iconst 1, 1) := by decide +kernel
theorem dX11_isEnough_49 : decode cX11_isEnough 49 = .ok (.goto 4, 3) := by decide +kernel
theorem dX11_isEnough_52 : decode cX11_isEnough 52 = .ok (.iconst 0, 1) := by decide +kernel
theorem dX11_isEnough_53 : decode cX11_isEnough 53 = .ok (.ireturn, 1) := by decide +kernel
theorem dX11_isEnough_54 : decode cX11_isEnough 54 = .ok (.iconst 3, 1) := by decide +kernel
theorem dX11_isEnough_55 : decode cX11_isEnough 55 = .ok (.iload_n 1, 1) := by decide +kernel
theorem dX11_isEnough_56 : decode cX11_isEnough 56 = .ok (.imul, 1) := by decide +kernel
theorem dX11_isEnough_57 : decode cX11_isEnough 57 = .ok (.iconst 2, 1) := by decide +kernel
theorem dX11_isEnough_58 : decode cX11_isEnough 58 = .ok (.iload_n 2, 1) := by decide +kernel
theorem dX11_isEnough_59 : decode cX11_isEnough 59 = .ok (.imul, 1) := by decide +kernel
theorem dX11_isEnough_60 : decode cX11_isEnough 60 = .ok (.if_icmp .lt 7, 3) := by decide +kernel
theorem dX11_isEnough_63 : decode cX11_isEnough 63 = .ok (.iconst 1, 1) := by decide +kernel
theorem dX11_isEnough_64 : decode cX11_isEnough 64 = .ok (.goto 4, 3) := by decide +kernel
theorem dX11_isEnough_67 : decode cX11_isEnough 67 = .ok (.iconst 0, 1) := by decide +kernel
theorem dX11_isEnough_68 : decode cX11_isEnough 68 = .ok (.ireturn, 1) := by decide +kernel
theorem dX9_init_0 : decode cX9_init 0 = .ok (.aload_n 0, 1) := by decide +kernel
theorem dX9_init_1 : decode cX9_init 1 = .ok (.invokespecial 3, 3) := by decide +kernel
theorem dX9_init_4 : decode cX9_init 4 = .ok (.aload_n 0, 1) := by decide +kernel
theorem dX9_init_5 : decode cX9_init 5 = .ok (.bipush 8, 2) := by decide +kernel
theorem dX9_init_7 : decode cX9_init 7 = .ok (.bipush 8, 2) := by decide +kernel
theorem dX9_init_9 : decode cX9_init 9 = .ok (.multianewarray 9 2, 4) := by decide +kernel
theorem dX9_init_13 : decode cX9_init 13 = .ok (.putfield 11, 3) := by decide +kernel
theorem dX9_init_16 : decode cX9_init 16 = .ok (.aload_n 0, 1) := by decide +kernel
theorem dX9_init_17 : decode cX9_init 17 = .ok (.bipush 8, 2) := by decide +kernel
theorem dX9_init_19 : decode cX9_init 19 = .ok (.bipush 8, 2) := by decide +kernel
theorem dX9_init_21 : decode cX9_init 21 = .ok (.multianewarray 9 2, 4) := by decide +kernel
theorem dX9_init_25 : decode cX9_init 25 = .ok (.putfield 16, 3) := by decide +kernel
theorem dX9_init_28 : decode cX9_init 28 = .ok (.aload_n 0, 1) := by decide +kernel
theorem dX9_init_29 : decode cX9_init 29 = .ok (.bipush 8, 2) := by decide +kernel
theorem dX9_init_31 : decode cX9_init 31 = .ok (.bipush 8, 2) := by decide +kernel
theorem dX9_init_33 : decode cX9_init 33 = .ok (.multianewarray 9 2, 4) := by decide +kernel
theorem dX9_init_37 : decode cX9_init 37 = .ok (.putfield 19, 3) := by decide +kernel
theorem dX9_init_40 : decode cX9_init 40 = .ok (.aload_n 0, 1) := by decide +kernel
theorem dX9_init_41 : decode cX9_init 41 = .ok (.bipush 8, 2) := by decide +kernel
theorem dX9_init_43 : decode cX9_init 43 = .ok (.newarray .int, 2) := by decide +kernel
theorem dX9_init_45 : decode cX9_init 45 = .ok (.putfield 22, 3) := by decide +kernel
theorem dX9_init_48 : decode cX9_init 48 = .ok (.aload_n 0, 1) := by decide +kernel
theorem dX9_init_49 : decode cX9_init 49 = .ok (.bipush 8, 2) := by decide +kernel
theorem dX9_init_51 : decode cX9_init 51 = .ok (.newarray .int, 2) := by decide +kernel
theorem dX9_init_53 : decode cX9_init 53 = .ok (.putfield 26, 3) := by decide +kernel
theorem dX9_init_56 : decode cX9_init 56 = .ok (.aload_n 0, 1) := by decide +kernel
theorem dX9_init_57 : decode cX9_init 57 = .ok (.bipush 8, 2) := by decide +kernel
theorem dX9_init_59 : decode cX9_init 59 = .ok (.newarray .int, 2) := by decide +kernel
theorem dX9_init_61 : decode cX9_init 61 = .ok (.putfield 29, 3) := by decide +kernel
theorem dX9_init_64 : decode cX9_init 64 = .ok (.aload_n 0, 1) := by decide +kernel
theorem dX9_init_65 : decode cX9_init 65 = .ok (.new 32, 3) := by decide +kernel
theorem dX9_init_68 : decode cX9_init 68 = .ok (.dup, 1) := by decide +kernel
theorem dX9_init_69 : decode cX9_init 69 = .ok (.invokespecial 34, 3) := by decide +kernel
theorem dX9_init_72 : decode cX9_init 72 = .ok (.putfield 35, 3) := by decide +kernel
theorem dX9_init_75 : decode cX9_init 75 = .ok (.aload_n 0, 1) := by decide +kernel
theorem dX9_init_76 : decode cX9_init 76 = .ok (.bipush 7, 2) := by decide +kernel
theorem dX9_init_78 : decode cX9_init 78 = .ok (.newarray .int, 2) := by decide +kernel
theorem dX9_init_80 : decode cX9_init 80 = .ok (.putfield 39, 3) := by decide +kernel
theorem dX9_init_83 : decode cX9_init 83 = .ok (.aload_n 0, 1) := by decide +kernel
theorem dX9_init_84 : decode cX9_init 84 = .ok (.bipush 7, 2) := by decide +kernel
theorem dX9_init_86 : decode cX9_init 86 = .ok (.newarray .int, 2) := by decide +kernel
theorem dX9_init_88 : decode cX9_init 88 = .ok (.putfield 42, 3) := by decide +kernel
theorem dX9_init_91 : decode cX9_init 91 = .ok (.aload_n 0, 1) := by decide +kernel
theorem dX9_init_92 : decode cX9_init 92 = .ok (.sipush 128, 3) := by decide +kernel
theorem dX9_init_95 : decode cX9_init 95 = .ok (.newarray .int, 2) := by decide +kernel
theorem dX9_init_97 : decode cX9_init 97 = .ok (.putfield 45, 3) := by decide +kernel
theorem dX9_init_100 : decode cX9_init 100 = .ok (.aload_n 0, 1) := by decide +kernel
theorem dX9_init_101 : decode cX9_init 101 = .ok (.sipush 128, 3) := by decide +kernel
theorem dX9_init_104 : decode cX9_init 104 = .ok (.newarray .int, 2) := by decide +kernel
theorem dX9_init_106 : decode cX9_init 106 = .ok (.putfield 48, 3) := by decide +kernel
theorem dX9_init_109 : decode cX9_init 109 = .ok (.aload_n 0, 1) := by decide +kernel
theorem dX9_init_110 : decode cX9_init 110 = .ok (.aload_n 1, 1) := by decide +kernel
theorem dX9_init_111 : decode cX9_init 111 = .ok (.putfield 51, 3) := by decide +kernel
theorem dX9_init_114 : decode cX9_init 114 = .ok (.return_, 1) := by decide +kernel
