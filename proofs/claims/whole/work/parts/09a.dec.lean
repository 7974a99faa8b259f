theorem dX0_init_0 : decode cX0_init 0 = .ok (.aload_n 0, 1) := by decide +kernel
theorem dX0_init_1 : decode cX0_init 1 = .ok (.invokespecial 1, 3) := by decide +kernel
theorem dX0_init_4 : decode cX0_init 4 = .ok (.aload_n 0, 1) := by decide +kernel
theorem dX0_init_5 : decode cX0_init 5 = .ok (.getstatic 7, 3) := by decide +kernel
theorem dX0_init_8 : decode cX0_init 8 = .ok (.arraylength, 1) := by decide +kernel
theorem dX0_init_9 : decode cX0_init 9 = .ok (.newarray .int, 2) := by decide +kernel
theorem dX0_init_11 : decode cX0_init 11 = .ok (.putfield 13, 3) := by decide +kernel
theorem dX0_init_14 : decode cX0_init 14 = .ok (.aload_n 0, 1) := by decide +kernel
theorem dX0_init_15 : decode cX0_init 15 = .ok (.aconst_null, 1) := by decide +kernel
theorem dX0_init_16 : decode cX0_init 16 = .ok (.putfield 18, 3) := by decide +kernel
theorem dX0_init_19 : decode cX0_init 19 = .ok (.aload_n 0, 1) := by decide +kernel
theorem dX0_init_20 : decode cX0_init 20 = .ok (.iconst 0, 1) := by decide +kernel
theorem dX0_init_21 : decode cX0_init 21 = .ok (.putfield 21, 3) := by decide +kernel
theorem dX0_init_24 : decode cX0_init 24 = .ok (.return_, 1) := by decide +kernel
theorem dX0_fewest_0 : decode cX0_fewest 0 = .ok (.aload_n 0, 1) := by decide +kernel
theorem dX0_fewest_1 : decode cX0_fewest 1 = .ok (.aconst_null, 1) := by decide +kernel
theorem dX0_fewest_2 : decode cX0_fewest 2 = .ok (.putfield 18, 3) := by decide +kernel
theorem dX0_fewest_5 : decode cX0_fewest 5 = .ok (.aload_n 0, 1) := by decide +kernel
theorem dX0_fewest_6 : decode cX0_fewest 6 = .ok (.iconst 0, 1) := by decide +kernel
theorem dX0_fewest_7 : decode cX0_fewest 7 = .ok (.putfield 21, 3) := by decide +kernel
theorem dX0_fewest_10 : decode cX0_fewest 10 = .ok (.aload_n 0, 1) := by decide +kernel
theorem dX0_fewest_11 : decode cX0_fewest 11 = .ok (.aload_n 1, 1) := by decide +kernel
theorem dX0_fewest_12 : decode cX0_fewest 12 = .ok (.getstatic 7, 3) := by decide +kernel
theorem dX0_fewest_15 : decode cX0_fewest 15 = .ok (.arraylength, 1) := by decide +kernel
theorem dX0_fewest_16 : decode cX0_fewest 16 = .ok (.iconst 1, 1) := by decide +kernel
theorem dX0_fewest_17 : decode cX0_fewest 17 = .ok (.isub, 1) := by decide +kernel
theorem dX0_fewest_18 : decode cX0_fewest 18 = .ok (.iload_n 2, 1) := by decide +kernel
theorem dX0_fewest_19 : decode cX0_fewest 19 = .ok (.iconst 0, 1) := by decide +kernel
theorem dX0_fewest_20 : decode cX0_fewest 20 = .ok (.invokestatic 25, 3) := by decide +kernel
theorem dX0_fewest_23 : decode cX0_fewest 23 = .ok (.aload_n 0, 1) := by decide +kernel
theorem dX0_fewest_24 : decode cX0_fewest 24 = .ok (.getfield 18, 3) := by decide +kernel
theorem dX0_fewest_27 : decode cX0_fewest 27 = .ok (.areturn, 1) := by decide +kernel
theorem dX0_keepIfFewer_0 : decode cX0_keepIfFewer 0 = .ok (.aload_n 0, 1) := by decide +kernel
theorem dX0_keepIfFewer_1 : decode cX0_keepIfFewer 1 = .ok (.getfield 18, 3) := by decide +kernel
theorem dX0_keepIfFewer_4 : decode cX0_keepIfFewer 4 = .ok (.ifnull 11, 3) := by decide +kernel
theorem dX0_keepIfFewer_7 : decode cX0_keepIfFewer 7 = .ok (.iload_n 1, 1) := by decide +kernel
theorem dX0_keepIfFewer_8 : decode cX0_keepIfFewer 8 = .ok (.aload_n 0, 1) := by decide +kernel
theorem dX0_keepIfFewer_9 : decode cX0_keepIfFewer 9 = .ok (.getfield 21, 3) := by decide +kernel
theorem dX0_keepIfFewer_12 : decode cX0_keepIfFewer 12 = .ok (.if_icmp .ge 22, 3) := by decide +kernel
theorem dX0_keepIfFewer_15 : decode cX0_keepIfFewer 15 = .ok (.aload_n 0, 1) := by decide +kernel
theorem dX0_keepIfFewer_16 : decode cX0_keepIfFewer 16 = .ok (.aload_n 0, 1) := by decide +kernel
theorem dX0_keepIfFewer_17 : decode cX0_keepIfFewer 17 = .ok (.getfield 13, 3) := by decide +kernel
theorem dX0_keepIfFewer_20 : decode cX0_keepIfFewer 20 = .ok (.invokevirtual 29, 3) := by decide +kernel
theorem dX0_keepIfFewer_23 : decode cX0_keepIfFewer 23 = .ok (.checkcast 30, 3) := by decide +kernel
theorem dX0_keepIfFewer_26 : decode cX0_keepIfFewer 26 = .ok (.putfield 18, 3) := by decide +kernel
theorem dX0_keepIfFewer_29 : decode cX0_keepIfFewer 29 = .ok (.aload_n 0, 1) := by decide +kernel
theorem dX0_keepIfFewer_30 : decode cX0_keepIfFewer 30 = .ok (.iload_n 1, 1) := by decide +kernel
theorem dX0_keepIfFewer_31 : decode cX0_keepIfFewer 31 = .ok (.putfield 21, 3) := by decide +kernel
theorem dX0_keepIfFewer_34 : decode cX0_keepIfFewer 34 = .ok (.return_, 1) := by decide +kernel
theorem dX0_tryWorth_0 : decode cX0_tryWorth 0 = .ok (.iload_n 2, 1) := by decide +kernel
theorem dX0_tryWorth_1 : decode cX0_tryWorth 1 = .ok (.ifCond .ge 14, 3) := by decide +kernel
theorem dX0_tryWorth_4 : decode cX0_tryWorth 4 = .ok (.iload_n 3, 1) := by decide +kernel
theorem dX0_tryWorth_5 : decode cX0_tryWorth 5 = .ok (.ifCond .ne 9, 3) := by decide +kernel
theorem dX0_tryWorth_8 : decode cX0_tryWorth 8 = .ok (.aload_n 0, 1) := by decide +kernel
theorem dX0_tryWorth_9 : decode cX0_tryWorth 9 = .ok (.iload 4, 2) := by decide +kernel
theorem dX0_tryWorth_11 : decode cX0_tryWorth 11 = .ok (.invokevirtual 34, 3) := by decide +kernel
theorem dX0_tryWorth_14 : decode cX0_tryWorth 14 = .ok (.return_, 1) := by decide +kernel
theorem dX0_tryWorth_15 : decode cX0_tryWorth 15 = .ok (.iload_n 2, 1) := by decide +kernel
theorem dX0_tryWorth_16 : decode cX0_tryWorth 16 = .ok (.aload_n 1, 1) := by decide +kernel
theorem dX0_tryWorth_17 : decode cX0_tryWorth 17 = .ok (.arraylength, 1) := by decide +kernel
theorem dX0_tryWorth_18 : decode cX0_tryWorth 18 = .ok (.if_icmp .ge 36, 3) := by decide +kernel
theorem dX0_tryWorth_21 : decode cX0_tryWorth 21 = .ok (.iload_n 2, 1) := by decide +kernel
theorem dX0_tryWorth_22 : decode cX0_tryWorth 22 = .ok (.getstatic 7, 3) := by decide +kernel
theorem dX0_tryWorth_25 : decode cX0_tryWorth 25 = .ok (.arraylength, 1) := by decide +kernel
theorem dX0_tryWorth_26 : decode cX0_tryWorth 26 = .ok (.if_icmp .ge 28, 3) := by decide +kernel
theorem dX0_tryWorth_29 : decode cX0_tryWorth 29 = .ok (.iload_n 2, 1) := by decide +kernel
theorem dX0_tryWorth_30 : decode cX0_tryWorth 30 = .ok (.getstatic 38, 3) := by decide +kernel
theorem dX0_tryWorth_33 : decode cX0_tryWorth 33 = .ok (.arraylength, 1) := by decide +kernel
theorem dX0_tryWorth_34 : decode cX0_tryWorth 34 = .ok (.if_icmp .ge 20, 3) := by decide +kernel
theorem dX0_tryWorth_37 : decode cX0_tryWorth 37 = .ok (.iload_n 2, 1) := by decide +kernel
theorem dX0_tryWorth_38 : decode cX0_tryWorth 38 = .ok (.aload_n 0, 1) := by decide +kernel
theorem dX0_tryWorth_39 : decode cX0_tryWorth 39 = .ok (.getfield 13, 3) := by decide +kernel
theorem dX0_tryWorth_42 : decode cX0_tryWorth 42 = .ok (.arraylength, 1) := by decide +kernel
theorem dX0_tryWorth_43 : decode cX0_tryWorth 43 = .ok (.if_icmp .ge 11, 3) := by decide +kernel
theorem dX0_tryWorth_46 : decode cX0_tryWorth 46 = .ok (.getstatic 7, 3) := by decide +kernel
theorem dX0_tryWorth_49 : decode cX0_tryWorth 49 = .ok (.iload_n 2, 1) := by decide +kernel
theorem dX0_tryWorth_50 : decode cX0_tryWorth 50 = .ok (.iaload, 1) := by decide +kernel
theorem dX0_tryWorth_51 : decode cX0_tryWorth 51 = .ok (.ifCond .gt 4, 3) := by decide +kernel
theorem dX0_tryWorth_54 : decode cX0_tryWorth 54 = .ok (.return_, 1) := by decide +kernel
theorem dX0_tryWorth_55 : decode cX0_tryWorth 55 = .ok (.aload_n 1, 1) := by decide +kernel
theorem dX0_tryWorth_56 : decode cX0_tryWorth 56 = .ok (.iload_n 2, 1) := by decide +kernel
theorem dX0_tryWorth_57 : decode cX0_tryWorth 57 = .ok (.iaload, 1) := by decide +kernel
theorem dX0_tryWorth_58 : decode cX0_tryWorth 58 = .ok (.iload_n 3, 1) := by decide +kernel
theorem dX0_tryWorth_59 : decode cX0_tryWorth 59 = .ok (.getstatic 7, 3) := by decide +kernel
theorem dX0_tryWorth_62 : decode cX0_tryWorth 62 = .ok (.iload_n 2, 1) := by decide +kernel
theorem dX0_tryWorth_63 : decode cX0_tryWorth 63 = .ok (.iaload, 1) := by decide +kernel
theorem dX0_tryWorth_64 : decode cX0_tryWorth 64 = .ok (.idiv, 1) := by decide +kernel
theorem dX0_tryWorth_65 : decode cX0_tryWorth 65 = .ok (.invokestatic 41, 3) := by decide +kernel
theorem dX0_tryWorth_68 : decode cX0_tryWorth 68 = .ok (.istore 5, 2) := by decide +kernel
theorem dX0_tryWorth_70 : decode cX0_tryWorth 70 = .ok (.iload 5, 2) := by decide +kernel
theorem dX0_tryWorth_72 : decode cX0_tryWorth 72 = .ok (.istore 6, 2) := by decide +kernel
theorem dX0_tryWorth_74 : decode cX0_tryWorth 74 = .ok (.iload 6, 2) := by decide +kernel
theorem dX0_tryWorth_76 : decode cX0_tryWorth 76 = .ok (.iconst 0, 1) := by decide +kernel
theorem dX0_tryWorth_77 : decode cX0_tryWorth 77 = .ok (.iload 5, 2) := by decide +kernel
theorem dX0_tryWorth_79 : decode cX0_tryWorth 79 = .ok (.getstatic 38, 3) := by decide +kernel
theorem dX0_tryWorth_82 : decode cX0_tryWorth 82 = .ok (.iload_n 2, 1) := by decide +kernel
theorem dX0_tryWorth_83 : decode cX0_tryWorth 83 = .ok (.iaload, 1) := by decide +kernel
theorem dX0_tryWorth_84 : decode cX0_tryWorth 84 = .ok (.isub, 1) := by decide +kernel
theorem dX0_tryWorth_85 : decode cX0_tryWorth 85 = .ok (.invokestatic 47, 3) := by decide +kernel
theorem dX0_tryWorth_88 : decode cX0_tryWorth 88 = .ok (.if_icmp .lt 40, 3) := by decide +kernel
theorem dX0_tryWorth_91 : decode cX0_tryWorth 91 = .ok (.aload_n 0, 1) := by decide +kernel
theorem dX0_tryWorth_92 : decode cX0_tryWorth 92 = .ok (.getfield 13, 3) := by decide +kernel
theorem dX0_tryWorth_95 : decode cX0_tryWorth 95 = .ok (.iload_n 2, 1) := by decide +kernel
theorem dX0_tryWorth_96 : decode cX0_tryWorth 96 = .ok (.iload 6, 2) := by decide +kernel
theorem dX0_tryWorth_98 : decode cX0_tryWorth 98 = .ok (.iastore, 1) := by decide +kernel
theorem dX0_tryWorth_99 : decode cX0_tryWorth 99 = .ok (.aload_n 0, 1) := by decide +kernel
theorem dX0_tryWorth_100 : decode cX0_tryWorth 100 = .ok (.aload_n 1, 1) := by decide +kernel
theorem dX0_tryWorth_101 : decode cX0_tryWorth 101 = .ok (.iload_n 2, 1) := by decide +kernel
theorem dX0_tryWorth_102 : decode cX0_tryWorth 102 = .ok (.iconst 1, 1) := by decide +kernel
theorem dX0_tryWorth_103 : decode cX0_tryWorth 103 = .ok (.isub, 1) := by decide +kernel
theorem dX0_tryWorth_104 : decode cX0_tryWorth 104 = .ok (.iload_n 3, 1) := by decide +kernel
theorem dX0_tryWorth_105 : decode cX0_tryWorth 105 = .ok (.iload 6, 2) := by decide +kernel
theorem dX0_tryWorth_107 : decode cX0_tryWorth 107 = .ok (.getstatic 7, 3) := by decide +kernel
theorem dX0_tryWorth_110 : decode cX0_tryWorth 110 = .ok (.iload_n 2, 1) := by decide +kernel
theorem dX0_tryWorth_111 : decode cX0_tryWorth 111 = .ok (.iaload, 1) := by decide +kernel
theorem dX0_tryWorth_112 : decode cX0_tryWorth 112 = .ok (.imul, 1) := by decide +kernel
theorem dX0_tryWorth_113 : decode cX0_tryWorth 113 = .ok (.isub, 1) := by decide +kernel
theorem dX0_tryWorth_114 : decode cX0_tryWorth 114 = .ok (.iload 4, 2) := by decide +kernel
theorem dX0_tryWorth_116 : decode cX0_tryWorth 116 = .ok (.iload 6, 2) := by decide +kernel
theorem dX0_tryWorth_118 : decode cX0_tryWorth 118 = .ok (.iadd, 1) := by decide +kernel
theorem dX0_tryWorth_119 : decode cX0_tryWorth 119 = .ok (.invokestatic 25, 3) := by decide +kernel
theorem dX0_tryWorth_122 : decode cX0_tryWorth 122 = .ok (.iinc 6 (-1), 3) := by decide +kernel
theorem dX0_tryWorth_125 : decode cX0_tryWorth 125 = .ok (.goto (-51), 3) := by decide +kernel
theorem dX0_tryWorth_128 : decode cX0_tryWorth 128 = .ok (.return_, 1) := by decide +kernel
theorem dX1_init_0 : decode cX1_init 0 = .ok (.aload_n 0, 1) := by decide +kernel
theorem dX1_init_1 : decode cX1_init 1 = .ok (.invokespecial 3, 3) := by decide +kernel
theorem dX1_init_4 : decode cX1_init 4 = .ok (.aload_n 0, 1) := by decide +kernel
theorem dX1_init_5 : decode cX1_init 5 = .ok (.iconst 4, 1) := by decide +kernel
theorem dX1_init_6 : decode cX1_init 6 = .ok (.anewarray 9, 3) := by decide +kernel
theorem dX1_init_9 : decode cX1_init 9 = .ok (.putfield 11, 3) := by decide +kernel
theorem dX1_init_12 : decode cX1_init 12 = .ok (.aload_n 0, 1) := by decide +kernel
theorem dX1_init_13 : decode cX1_init 13 = .ok (.iconst 4, 1) := by decide +kernel
theorem dX1_init_14 : decode cX1_init 14 = .ok (.anewarray 17, 3) := by decide +kernel
theorem dX1_init_17 : decode cX1_init 17 = .ok (.putfield 19, 3) := by decide +kernel
theorem dX1_init_20 : decode cX1_init 20 = .ok (.aload_n 0, 1) := by decide +kernel
theorem dX1_init_21 : decode cX1_init 21 = .ok (.iload_n 1, 1) := by decide +kernel
theorem dX1_init_22 : decode cX1_init 22 = .ok (.putfield 23, 3) := by decide +kernel
theorem dX1_init_25 : decode cX1_init 25 = .ok (.return_, 1) := by decide +kernel
theorem dX1_fits_0 : decode cX1_fits 0 = .ok (.aload_n 1, 1) := by decide +kernel
theorem dX1_fits_1 : decode cX1_fits 1 = .ok (.getfield 27, 3) := by decide +kernel
theorem dX1_fits_4 : decode cX1_fits 4 = .ok (.aload_n 0, 1) := by decide +kernel
theorem dX1_fits_5 : decode cX1_fits 5 = .ok (.getfield 23, 3) := by decide +kernel
theorem dX1_fits_8 : decode cX1_fits 8 = .ok (.if_icmp .eq 5, 3) := by decide +kernel
theorem dX1_fits_11 : decode cX1_fits 11 = .ok (.iconst 0, 1) := by decide +kernel
theorem dX1_fits_12 : decode cX1_fits 12 = .ok (.ireturn, 1) := by decide +kernel
theorem dX1_fits_13 : decode cX1_fits 13 = .ok (.iconst 0, 1) := by decide +kernel
theorem dX1_fits_14 : decode cX1_fits 14 = .ok (.istore_n 2, 1) := by decide +kernel
theorem dX1_fits_15 : decode cX1_fits 15 = .ok (.iload_n 2, 1) := by decide +kernel
theorem dX1_fits_16 : decode cX1_fits 16 = .ok (.aload_n 0, 1) := by decide +kernel
theorem dX1_fits_17 : decode cX1_fits 17 = .ok (.getfield 11, 3) := by decide +kernel
theorem dX1_fits_20 : decode cX1_fits 20 = .ok (.arraylength, 1) := by decide +kernel
theorem dX1_fits_21 : decode cX1_fits 21 = .ok (.if_icmp .ge 30, 3) := by decide +kernel
theorem dX1_fits_24 : decode cX1_fits 24 = .ok (.aload_n 0, 1) := by decide +kernel
theorem dX1_fits_25 : decode cX1_fits 25 = .ok (.getfield 11, 3) := by decide +kernel
theorem dX1_fits_28 : decode cX1_fits 28 = .ok (.iload_n 2, 1) := by decide +kernel
theorem dX1_fits_29 : decode cX1_fits 29 = .ok (.aaload, 1) := by decide +kernel
theorem dX1_fits_30 : decode cX1_fits 30 = .ok (.astore_n 3, 1) := by decide +kernel
theorem dX1_fits_31 : decode cX1_fits 31 = .ok (.aload_n 3, 1) := by decide +kernel
theorem dX1_fits_32 : decode cX1_fits 32 = .ok (.ifnull 13, 3) := by decide +kernel
theorem dX1_fits_35 : decode cX1_fits 35 = .ok (.aload_n 3, 1) := by decide +kernel
theorem dX1_fits_36 : decode cX1_fits 36 = .ok (.aload_n 1, 1) := by decide +kernel
theorem dX1_fits_37 : decode cX1_fits 37 = .ok (.invokevirtual 30, 3) := by decide +kernel
theorem dX1_fits_40 : decode cX1_fits 40 = .ok (.ifCond .ne 5, 3) := by decide +kernel
theorem dX1_fits_43 : decode cX1_fits 43 = .ok (.iconst 0, 1) := by decide +kernel
theorem dX1_fits_44 : decode cX1_fits 44 = .ok (.ireturn, 1) := by decide +kernel
theorem dX1_fits_45 : decode cX1_fits 45 = .ok (.iinc 2 1, 3) := by decide +kernel
theorem dX1_fits_48 : decode cX1_fits 48 = .ok (.goto (-33), 3) := by decide +kernel
theorem dX1_fits_51 : decode cX1_fits 51 = .ok (.iconst 1, 1) := by decide +kernel
theorem dX1_fits_52 : decode cX1_fits 52 = .ok (.ireturn, 1) := by decide +kernel
theorem dX1_total_0 : decode cX1_total 0 = .ok (.iconst 0, 1) := by decide +kernel
theorem dX1_total_1 : decode cX1_total 1 = .ok (.istore_n 2, 1) := by decide +kernel
theorem dX1_total_2 : decode cX1_total 2 = .ok (.iconst 0, 1) := by decide +kernel
theorem dX1_total_3 : decode cX1_total 3 = .ok (.istore_n 3, 1) := by decide +kernel
theorem dX1_total_4 : decode cX1_total 4 = .ok (.iload_n 3, 1) := by decide +kernel
theorem dX1_total_5 : decode cX1_total 5 = .ok (.aload_n 0, 1) := by decide +kernel
theorem dX1_total_6 : decode cX1_total 6 = .ok (.getfield 19, 3) := by decide +kernel
theorem dX1_total_9 : decode cX1_total 9 = .ok (.arraylength, 1) := by decide +kernel
theorem dX1_total_10 : decode cX1_total 10 = .ok (.if_icmp .ge 31, 3) := by decide +kernel
theorem dX1_total_13 : decode cX1_total 13 = .ok (.aload_n 0, 1) := by decide +kernel
theorem dX1_total_14 : decode cX1_total 14 = .ok (.getfield 19, 3) := by decide +kernel
theorem dX1_total_17 : decode cX1_total 17 = .ok (.iload_n 3, 1) := by decide +kernel
theorem dX1_total_18 : decode cX1_total 18 = .ok (.aaload, 1) := by decide +kernel
theorem dX1_total_19 : decode cX1_total 19 = .ok (.astore 4, 2) := by decide +kernel
theorem dX1_total_21 : decode cX1_total 21 = .ok (.aload 4, 2) := by decide +kernel
theorem dX1_total_23 : decode cX1_total 23 = .ok (.ifnull 12, 3) := by decide +kernel
theorem dX1_total_26 : decode cX1_total 26 = .ok (.iload_n 2, 1) := by decide +kernel
theorem dX1_total_27 : decode cX1_total 27 = .ok (.aload 4, 2) := by decide +kernel
theorem dX1_total_29 : decode cX1_total 29 = .ok (.aload_n 1, 1) := by decide +kernel
theorem dX1_total_30 : decode cX1_total 30 = .ok (.invokevirtual 34, 3) := by decide +kernel
theorem dX1_total_33 : decode cX1_total 33 = .ok (.iadd, 1) := by decide +kernel
theorem dX1_total_34 : decode cX1_total 34 = .ok (.istore_n 2, 1) := by decide +kernel
theorem dX1_total_35 : decode cX1_total 35 = .ok (.iinc 3 1, 3) := by decide +kernel
theorem dX1_total_38 : decode cX1_total 38 = .ok (.goto (-34), 3) := by decide +kernel
theorem dX1_total_41 : decode cX1_total 41 = .ok (.iload_n 2, 1) := by decide +kernel
theorem dX1_total_42 : decode cX1_total 42 = .ok (.sipush 5000, 3) := by decide +kernel
theorem dX1_total_45 : decode cX1_total 45 = .ok (.invokestatic 38, 3) := by decide +kernel
theorem dX1_total_48 : decode cX1_total 48 = .ok (.ireturn, 1) := by decide +kernel
theorem dX2_init_0 : decode cX2_init 0 = .ok (.aload_n 0, 1) := by decide +kernel
theorem dX2_init_1 : decode cX2_init 1 = .ok (.invokespecial 3, 3) := by decide +kernel
theorem dX2_init_4 : decode cX2_init 4 = .ok (.aload_n 0, 1) := by decide +kernel
theorem dX2_init_5 : decode cX2_init 5 = .ok (.iconst 0, 1) := by decide +kernel
theorem dX2_init_6 : decode cX2_init 6 = .ok (.putfield 9, 3) := by decide +kernel
theorem dX2_init_9 : decode cX2_init 9 = .ok (.aload_n 0, 1) := by decide +kernel
theorem dX2_init_10 : decode cX2_init 10 = .ok (.iconst 0, 1) := by decide +kernel
theorem dX2_init_11 : decode cX2_init 11 = .ok (.putfield 15, 3) := by decide +kernel
theorem dX2_init_14 : decode cX2_init 14 = .ok (.aload_n 0, 1) := by decide +kernel
theorem dX2_init_15 : decode cX2_init 15 = .ok (.iconst 0, 1) := by decide +kernel
theorem dX2_init_16 : decode cX2_init 16 = .ok (.putfield 18, 3) := by decide +kernel
theorem dX2_init_19 : decode cX2_init 19 = .ok (.aload_n 0, 1) := by decide +kernel
theorem dX2_init_20 : decode cX2_init 20 = .ok (.aconst_null, 1) := by decide +kernel
theorem dX2_init_21 : decode cX2_init 21 = .ok (.putfield 21, 3) := by decide +kernel
theorem dX2_init_24 : decode cX2_init 24 = .ok (.aload_n 0, 1) := by decide +kernel
theorem dX2_init_25 : decode cX2_init 25 = .ok (.iload_n 1, 1) := by decide +kernel
theorem dX2_init_26 : decode cX2_init 26 = .ok (.putfield 25, 3) := by decide +kernel
theorem dX2_init_29 : decode cX2_init 29 = .ok (.aload_n 0, 1) := by decide +kernel
theorem dX2_init_30 : decode cX2_init 30 = .ok (.iload_n 2, 1) := by decide +kernel
theorem dX2_init_31 : decode cX2_init 31 = .ok (.putfield 28, 3) := by decide +kernel
theorem dX2_init_34 : decode cX2_init 34 = .ok (.aload_n 0, 1) := by decide +kernel
theorem dX2_init_35 : decode cX2_init 35 = .ok (.iload_n 3, 1) := by decide +kernel
theorem dX2_init_36 : decode cX2_init 36 = .ok (.putfield 31, 3) := by decide +kernel
theorem dX2_init_39 : decode cX2_init 39 = .ok (.aload_n 0, 1) := by decide +kernel
theorem dX2_init_40 : decode cX2_init 40 = .ok (.iload 4, 2) := by decide +kernel
theorem dX2_init_42 : decode cX2_init 42 = .ok (.putfield 34, 3) := by decide +kernel
theorem dX2_init_45 : decode cX2_init 45 = .ok (.aload_n 0, 1) := by decide +kernel
theorem dX2_init_46 : decode cX2_init 46 = .ok (.iload 5, 2) := by decide +kernel
theorem dX2_init_48 : decode cX2_init 48 = .ok (.putfield 37, 3) := by decide +kernel
theorem dX2_init_51 : decode cX2_init 51 = .ok (.return_, 1) := by decide +kernel
theorem dX2_charge_0 : decode cX2_charge 0 = .ok (.aload_n 0, 1) := by decide +kernel
theorem dX2_charge_1 : decode cX2_charge 1 = .ok (.iload_n 1, 1) := by decide +kernel
theorem dX2_charge_2 : decode cX2_charge 2 = .ok (.putfield 9, 3) := by decide +kernel
theorem dX2_charge_5 : decode cX2_charge 5 = .ok (.aload_n 0, 1) := by decide +kernel
theorem dX2_charge_6 : decode cX2_charge 6 = .ok (.iload_n 2, 1) := by decide +kernel
theorem dX2_charge_7 : decode cX2_charge 7 = .ok (.putfield 15, 3) := by decide +kernel
theorem dX2_charge_10 : decode cX2_charge 10 = .ok (.aload_n 0, 1) := by decide +kernel
theorem dX2_charge_11 : decode cX2_charge 11 = .ok (.iload_n 3, 1) := by decide +kernel
theorem dX2_charge_12 : decode cX2_charge 12 = .ok (.putfield 18, 3) := by decide +kernel
theorem dX2_charge_15 : decode cX2_charge 15 = .ok (.aload_n 0, 1) := by decide +kernel
theorem dX2_charge_16 : decode cX2_charge 16 = .ok (.aload 4, 2) := by decide +kernel
theorem dX2_charge_18 : decode cX2_charge 18 = .ok (.putfield 21, 3) := by decide +kernel
theorem dX2_charge_21 : decode cX2_charge 21 = .ok (.return_, 1) := by decide +kernel
theorem dX2_measure_0 : decode cX2_measure 0 = .ok (.iload_n 1, 1) := by decide +kernel
theorem dX2_measure_1 : decode cX2_measure 1 = .ok (.tableswitch 51 8 11 #[31, 36, 41, 46], 31) := by decide +kernel
theorem dX2_measure_32 : decode cX2_measure 32 = .ok (.aload_n 0, 1) := by decide +kernel
theorem dX2_measure_33 : decode cX2_measure 33 = .ok (.getfield 31, 3) := by decide +kernel
theorem dX2_measure_36 : decode cX2_measure 36 = .ok (.ireturn, 1) := by decide +kernel
theorem dX2_measure_37 : decode cX2_measure 37 = .ok (.aload_n 0, 1) := by decide +kernel
theorem dX2_measure_38 : decode cX2_measure 38 = .ok (.getfield 34, 3) := by decide +kernel
theorem dX2_measure_41 : decode cX2_measure 41 = .ok (.ireturn, 1) := by decide +kernel
theorem dX2_measure_42 : decode cX2_measure 42 = .ok (.aload_n 0, 1) := by decide +kernel
theorem dX2_measure_43 : decode cX2_measure 43 = .ok (.getfield 25, 3) := by decide +kernel
theorem dX2_measure_46 : decode cX2_measure 46 = .ok (.ireturn, 1) := by decide +kernel
theorem dX2_measure_47 : decode cX2_measure 47 = .ok (.aload_n 0, 1) := by decide +kernel
theorem dX2_measure_48 : decode cX2_measure 48 = .ok (.getfield 37, 3) := by decide +kernel
theorem dX2_measure_51 : decode cX2_measure 51 = .ok (.ireturn, 1) := by decide +kernel
theorem dX2_measure_52 : decode cX2_measure 52 = .ok (.iconst 1, 1) := by decide +kernel
theorem dX2_measure_53 : decode cX2_measure 53 = .ok (.ireturn, 1) := by decide +kernel
theorem dX2_stampsOf_0 : decode cX2_stampsOf 0 = .ok (.aload_n 0, 1) := by decide +kernel
theorem dX2_stampsOf_1 : decode cX2_stampsOf 1 = .ok (.getfield 21, 3) := by decide +kernel
theorem dX2_stampsOf_4 : decode cX2_stampsOf 4 = .ok (.ifnull 25, 3) := by decide +kernel
theorem dX2_stampsOf_7 : decode cX2_stampsOf 7 = .ok (.iload_n 1, 1) := by decide +kernel
theorem dX2_stampsOf_8 : decode cX2_stampsOf 8 = .ok (.ifCond .lt 21, 3) := by decide +kernel
theorem dX2_stampsOf_11 : decode cX2_stampsOf 11 = .ok (.iload_n 1, 1) := by decide +kernel
theorem dX2_stampsOf_12 : decode cX2_stampsOf 12 = .ok (.aload_n 0, 1) := by decide +kernel
theorem dX2_stampsOf_13 : decode cX2_stampsOf 13 = .ok (.getfield 21, 3) := by decide +kernel
theorem dX2_stampsOf_16 : decode cX2_stampsOf 16 = .ok (.arraylength, 1) := by decide +kernel
theorem dX2_stampsOf_17 : decode cX2_stampsOf 17 = .ok (.if_icmp .ge 12, 3) := by decide +kernel
theorem dX2_stampsOf_20 : decode cX2_stampsOf 20 = .ok (.aload_n 0, 1) := by decide +kernel
theorem dX2_stampsOf_21 : decode cX2_stampsOf 21 = .ok (.getfield 21, 3) := by decide +kernel
theorem dX2_stampsOf_24 : decode cX2_stampsOf 24 = .ok (.iload_n 1, 1) := by decide +kernel
theorem dX2_stampsOf_25 : decode cX2_stampsOf 25 = .ok (.iaload, 1) := by decide +kernel
theorem dX2_stampsOf_26 : decode cX2_stampsOf 26 = .ok (.goto 4, 3) := by decide +kernel
theorem dX2_stampsOf_29 : decode cX2_stampsOf 29 = .ok (.iconst 0, 1) := by decide +kernel
theorem dX2_stampsOf_30 : decode cX2_stampsOf 30 = .ok (.ireturn, 1) := by decide +kernel
theorem dX2_allStamps_0 : decode cX2_allStamps 0 = .ok (.iconst 0, 1) := by decide +kernel
theorem dX2_allStamps_1 : decode cX2_allStamps 1 = .ok (.istore_n 1, 1) := by decide +kernel
theorem dX2_allStamps_2 : decode cX2_allStamps 2 = .ok (.iconst 0, 1) := by decide +kernel
theorem dX2_allStamps_3 : decode cX2_allStamps 3 = .ok (.istore_n 2, 1) := by decide +kernel
theorem dX2_allStamps_4 : decode cX2_allStamps 4 = .ok (.iload_n 2, 1) := by decide +kernel
theorem dX2_allStamps_5 : decode cX2_allStamps 5 = .ok (.getstatic 40, 3) := by decide +kernel
theorem dX2_allStamps_8 : decode cX2_allStamps 8 = .ok (.arraylength, 1) := by decide +kernel
theorem dX2_allStamps_9 : decode cX2_allStamps 9 = .ok (.if_icmp .ge 17, 3) := by decide +kernel
theorem dX2_allStamps_12 : decode cX2_allStamps 12 = .ok (.iload_n 1, 1) := by decide +kernel
theorem dX2_allStamps_13 : decode cX2_allStamps 13 = .ok (.aload_n 0, 1) := by decide +kernel
theorem dX2_allStamps_14 : decode cX2_allStamps 14 = .ok (.iload_n 2, 1) := by decide +kernel
theorem dX2_allStamps_15 : decode cX2_allStamps 15 = .ok (.invokevirtual 43, 3) := by decide +kernel
theorem dX2_allStamps_18 : decode cX2_allStamps 18 = .ok (.iadd, 1) := by decide +kernel
theorem dX2_allStamps_19 : decode cX2_allStamps 19 = .ok (.istore_n 1, 1) := by decide +kernel
theorem dX2_allStamps_20 : decode cX2_allStamps 20 = .ok (.iinc 2 1, 3) := by decide +kernel
theorem dX2_allStamps_23 : decode cX2_allStamps 23 = .ok (.goto (-19), 3) := by decide +kernel
theorem dX2_allStamps_26 : decode cX2_allStamps 26 = .ok (.iload_n 1, 1) := by decide +kernel
theorem dX2_allStamps_27 : decode cX2_allStamps 27 = .ok (.ireturn, 1) := by decide +kernel
theorem dX3_init_0 : decode cX3_init 0 = .ok (.aload_n 0, 1) := by decide +kernel
theorem dX3_init_1 : decode cX3_init 1 = .ok (.invokespecial 3, 3) := by decide +kernel
theorem dX3_init_4 : decode cX3_init 4 = .ok (.aload_n 0, 1) := by decide +kernel
theorem dX3_init_5 : decode cX3_init 5 = .ok (.getstatic 9, 3) := by decide +kernel
theorem dX3_init_8 : decode cX3_init 8 = .ok (.arraylength, 1) := by decide +kernel
theorem dX3_init_9 : decode cX3_init 9 = .ok (.newarray .int, 2) := by decide +kernel
theorem dX3_init_11 : decode cX3_init 11 = .ok (.putfield 13, 3) := by decide +kernel
theorem dX3_init_14 : decode cX3_init 14 = .ok (.aload_n 0, 1) := by decide +kernel
theorem dX3_init_15 : decode cX3_init 15 = .ok (.bipush 30, 2) := by decide +kernel
theorem dX3_init_17 : decode cX3_init 17 = .ok (.newarray .int, 2) := by decide +kernel
theorem dX3_init_19 : decode cX3_init 19 = .ok (.putfield 18, 3) := by decide +kernel
theorem dX3_init_22 : decode cX3_init 22 = .ok (.aload_n 0, 1) := by decide +kernel
theorem dX3_init_23 : decode cX3_init 23 = .ok (.bipush 30, 2) := by decide +kernel
theorem dX3_init_25 : decode cX3_init 25 = .ok (.newarray .boolean, 2) := by decide +kernel
theorem dX3_init_27 : decode cX3_init 27 = .ok (.putfield 21, 3) := by decide +kernel
theorem dX3_init_30 : decode cX3_init 30 = .ok (.aload_n 0, 1) := by decide +kernel
theorem dX3_init_31 : decode cX3_init 31 = .ok (.iconst 0, 1) := by decide +kernel
theorem dX3_init_32 : decode cX3_init 32 = .ok (.putfield 25, 3) := by decide +kernel
theorem dX3_init_35 : decode cX3_init 35 = .ok (.aload_n 0, 1) := by decide +kernel
theorem dX3_init_36 : decode cX3_init 36 = .ok (.iconst 0, 1) := by decide +kernel
theorem dX3_init_37 : decode cX3_init 37 = .ok (.putfield 29, 3) := by decide +kernel
theorem dX3_init_40 : decode cX3_init 40 = .ok (.aload_n 0, 1) := by decide +kernel
theorem dX3_init_41 : decode cX3_init 41 = .ok (.iconst 0, 1) := by decide +kernel
theorem dX3_init_42 : decode cX3_init 42 = .ok (.putfield 32, 3) := by decide +kernel
theorem dX3_init_45 : decode cX3_init 45 = .ok (.aload_n 0, 1) := by decide +kernel
theorem dX3_init_46 : decode cX3_init 46 = .ok (.iload_n 1, 1) := by decide +kernel
theorem dX3_init_47 : decode cX3_init 47 = .ok (.putfield 35, 3) := by decide +kernel
theorem dX3_init_50 : decode cX3_init 50 = .ok (.aload_n 0, 1) := by decide +kernel
theorem dX3_init_51 : decode cX3_init 51 = .ok (.iload_n 2, 1) := by decide +kernel
theorem dX3_init_52 : decode cX3_init 52 = .ok (.putfield 38, 3) := by decide +kernel
theorem dX3_init_55 : decode cX3_init 55 = .ok (.return_, 1) := by decide +kernel
theorem dX3_send_0 : decode cX3_send 0 = .ok (.aload_n 0, 1) := by decide +kernel
theorem dX3_send_1 : decode cX3_send 1 = .ok (.getfield 25, 3) := by decide +kernel
theorem dX3_send_4 : decode cX3_send 4 = .ok (.ifCond .lt 35, 3) := by decide +kernel
theorem dX3_send_7 : decode cX3_send 7 = .ok (.aload_n 0, 1) := by decide +kernel
theorem dX3_send_8 : decode cX3_send 8 = .ok (.getfield 25, 3) := by decide +kernel
theorem dX3_send_11 : decode cX3_send 11 = .ok (.aload_n 0, 1) := by decide +kernel
theorem dX3_send_12 : decode cX3_send 12 = .ok (.getfield 18, 3) := by decide +kernel
theorem dX3_send_15 : decode cX3_send 15 = .ok (.arraylength, 1) := by decide +kernel
theorem dX3_send_16 : decode cX3_send 16 = .ok (.if_icmp .ge 23, 3) := by decide +kernel
theorem dX3_send_19 : decode cX3_send 19 = .ok (.aload_n 0, 1) := by decide +kernel
theorem dX3_send_20 : decode cX3_send 20 = .ok (.getfield 18, 3) := by decide +kernel
theorem dX3_send_23 : decode cX3_send 23 = .ok (.aload_n 0, 1) := by decide +kernel
theorem dX3_send_24 : decode cX3_send 24 = .ok (.getfield 25, 3) := by decide +kernel
theorem dX3_send_27 : decode cX3_send 27 = .ok (.iload_n 1, 1) := by decide +kernel
theorem dX3_send_28 : decode cX3_send 28 = .ok (.iastore, 1) := by decide +kernel
theorem dX3_send_29 : decode cX3_send 29 = .ok (.aload_n 0, 1) := by decide +kernel
theorem dX3_send_30 : decode cX3_send 30 = .ok (.dup, 1) := by decide +kernel
theorem dX3_send_31 : decode cX3_send 31 = .ok (.getfield 25, 3) := by decide +kernel
theorem dX3_send_34 : decode cX3_send 34 = .ok (.iconst 1, 1) := by decide +kernel
theorem dX3_send_35 : decode cX3_send 35 = .ok (.iadd, 1) := by decide +kernel
theorem dX3_send_36 : decode cX3_send 36 = .ok (.putfield 25, 3) := by decide +kernel
theorem dX3_send_39 : decode cX3_send 39 = .ok (.return_, 1) := by decide +kernel
theorem dX3_wasSent_0 : decode cX3_wasSent 0 = .ok (.iload_n 1, 1) := by decide +kernel
theorem dX3_wasSent_1 : decode cX3_wasSent 1 = .ok (.ifCond .lt 33, 3) := by decide +kernel
theorem dX3_wasSent_4 : decode cX3_wasSent 4 = .ok (.iload_n 1, 1) := by decide +kernel
theorem dX3_wasSent_5 : decode cX3_wasSent 5 = .ok (.aload_n 0, 1) := by decide +kernel
theorem dX3_wasSent_6 : decode cX3_wasSent 6 = .ok (.getfield 25, 3) := by decide +kernel
theorem dX3_wasSent_9 : decode cX3_wasSent 9 = .ok (.if_icmp .ge 25, 3) := by decide +kernel
theorem dX3_wasSent_12 : decode cX3_wasSent 12 = .ok (.iload_n 1, 1) := by decide +kernel
theorem dX3_wasSent_13 : decode cX3_wasSent 13 = .ok (.aload_n 0, 1) := by decide +kernel
theorem dX3_wasSent_14 : decode cX3_wasSent 14 = .ok (.getfield 18, 3) := by decide +kernel
theorem dX3_wasSent_17 : decode cX3_wasSent 17 = .ok (.arraylength, 1) := by decide +kernel
theorem dX3_wasSent_18 : decode cX3_wasSent 18 = .ok (.if_icmp .ge 16, 3) := by decide +kernel
theorem dX3_wasSent_21 : decode cX3_wasSent 21 = .ok (.iload_n 1, 1) := by decide +kernel
theorem dX3_wasSent_22 : decode cX3_wasSent 22 = .ok (.aload_n 0, 1) := by decide +kernel
theorem dX3_wasSent_23 : decode cX3_wasSent 23 = .ok (.getfield 21, 3) := by decide +kernel
theorem dX3_wasSent_26 : decode cX3_wasSent 26 = .ok (.arraylength, 1) := by decide +kernel
theorem dX3_wasSent_27 : decode cX3_wasSent 27 = .ok (.if_icmp .ge 7, 3) := by decide +kernel
theorem dX3_wasSent_30 : decode cX3_wasSent 30 = .ok (.iconst 1, 1) := by decide +kernel
theorem dX3_wasSent_31 : decode cX3_wasSent 31 = .ok (.goto 4, 3) := by decide +kernel
theorem dX3_wasSent_34 : decode cX3_wasSent 34 = .ok (.iconst 0, 1) := by decide +kernel
theorem dX3_wasSent_35 : decode cX3_wasSent 35 = .ok (.ireturn, 1) := by decide +kernel
theorem dX3_lose_0 : decode cX3_lose 0 = .ok (.aload_n 0, 1) := by decide +kernel
theorem dX3_lose_1 : decode cX3_lose 1 = .ok (.iload_n 1, 1) := by decide +kernel
theorem dX3_lose_2 : decode cX3_lose 2 = .ok (.invokevirtual 41, 3) := by decide +kernel
theorem dX3_lose_5 : decode cX3_lose 5 = .ok (.ifCond .eq 22, 3) := by decide +kernel
theorem dX3_lose_8 : decode cX3_lose 8 = .ok (.aload_n 0, 1) := by decide +kernel
theorem dX3_lose_9 : decode cX3_lose 9 = .ok (.getfield 21, 3) := by decide +kernel
theorem dX3_lose_12 : decode cX3_lose 12 = .ok (.iload_n 1, 1) := by decide +kernel
theorem dX3_lose_13 : decode cX3_lose 13 = .ok (.baload, 1) := by decide +kernel
theorem dX3_lose_14 : decode cX3_lose 14 = .ok (.ifCond .ne 13, 3) := by decide +kernel
theorem dX3_lose_17 : decode cX3_lose 17 = .ok (.aload_n 0, 1) := by decide +kernel
theorem dX3_lose_18 : decode cX3_lose 18 = .ok (.getfield 18, 3) := by decide +kernel
theorem dX3_lose_21 : decode cX3_lose 21 = .ok (.iload_n 1, 1) := by decide +kernel
theorem dX3_lose_22 : decode cX3_lose 22 = .ok (.iaload, 1) := by decide +kernel
theorem dX3_lose_23 : decode cX3_lose 23 = .ok (.iload_n 2, 1) := by decide +kernel
theorem dX3_lose_24 : decode cX3_lose 24 = .ok (.if_icmp .gt 5, 3) := by decide +kernel
theorem dX3_lose_27 : decode cX3_lose 27 = .ok (.iconst 0, 1) := by decide +kernel
theorem dX3_lose_28 : decode cX3_lose 28 = .ok (.ireturn, 1) := by decide +kernel
theorem dX3_lose_29 : decode cX3_lose 29 = .ok (.aload_n 0, 1) := by decide +kernel
theorem dX3_lose_30 : decode cX3_lose 30 = .ok (.getfield 21, 3) := by decide +kernel
theorem dX3_lose_33 : decode cX3_lose 33 = .ok (.iload_n 1, 1) := by decide +kernel
theorem dX3_lose_34 : decode cX3_lose 34 = .ok (.iconst 1, 1) := by decide +kernel
theorem dX3_lose_35 : decode cX3_lose 35 = .ok (.bastore, 1) := by decide +kernel
theorem dX3_lose_36 : decode cX3_lose 36 = .ok (.iconst 1, 1) := by decide +kernel
theorem dX3_lose_37 : decode cX3_lose 37 = .ok (.ireturn, 1) := by decide +kernel
theorem dX3_askDay_0 : decode cX3_askDay 0 = .ok (.aload_n 0, 1) := by decide +kernel
theorem dX3_askDay_1 : decode cX3_askDay 1 = .ok (.iload_n 1, 1) := by decide +kernel
theorem dX3_askDay_2 : decode cX3_askDay 2 = .ok (.invokevirtual 41, 3) := by decide +kernel
theorem dX3_askDay_5 : decode cX3_askDay 5 = .ok (.ifCond .eq 12, 3) := by decide +kernel
theorem dX3_askDay_8 : decode cX3_askDay 8 = .ok (.aload_n 0, 1) := by decide +kernel
theorem dX3_askDay_9 : decode cX3_askDay 9 = .ok (.getfield 21, 3) := by decide +kernel
theorem dX3_askDay_12 : decode cX3_askDay 12 = .ok (.iload_n 1, 1) := by decide +kernel
theorem dX3_askDay_13 : decode cX3_askDay 13 = .ok (.baload, 1) := by decide +kernel
theorem dX3_askDay_14 : decode cX3_askDay 14 = .ok (.ifCond .ne 6, 3) := by decide +kernel
theorem dX3_askDay_17 : decode cX3_askDay 17 = .ok (.bipush (-2), 2) := by decide +kernel
theorem dX3_askDay_19 : decode cX3_askDay 19 = .ok (.ireturn, 1) := by decide +kernel
theorem dX3_askDay_20 : decode cX3_askDay 20 = .ok (.iload_n 1, 1) := by decide +kernel
theorem dX3_askDay_21 : decode cX3_askDay 21 = .ok (.iconst 1, 1) := by decide +kernel
theorem dX3_askDay_22 : decode cX3_askDay 22 = .ok (.iadd, 1) := by decide +kernel
theorem dX3_askDay_23 : decode cX3_askDay 23 = .ok (.istore_n 3, 1) := by decide +kernel
theorem dX3_askDay_24 : decode cX3_askDay 24 = .ok (.iload_n 3, 1) := by decide +kernel
theorem dX3_askDay_25 : decode cX3_askDay 25 = .ok (.aload_n 0, 1) := by decide +kernel
theorem dX3_askDay_26 : decode cX3_askDay 26 = .ok (.getfield 25, 3) := by decide +kernel
theorem dX3_askDay_29 : decode cX3_askDay 29 = .ok (.if_icmp .ge 48, 3) := by decide +kernel
theorem dX3_askDay_32 : decode cX3_askDay 32 = .ok (.aload_n 0, 1) := by decide +kernel
theorem dX3_askDay_33 : decode cX3_askDay 33 = .ok (.iload_n 3, 1) := by decide +kernel
theorem dX3_askDay_34 : decode cX3_askDay 34 = .ok (.invokevirtual 41, 3) := by decide +kernel
theorem dX3_askDay_37 : decode cX3_askDay 37 = .ok (.ifCond .eq 34, 3) := by decide +kernel
theorem dX3_askDay_40 : decode cX3_askDay 40 = .ok (.aload_n 0, 1) := by decide +kernel
theorem dX3_askDay_41 : decode cX3_askDay 41 = .ok (.getfield 21, 3) := by decide +kernel
theorem dX3_askDay_44 : decode cX3_askDay 44 = .ok (.iload_n 3, 1) := by decide +kernel
theorem dX3_askDay_45 : decode cX3_askDay 45 = .ok (.baload, 1) := by decide +kernel
theorem dX3_askDay_46 : decode cX3_askDay 46 = .ok (.ifCond .ne 25, 3) := by decide +kernel
theorem dX3_askDay_49 : decode cX3_askDay 49 = .ok (.aload_n 0, 1) := by decide +kernel
theorem dX3_askDay_50 : decode cX3_askDay 50 = .ok (.getfield 18, 3) := by decide +kernel
theorem dX3_askDay_53 : decode cX3_askDay 53 = .ok (.iload_n 3, 1) := by decide +kernel
theorem dX3_askDay_54 : decode cX3_askDay 54 = .ok (.iaload, 1) := by decide +kernel
theorem dX3_askDay_55 : decode cX3_askDay 55 = .ok (.iload_n 2, 1) := by decide +kernel
theorem dX3_askDay_56 : decode cX3_askDay 56 = .ok (.if_icmp .gt 12, 3) := by decide +kernel
theorem dX3_askDay_59 : decode cX3_askDay 59 = .ok (.aload_n 0, 1) := by decide +kernel
theorem dX3_askDay_60 : decode cX3_askDay 60 = .ok (.getfield 18, 3) := by decide +kernel
theorem dX3_askDay_63 : decode cX3_askDay 63 = .ok (.iload_n 3, 1) := by decide +kernel
theorem dX3_askDay_64 : decode cX3_askDay 64 = .ok (.iaload, 1) := by decide +kernel
theorem dX3_askDay_65 : decode cX3_askDay 65 = .ok (.goto 5, 3) := by decide +kernel
theorem dX3_askDay_68 : decode cX3_askDay 68 = .ok (.bipush (-2), 2) := by decide +kernel
theorem dX3_askDay_70 : decode cX3_askDay 70 = .ok (.ireturn, 1) := by decide +kernel
theorem dX3_askDay_71 : decode cX3_askDay 71 = .ok (.iinc 3 1, 3) := by decide +kernel
theorem dX3_askDay_74 : decode cX3_askDay 74 = .ok (.goto (-50), 3) := by decide +kernel
theorem dX3_askDay_77 : decode cX3_askDay 77 = .ok (.bipush (-2), 2) := by decide +kernel
theorem dX3_askDay_79 : decode cX3_askDay 79 = .ok (.ireturn, 1) := by decide +kernel
theorem dX3_comeDay_0 : decode cX3_comeDay 0 = .ok (.aload_n 0, 1) := by decide +kernel
theorem dX3_comeDay_1 : decode cX3_comeDay 1 = .ok (.iload_n 1, 1) := by decide +kernel
theorem dX3_comeDay_2 : decode cX3_comeDay 2 = .ok (.invokevirtual 41, 3) := by decide +kernel
theorem dX3_comeDay_5 : decode cX3_comeDay 5 = .ok (.ifCond .ne 6, 3) := by decide +kernel
theorem dX3_comeDay_8 : decode cX3_comeDay 8 = .ok (.bipush (-2), 2) := by decide +kernel
theorem dX3_comeDay_10 : decode cX3_comeDay 10 = .ok (.ireturn, 1) := by decide +kernel
theorem dX3_comeDay_11 : decode cX3_comeDay 11 = .ok (.aload_n 0, 1) := by decide +kernel
theorem dX3_comeDay_12 : decode cX3_comeDay 12 = .ok (.getfield 18, 3) := by decide +kernel
theorem dX3_comeDay_15 : decode cX3_comeDay 15 = .ok (.iload_n 1, 1) := by decide +kernel
theorem dX3_comeDay_16 : decode cX3_comeDay 16 = .ok (.iaload, 1) := by decide +kernel
theorem dX3_comeDay_17 : decode cX3_comeDay 17 = .ok (.istore_n 3, 1) := by decide +kernel
theorem dX3_comeDay_18 : decode cX3_comeDay 18 = .ok (.aload_n 0, 1) := by decide +kernel
theorem dX3_comeDay_19 : decode cX3_comeDay 19 = .ok (.getfield 21, 3) := by decide +kernel
theorem dX3_comeDay_22 : decode cX3_comeDay 22 = .ok (.iload_n 1, 1) := by decide +kernel
theorem dX3_comeDay_23 : decode cX3_comeDay 23 = .ok (.baload, 1) := by decide +kernel
theorem dX3_comeDay_24 : decode cX3_comeDay 24 = .ok (.ifCond .eq 31, 3) := by decide +kernel
theorem dX3_comeDay_27 : decode cX3_comeDay 27 = .ok (.aload_n 0, 1) := by decide +kernel
theorem dX3_comeDay_28 : decode cX3_comeDay 28 = .ok (.iload_n 1, 1) := by decide +kernel
theorem dX3_comeDay_29 : decode cX3_comeDay 29 = .ok (.iload_n 2, 1) := by decide +kernel
theorem dX3_comeDay_30 : decode cX3_comeDay 30 = .ok (.invokevirtual 45, 3) := by decide +kernel
theorem dX3_comeDay_33 : decode cX3_comeDay 33 = .ok (.istore 4, 2) := by decide +kernel
theorem dX3_comeDay_35 : decode cX3_comeDay 35 = .ok (.iload 4, 2) := by decide +kernel
theorem dX3_comeDay_37 : decode cX3_comeDay 37 = .ok (.bipush (-2), 2) := by decide +kernel
theorem dX3_comeDay_39 : decode cX3_comeDay 39 = .ok (.if_icmp .ne 6, 3) := by decide +kernel
theorem dX3_comeDay_42 : decode cX3_comeDay 42 = .ok (.bipush (-2), 2) := by decide +kernel
theorem dX3_comeDay_44 : decode cX3_comeDay 44 = .ok (.ireturn, 1) := by decide +kernel
theorem dX3_comeDay_45 : decode cX3_comeDay 45 = .ok (.iload 4, 2) := by decide +kernel
theorem dX3_comeDay_47 : decode cX3_comeDay 47 = .ok (.iconst 2, 1) := by decide +kernel
theorem dX3_comeDay_48 : decode cX3_comeDay 48 = .ok (.aload_n 0, 1) := by decide +kernel
theorem dX3_comeDay_49 : decode cX3_comeDay 49 = .ok (.getfield 35, 3) := by decide +kernel
theorem dX3_comeDay_52 : decode cX3_comeDay 52 = .ok (.imul, 1) := by decide +kernel
theorem dX3_comeDay_53 : decode cX3_comeDay 53 = .ok (.iadd, 1) := by decide +kernel
theorem dX3_comeDay_54 : decode cX3_comeDay 54 = .ok (.istore_n 3, 1) := by decide +kernel
theorem dX3_comeDay_55 : decode cX3_comeDay 55 = .ok (.iload_n 3, 1) := by decide +kernel
theorem dX3_comeDay_56 : decode cX3_comeDay 56 = .ok (.iload_n 2, 1) := by decide +kernel
theorem dX3_comeDay_57 : decode cX3_comeDay 57 = .ok (.if_icmp .gt 7, 3) := by decide +kernel
theorem dX3_comeDay_60 : decode cX3_comeDay 60 = .ok (.iload_n 3, 1) := by decide +kernel
theorem dX3_comeDay_61 : decode cX3_comeDay 61 = .ok (.goto 5, 3) := by decide +kernel
theorem dX3_comeDay_64 : decode cX3_comeDay 64 = .ok (.bipush (-2), 2) := by decide +kernel
theorem dX3_comeDay_66 : decode cX3_comeDay 66 = .ok (.ireturn, 1) := by decide +kernel
theorem dX3_inForce_0 : decode cX3_inForce 0 = .ok (.iconst 0, 1) := by decide +kernel
theorem dX3_inForce_1 : decode cX3_inForce 1 = .ok (.istore_n 2, 1) := by decide +kernel
theorem dX3_inForce_2 : decode cX3_inForce 2 = .ok (.iload_n 2, 1) := by decide +kernel
theorem dX3_inForce_3 : decode cX3_inForce 3 = .ok (.aload_n 0, 1) := by decide +kernel
theorem dX3_inForce_4 : decode cX3_inForce 4 = .ok (.getfield 25, 3) := by decide +kernel
theorem dX3_inForce_7 : decode cX3_inForce 7 = .ok (.if_icmp .ge 20, 3) := by decide +kernel
theorem dX3_inForce_10 : decode cX3_inForce 10 = .ok (.aload_n 0, 1) := by decide +kernel
theorem dX3_inForce_11 : decode cX3_inForce 11 = .ok (.iload_n 2, 1) := by decide +kernel
theorem dX3_inForce_12 : decode cX3_inForce 12 = .ok (.iload_n 1, 1) := by decide +kernel
theorem dX3_inForce_13 : decode cX3_inForce 13 = .ok (.invokevirtual 49, 3) := by decide +kernel
theorem dX3_inForce_16 : decode cX3_inForce 16 = .ok (.bipush (-2), 2) := by decide +kernel
theorem dX3_inForce_18 : decode cX3_inForce 18 = .ok (.if_icmp .eq 9, 3) := by decide +kernel
theorem dX3_inForce_21 : decode cX3_inForce 21 = .ok (.iinc 2 1, 3) := by decide +kernel
theorem dX3_inForce_24 : decode cX3_inForce 24 = .ok (.goto (-22), 3) := by decide +kernel
theorem dX3_inForce_27 : decode cX3_inForce 27 = .ok (.iload_n 2, 1) := by decide +kernel
theorem dX3_inForce_28 : decode cX3_inForce 28 = .ok (.ifCond .ne 8, 3) := by decide +kernel
theorem dX3_inForce_31 : decode cX3_inForce 31 = .ok (.bipush (-2), 2) := by decide +kernel
theorem dX3_inForce_33 : decode cX3_inForce 33 = .ok (.goto 6, 3) := by decide +kernel
theorem dX3_inForce_36 : decode cX3_inForce 36 = .ok (.iload_n 2, 1) := by decide +kernel
theorem dX3_inForce_37 : decode cX3_inForce 37 = .ok (.iconst 1, 1) := by decide +kernel
theorem dX3_inForce_38 : decode cX3_inForce 38 = .ok (.isub, 1) := by decide +kernel
theorem dX3_inForce_39 : decode cX3_inForce 39 = .ok (.ireturn, 1) := by decide +kernel
theorem dX3_onTheWay_0 : decode cX3_onTheWay 0 = .ok (.iload_n 1, 1) := by decide +kernel
theorem dX3_onTheWay_1 : decode cX3_onTheWay 1 = .ok (.iconst 2, 1) := by decide +kernel
theorem dX3_onTheWay_2 : decode cX3_onTheWay 2 = .ok (.if_icmp .ne 15, 3) := by decide +kernel
theorem dX3_onTheWay_5 : decode cX3_onTheWay 5 = .ok (.aload_n 0, 1) := by decide +kernel
theorem dX3_onTheWay_6 : decode cX3_onTheWay 6 = .ok (.iload_n 2, 1) := by decide +kernel
theorem dX3_onTheWay_7 : decode cX3_onTheWay 7 = .ok (.invokevirtual 52, 3) := by decide +kernel
theorem dX3_onTheWay_10 : decode cX3_onTheWay 10 = .ok (.aload_n 0, 1) := by decide +kernel
theorem dX3_onTheWay_11 : decode cX3_onTheWay 11 = .ok (.iload_n 2, 1) := by decide +kernel
theorem dX3_onTheWay_12 : decode cX3_onTheWay 12 = .ok (.invokevirtual 56, 3) := by decide +kernel
theorem dX3_onTheWay_15 : decode cX3_onTheWay 15 = .ok (.isub, 1) := by decide +kernel
theorem dX3_onTheWay_16 : decode cX3_onTheWay 16 = .ok (.ireturn, 1) := by decide +kernel
theorem dX3_onTheWay_17 : decode cX3_onTheWay 17 = .ok (.iconst 0, 1) := by decide +kernel
theorem dX3_onTheWay_18 : decode cX3_onTheWay 18 = .ok (.istore_n 3, 1) := by decide +kernel
theorem dX3_onTheWay_19 : decode cX3_onTheWay 19 = .ok (.iconst 0, 1) := by decide +kernel
theorem dX3_onTheWay_20 : decode cX3_onTheWay 20 = .ok (.istore 4, 2) := by decide +kernel
theorem dX3_onTheWay_22 : decode cX3_onTheWay 22 = .ok (.iload 4, 2) := by decide +kernel
theorem dX3_onTheWay_24 : decode cX3_onTheWay 24 = .ok (.aload_n 0, 1) := by decide +kernel
theorem dX3_onTheWay_25 : decode cX3_onTheWay 25 = .ok (.getfield 25, 3) := by decide +kernel
theorem dX3_onTheWay_28 : decode cX3_onTheWay 28 = .ok (.if_icmp .ge 39, 3) := by decide +kernel
theorem dX3_onTheWay_31 : decode cX3_onTheWay 31 = .ok (.iload_n 1, 1) := by decide +kernel
theorem dX3_onTheWay_32 : decode cX3_onTheWay 32 = .ok (.ifCond .ne 16, 3) := by decide +kernel
theorem dX3_onTheWay_35 : decode cX3_onTheWay 35 = .ok (.aload_n 0, 1) := by decide +kernel
theorem dX3_onTheWay_36 : decode cX3_onTheWay 36 = .ok (.iload 4, 2) := by decide +kernel
theorem dX3_onTheWay_38 : decode cX3_onTheWay 38 = .ok (.iload_n 2, 1) := by decide +kernel
theorem dX3_onTheWay_39 : decode cX3_onTheWay 39 = .ok (.invokevirtual 59, 3) := by decide +kernel
theorem dX3_onTheWay_42 : decode cX3_onTheWay 42 = .ok (.ifCond .eq 19, 3) := by decide +kernel
theorem dX3_onTheWay_45 : decode cX3_onTheWay 45 = .ok (.goto 13, 3) := by decide +kernel
theorem dX3_onTheWay_48 : decode cX3_onTheWay 48 = .ok (.aload_n 0, 1) := by decide +kernel
theorem dX3_onTheWay_49 : decode cX3_onTheWay 49 = .ok (.iload 4, 2) := by decide +kernel
theorem dX3_onTheWay_51 : decode cX3_onTheWay 51 = .ok (.iload_n 2, 1) := by decide +kernel
theorem dX3_onTheWay_52 : decode cX3_onTheWay 52 = .ok (.invokevirtual 63, 3) := by decide +kernel
theorem dX3_onTheWay_55 : decode cX3_onTheWay 55 = .ok (.ifCond .eq 6, 3) := by decide +kernel
theorem dX3_onTheWay_58 : decode cX3_onTheWay 58 = .ok (.iinc 3 1, 3) := by decide +kernel
theorem dX3_onTheWay_61 : decode cX3_onTheWay 61 = .ok (.iinc 4 1, 3) := by decide +kernel
theorem dX3_onTheWay_64 : decode cX3_onTheWay 64 = .ok (.goto (-42), 3) := by decide +kernel
theorem dX3_onTheWay_67 : decode cX3_onTheWay 67 = .ok (.iload_n 3, 1) := by decide +kernel
theorem dX3_onTheWay_68 : decode cX3_onTheWay 68 = .ok (.ireturn, 1) := by decide +kernel
theorem dX3_isOut_0 : decode cX3_isOut 0 = .ok (.aload_n 0, 1) := by decide +kernel
theorem dX3_isOut_1 : decode cX3_isOut 1 = .ok (.iload_n 1, 1) := by decide +kernel
theorem dX3_isOut_2 : decode cX3_isOut 2 = .ok (.iload_n 2, 1) := by decide +kernel
theorem dX3_isOut_3 : decode cX3_isOut 3 = .ok (.invokevirtual 49, 3) := by decide +kernel
theorem dX3_isOut_6 : decode cX3_isOut 6 = .ok (.bipush (-2), 2) := by decide +kernel
theorem dX3_isOut_8 : decode cX3_isOut 8 = .ok (.if_icmp .ne 11, 3) := by decide +kernel
theorem dX3_isOut_11 : decode cX3_isOut 11 = .ok (.aload_n 0, 1) := by decide +kernel
theorem dX3_isOut_12 : decode cX3_isOut 12 = .ok (.iload_n 1, 1) := by decide +kernel
theorem dX3_isOut_13 : decode cX3_isOut 13 = .ok (.invokevirtual 41, 3) := by decide +kernel
theorem dX3_isOut_16 : decode cX3_isOut 16 = .ok (.ifCond .ne 5, 3) := by decide +kernel
theorem dX3_isOut_19 : decode cX3_isOut 19 = .ok (.iconst 0, 1) := by decide +kernel
theorem dX3_isOut_20 : decode cX3_isOut 20 = .ok (.ireturn, 1) := by decide +kernel
theorem dX3_isOut_21 : decode cX3_isOut 21 = .ok (.aload_n 0, 1) := by decide +kernel
theorem dX3_isOut_22 : decode cX3_isOut 22 = .ok (.iload_n 1, 1) := by decide +kernel
theorem dX3_isOut_23 : decode cX3_isOut 23 = .ok (.iload_n 2, 1) := by decide +kernel
theorem dX3_isOut_24 : decode cX3_isOut 24 = .ok (.invokevirtual 45, 3) := by decide +kernel
theorem dX3_isOut_27 : decode cX3_isOut 27 = .ok (.istore_n 3, 1) := by decide +kernel
theorem dX3_isOut_28 : decode cX3_isOut 28 = .ok (.aload_n 0, 1) := by decide +kernel
theorem dX3_isOut_29 : decode cX3_isOut 29 = .ok (.getfield 21, 3) := by decide +kernel
theorem dX3_isOut_32 : decode cX3_isOut 32 = .ok (.iload_n 1, 1) := by decide +kernel
theorem dX3_isOut_33 : decode cX3_isOut 33 = .ok (.baload, 1) := by decide +kernel
theorem dX3_isOut_34 : decode cX3_isOut 34 = .ok (.ifCond .eq 19, 3) := by decide +kernel
theorem dX3_isOut_37 : decode cX3_isOut 37 = .ok (.iload_n 3, 1) := by decide +kernel
theorem dX3_isOut_38 : decode cX3_isOut 38 = .ok (.bipush (-2), 2) := by decide +kernel
theorem dX3_isOut_40 : decode cX3_isOut 40 = .ok (.if_icmp .eq 17, 3) := by decide +kernel
theorem dX3_isOut_43 : decode cX3_isOut 43 = .ok (.iload_n 3, 1) := by decide +kernel
theorem dX3_isOut_44 : decode cX3_isOut 44 = .ok (.aload_n 0, 1) := by decide +kernel
theorem dX3_isOut_45 : decode cX3_isOut 45 = .ok (.getfield 35, 3) := by decide +kernel
theorem dX3_isOut_48 : decode cX3_isOut 48 = .ok (.iadd, 1) := by decide +kernel
theorem dX3_isOut_49 : decode cX3_isOut 49 = .ok (.iload_n 2, 1) := by decide +kernel
theorem dX3_isOut_50 : decode cX3_isOut 50 = .ok (.if_icmp .gt 7, 3) := by decide +kernel
theorem dX3_isOut_53 : decode cX3_isOut 53 = .ok (.iconst 1, 1) := by decide +kernel
theorem dX3_isOut_54 : decode cX3_isOut 54 = .ok (.goto 4, 3) := by decide +kernel
theorem dX3_isOut_57 : decode cX3_isOut 57 = .ok (.iconst 0, 1) := by decide +kernel
theorem dX3_isOut_58 : decode cX3_isOut 58 = .ok (.ireturn, 1) := by decide +kernel
theorem dX3_isAskOut_0 : decode cX3_isAskOut 0 = .ok (.aload_n 0, 1) := by decide +kernel
theorem dX3_isAskOut_1 : decode cX3_isAskOut 1 = .ok (.iload_n 1, 1) := by decide +kernel
theorem dX3_isAskOut_2 : decode cX3_isAskOut 2 = .ok (.iload_n 2, 1) := by decide +kernel
theorem dX3_isAskOut_3 : decode cX3_isAskOut 3 = .ok (.invokevirtual 45, 3) := by decide +kernel
theorem dX3_isAskOut_6 : decode cX3_isAskOut 6 = .ok (.istore_n 3, 1) := by decide +kernel
theorem dX3_isAskOut_7 : decode cX3_isAskOut 7 = .ok (.iload_n 3, 1) := by decide +kernel
theorem dX3_isAskOut_8 : decode cX3_isAskOut 8 = .ok (.bipush (-2), 2) := by decide +kernel
theorem dX3_isAskOut_10 : decode cX3_isAskOut 10 = .ok (.if_icmp .eq 17, 3) := by decide +kernel
theorem dX3_isAskOut_13 : decode cX3_isAskOut 13 = .ok (.iload_n 3, 1) := by decide +kernel
theorem dX3_isAskOut_14 : decode cX3_isAskOut 14 = .ok (.aload_n 0, 1) := by decide +kernel
theorem dX3_isAskOut_15 : decode cX3_isAskOut 15 = .ok (.getfield 35, 3) := by decide +kernel
theorem dX3_isAskOut_18 : decode cX3_isAskOut 18 = .ok (.iadd, 1) := by decide +kernel
theorem dX3_isAskOut_19 : decode cX3_isAskOut 19 = .ok (.iload_n 2, 1) := by decide +kernel
theorem dX3_isAskOut_20 : decode cX3_isAskOut 20 = .ok (.if_icmp .le 7, 3) := by decide +kernel
theorem dX3_isAskOut_23 : decode cX3_isAskOut 23 = .ok (.iconst 1, 1) := by decide +kernel
theorem dX3_isAskOut_24 : decode cX3_isAskOut 24 = .ok (.goto 4, 3) := by decide +kernel
theorem dX3_isAskOut_27 : decode cX3_isAskOut 27 = .ok (.iconst 0, 1) := by decide +kernel
theorem dX3_isAskOut_28 : decode cX3_isAskOut 28 = .ok (.ireturn, 1) := by decide +kernel
theorem dX3_accountsSent_0 : decode cX3_accountsSent 0 = .ok (.iload_n 1, 1) := by decide +kernel
theorem dX3_accountsSent_1 : decode cX3_accountsSent 1 = .ok (.invokestatic 66, 3) := by decide +kernel
theorem dX3_accountsSent_4 : decode cX3_accountsSent 4 = .ok (.aload_n 0, 1) := by decide +kernel
theorem dX3_accountsSent_5 : decode cX3_accountsSent 5 = .ok (.getfield 38, 3) := by decide +kernel
theorem dX3_accountsSent_8 : decode cX3_accountsSent 8 = .ok (.invokestatic 66, 3) := by decide +kernel
theorem dX3_accountsSent_11 : decode cX3_accountsSent 11 = .ok (.isub, 1) := by decide +kernel
theorem dX3_accountsSent_12 : decode cX3_accountsSent 12 = .ok (.ireturn, 1) := by decide +kernel
theorem dX3_accountsCome_0 : decode cX3_accountsCome 0 = .ok (.iconst 0, 1) := by decide +kernel
theorem dX3_accountsCome_1 : decode cX3_accountsCome 1 = .ok (.iload_n 1, 1) := by decide +kernel
theorem dX3_accountsCome_2 : decode cX3_accountsCome 2 = .ok (.aload_n 0, 1) := by decide +kernel
theorem dX3_accountsCome_3 : decode cX3_accountsCome 3 = .ok (.getfield 35, 3) := by decide +kernel
theorem dX3_accountsCome_6 : decode cX3_accountsCome 6 = .ok (.isub, 1) := by decide +kernel
theorem dX3_accountsCome_7 : decode cX3_accountsCome 7 = .ok (.iconst 1, 1) := by decide +kernel
theorem dX3_accountsCome_8 : decode cX3_accountsCome 8 = .ok (.iadd, 1) := by decide +kernel
theorem dX3_accountsCome_9 : decode cX3_accountsCome 9 = .ok (.invokestatic 66, 3) := by decide +kernel
theorem dX3_accountsCome_12 : decode cX3_accountsCome 12 = .ok (.aload_n 0, 1) := by decide +kernel
theorem dX3_accountsCome_13 : decode cX3_accountsCome 13 = .ok (.getfield 38, 3) := by decide +kernel
theorem dX3_accountsCome_16 : decode cX3_accountsCome 16 = .ok (.invokestatic 66, 3) := by decide +kernel
theorem dX3_accountsCome_19 : decode cX3_accountsCome 19 = .ok (.isub, 1) := by decide +kernel
theorem dX3_accountsCome_20 : decode cX3_accountsCome 20 = .ok (.invokestatic 69, 3) := by decide +kernel
theorem dX3_accountsCome_23 : decode cX3_accountsCome 23 = .ok (.ireturn, 1) := by decide +kernel
theorem dX3_stampsOf_0 : decode cX3_stampsOf 0 = .ok (.iload_n 1, 1) := by decide +kernel
theorem dX3_stampsOf_1 : decode cX3_stampsOf 1 = .ok (.ifCond .lt 21, 3) := by decide +kernel
theorem dX3_stampsOf_4 : decode cX3_stampsOf 4 = .ok (.iload_n 1, 1) := by decide +kernel
theorem dX3_stampsOf_5 : decode cX3_stampsOf 5 = .ok (.aload_n 0, 1) := by decide +kernel
theorem dX3_stampsOf_6 : decode cX3_stampsOf 6 = .ok (.getfield 13, 3) := by decide +kernel
theorem dX3_stampsOf_9 : decode cX3_stampsOf 9 = .ok (.arraylength, 1) := by decide +kernel
theorem dX3_stampsOf_10 : decode cX3_stampsOf 10 = .ok (.if_icmp .ge 12, 3) := by decide +kernel
theorem dX3_stampsOf_13 : decode cX3_stampsOf 13 = .ok (.aload_n 0, 1) := by decide +kernel
theorem dX3_stampsOf_14 : decode cX3_stampsOf 14 = .ok (.getfield 13, 3) := by decide +kernel
theorem dX3_stampsOf_17 : decode cX3_stampsOf 17 = .ok (.iload_n 1, 1) := by decide +kernel
theorem dX3_stampsOf_18 : decode cX3_stampsOf 18 = .ok (.iaload, 1) := by decide +kernel
theorem dX3_stampsOf_19 : decode cX3_stampsOf 19 = .ok (.goto 4, 3) := by decide +kernel
theorem dX3_stampsOf_22 : decode cX3_stampsOf 22 = .ok (.iconst 0, 1) := by decide +kernel
theorem dX3_stampsOf_23 : decode cX3_stampsOf 23 = .ok (.ireturn, 1) := by decide +kernel
theorem dX3_addStamps_0 : decode cX3_addStamps 0 = .ok (.iload_n 1, 1) := by decide +kernel
theorem dX3_addStamps_1 : decode cX3_addStamps 1 = .ok (.ifCond .lt 22, 3) := by decide +kernel
theorem dX3_addStamps_4 : decode cX3_addStamps 4 = .ok (.iload_n 1, 1) := by decide +kernel
theorem dX3_addStamps_5 : decode cX3_addStamps 5 = .ok (.aload_n 0, 1) := by decide +kernel
theorem dX3_addStamps_6 : decode cX3_addStamps 6 = .ok (.getfield 13, 3) := by decide +kernel
theorem dX3_addStamps_9 : decode cX3_addStamps 9 = .ok (.arraylength, 1) := by decide +kernel
theorem dX3_addStamps_10 : decode cX3_addStamps 10 = .ok (.if_icmp .ge 13, 3) := by decide +kernel
theorem dX3_addStamps_13 : decode cX3_addStamps 13 = .ok (.aload_n 0, 1) := by decide +kernel
theorem dX3_addStamps_14 : decode cX3_addStamps 14 = .ok (.getfield 13, 3) := by decide +kernel
theorem dX3_addStamps_17 : decode cX3_addStamps 17 = .ok (.iload_n 1, 1) := by decide +kernel
theorem dX3_addStamps_18 : decode cX3_addStamps 18 = .ok (.dup2, 1) := by decide +kernel
theorem dX3_addStamps_19 : decode cX3_addStamps 19 = .ok (.iaload, 1) := by decide +kernel
theorem dX3_addStamps_20 : decode cX3_addStamps 20 = .ok (.iload_n 2, 1) := by decide +kernel
theorem dX3_addStamps_21 : decode cX3_addStamps 21 = .ok (.iadd, 1) := by decide +kernel
theorem dX3_addStamps_22 : decode cX3_addStamps 22 = .ok (.iastore, 1) := by decide +kernel
theorem dX3_addStamps_23 : decode cX3_addStamps 23 = .ok (.return_, 1) := by decide +kernel
theorem dX3_book_0 : decode cX3_book 0 = .ok (.aload_n 0, 1) := by decide +kernel
theorem dX3_book_1 : decode cX3_book 1 = .ok (.dup, 1) := by decide +kernel
theorem dX3_book_2 : decode cX3_book 2 = .ok (.getfield 29, 3) := by decide +kernel
theorem dX3_book_5 : decode cX3_book 5 = .ok (.iload_n 1, 1) := by decide +kernel
theorem dX3_book_6 : decode cX3_book 6 = .ok (.iadd, 1) := by decide +kernel
theorem dX3_book_7 : decode cX3_book 7 = .ok (.putfield 29, 3) := by decide +kernel
theorem dX3_book_10 : decode cX3_book 10 = .ok (.aload_n 0, 1) := by decide +kernel
theorem dX3_book_11 : decode cX3_book 11 = .ok (.dup, 1) := by decide +kernel
theorem dX3_book_12 : decode cX3_book 12 = .ok (.getfield 32, 3) := by decide +kernel
theorem dX3_book_15 : decode cX3_book 15 = .ok (.iconst 1, 1) := by decide +kernel
theorem dX3_book_16 : decode cX3_book 16 = .ok (.iadd, 1) := by decide +kernel
theorem dX3_book_17 : decode cX3_book 17 = .ok (.putfield 32, 3) := by decide +kernel
theorem dX3_book_20 : decode cX3_book 20 = .ok (.iconst 0, 1) := by decide +kernel
theorem dX3_book_21 : decode cX3_book 21 = .ok (.istore_n 3, 1) := by decide +kernel
theorem dX3_book_22 : decode cX3_book 22 = .ok (.iload_n 3, 1) := by decide +kernel
theorem dX3_book_23 : decode cX3_book 23 = .ok (.aload_n 2, 1) := by decide +kernel
theorem dX3_book_24 : decode cX3_book 24 = .ok (.arraylength, 1) := by decide +kernel
theorem dX3_book_25 : decode cX3_book 25 = .ok (.if_icmp .ge 18, 3) := by decide +kernel
theorem dX3_book_28 : decode cX3_book 28 = .ok (.aload_n 0, 1) := by decide +kernel
theorem dX3_book_29 : decode cX3_book 29 = .ok (.iload_n 3, 1) := by decide +kernel
theorem dX3_book_30 : decode cX3_book 30 = .ok (.aload_n 2, 1) := by decide +kernel
theorem dX3_book_31 : decode cX3_book 31 = .ok (.iload_n 3, 1) := by decide +kernel
theorem dX3_book_32 : decode cX3_book 32 = .ok (.iaload, 1) := by decide +kernel
theorem dX3_book_33 : decode cX3_book 33 = .ok (.ineg, 1) := by decide +kernel
theorem dX3_book_34 : decode cX3_book 34 = .ok (.invokevirtual 74, 3) := by decide +kernel
theorem dX3_book_37 : decode cX3_book 37 = .ok (.iinc 3 1, 3) := by decide +kernel
theorem dX3_book_40 : decode cX3_book 40 = .ok (.goto (-18), 3) := by decide +kernel
theorem dX3_book_43 : decode cX3_book 43 = .ok (.return_, 1) := by decide +kernel
theorem dX4_init_0 : decode cX4_init 0 = .ok (.aload_n 0, 1) := by decide +kernel
theorem dX4_init_1 : decode cX4_init 1 = .ok (.invokespecial 3, 3) := by decide +kernel
theorem dX4_init_4 : decode cX4_init 4 = .ok (.aload_n 0, 1) := by decide +kernel
theorem dX4_init_5 : decode cX4_init 5 = .ok (.iconst 0, 1) := by decide +kernel
theorem dX4_init_6 : decode cX4_init 6 = .ok (.putfield 9, 3) := by decide +kernel
theorem dX4_init_9 : decode cX4_init 9 = .ok (.aload_n 0, 1) := by decide +kernel
theorem dX4_init_10 : decode cX4_init 10 = .ok (.iconst 0, 1) := by decide +kernel
theorem dX4_init_11 : decode cX4_init 11 = .ok (.putfield 15, 3) := by decide +kernel
theorem dX4_init_14 : decode cX4_init 14 = .ok (.aload_n 0, 1) := by decide +kernel
theorem dX4_init_15 : decode cX4_init 15 = .ok (.iconst 0, 1) := by decide +kernel
theorem dX4_init_16 : decode cX4_init 16 = .ok (.putfield 18, 3) := by decide +kernel
theorem dX4_init_19 : decode cX4_init 19 = .ok (.aload_n 0, 1) := by decide +kernel
theorem dX4_init_20 : decode cX4_init 20 = .ok (.bipush 13, 2) := by decide +kernel
theorem dX4_init_22 : decode cX4_init 22 = .ok (.putfield 21, 3) := by decide +kernel
theorem dX4_init_25 : decode cX4_init 25 = .ok (.aload_n 0, 1) := by decide +kernel
theorem dX4_init_26 : decode cX4_init 26 = .ok (.iconst 0, 1) := by decide +kernel
theorem dX4_init_27 : decode cX4_init 27 = .ok (.putfield 24, 3) := by decide +kernel
theorem dX4_init_30 : decode cX4_init 30 = .ok (.aload_n 0, 1) := by decide +kernel
theorem dX4_init_31 : decode cX4_init 31 = .ok (.aload_n 1, 1) := by decide +kernel
theorem dX4_init_32 : decode cX4_init 32 = .ok (.putfield 27, 3) := by decide +kernel
theorem dX4_init_35 : decode cX4_init 35 = .ok (.return_, 1) := by decide +kernel
theorem dX4_read_0 : decode cX4_read 0 = .ok (.aload_n 0, 1) := by decide +kernel
theorem dX4_read_1 : decode cX4_read 1 = .ok (.iconst 0, 1) := by decide +kernel
theorem dX4_read_2 : decode cX4_read 2 = .ok (.putfield 9, 3) := by decide +kernel
theorem dX4_read_5 : decode cX4_read 5 = .ok (.aload_n 0, 1) := by decide +kernel
theorem dX4_read_6 : decode cX4_read 6 = .ok (.iconst 0, 1) := by decide +kernel
theorem dX4_read_7 : decode cX4_read 7 = .ok (.putfield 18, 3) := by decide +kernel
theorem dX4_read_10 : decode cX4_read 10 = .ok (.aload_n 0, 1) := by decide +kernel
theorem dX4_read_11 : decode cX4_read 11 = .ok (.bipush 13, 2) := by decide +kernel
theorem dX4_read_13 : decode cX4_read 13 = .ok (.putfield 21, 3) := by decide +kernel
theorem dX4_read_16 : decode cX4_read 16 = .ok (.aload_n 0, 1) := by decide +kernel
theorem dX4_read_17 : decode cX4_read 17 = .ok (.bipush 13, 2) := by decide +kernel
theorem dX4_read_19 : decode cX4_read 19 = .ok (.invokevirtual 31, 3) := by decide +kernel
theorem dX4_read_22 : decode cX4_read 22 = .ok (.pop, 1) := by decide +kernel
theorem dX4_read_23 : decode cX4_read 23 = .ok (.bipush 12, 2) := by decide +kernel
theorem dX4_read_25 : decode cX4_read 25 = .ok (.anewarray 35, 3) := by decide +kernel
theorem dX4_read_28 : decode cX4_read 28 = .ok (.astore_n 1, 1) := by decide +kernel
theorem dX4_read_29 : decode cX4_read 29 = .ok (.iconst 0, 1) := by decide +kernel
theorem dX4_read_30 : decode cX4_read 30 = .ok (.istore_n 2, 1) := by decide +kernel
theorem dX4_read_31 : decode cX4_read 31 = .ok (.iload_n 2, 1) := by decide +kernel
theorem dX4_read_32 : decode cX4_read 32 = .ok (.bipush 12, 2) := by decide +kernel
theorem dX4_read_34 : decode cX4_read 34 = .ok (.if_icmp .gt 37, 3) := by decide +kernel
theorem dX4_read_37 : decode cX4_read 37 = .ok (.aload_n 0, 1) := by decide +kernel
theorem dX4_read_38 : decode cX4_read 38 = .ok (.iload_n 2, 1) := by decide +kernel
theorem dX4_read_39 : decode cX4_read 39 = .ok (.invokevirtual 37, 3) := by decide +kernel
theorem dX4_read_42 : decode cX4_read 42 = .ok (.astore_n 3, 1) := by decide +kernel
theorem dX4_read_43 : decode cX4_read 43 = .ok (.iload_n 2, 1) := by decide +kernel
theorem dX4_read_44 : decode cX4_read 44 = .ok (.aload_n 1, 1) := by decide +kernel
theorem dX4_read_45 : decode cX4_read 45 = .ok (.arraylength, 1) := by decide +kernel
theorem dX4_read_46 : decode cX4_read 46 = .ok (.if_icmp .ge 7, 3) := by decide +kernel
theorem dX4_read_49 : decode cX4_read 49 = .ok (.aload_n 1, 1) := by decide +kernel
theorem dX4_read_50 : decode cX4_read 50 = .ok (.iload_n 2, 1) := by decide +kernel
theorem dX4_read_51 : decode cX4_read 51 = .ok (.aload_n 3, 1) := by decide +kernel
theorem dX4_read_52 : decode cX4_read 52 = .ok (.aastore, 1) := by decide +kernel
theorem dX4_read_53 : decode cX4_read 53 = .ok (.aload_n 0, 1) := by decide +kernel
theorem dX4_read_54 : decode cX4_read 54 = .ok (.bipush 59, 2) := by decide +kernel
theorem dX4_read_56 : decode cX4_read 56 = .ok (.invokevirtual 31, 3) := by decide +kernel
theorem dX4_read_59 : decode cX4_read 59 = .ok (.ifCond .ne 6, 3) := by decide +kernel
theorem dX4_read_62 : decode cX4_read 62 = .ok (.goto 9, 3) := by decide +kernel
theorem dX4_read_65 : decode cX4_read 65 = .ok (.iinc 2 1, 3) := by decide +kernel
theorem dX4_read_68 : decode cX4_read 68 = .ok (.goto (-37), 3) := by decide +kernel
theorem dX4_read_71 : decode cX4_read 71 = .ok (.aload_n 0, 1) := by decide +kernel
theorem dX4_read_72 : decode cX4_read 72 = .ok (.getfield 21, 3) := by decide +kernel
theorem dX4_read_75 : decode cX4_read 75 = .ok (.ifCond .eq 8, 3) := by decide +kernel
theorem dX4_read_78 : decode cX4_read 78 = .ok (.aload_n 0, 1) := by decide +kernel
theorem dX4_read_79 : decode cX4_read 79 = .ok (.iconst 1, 1) := by decide +kernel
theorem dX4_read_80 : decode cX4_read 80 = .ok (.invokevirtual 41, 3) := by decide +kernel
theorem dX4_read_83 : decode cX4_read 83 = .ok (.aload_n 0, 1) := by decide +kernel
theorem dX4_read_84 : decode cX4_read 84 = .ok (.getfield 9, 3) := by decide +kernel
theorem dX4_read_87 : decode cX4_read 87 = .ok (.ifCond .ne 7, 3) := by decide +kernel
theorem dX4_read_90 : decode cX4_read 90 = .ok (.aload_n 1, 1) := by decide +kernel
theorem dX4_read_91 : decode cX4_read 91 = .ok (.goto 4, 3) := by decide +kernel
theorem dX4_read_94 : decode cX4_read 94 = .ok (.aconst_null, 1) := by decide +kernel
theorem dX4_read_95 : decode cX4_read 95 = .ok (.areturn, 1) := by decide +kernel
theorem dX4_readLine_0 : decode cX4_readLine 0 = .ok (.aload_n 0, 1) := by decide +kernel
theorem dX4_readLine_1 : decode cX4_readLine 1 = .ok (.getfield 21, 3) := by decide +kernel
theorem dX4_readLine_4 : decode cX4_readLine 4 = .ok (.iconst 4, 1) := by decide +kernel
theorem dX4_readLine_5 : decode cX4_readLine 5 = .ok (.if_icmp .ne 14, 3) := by decide +kernel
theorem dX4_readLine_8 : decode cX4_readLine 8 = .ok (.iload_n 1, 1) := by decide +kernel
theorem dX4_readLine_9 : decode cX4_readLine 9 = .ok (.bipush 12, 2) := by decide +kernel
theorem dX4_readLine_11 : decode cX4_readLine 11 = .ok (.if_icmp .lt 8, 3) := by decide +kernel
theorem dX4_readLine_14 : decode cX4_readLine 14 = .ok (.aload_n 0, 1) := by decide +kernel
theorem dX4_readLine_15 : decode cX4_readLine 15 = .ok (.iconst 4, 1) := by decide +kernel
theorem dX4_readLine_16 : decode cX4_readLine 16 = .ok (.invokevirtual 41, 3) := by decide +kernel
theorem dX4_readLine_19 : decode cX4_readLine 19 = .ok (.aload_n 0, 1) := by decide +kernel
theorem dX4_readLine_20 : decode cX4_readLine 20 = .ok (.iconst 4, 1) := by decide +kernel
theorem dX4_readLine_21 : decode cX4_readLine 21 = .ok (.invokevirtual 45, 3) := by decide +kernel
theorem dX4_readLine_24 : decode cX4_readLine 24 = .ok (.pop, 1) := by decide +kernel
theorem dX4_readLine_25 : decode cX4_readLine 25 = .ok (.aload_n 0, 1) := by decide +kernel
theorem dX4_readLine_26 : decode cX4_readLine 26 = .ok (.getfield 21, 3) := by decide +kernel
theorem dX4_readLine_29 : decode cX4_readLine 29 = .ok (.iconst 2, 1) := by decide +kernel
theorem dX4_readLine_30 : decode cX4_readLine 30 = .ok (.if_icmp .ne 17, 3) := by decide +kernel
theorem dX4_readLine_33 : decode cX4_readLine 33 = .ok (.aload_n 0, 1) := by decide +kernel
theorem dX4_readLine_34 : decode cX4_readLine 34 = .ok (.getfield 24, 3) := by decide +kernel
theorem dX4_readLine_37 : decode cX4_readLine 37 = .ok (.bipush 9, 2) := by decide +kernel
theorem dX4_readLine_39 : decode cX4_readLine 39 = .ok (.if_icmp .le 8, 3) := by decide +kernel
theorem dX4_readLine_42 : decode cX4_readLine 42 = .ok (.aload_n 0, 1) := by decide +kernel
theorem dX4_readLine_43 : decode cX4_readLine 43 = .ok (.iconst 3, 1) := by decide +kernel
theorem dX4_readLine_44 : decode cX4_readLine 44 = .ok (.invokevirtual 41, 3) := by decide +kernel
theorem dX4_readLine_47 : decode cX4_readLine 47 = .ok (.new 35, 3) := by decide +kernel
theorem dX4_readLine_50 : decode cX4_readLine 50 = .ok (.dup, 1) := by decide +kernel
theorem dX4_readLine_51 : decode cX4_readLine 51 = .ok (.aload_n 0, 1) := by decide +kernel
theorem dX4_readLine_52 : decode cX4_readLine 52 = .ok (.iconst 2, 1) := by decide +kernel
theorem dX4_readLine_53 : decode cX4_readLine 53 = .ok (.invokevirtual 45, 3) := by decide +kernel
theorem dX4_readLine_56 : decode cX4_readLine 56 = .ok (.invokespecial 49, 3) := by decide +kernel
theorem dX4_readLine_59 : decode cX4_readLine 59 = .ok (.astore_n 2, 1) := by decide +kernel
theorem dX4_readLine_60 : decode cX4_readLine 60 = .ok (.aload_n 0, 1) := by decide +kernel
theorem dX4_readLine_61 : decode cX4_readLine 61 = .ok (.iconst 5, 1) := by decide +kernel
theorem dX4_readLine_62 : decode cX4_readLine 62 = .ok (.invokevirtual 31, 3) := by decide +kernel
theorem dX4_readLine_65 : decode cX4_readLine 65 = .ok (.ifCond .eq 8, 3) := by decide +kernel
theorem dX4_readLine_68 : decode cX4_readLine 68 = .ok (.aload_n 0, 1) := by decide +kernel
theorem dX4_readLine_69 : decode cX4_readLine 69 = .ok (.aload_n 2, 1) := by decide +kernel
theorem dX4_readLine_70 : decode cX4_readLine 70 = .ok (.invokevirtual 51, 3) := by decide +kernel
theorem dX4_readLine_73 : decode cX4_readLine 73 = .ok (.aload_n 0, 1) := by decide +kernel
theorem dX4_readLine_74 : decode cX4_readLine 74 = .ok (.bipush 7, 2) := by decide +kernel
theorem dX4_readLine_76 : decode cX4_readLine 76 = .ok (.invokevirtual 45, 3) := by decide +kernel
theorem dX4_readLine_79 : decode cX4_readLine 79 = .ok (.pop, 1) := by decide +kernel
theorem dX4_readLine_80 : decode cX4_readLine 80 = .ok (.aload_n 0, 1) := by decide +kernel
theorem dX4_readLine_81 : decode cX4_readLine 81 = .ok (.aload_n 2, 1) := by decide +kernel
theorem dX4_readLine_82 : decode cX4_readLine 82 = .ok (.invokevirtual 55, 3) := by decide +kernel
theorem dX4_readLine_85 : decode cX4_readLine 85 = .ok (.aload_n 2, 1) := by decide +kernel
theorem dX4_readLine_86 : decode cX4_readLine 86 = .ok (.areturn, 1) := by decide +kernel
theorem dX4_readTests_0 : decode cX4_readTests 0 = .ok (.iconst 0, 1) := by decide +kernel
theorem dX4_readTests_1 : decode cX4_readTests 1 = .ok (.istore_n 2, 1) := by decide +kernel
theorem dX4_readTests_2 : decode cX4_readTests 2 = .ok (.iload_n 2, 1) := by decide +kernel
theorem dX4_readTests_3 : decode cX4_readTests 3 = .ok (.iconst 4, 1) := by decide +kernel
theorem dX4_readTests_4 : decode cX4_readTests 4 = .ok (.if_icmp .gt 43, 3) := by decide +kernel
theorem dX4_readTests_7 : decode cX4_readTests 7 = .ok (.aload_n 0, 1) := by decide +kernel
theorem dX4_readTests_8 : decode cX4_readTests 8 = .ok (.iload_n 2, 1) := by decide +kernel
theorem dX4_readTests_9 : decode cX4_readTests 9 = .ok (.invokevirtual 58, 3) := by decide +kernel
theorem dX4_readTests_12 : decode cX4_readTests 12 = .ok (.astore_n 3, 1) := by decide +kernel
theorem dX4_readTests_13 : decode cX4_readTests 13 = .ok (.iload_n 2, 1) := by decide +kernel
theorem dX4_readTests_14 : decode cX4_readTests 14 = .ok (.aload_n 1, 1) := by decide +kernel
theorem dX4_readTests_15 : decode cX4_readTests 15 = .ok (.getfield 62, 3) := by decide +kernel
theorem dX4_readTests_18 : decode cX4_readTests 18 = .ok (.arraylength, 1) := by decide +kernel
theorem dX4_readTests_19 : decode cX4_readTests 19 = .ok (.if_icmp .ge 10, 3) := by decide +kernel
theorem dX4_readTests_22 : decode cX4_readTests 22 = .ok (.aload_n 1, 1) := by decide +kernel
theorem dX4_readTests_23 : decode cX4_readTests 23 = .ok (.getfield 62, 3) := by decide +kernel
theorem dX4_readTests_26 : decode cX4_readTests 26 = .ok (.iload_n 2, 1) := by decide +kernel
theorem dX4_readTests_27 : decode cX4_readTests 27 = .ok (.aload_n 3, 1) := by decide +kernel
theorem dX4_readTests_28 : decode cX4_readTests 28 = .ok (.aastore, 1) := by decide +kernel
theorem dX4_readTests_29 : decode cX4_readTests 29 = .ok (.aload_n 0, 1) := by decide +kernel
theorem dX4_readTests_30 : decode cX4_readTests 30 = .ok (.bipush 6, 2) := by decide +kernel
theorem dX4_readTests_32 : decode cX4_readTests 32 = .ok (.invokevirtual 31, 3) := by decide +kernel
theorem dX4_readTests_35 : decode cX4_readTests 35 = .ok (.ifCond .ne 6, 3) := by decide +kernel
theorem dX4_readTests_38 : decode cX4_readTests 38 = .ok (.goto 9, 3) := by decide +kernel
theorem dX4_readTests_41 : decode cX4_readTests 41 = .ok (.iinc 2 1, 3) := by decide +kernel
theorem dX4_readTests_44 : decode cX4_readTests 44 = .ok (.goto (-42), 3) := by decide +kernel
theorem dX4_readTests_47 : decode cX4_readTests 47 = .ok (.return_, 1) := by decide +kernel
theorem dX4_readTest_0 : decode cX4_readTest 0 = .ok (.aload_n 0, 1) := by decide +kernel
theorem dX4_readTest_1 : decode cX4_readTest 1 = .ok (.getfield 21, 3) := by decide +kernel
theorem dX4_readTest_4 : decode cX4_readTest 4 = .ok (.invokestatic 66, 3) := by decide +kernel
theorem dX4_readTest_7 : decode cX4_readTest 7 = .ok (.ifCond .eq 13, 3) := by decide +kernel
theorem dX4_readTest_10 : decode cX4_readTest 10 = .ok (.iload_n 1, 1) := by decide +kernel
theorem dX4_readTest_11 : decode cX4_readTest 11 = .ok (.iconst 4, 1) := by decide +kernel
theorem dX4_readTest_12 : decode cX4_readTest 12 = .ok (.if_icmp .lt 8, 3) := by decide +kernel
theorem dX4_readTest_15 : decode cX4_readTest 15 = .ok (.aload_n 0, 1) := by decide +kernel
theorem dX4_readTest_16 : decode cX4_readTest 16 = .ok (.iconst 4, 1) := by decide +kernel
theorem dX4_readTest_17 : decode cX4_readTest 17 = .ok (.invokevirtual 41, 3) := by decide +kernel
theorem dX4_readTest_20 : decode cX4_readTest 20 = .ok (.aload_n 0, 1) := by decide +kernel
theorem dX4_readTest_21 : decode cX4_readTest 21 = .ok (.invokevirtual 69, 3) := by decide +kernel
theorem dX4_readTest_24 : decode cX4_readTest 24 = .ok (.istore_n 2, 1) := by decide +kernel
theorem dX4_readTest_25 : decode cX4_readTest 25 = .ok (.aload_n 0, 1) := by decide +kernel
theorem dX4_readTest_26 : decode cX4_readTest 26 = .ok (.getfield 21, 3) := by decide +kernel
theorem dX4_readTest_29 : decode cX4_readTest 29 = .ok (.istore_n 3, 1) := by decide +kernel
theorem dX4_readTest_30 : decode cX4_readTest 30 = .ok (.iload_n 3, 1) := by decide +kernel
theorem dX4_readTest_31 : decode cX4_readTest 31 = .ok (.bipush 60, 2) := by decide +kernel
theorem dX4_readTest_33 : decode cX4_readTest 33 = .ok (.if_icmp .eq 20, 3) := by decide +kernel
theorem dX4_readTest_36 : decode cX4_readTest 36 = .ok (.iload_n 3, 1) := by decide +kernel
theorem dX4_readTest_37 : decode cX4_readTest 37 = .ok (.bipush 62, 2) := by decide +kernel
theorem dX4_readTest_39 : decode cX4_readTest 39 = .ok (.if_icmp .eq 14, 3) := by decide +kernel
theorem dX4_readTest_42 : decode cX4_readTest 42 = .ok (.iload_n 3, 1) := by decide +kernel
theorem dX4_readTest_43 : decode cX4_readTest 43 = .ok (.bipush 61, 2) := by decide +kernel
theorem dX4_readTest_45 : decode cX4_readTest 45 = .ok (.if_icmp .eq 8, 3) := by decide +kernel
theorem dX4_readTest_48 : decode cX4_readTest 48 = .ok (.aload_n 0, 1) := by decide +kernel
theorem dX4_readTest_49 : decode cX4_readTest 49 = .ok (.iconst 1, 1) := by decide +kernel
theorem dX4_readTest_50 : decode cX4_readTest 50 = .ok (.invokevirtual 41, 3) := by decide +kernel
theorem dX4_readTest_53 : decode cX4_readTest 53 = .ok (.aload_n 0, 1) := by decide +kernel
theorem dX4_readTest_54 : decode cX4_readTest 54 = .ok (.iload_n 3, 1) := by decide +kernel
theorem dX4_readTest_55 : decode cX4_readTest 55 = .ok (.invokevirtual 31, 3) := by decide +kernel
theorem dX4_readTest_58 : decode cX4_readTest 58 = .ok (.pop, 1) := by decide +kernel
theorem dX4_readTest_59 : decode cX4_readTest 59 = .ok (.new 73, 3) := by decide +kernel
theorem dX4_readTest_62 : decode cX4_readTest 62 = .ok (.dup, 1) := by decide +kernel
theorem dX4_readTest_63 : decode cX4_readTest 63 = .ok (.iload_n 2, 1) := by decide +kernel
theorem dX4_readTest_64 : decode cX4_readTest 64 = .ok (.iload_n 3, 1) := by decide +kernel
theorem dX4_readTest_65 : decode cX4_readTest 65 = .ok (.aload_n 0, 1) := by decide +kernel
theorem dX4_readTest_66 : decode cX4_readTest 66 = .ok (.iconst 2, 1) := by decide +kernel
theorem dX4_readTest_67 : decode cX4_readTest 67 = .ok (.invokevirtual 45, 3) := by decide +kernel
theorem dX4_readTest_70 : decode cX4_readTest 70 = .ok (.invokespecial 75, 3) := by decide +kernel
theorem dX4_readTest_73 : decode cX4_readTest 73 = .ok (.areturn, 1) := by decide +kernel
theorem dX4_readTerms_0 : decode cX4_readTerms 0 = .ok (.iconst 0, 1) := by decide +kernel
theorem dX4_readTerms_1 : decode cX4_readTerms 1 = .ok (.istore_n 2, 1) := by decide +kernel
theorem dX4_readTerms_2 : decode cX4_readTerms 2 = .ok (.iload_n 2, 1) := by decide +kernel
theorem dX4_readTerms_3 : decode cX4_readTerms 3 = .ok (.iconst 4, 1) := by decide +kernel
theorem dX4_readTerms_4 : decode cX4_readTerms 4 = .ok (.if_icmp .gt 43, 3) := by decide +kernel
theorem dX4_readTerms_7 : decode cX4_readTerms 7 = .ok (.aload_n 0, 1) := by decide +kernel
theorem dX4_readTerms_8 : decode cX4_readTerms 8 = .ok (.iload_n 2, 1) := by decide +kernel
theorem dX4_readTerms_9 : decode cX4_readTerms 9 = .ok (.invokevirtual 78, 3) := by decide +kernel
theorem dX4_readTerms_12 : decode cX4_readTerms 12 = .ok (.astore_n 3, 1) := by decide +kernel
theorem dX4_readTerms_13 : decode cX4_readTerms 13 = .ok (.iload_n 2, 1) := by decide +kernel
theorem dX4_readTerms_14 : decode cX4_readTerms 14 = .ok (.aload_n 1, 1) := by decide +kernel
theorem dX4_readTerms_15 : decode cX4_readTerms 15 = .ok (.getfield 82, 3) := by decide +kernel
theorem dX4_readTerms_18 : decode cX4_readTerms 18 = .ok (.arraylength, 1) := by decide +kernel
theorem dX4_readTerms_19 : decode cX4_readTerms 19 = .ok (.if_icmp .ge 10, 3) := by decide +kernel
theorem dX4_readTerms_22 : decode cX4_readTerms 22 = .ok (.aload_n 1, 1) := by decide +kernel
theorem dX4_readTerms_23 : decode cX4_readTerms 23 = .ok (.getfield 82, 3) := by decide +kernel
theorem dX4_readTerms_26 : decode cX4_readTerms 26 = .ok (.iload_n 2, 1) := by decide +kernel
theorem dX4_readTerms_27 : decode cX4_readTerms 27 = .ok (.aload_n 3, 1) := by decide +kernel
theorem dX4_readTerms_28 : decode cX4_readTerms 28 = .ok (.aastore, 1) := by decide +kernel
theorem dX4_readTerms_29 : decode cX4_readTerms 29 = .ok (.aload_n 0, 1) := by decide +kernel
theorem dX4_readTerms_30 : decode cX4_readTerms 30 = .ok (.bipush 43, 2) := by decide +kernel
theorem dX4_readTerms_32 : decode cX4_readTerms 32 = .ok (.invokevirtual 31, 3) := by decide +kernel
theorem dX4_readTerms_35 : decode cX4_readTerms 35 = .ok (.ifCond .ne 6, 3) := by decide +kernel
theorem dX4_readTerms_38 : decode cX4_readTerms 38 = .ok (.goto 9, 3) := by decide +kernel
theorem dX4_readTerms_41 : decode cX4_readTerms 41 = .ok (.iinc 2 1, 3) := by decide +kernel
theorem dX4_readTerms_44 : decode cX4_readTerms 44 = .ok (.goto (-42), 3) := by decide +kernel
theorem dX4_readTerms_47 : decode cX4_readTerms 47 = .ok (.return_, 1) := by decide +kernel
theorem dX4_readTerm_0 : decode cX4_readTerm 0 = .ok (.aload_n 0, 1) := by decide +kernel
theorem dX4_readTerm_1 : decode cX4_readTerm 1 = .ok (.getfield 21, 3) := by decide +kernel
theorem dX4_readTerm_4 : decode cX4_readTerm 4 = .ok (.iconst 2, 1) := by decide +kernel
theorem dX4_readTerm_5 : decode cX4_readTerm 5 = .ok (.if_icmp .ne 7, 3) := by decide +kernel
theorem dX4_readTerm_8 : decode cX4_readTerm 8 = .ok (.iconst 1, 1) := by decide +kernel
theorem dX4_readTerm_9 : decode cX4_readTerm 9 = .ok (.goto 4, 3) := by decide +kernel
theorem dX4_readTerm_12 : decode cX4_readTerm 12 = .ok (.iconst 0, 1) := by decide +kernel
theorem dX4_readTerm_13 : decode cX4_readTerm 13 = .ok (.istore_n 2, 1) := by decide +kernel
theorem dX4_readTerm_14 : decode cX4_readTerm 14 = .ok (.iload_n 2, 1) := by decide +kernel
theorem dX4_readTerm_15 : decode cX4_readTerm 15 = .ok (.ifCond .ne 13, 3) := by decide +kernel
theorem dX4_readTerm_18 : decode cX4_readTerm 18 = .ok (.aload_n 0, 1) := by decide +kernel
theorem dX4_readTerm_19 : decode cX4_readTerm 19 = .ok (.getfield 21, 3) := by decide +kernel
theorem dX4_readTerm_22 : decode cX4_readTerm 22 = .ok (.invokestatic 66, 3) := by decide +kernel
theorem dX4_readTerm_25 : decode cX4_readTerm 25 = .ok (.ifCond .eq 13, 3) := by decide +kernel
theorem dX4_readTerm_28 : decode cX4_readTerm 28 = .ok (.iload_n 1, 1) := by decide +kernel
theorem dX4_readTerm_29 : decode cX4_readTerm 29 = .ok (.iconst 4, 1) := by decide +kernel
theorem dX4_readTerm_30 : decode cX4_readTerm 30 = .ok (.if_icmp .lt 8, 3) := by decide +kernel
theorem dX4_readTerm_33 : decode cX4_readTerm 33 = .ok (.aload_n 0, 1) := by decide +kernel
theorem dX4_readTerm_34 : decode cX4_readTerm 34 = .ok (.iconst 4, 1) := by decide +kernel
theorem dX4_readTerm_35 : decode cX4_readTerm 35 = .ok (.invokevirtual 41, 3) := by decide +kernel
theorem dX4_readTerm_38 : decode cX4_readTerm 38 = .ok (.iload_n 2, 1) := by decide +kernel
theorem dX4_readTerm_39 : decode cX4_readTerm 39 = .ok (.ifCond .eq 11, 3) := by decide +kernel
theorem dX4_readTerm_42 : decode cX4_readTerm 42 = .ok (.aload_n 0, 1) := by decide +kernel
theorem dX4_readTerm_43 : decode cX4_readTerm 43 = .ok (.iconst 2, 1) := by decide +kernel
theorem dX4_readTerm_44 : decode cX4_readTerm 44 = .ok (.invokevirtual 45, 3) := by decide +kernel
theorem dX4_readTerm_47 : decode cX4_readTerm 47 = .ok (.goto 4, 3) := by decide +kernel
theorem dX4_readTerm_50 : decode cX4_readTerm 50 = .ok (.iconst 1, 1) := by decide +kernel
theorem dX4_readTerm_51 : decode cX4_readTerm 51 = .ok (.istore_n 3, 1) := by decide +kernel
theorem dX4_readTerm_52 : decode cX4_readTerm 52 = .ok (.iload_n 2, 1) := by decide +kernel
theorem dX4_readTerm_53 : decode cX4_readTerm 53 = .ok (.ifCond .eq 24, 3) := by decide +kernel
theorem dX4_readTerm_56 : decode cX4_readTerm 56 = .ok (.aload_n 0, 1) := by decide +kernel
theorem dX4_readTerm_57 : decode cX4_readTerm 57 = .ok (.bipush 42, 2) := by decide +kernel
theorem dX4_readTerm_59 : decode cX4_readTerm 59 = .ok (.invokevirtual 31, 3) := by decide +kernel
theorem dX4_readTerm_62 : decode cX4_readTerm 62 = .ok (.ifCond .ne 15, 3) := by decide +kernel
theorem dX4_readTerm_65 : decode cX4_readTerm 65 = .ok (.new 86, 3) := by decide +kernel
theorem dX4_readTerm_68 : decode cX4_readTerm 68 = .ok (.dup, 1) := by decide +kernel
theorem dX4_readTerm_69 : decode cX4_readTerm 69 = .ok (.iload_n 3, 1) := by decide +kernel
theorem dX4_readTerm_70 : decode cX4_readTerm 70 = .ok (.bipush 12, 2) := by decide +kernel
theorem dX4_readTerm_72 : decode cX4_readTerm 72 = .ok (.iconst 1, 1) := by decide +kernel
theorem dX4_readTerm_73 : decode cX4_readTerm 73 = .ok (.invokespecial 88, 3) := by decide +kernel
theorem dX4_readTerm_76 : decode cX4_readTerm 76 = .ok (.areturn, 1) := by decide +kernel
theorem dX4_readTerm_77 : decode cX4_readTerm 77 = .ok (.aload_n 0, 1) := by decide +kernel
theorem dX4_readTerm_78 : decode cX4_readTerm 78 = .ok (.invokevirtual 69, 3) := by decide +kernel
theorem dX4_readTerm_81 : decode cX4_readTerm 81 = .ok (.istore 4, 2) := by decide +kernel
theorem dX4_readTerm_83 : decode cX4_readTerm 83 = .ok (.aload_n 0, 1) := by decide +kernel
theorem dX4_readTerm_84 : decode cX4_readTerm 84 = .ok (.bipush 47, 2) := by decide +kernel
theorem dX4_readTerm_86 : decode cX4_readTerm 86 = .ok (.invokevirtual 31, 3) := by decide +kernel
theorem dX4_readTerm_89 : decode cX4_readTerm 89 = .ok (.ifCond .ne 15, 3) := by decide +kernel
theorem dX4_readTerm_92 : decode cX4_readTerm 92 = .ok (.new 86, 3) := by decide +kernel
theorem dX4_readTerm_95 : decode cX4_readTerm 95 = .ok (.dup, 1) := by decide +kernel
theorem dX4_readTerm_96 : decode cX4_readTerm 96 = .ok (.iload_n 3, 1) := by decide +kernel
theorem dX4_readTerm_97 : decode cX4_readTerm 97 = .ok (.iload 4, 2) := by decide +kernel
theorem dX4_readTerm_99 : decode cX4_readTerm 99 = .ok (.iconst 1, 1) := by decide +kernel
theorem dX4_readTerm_100 : decode cX4_readTerm 100 = .ok (.invokespecial 88, 3) := by decide +kernel
theorem dX4_readTerm_103 : decode cX4_readTerm 103 = .ok (.areturn, 1) := by decide +kernel
theorem dX4_readTerm_104 : decode cX4_readTerm 104 = .ok (.aload_n 0, 1) := by decide +kernel
theorem dX4_readTerm_105 : decode cX4_readTerm 105 = .ok (.getfield 21, 3) := by decide +kernel
theorem dX4_readTerm_108 : decode cX4_readTerm 108 = .ok (.iconst 2, 1) := by decide +kernel
theorem dX4_readTerm_109 : decode cX4_readTerm 109 = .ok (.if_icmp .ne 15, 3) := by decide +kernel
theorem dX4_readTerm_112 : decode cX4_readTerm 112 = .ok (.aload_n 0, 1) := by decide +kernel
theorem dX4_readTerm_113 : decode cX4_readTerm 113 = .ok (.getfield 24, 3) := by decide +kernel
theorem dX4_readTerm_116 : decode cX4_readTerm 116 = .ok (.ifCond .ne 8, 3) := by decide +kernel
theorem dX4_readTerm_119 : decode cX4_readTerm 119 = .ok (.aload_n 0, 1) := by decide +kernel
theorem dX4_readTerm_120 : decode cX4_readTerm 120 = .ok (.iconst 3, 1) := by decide +kernel
theorem dX4_readTerm_121 : decode cX4_readTerm 121 = .ok (.invokevirtual 41, 3) := by decide +kernel
theorem dX4_readTerm_124 : decode cX4_readTerm 124 = .ok (.new 86, 3) := by decide +kernel
theorem dX4_readTerm_127 : decode cX4_readTerm 127 = .ok (.dup, 1) := by decide +kernel
theorem dX4_readTerm_128 : decode cX4_readTerm 128 = .ok (.iload_n 3, 1) := by decide +kernel
theorem dX4_readTerm_129 : decode cX4_readTerm 129 = .ok (.iload 4, 2) := by decide +kernel
theorem dX4_readTerm_131 : decode cX4_readTerm 131 = .ok (.aload_n 0, 1) := by decide +kernel
theorem dX4_readTerm_132 : decode cX4_readTerm 132 = .ok (.iconst 2, 1) := by decide +kernel
theorem dX4_readTerm_133 : decode cX4_readTerm 133 = .ok (.invokevirtual 45, 3) := by decide +kernel
theorem dX4_readTerm_136 : decode cX4_readTerm 136 = .ok (.invokespecial 88, 3) := by decide +kernel
theorem dX4_readTerm_139 : decode cX4_readTerm 139 = .ok (.areturn, 1) := by decide +kernel
theorem dX4_needName_0 : decode cX4_needName 0 = .ok (.aload_n 0, 1) := by decide +kernel
theorem dX4_needName_1 : decode cX4_needName 1 = .ok (.getfield 21, 3) := by decide +kernel
theorem dX4_needName_4 : decode cX4_needName 4 = .ok (.istore_n 1, 1) := by decide +kernel
theorem dX4_needName_5 : decode cX4_needName 5 = .ok (.iload_n 1, 1) := by decide +kernel
theorem dX4_needName_6 : decode cX4_needName 6 = .ok (.iconst 3, 1) := by decide +kernel
theorem dX4_needName_7 : decode cX4_needName 7 = .ok (.if_icmp .ne 8, 3) := by decide +kernel
theorem dX4_needName_10 : decode cX4_needName 10 = .ok (.aload_n 0, 1) := by decide +kernel
theorem dX4_needName_11 : decode cX4_needName 11 = .ok (.iconst 2, 1) := by decide +kernel
theorem dX4_needName_12 : decode cX4_needName 12 = .ok (.invokevirtual 41, 3) := by decide +kernel
theorem dX4_needName_15 : decode cX4_needName 15 = .ok (.iload_n 1, 1) := by decide +kernel
theorem dX4_needName_16 : decode cX4_needName 16 = .ok (.invokestatic 66, 3) := by decide +kernel
theorem dX4_needName_19 : decode cX4_needName 19 = .ok (.ifCond .ne 8, 3) := by decide +kernel
theorem dX4_needName_22 : decode cX4_needName 22 = .ok (.aload_n 0, 1) := by decide +kernel
theorem dX4_needName_23 : decode cX4_needName 23 = .ok (.iconst 1, 1) := by decide +kernel
theorem dX4_needName_24 : decode cX4_needName 24 = .ok (.invokevirtual 41, 3) := by decide +kernel
theorem dX4_needName_27 : decode cX4_needName 27 = .ok (.aload_n 0, 1) := by decide +kernel
theorem dX4_needName_28 : decode cX4_needName 28 = .ok (.iload_n 1, 1) := by decide +kernel
theorem dX4_needName_29 : decode cX4_needName 29 = .ok (.invokevirtual 31, 3) := by decide +kernel
theorem dX4_needName_32 : decode cX4_needName 32 = .ok (.pop, 1) := by decide +kernel
theorem dX4_needName_33 : decode cX4_needName 33 = .ok (.iload_n 1, 1) := by decide +kernel
theorem dX4_needName_34 : decode cX4_needName 34 = .ok (.ireturn, 1) := by decide +kernel
theorem dX4_need_0 : decode cX4_need 0 = .ok (.aload_n 0, 1) := by decide +kernel
theorem dX4_need_1 : decode cX4_need 1 = .ok (.getfield 24, 3) := by decide +kernel
theorem dX4_need_4 : decode cX4_need 4 = .ok (.istore_n 2, 1) := by decide +kernel
theorem dX4_need_5 : decode cX4_need 5 = .ok (.aload_n 0, 1) := by decide +kernel
theorem dX4_need_6 : decode cX4_need 6 = .ok (.iload_n 1, 1) := by decide +kernel
theorem dX4_need_7 : decode cX4_need 7 = .ok (.invokevirtual 31, 3) := by decide +kernel
theorem dX4_need_10 : decode cX4_need 10 = .ok (.ifCond .ne 8, 3) := by decide +kernel
theorem dX4_need_13 : decode cX4_need 13 = .ok (.aload_n 0, 1) := by decide +kernel
theorem dX4_need_14 : decode cX4_need 14 = .ok (.iconst 1, 1) := by decide +kernel
theorem dX4_need_15 : decode cX4_need 15 = .ok (.invokevirtual 41, 3) := by decide +kernel
theorem dX4_need_18 : decode cX4_need 18 = .ok (.iload_n 2, 1) := by decide +kernel
theorem dX4_need_19 : decode cX4_need 19 = .ok (.ireturn, 1) := by decide +kernel
theorem dX4_skip_0 : decode cX4_skip 0 = .ok (.aload_n 0, 1) := by decide +kernel
theorem dX4_skip_1 : decode cX4_skip 1 = .ok (.getfield 9, 3) := by decide +kernel
theorem dX4_skip_4 : decode cX4_skip 4 = .ok (.ifCond .ne 11, 3) := by decide +kernel
theorem dX4_skip_7 : decode cX4_skip 7 = .ok (.aload_n 0, 1) := by decide +kernel
theorem dX4_skip_8 : decode cX4_skip 8 = .ok (.getfield 21, 3) := by decide +kernel
theorem dX4_skip_11 : decode cX4_skip 11 = .ok (.iload_n 1, 1) := by decide +kernel
theorem dX4_skip_12 : decode cX4_skip 12 = .ok (.if_icmp .eq 5, 3) := by decide +kernel
theorem dX4_skip_15 : decode cX4_skip 15 = .ok (.iconst 0, 1) := by decide +kernel
theorem dX4_skip_16 : decode cX4_skip 16 = .ok (.ireturn, 1) := by decide +kernel
theorem dX4_skip_17 : decode cX4_skip 17 = .ok (.aload_n 0, 1) := by decide +kernel
theorem dX4_skip_18 : decode cX4_skip 18 = .ok (.getfield 18, 3) := by decide +kernel
theorem dX4_skip_21 : decode cX4_skip 21 = .ok (.ifCond .lt 106, 3) := by decide +kernel
theorem dX4_skip_24 : decode cX4_skip 24 = .ok (.aload_n 0, 1) := by decide +kernel
theorem dX4_skip_25 : decode cX4_skip 25 = .ok (.getfield 18, 3) := by decide +kernel
theorem dX4_skip_28 : decode cX4_skip 28 = .ok (.aload_n 0, 1) := by decide +kernel
theorem dX4_skip_29 : decode cX4_skip 29 = .ok (.getfield 27, 3) := by decide +kernel
theorem dX4_skip_32 : decode cX4_skip 32 = .ok (.getfield 89, 3) := by decide +kernel
theorem dX4_skip_35 : decode cX4_skip 35 = .ok (.arraylength, 1) := by decide +kernel
theorem dX4_skip_36 : decode cX4_skip 36 = .ok (.if_icmp .ge 91, 3) := by decide +kernel
theorem dX4_skip_39 : decode cX4_skip 39 = .ok (.aload_n 0, 1) := by decide +kernel
theorem dX4_skip_40 : decode cX4_skip 40 = .ok (.getfield 18, 3) := by decide +kernel
theorem dX4_skip_43 : decode cX4_skip 43 = .ok (.aload_n 0, 1) := by decide +kernel
theorem dX4_skip_44 : decode cX4_skip 44 = .ok (.getfield 27, 3) := by decide +kernel
theorem dX4_skip_47 : decode cX4_skip 47 = .ok (.getfield 95, 3) := by decide +kernel
theorem dX4_skip_50 : decode cX4_skip 50 = .ok (.arraylength, 1) := by decide +kernel
theorem dX4_skip_51 : decode cX4_skip 51 = .ok (.if_icmp .ge 76, 3) := by decide +kernel
theorem dX4_skip_54 : decode cX4_skip 54 = .ok (.aload_n 0, 1) := by decide +kernel
theorem dX4_skip_55 : decode cX4_skip 55 = .ok (.getfield 18, 3) := by decide +kernel
theorem dX4_skip_58 : decode cX4_skip 58 = .ok (.aload_n 0, 1) := by decide +kernel
theorem dX4_skip_59 : decode cX4_skip 59 = .ok (.getfield 27, 3) := by decide +kernel
theorem dX4_skip_62 : decode cX4_skip 62 = .ok (.getfield 98, 3) := by decide +kernel
theorem dX4_skip_65 : decode cX4_skip 65 = .ok (.arraylength, 1) := by decide +kernel
theorem dX4_skip_66 : decode cX4_skip 66 = .ok (.if_icmp .ge 61, 3) := by decide +kernel
theorem dX4_skip_69 : decode cX4_skip 69 = .ok (.aload_n 0, 1) := by decide +kernel
theorem dX4_skip_70 : decode cX4_skip 70 = .ok (.aload_n 0, 1) := by decide +kernel
theorem dX4_skip_71 : decode cX4_skip 71 = .ok (.getfield 27, 3) := by decide +kernel
theorem dX4_skip_74 : decode cX4_skip 74 = .ok (.getfield 89, 3) := by decide +kernel
theorem dX4_skip_77 : decode cX4_skip 77 = .ok (.aload_n 0, 1) := by decide +kernel
theorem dX4_skip_78 : decode cX4_skip 78 = .ok (.getfield 18, 3) := by decide +kernel
theorem dX4_skip_81 : decode cX4_skip 81 = .ok (.iaload, 1) := by decide +kernel
theorem dX4_skip_82 : decode cX4_skip 82 = .ok (.putfield 21, 3) := by decide +kernel
theorem dX4_skip_85 : decode cX4_skip 85 = .ok (.aload_n 0, 1) := by decide +kernel
theorem dX4_skip_86 : decode cX4_skip 86 = .ok (.aload_n 0, 1) := by decide +kernel
theorem dX4_skip_87 : decode cX4_skip 87 = .ok (.getfield 27, 3) := by decide +kernel
theorem dX4_skip_90 : decode cX4_skip 90 = .ok (.getfield 95, 3) := by decide +kernel
theorem dX4_skip_93 : decode cX4_skip 93 = .ok (.aload_n 0, 1) := by decide +kernel
theorem dX4_skip_94 : decode cX4_skip 94 = .ok (.getfield 18, 3) := by decide +kernel
theorem dX4_skip_97 : decode cX4_skip 97 = .ok (.iaload, 1) := by decide +kernel
theorem dX4_skip_98 : decode cX4_skip 98 = .ok (.putfield 15, 3) := by decide +kernel
theorem dX4_skip_101 : decode cX4_skip 101 = .ok (.aload_n 0, 1) := by decide +kernel
theorem dX4_skip_102 : decode cX4_skip 102 = .ok (.aload_n 0, 1) := by decide +kernel
theorem dX4_skip_103 : decode cX4_skip 103 = .ok (.getfield 27, 3) := by decide +kernel
theorem dX4_skip_106 : decode cX4_skip 106 = .ok (.getfield 98, 3) := by decide +kernel
theorem dX4_skip_109 : decode cX4_skip 109 = .ok (.aload_n 0, 1) := by decide +kernel
theorem dX4_skip_110 : decode cX4_skip 110 = .ok (.getfield 18, 3) := by decide +kernel
theorem dX4_skip_113 : decode cX4_skip 113 = .ok (.iaload, 1) := by decide +kernel
theorem dX4_skip_114 : decode cX4_skip 114 = .ok (.putfield 24, 3) := by decide +kernel
theorem dX4_skip_117 : decode cX4_skip 117 = .ok (.aload_n 0, 1) := by decide +kernel
theorem dX4_skip_118 : decode cX4_skip 118 = .ok (.dup, 1) := by decide +kernel
theorem dX4_skip_119 : decode cX4_skip 119 = .ok (.getfield 18, 3) := by decide +kernel
theorem dX4_skip_122 : decode cX4_skip 122 = .ok (.iconst 1, 1) := by decide +kernel
theorem dX4_skip_123 : decode cX4_skip 123 = .ok (.iadd, 1) := by decide +kernel
theorem dX4_skip_124 : decode cX4_skip 124 = .ok (.putfield 18, 3) := by decide +kernel
theorem dX4_skip_127 : decode cX4_skip 127 = .ok (.iconst 1, 1) := by decide +kernel
theorem dX4_skip_128 : decode cX4_skip 128 = .ok (.ireturn, 1) := by decide +kernel
theorem dX4_blame_0 : decode cX4_blame 0 = .ok (.aload_n 0, 1) := by decide +kernel
theorem dX4_blame_1 : decode cX4_blame 1 = .ok (.getfield 9, 3) := by decide +kernel
theorem dX4_blame_4 : decode cX4_blame 4 = .ok (.ifCond .ne 8, 3) := by decide +kernel
theorem dX4_blame_7 : decode cX4_blame 7 = .ok (.aload_n 0, 1) := by decide +kernel
theorem dX4_blame_8 : decode cX4_blame 8 = .ok (.iload_n 1, 1) := by decide +kernel
theorem dX4_blame_9 : decode cX4_blame 9 = .ok (.putfield 9, 3) := by decide +kernel
theorem dX4_blame_12 : decode cX4_blame 12 = .ok (.return_, 1) := by decide +kernel
theorem dX4_isName_0 : decode cX4_isName 0 = .ok (.iload_n 0, 1) := by decide +kernel
theorem dX4_isName_1 : decode cX4_isName 1 = .ok (.bipush 8, 2) := by decide +kernel
theorem dX4_isName_3 : decode cX4_isName 3 = .ok (.if_icmp .lt 13, 3) := by decide +kernel
theorem dX4_isName_6 : decode cX4_isName 6 = .ok (.iload_n 0, 1) := by decide +kernel
theorem dX4_isName_7 : decode cX4_isName 7 = .ok (.bipush 11, 2) := by decide +kernel
theorem dX4_isName_9 : decode cX4_isName 9 = .ok (.if_icmp .gt 7, 3) := by decide +kernel
theorem dX4_isName_12 : decode cX4_isName 12 = .ok (.iconst 1, 1) := by decide +kernel
theorem dX4_isName_13 : decode cX4_isName 13 = .ok (.goto 4, 3) := by decide +kernel
theorem dX4_isName_16 : decode cX4_isName 16 = .ok (.iconst 0, 1) := by decide +kernel
theorem dX4_isName_17 : decode cX4_isName 17 = .ok (.ireturn, 1) := by decide +kernel
theorem dX5_init_0 : decode cX5_init 0 = .ok (.aload_n 0, 1) := by decide +kernel
theorem dX5_init_1 : decode cX5_init 1 = .ok (.invokespecial 3, 3) := by decide +kernel
theorem dX5_init_4 : decode cX5_init 4 = .ok (.aload_n 0, 1) := by decide +kernel
theorem dX5_init_5 : decode cX5_init 5 = .ok (.sipush 300, 3) := by decide +kernel
theorem dX5_init_8 : decode cX5_init 8 = .ok (.newarray .int, 2) := by decide +kernel
theorem dX5_init_10 : decode cX5_init 10 = .ok (.putfield 9, 3) := by decide +kernel
theorem dX5_init_13 : decode cX5_init 13 = .ok (.aload_n 0, 1) := by decide +kernel
theorem dX5_init_14 : decode cX5_init 14 = .ok (.iconst 0, 1) := by decide +kernel
theorem dX5_init_15 : decode cX5_init 15 = .ok (.putfield 15, 3) := by decide +kernel
theorem dX5_init_18 : decode cX5_init 18 = .ok (.return_, 1) := by decide +kernel
theorem dX5_add_0 : decode cX5_add 0 = .ok (.bipush 24, 2) := by decide +kernel
theorem dX5_add_2 : decode cX5_add 2 = .ok (.istore_n 2, 1) := by decide +kernel
theorem dX5_add_3 : decode cX5_add 3 = .ok (.iload_n 2, 1) := by decide +kernel
theorem dX5_add_4 : decode cX5_add 4 = .ok (.ifCond .lt 54, 3) := by decide +kernel
theorem dX5_add_7 : decode cX5_add 7 = .ok (.aload_n 0, 1) := by decide +kernel
theorem dX5_add_8 : decode cX5_add 8 = .ok (.getfield 15, 3) := by decide +kernel
theorem dX5_add_11 : decode cX5_add 11 = .ok (.ifCond .lt 41, 3) := by decide +kernel
theorem dX5_add_14 : decode cX5_add 14 = .ok (.aload_n 0, 1) := by decide +kernel
theorem dX5_add_15 : decode cX5_add 15 = .ok (.getfield 15, 3) := by decide +kernel
theorem dX5_add_18 : decode cX5_add 18 = .ok (.aload_n 0, 1) := by decide +kernel
theorem dX5_add_19 : decode cX5_add 19 = .ok (.getfield 9, 3) := by decide +kernel
theorem dX5_add_22 : decode cX5_add 22 = .ok (.arraylength, 1) := by decide +kernel
theorem dX5_add_23 : decode cX5_add 23 = .ok (.if_icmp .ge 29, 3) := by decide +kernel
theorem dX5_add_26 : decode cX5_add 26 = .ok (.aload_n 0, 1) := by decide +kernel
theorem dX5_add_27 : decode cX5_add 27 = .ok (.getfield 9, 3) := by decide +kernel
theorem dX5_add_30 : decode cX5_add 30 = .ok (.aload_n 0, 1) := by decide +kernel
theorem dX5_add_31 : decode cX5_add 31 = .ok (.getfield 15, 3) := by decide +kernel
theorem dX5_add_34 : decode cX5_add 34 = .ok (.iload_n 1, 1) := by decide +kernel
theorem dX5_add_35 : decode cX5_add 35 = .ok (.iload_n 2, 1) := by decide +kernel
theorem dX5_add_36 : decode cX5_add 36 = .ok (.iushr, 1) := by decide +kernel
theorem dX5_add_37 : decode cX5_add 37 = .ok (.sipush 255, 3) := by decide +kernel
theorem dX5_add_40 : decode cX5_add 40 = .ok (.iand, 1) := by decide +kernel
theorem dX5_add_41 : decode cX5_add 41 = .ok (.iastore, 1) := by decide +kernel
theorem dX5_add_42 : decode cX5_add 42 = .ok (.aload_n 0, 1) := by decide +kernel
theorem dX5_add_43 : decode cX5_add 43 = .ok (.dup, 1) := by decide +kernel
theorem dX5_add_44 : decode cX5_add 44 = .ok (.getfield 15, 3) := by decide +kernel
theorem dX5_add_47 : decode cX5_add 47 = .ok (.iconst 1, 1) := by decide +kernel
theorem dX5_add_48 : decode cX5_add 48 = .ok (.iadd, 1) := by decide +kernel
theorem dX5_add_49 : decode cX5_add 49 = .ok (.putfield 15, 3) := by decide +kernel
theorem dX5_add_52 : decode cX5_add 52 = .ok (.iinc 2 (-8), 3) := by decide +kernel
theorem dX5_add_55 : decode cX5_add 55 = .ok (.goto (-52), 3) := by decide +kernel
theorem dX5_add_58 : decode cX5_add 58 = .ok (.return_, 1) := by decide +kernel
theorem dX5_clear_0 : decode cX5_clear 0 = .ok (.aload_n 0, 1) := by decide +kernel
theorem dX5_clear_1 : decode cX5_clear 1 = .ok (.iconst 0, 1) := by decide +kernel
theorem dX5_clear_2 : decode cX5_clear 2 = .ok (.putfield 15, 3) := by decide +kernel
theorem dX5_clear_5 : decode cX5_clear 5 = .ok (.return_, 1) := by decide +kernel
theorem dX5_at_0 : decode cX5_at 0 = .ok (.iload_n 1, 1) := by decide +kernel
theorem dX5_at_1 : decode cX5_at 1 = .ok (.ifCond .lt 29, 3) := by decide +kernel
theorem dX5_at_4 : decode cX5_at 4 = .ok (.iload_n 1, 1) := by decide +kernel
theorem dX5_at_5 : decode cX5_at 5 = .ok (.aload_n 0, 1) := by decide +kernel
theorem dX5_at_6 : decode cX5_at 6 = .ok (.getfield 15, 3) := by decide +kernel
theorem dX5_at_9 : decode cX5_at 9 = .ok (.if_icmp .ge 21, 3) := by decide +kernel
theorem dX5_at_12 : decode cX5_at 12 = .ok (.iload_n 1, 1) := by decide +kernel
theorem dX5_at_13 : decode cX5_at 13 = .ok (.aload_n 0, 1) := by decide +kernel
theorem dX5_at_14 : decode cX5_at 14 = .ok (.getfield 9, 3) := by decide +kernel
theorem dX5_at_17 : decode cX5_at 17 = .ok (.arraylength, 1) := by decide +kernel
theorem dX5_at_18 : decode cX5_at 18 = .ok (.if_icmp .ge 12, 3) := by decide +kernel
theorem dX5_at_21 : decode cX5_at 21 = .ok (.aload_n 0, 1) := by decide +kernel
theorem dX5_at_22 : decode cX5_at 22 = .ok (.getfield 9, 3) := by decide +kernel
theorem dX5_at_25 : decode cX5_at 25 = .ok (.iload_n 1, 1) := by decide +kernel
theorem dX5_at_26 : decode cX5_at 26 = .ok (.iaload, 1) := by decide +kernel
theorem dX5_at_27 : decode cX5_at 27 = .ok (.goto 5, 3) := by decide +kernel
theorem dX5_at_30 : decode cX5_at 30 = .ok (.bipush 32, 2) := by decide +kernel
theorem dX5_at_32 : decode cX5_at 32 = .ok (.ireturn, 1) := by decide +kernel
theorem dX6_init_0 : decode cX6_init 0 = .ok (.aload_n 0, 1) := by decide +kernel
theorem dX6_init_1 : decode cX6_init 1 = .ok (.invokespecial 3, 3) := by decide +kernel
theorem dX6_init_4 : decode cX6_init 4 = .ok (.aload_n 0, 1) := by decide +kernel
theorem dX6_init_5 : decode cX6_init 5 = .ok (.iload_n 1, 1) := by decide +kernel
theorem dX6_init_6 : decode cX6_init 6 = .ok (.putfield 9, 3) := by decide +kernel
theorem dX6_init_9 : decode cX6_init 9 = .ok (.aload_n 0, 1) := by decide +kernel
theorem dX6_init_10 : decode cX6_init 10 = .ok (.aload_n 2, 1) := by decide +kernel
theorem dX6_init_11 : decode cX6_init 11 = .ok (.putfield 15, 3) := by decide +kernel
theorem dX6_init_14 : decode cX6_init 14 = .ok (.return_, 1) := by decide +kernel
theorem dX6_feeOf_0 : decode cX6_feeOf 0 = .ok (.iconst 0, 1) := by decide +kernel
theorem dX6_feeOf_1 : decode cX6_feeOf 1 = .ok (.istore_n 2, 1) := by decide +kernel
theorem dX6_feeOf_2 : decode cX6_feeOf 2 = .ok (.iload_n 2, 1) := by decide +kernel
theorem dX6_feeOf_3 : decode cX6_feeOf 3 = .ok (.aload_n 0, 1) := by decide +kernel
theorem dX6_feeOf_4 : decode cX6_feeOf 4 = .ok (.getfield 15, 3) := by decide +kernel
theorem dX6_feeOf_7 : decode cX6_feeOf 7 = .ok (.arraylength, 1) := by decide +kernel
theorem dX6_feeOf_8 : decode cX6_feeOf 8 = .ok (.if_icmp .ge 34, 3) := by decide +kernel
theorem dX6_feeOf_11 : decode cX6_feeOf 11 = .ok (.aload_n 0, 1) := by decide +kernel
theorem dX6_feeOf_12 : decode cX6_feeOf 12 = .ok (.getfield 15, 3) := by decide +kernel
theorem dX6_feeOf_15 : decode cX6_feeOf 15 = .ok (.iload_n 2, 1) := by decide +kernel
theorem dX6_feeOf_16 : decode cX6_feeOf 16 = .ok (.aaload, 1) := by decide +kernel
theorem dX6_feeOf_17 : decode cX6_feeOf 17 = .ok (.astore_n 3, 1) := by decide +kernel
theorem dX6_feeOf_18 : decode cX6_feeOf 18 = .ok (.aload_n 3, 1) := by decide +kernel
theorem dX6_feeOf_19 : decode cX6_feeOf 19 = .ok (.ifnull 17, 3) := by decide +kernel
theorem dX6_feeOf_22 : decode cX6_feeOf 22 = .ok (.aload_n 3, 1) := by decide +kernel
theorem dX6_feeOf_23 : decode cX6_feeOf 23 = .ok (.aload_n 1, 1) := by decide +kernel
theorem dX6_feeOf_24 : decode cX6_feeOf 24 = .ok (.invokevirtual 19, 3) := by decide +kernel
theorem dX6_feeOf_27 : decode cX6_feeOf 27 = .ok (.ifCond .eq 9, 3) := by decide +kernel
theorem dX6_feeOf_30 : decode cX6_feeOf 30 = .ok (.aload_n 3, 1) := by decide +kernel
theorem dX6_feeOf_31 : decode cX6_feeOf 31 = .ok (.aload_n 1, 1) := by decide +kernel
theorem dX6_feeOf_32 : decode cX6_feeOf 32 = .ok (.invokevirtual 25, 3) := by decide +kernel
theorem dX6_feeOf_35 : decode cX6_feeOf 35 = .ok (.ireturn, 1) := by decide +kernel
theorem dX6_feeOf_36 : decode cX6_feeOf 36 = .ok (.iinc 2 1, 3) := by decide +kernel
theorem dX6_feeOf_39 : decode cX6_feeOf 39 = .ok (.goto (-37), 3) := by decide +kernel
theorem dX6_feeOf_42 : decode cX6_feeOf 42 = .ok (.bipush (-2), 2) := by decide +kernel
theorem dX6_feeOf_44 : decode cX6_feeOf 44 = .ok (.ireturn, 1) := by decide +kernel
theorem dX7_init_0 : decode cX7_init 0 = .ok (.aload_n 0, 1) := by decide +kernel
theorem dX7_init_1 : decode cX7_init 1 = .ok (.invokespecial 1, 3) := by decide +kernel
theorem dX7_init_4 : decode cX7_init 4 = .ok (.aload_n 0, 1) := by decide +kernel
theorem dX7_init_5 : decode cX7_init 5 = .ok (.iload_n 1, 1) := by decide +kernel
theorem dX7_init_6 : decode cX7_init 6 = .ok (.putfield 7, 3) := by decide +kernel
theorem dX7_init_9 : decode cX7_init 9 = .ok (.aload_n 0, 1) := by decide +kernel
theorem dX7_init_10 : decode cX7_init 10 = .ok (.iload_n 2, 1) := by decide +kernel
theorem dX7_init_11 : decode cX7_init 11 = .ok (.putfield 13, 3) := by decide +kernel
theorem dX7_init_14 : decode cX7_init 14 = .ok (.aload_n 0, 1) := by decide +kernel
theorem dX7_init_15 : decode cX7_init 15 = .ok (.iload_n 3, 1) := by decide +kernel
theorem dX7_init_16 : decode cX7_init 16 = .ok (.putfield 16, 3) := by decide +kernel
theorem dX7_init_19 : decode cX7_init 19 = .ok (.return_, 1) := by decide +kernel
theorem dX7_amount_0 : decode cX7_amount 0 = .ok (.aload_n 0, 1) := by decide +kernel
theorem dX7_amount_1 : decode cX7_amount 1 = .ok (.getfield 7, 3) := by decide +kernel
theorem dX7_amount_4 : decode cX7_amount 4 = .ok (.aload_n 1, 1) := by decide +kernel
theorem dX7_amount_5 : decode cX7_amount 5 = .ok (.aload_n 0, 1) := by decide +kernel
theorem dX7_amount_6 : decode cX7_amount 6 = .ok (.getfield 13, 3) := by decide +kernel
theorem dX7_amount_9 : decode cX7_amount 9 = .ok (.invokevirtual 19, 3) := by decide +kernel
theorem dX7_amount_12 : decode cX7_amount 12 = .ok (.imul, 1) := by decide +kernel
theorem dX7_amount_13 : decode cX7_amount 13 = .ok (.istore_n 2, 1) := by decide +kernel
theorem dX7_amount_14 : decode cX7_amount 14 = .ok (.aload_n 0, 1) := by decide +kernel
theorem dX7_amount_15 : decode cX7_amount 15 = .ok (.getfield 16, 3) := by decide +kernel
theorem dX7_amount_18 : decode cX7_amount 18 = .ok (.ifCond .le 12, 3) := by decide +kernel
theorem dX7_amount_21 : decode cX7_amount 21 = .ok (.iload_n 2, 1) := by decide +kernel
theorem dX7_amount_22 : decode cX7_amount 22 = .ok (.aload_n 0, 1) := by decide +kernel
theorem dX7_amount_23 : decode cX7_amount 23 = .ok (.getfield 16, 3) := by decide +kernel
theorem dX7_amount_26 : decode cX7_amount 26 = .ok (.idiv, 1) := by decide +kernel
theorem dX7_amount_27 : decode cX7_amount 27 = .ok (.goto 4, 3) := by decide +kernel
theorem dX7_amount_30 : decode cX7_amount 30 = .ok (.iload_n 2, 1) := by decide +kernel
theorem dX7_amount_31 : decode cX7_amount 31 = .ok (.ireturn, 1) := by decide +kernel
theorem dX8_init_0 : decode cX8_init 0 = .ok (.aload_n 0, 1) := by decide +kernel
theorem dX8_init_1 : decode cX8_init 1 = .ok (.invokespecial 1, 3) := by decide +kernel
theorem dX8_init_4 : decode cX8_init 4 = .ok (.aload_n 0, 1) := by decide +kernel
theorem dX8_init_5 : decode cX8_init 5 = .ok (.iload_n 1, 1) := by decide +kernel
theorem dX8_init_6 : decode cX8_init 6 = .ok (.putfield 7, 3) := by decide +kernel
theorem dX8_init_9 : decode cX8_init 9 = .ok (.aload_n 0, 1) := by decide +kernel
theorem dX8_init_10 : decode cX8_init 10 = .ok (.iload_n 2, 1) := by decide +kernel
theorem dX8_init_11 : decode cX8_init 11 = .ok (.putfield 13, 3) := by decide +kernel
theorem dX8_init_14 : decode cX8_init 14 = .ok (.aload_n 0, 1) := by decide +kernel
theorem dX8_init_15 : decode cX8_init 15 = .ok (.iload_n 3, 1) := by decide +kernel
theorem dX8_init_16 : decode cX8_init 16 = .ok (.putfield 16, 3) := by decide +kernel
theorem dX8_init_19 : decode cX8_init 19 = .ok (.return_, 1) := by decide +kernel
theorem dX8_holds_0 : decode cX8_holds 0 = .ok (.aload_n 1, 1) := by decide +kernel
theorem dX8_holds_1 : decode cX8_holds 1 = .ok (.aload_n 0, 1) := by decide +kernel
theorem dX8_holds_2 : decode cX8_holds 2 = .ok (.getfield 7, 3) := by decide +kernel
theorem dX8_holds_5 : decode cX8_holds 5 = .ok (.invokevirtual 19, 3) := by decide +kernel
theorem dX8_holds_8 : decode cX8_holds 8 = .ok (.istore_n 2, 1) := by decide +kernel
theorem dX8_holds_9 : decode cX8_holds 9 = .ok (.aload_n 0, 1) := by decide +kernel
theorem dX8_holds_10 : decode cX8_holds 10 = .ok (.getfield 13, 3) := by decide +kernel
theorem dX8_holds_13 : decode cX8_holds 13 = .ok (.bipush 60, 2) := by decide +kernel
theorem dX8_holds_15 : decode cX8_holds 15 = .ok (.if_icmp .ne 17, 3) := by decide +kernel
theorem dX8_holds_18 : decode cX8_holds 18 = .ok (.iload_n 2, 1) := by decide +kernel
theorem dX8_holds_19 : decode cX8_holds 19 = .ok (.aload_n 0, 1) := by decide +kernel
theorem dX8_holds_20 : decode cX8_holds 20 = .ok (.getfield 16, 3) := by decide +kernel
theorem dX8_holds_23 : decode cX8_holds 23 = .ok (.if_icmp .ge 7, 3) := by decide +kernel
theorem dX8_holds_26 : decode cX8_holds 26 = .ok (.iconst 1, 1) := by decide +kernel
theorem dX8_holds_27 : decode cX8_holds 27 = .ok (.goto 4, 3) := by decide +kernel
theorem dX8_holds_30 : decode cX8_holds 30 = .ok (.iconst 0, 1) := by decide +kernel
theorem dX8_holds_31 : decode cX8_holds 31 = .ok (.ireturn, 1) := by decide +kernel
theorem dX8_holds_32 : decode cX8_holds 32 = .ok (.aload_n 0, 1) := by decide +kernel
theorem dX8_holds_33 : decode cX8_holds 33 = .ok (.getfield 13, 3) := by decide +kernel
theorem dX8_holds_36 : decode cX8_holds 36 = .ok (.bipush 62, 2) := by decide +kernel
theorem dX8_holds_38 : decode cX8_holds 38 = .ok (.if_icmp .ne 19, 3) := by decide +kernel
theorem dX8_holds_41 : decode cX8_holds 41 = .ok (.iload_n 2, 1) := by decide +kernel
theorem dX8_holds_42 : decode cX8_holds 42 = .ok (.aload_n 0, 1) := by decide +kernel
theorem dX8_holds_43 : decode cX8_holds 43 = .ok (.getfield 16, 3) := by decide +kernel
theorem dX8_holds_46 : decode cX8_holds 46 = .ok (.if_icmp .le 7, 3) := by decide +kernel
theorem dX8_holds_49 : decode cX8_holds 49 = .ok (.iconst 1, 1) := by decide +kernel
theorem dX8_holds_50 : decode cX8_holds 50 = .ok (.goto 20, 3) := by decide +kernel
theorem dX8_holds_53 : decode cX8_holds 53 = .ok (.iconst 0, 1) := by decide +kernel
theorem dX8_holds_54 : decode cX8_holds 54 = .ok (.goto 16, 3) := by decide +kernel
theorem dX8_holds_57 : decode cX8_holds 57 = .ok (.iload_n 2, 1) := by decide +kernel
theorem dX8_holds_58 : decode cX8_holds 58 = .ok (.aload_n 0, 1) := by decide +kernel
theorem dX8_holds_59 : decode cX8_holds 59 = .ok (.getfield 16, 3) := by decide +kernel
theorem dX8_holds_62 : decode cX8_holds 62 = .ok (.if_icmp .ne 7, 3) := by decide +kernel
theorem dX8_holds_65 : decode cX8_holds 65 = .ok (.iconst 1, 1) := by decide +kernel
theorem dX8_holds_66 : decode cX8_holds 66 = .ok (.goto 4, 3) := by decide +kernel
theorem dX8_holds_69 : decode cX8_holds 69 = .ok (.iconst 0, 1) := by decide +kernel
theorem dX8_holds_70 : decode cX8_holds 70 = .ok (.ireturn, 1) := by decide +kernel
theorem dX9_init_0 : decode cX9_init 0 = .ok (.aload_n 0, 1) := by decide +kernel
theorem dX9_init_1 : decode cX9_init 1 = .ok (.invokespecial 3, 3) := by decide +kernel
theorem dX9_init_4 : decode cX9_init 4 = .ok (.aload_n 0, 1) := by decide +kernel
theorem dX9_init_5 : decode cX9_init 5 = .ok (.sipush 301, 3) := by decide +kernel
theorem dX9_init_8 : decode cX9_init 8 = .ok (.newarray .int, 2) := by decide +kernel
theorem dX9_init_10 : decode cX9_init 10 = .ok (.putfield 9, 3) := by decide +kernel
theorem dX9_init_13 : decode cX9_init 13 = .ok (.aload_n 0, 1) := by decide +kernel
theorem dX9_init_14 : decode cX9_init 14 = .ok (.sipush 301, 3) := by decide +kernel
theorem dX9_init_17 : decode cX9_init 17 = .ok (.newarray .int, 2) := by decide +kernel
theorem dX9_init_19 : decode cX9_init 19 = .ok (.putfield 15, 3) := by decide +kernel
theorem dX9_init_22 : decode cX9_init 22 = .ok (.aload_n 0, 1) := by decide +kernel
theorem dX9_init_23 : decode cX9_init 23 = .ok (.sipush 301, 3) := by decide +kernel
theorem dX9_init_26 : decode cX9_init 26 = .ok (.newarray .int, 2) := by decide +kernel
theorem dX9_init_28 : decode cX9_init 28 = .ok (.putfield 18, 3) := by decide +kernel
theorem dX9_init_31 : decode cX9_init 31 = .ok (.aload_n 0, 1) := by decide +kernel
theorem dX9_init_32 : decode cX9_init 32 = .ok (.iconst 0, 1) := by decide +kernel
theorem dX9_init_33 : decode cX9_init 33 = .ok (.putfield 21, 3) := by decide +kernel
theorem dX9_init_36 : decode cX9_init 36 = .ok (.return_, 1) := by decide +kernel
theorem dX9_cut_0 : decode cX9_cut 0 = .ok (.aload_n 0, 1) := by decide +kernel
theorem dX9_cut_1 : decode cX9_cut 1 = .ok (.iconst 0, 1) := by decide +kernel
theorem dX9_cut_2 : decode cX9_cut 2 = .ok (.putfield 21, 3) := by decide +kernel
theorem dX9_cut_5 : decode cX9_cut 5 = .ok (.iconst 0, 1) := by decide +kernel
theorem dX9_cut_6 : decode cX9_cut 6 = .ok (.istore_n 3, 1) := by decide +kernel
theorem dX9_cut_7 : decode cX9_cut 7 = .ok (.iload_n 3, 1) := by decide +kernel
theorem dX9_cut_8 : decode cX9_cut 8 = .ok (.iload_n 2, 1) := by decide +kernel
theorem dX9_cut_9 : decode cX9_cut 9 = .ok (.if_icmp .ge 20, 3) := by decide +kernel
theorem dX9_cut_12 : decode cX9_cut 12 = .ok (.iload_n 3, 1) := by decide +kernel
theorem dX9_cut_13 : decode cX9_cut 13 = .ok (.iconst 1, 1) := by decide +kernel
theorem dX9_cut_14 : decode cX9_cut 14 = .ok (.iadd, 1) := by decide +kernel
theorem dX9_cut_15 : decode cX9_cut 15 = .ok (.aload_n 0, 1) := by decide +kernel
theorem dX9_cut_16 : decode cX9_cut 16 = .ok (.aload_n 1, 1) := by decide +kernel
theorem dX9_cut_17 : decode cX9_cut 17 = .ok (.iload_n 3, 1) := by decide +kernel
theorem dX9_cut_18 : decode cX9_cut 18 = .ok (.iload_n 2, 1) := by decide +kernel
theorem dX9_cut_19 : decode cX9_cut 19 = .ok (.invokevirtual 25, 3) := by decide +kernel
theorem dX9_cut_22 : decode cX9_cut 22 = .ok (.invokestatic 29, 3) := by decide +kernel
theorem dX9_cut_25 : decode cX9_cut 25 = .ok (.istore_n 3, 1) := by decide +kernel
theorem dX9_cut_26 : decode cX9_cut 26 = .ok (.goto (-19), 3) := by decide +kernel
theorem dX9_cut_29 : decode cX9_cut 29 = .ok (.aload_n 0, 1) := by decide +kernel
theorem dX9_cut_30 : decode cX9_cut 30 = .ok (.iconst 0, 1) := by decide +kernel
theorem dX9_cut_31 : decode cX9_cut 31 = .ok (.iload_n 2, 1) := by decide +kernel
theorem dX9_cut_32 : decode cX9_cut 32 = .ok (.iconst 0, 1) := by decide +kernel
theorem dX9_cut_33 : decode cX9_cut 33 = .ok (.invokevirtual 35, 3) := by decide +kernel
theorem dX9_cut_36 : decode cX9_cut 36 = .ok (.return_, 1) := by decide +kernel
theorem dX9_cutOne_0 : decode cX9_cutOne 0 = .ok (.aload_n 1, 1) := by decide +kernel
theorem dX9_cutOne_1 : decode cX9_cutOne 1 = .ok (.iload_n 2, 1) := by decide +kernel
theorem dX9_cutOne_2 : decode cX9_cutOne 2 = .ok (.invokevirtual 39, 3) := by decide +kernel
theorem dX9_cutOne_5 : decode cX9_cutOne 5 = .ok (.istore 4, 2) := by decide +kernel
theorem dX9_cutOne_7 : decode cX9_cutOne 7 = .ok (.iload 4, 2) := by decide +kernel
theorem dX9_cutOne_9 : decode cX9_cutOne 9 = .ok (.invokestatic 45, 3) := by decide +kernel
theorem dX9_cutOne_12 : decode cX9_cutOne 12 = .ok (.ifCond .eq 11, 3) := by decide +kernel
theorem dX9_cutOne_15 : decode cX9_cutOne 15 = .ok (.aload_n 0, 1) := by decide +kernel
theorem dX9_cutOne_16 : decode cX9_cutOne 16 = .ok (.aload_n 1, 1) := by decide +kernel
theorem dX9_cutOne_17 : decode cX9_cutOne 17 = .ok (.iload_n 2, 1) := by decide +kernel
theorem dX9_cutOne_18 : decode cX9_cutOne 18 = .ok (.iload_n 3, 1) := by decide +kernel
theorem dX9_cutOne_19 : decode cX9_cutOne 19 = .ok (.invokevirtual 49, 3) := by decide +kernel
theorem dX9_cutOne_22 : decode cX9_cutOne 22 = .ok (.ireturn, 1) := by decide +kernel
theorem dX9_cutOne_23 : decode cX9_cutOne 23 = .ok (.iload 4, 2) := by decide +kernel
theorem dX9_cutOne_25 : decode cX9_cutOne 25 = .ok (.invokestatic 52, 3) := by decide +kernel
theorem dX9_cutOne_28 : decode cX9_cutOne 28 = .ok (.ifCond .eq 11, 3) := by decide +kernel
theorem dX9_cutOne_31 : decode cX9_cutOne 31 = .ok (.aload_n 0, 1) := by decide +kernel
theorem dX9_cutOne_32 : decode cX9_cutOne 32 = .ok (.aload_n 1, 1) := by decide +kernel
theorem dX9_cutOne_33 : decode cX9_cutOne 33 = .ok (.iload_n 2, 1) := by decide +kernel
theorem dX9_cutOne_34 : decode cX9_cutOne 34 = .ok (.iload_n 3, 1) := by decide +kernel
theorem dX9_cutOne_35 : decode cX9_cutOne 35 = .ok (.invokevirtual 55, 3) := by decide +kernel
theorem dX9_cutOne_38 : decode cX9_cutOne 38 = .ok (.ireturn, 1) := by decide +kernel
theorem dX9_cutOne_39 : decode cX9_cutOne 39 = .ok (.iload 4, 2) := by decide +kernel
theorem dX9_cutOne_41 : decode cX9_cutOne 41 = .ok (.bipush 32, 2) := by decide +kernel
theorem dX9_cutOne_43 : decode cX9_cutOne 43 = .ok (.if_icmp .eq 26, 3) := by decide +kernel
theorem dX9_cutOne_46 : decode cX9_cutOne 46 = .ok (.aload_n 0, 1) := by decide +kernel
theorem dX9_cutOne_47 : decode cX9_cutOne 47 = .ok (.ldc 58, 2) := by decide +kernel
theorem dX9_cutOne_49 : decode cX9_cutOne 49 = .ok (.iload 4, 2) := by decide +kernel
theorem dX9_cutOne_51 : decode cX9_cutOne 51 = .ok (.i2c, 1) := by decide +kernel
theorem dX9_cutOne_52 : decode cX9_cutOne 52 = .ok (.invokevirtual 60, 3) := by decide +kernel
theorem dX9_cutOne_55 : decode cX9_cutOne 55 = .ok (.ifCond .lt 8, 3) := by decide +kernel
theorem dX9_cutOne_58 : decode cX9_cutOne 58 = .ok (.iload 4, 2) := by decide +kernel
theorem dX9_cutOne_60 : decode cX9_cutOne 60 = .ok (.goto 4, 3) := by decide +kernel
theorem dX9_cutOne_63 : decode cX9_cutOne 63 = .ok (.iconst 1, 1) := by decide +kernel
theorem dX9_cutOne_64 : decode cX9_cutOne 64 = .ok (.iload_n 2, 1) := by decide +kernel
theorem dX9_cutOne_65 : decode cX9_cutOne 65 = .ok (.iconst 0, 1) := by decide +kernel
theorem dX9_cutOne_66 : decode cX9_cutOne 66 = .ok (.invokevirtual 35, 3) := by decide +kernel
theorem dX9_cutOne_69 : decode cX9_cutOne 69 = .ok (.iload_n 2, 1) := by decide +kernel
theorem dX9_cutOne_70 : decode cX9_cutOne 70 = .ok (.iconst 1, 1) := by decide +kernel
theorem dX9_cutOne_71 : decode cX9_cutOne 71 = .ok (.iadd, 1) := by decide +kernel
theorem dX9_cutOne_72 : decode cX9_cutOne 72 = .ok (.ireturn, 1) := by decide +kernel
theorem dX9_cutWord_0 : decode cX9_cutWord 0 = .ok (.iload_n 2, 1) := by decide +kernel
theorem dX9_cutWord_1 : decode cX9_cutWord 1 = .ok (.istore 4, 2) := by decide +kernel
theorem dX9_cutWord_3 : decode cX9_cutWord 3 = .ok (.iload 4, 2) := by decide +kernel
theorem dX9_cutWord_5 : decode cX9_cutWord 5 = .ok (.iload_n 3, 1) := by decide +kernel
theorem dX9_cutWord_6 : decode cX9_cutWord 6 = .ok (.if_icmp .ge 21, 3) := by decide +kernel
theorem dX9_cutWord_9 : decode cX9_cutWord 9 = .ok (.aload_n 1, 1) := by decide +kernel
theorem dX9_cutWord_10 : decode cX9_cutWord 10 = .ok (.iload 4, 2) := by decide +kernel
theorem dX9_cutWord_12 : decode cX9_cutWord 12 = .ok (.invokevirtual 39, 3) := by decide +kernel
theorem dX9_cutWord_15 : decode cX9_cutWord 15 = .ok (.invokestatic 45, 3) := by decide +kernel
theorem dX9_cutWord_18 : decode cX9_cutWord 18 = .ok (.ifCond .eq 9, 3) := by decide +kernel
theorem dX9_cutWord_21 : decode cX9_cutWord 21 = .ok (.iinc 4 1, 3) := by decide +kernel
theorem dX9_cutWord_24 : decode cX9_cutWord 24 = .ok (.goto (-21), 3) := by decide +kernel
theorem dX9_cutWord_27 : decode cX9_cutWord 27 = .ok (.aload_n 0, 1) := by decide +kernel
theorem dX9_cutWord_28 : decode cX9_cutWord 28 = .ok (.iload 4, 2) := by decide +kernel
theorem dX9_cutWord_30 : decode cX9_cutWord 30 = .ok (.iload_n 2, 1) := by decide +kernel
theorem dX9_cutWord_31 : decode cX9_cutWord 31 = .ok (.isub, 1) := by decide +kernel
theorem dX9_cutWord_32 : decode cX9_cutWord 32 = .ok (.bipush 8, 2) := by decide +kernel
theorem dX9_cutWord_34 : decode cX9_cutWord 34 = .ok (.if_icmp .le 7, 3) := by decide +kernel
theorem dX9_cutWord_37 : decode cX9_cutWord 37 = .ok (.iconst 1, 1) := by decide +kernel
theorem dX9_cutWord_38 : decode cX9_cutWord 38 = .ok (.goto 10, 3) := by decide +kernel
theorem dX9_cutWord_41 : decode cX9_cutWord 41 = .ok (.aload_n 1, 1) := by decide +kernel
theorem dX9_cutWord_42 : decode cX9_cutWord 42 = .ok (.iload_n 2, 1) := by decide +kernel
theorem dX9_cutWord_43 : decode cX9_cutWord 43 = .ok (.iload 4, 2) := by decide +kernel
theorem dX9_cutWord_45 : decode cX9_cutWord 45 = .ok (.invokestatic 65, 3) := by decide +kernel
theorem dX9_cutWord_48 : decode cX9_cutWord 48 = .ok (.iload_n 2, 1) := by decide +kernel
theorem dX9_cutWord_49 : decode cX9_cutWord 49 = .ok (.iconst 0, 1) := by decide +kernel
theorem dX9_cutWord_50 : decode cX9_cutWord 50 = .ok (.invokevirtual 35, 3) := by decide +kernel
theorem dX9_cutWord_53 : decode cX9_cutWord 53 = .ok (.iload 4, 2) := by decide +kernel
theorem dX9_cutWord_55 : decode cX9_cutWord 55 = .ok (.ireturn, 1) := by decide +kernel
theorem dX9_cutNumber_0 : decode cX9_cutNumber 0 = .ok (.iload_n 2, 1) := by decide +kernel
theorem dX9_cutNumber_1 : decode cX9_cutNumber 1 = .ok (.istore 4, 2) := by decide +kernel
theorem dX9_cutNumber_3 : decode cX9_cutNumber 3 = .ok (.iconst 0, 1) := by decide +kernel
theorem dX9_cutNumber_4 : decode cX9_cutNumber 4 = .ok (.istore 5, 2) := by decide +kernel
theorem dX9_cutNumber_6 : decode cX9_cutNumber 6 = .ok (.iload 4, 2) := by decide +kernel
theorem dX9_cutNumber_8 : decode cX9_cutNumber 8 = .ok (.iload_n 3, 1) := by decide +kernel
theorem dX9_cutNumber_9 : decode cX9_cutNumber 9 = .ok (.if_icmp .ge 38, 3) := by decide +kernel
theorem dX9_cutNumber_12 : decode cX9_cutNumber 12 = .ok (.aload_n 1, 1) := by decide +kernel
theorem dX9_cutNumber_13 : decode cX9_cutNumber 13 = .ok (.iload 4, 2) := by decide +kernel
theorem dX9_cutNumber_15 : decode cX9_cutNumber 15 = .ok (.invokevirtual 39, 3) := by decide +kernel
theorem dX9_cutNumber_18 : decode cX9_cutNumber 18 = .ok (.invokestatic 52, 3) := by decide +kernel
theorem dX9_cutNumber_21 : decode cX9_cutNumber 21 = .ok (.ifCond .eq 26, 3) := by decide +kernel
theorem dX9_cutNumber_24 : decode cX9_cutNumber 24 = .ok (.iload 5, 2) := by decide +kernel
theorem dX9_cutNumber_26 : decode cX9_cutNumber 26 = .ok (.bipush 10, 2) := by decide +kernel
theorem dX9_cutNumber_28 : decode cX9_cutNumber 28 = .ok (.imul, 1) := by decide +kernel
theorem dX9_cutNumber_29 : decode cX9_cutNumber 29 = .ok (.aload_n 1, 1) := by decide +kernel
theorem dX9_cutNumber_30 : decode cX9_cutNumber 30 = .ok (.iload 4, 2) := by decide +kernel
theorem dX9_cutNumber_32 : decode cX9_cutNumber 32 = .ok (.invokevirtual 39, 3) := by decide +kernel
theorem dX9_cutNumber_35 : decode cX9_cutNumber 35 = .ok (.iadd, 1) := by decide +kernel
theorem dX9_cutNumber_36 : decode cX9_cutNumber 36 = .ok (.bipush 48, 2) := by decide +kernel
theorem dX9_cutNumber_38 : decode cX9_cutNumber 38 = .ok (.isub, 1) := by decide +kernel
theorem dX9_cutNumber_39 : decode cX9_cutNumber 39 = .ok (.istore 5, 2) := by decide +kernel
theorem dX9_cutNumber_41 : decode cX9_cutNumber 41 = .ok (.iinc 4 1, 3) := by decide +kernel
theorem dX9_cutNumber_44 : decode cX9_cutNumber 44 = .ok (.goto (-38), 3) := by decide +kernel
theorem dX9_cutNumber_47 : decode cX9_cutNumber 47 = .ok (.aload_n 0, 1) := by decide +kernel
theorem dX9_cutNumber_48 : decode cX9_cutNumber 48 = .ok (.iload 4, 2) := by decide +kernel
theorem dX9_cutNumber_50 : decode cX9_cutNumber 50 = .ok (.iload_n 2, 1) := by decide +kernel
theorem dX9_cutNumber_51 : decode cX9_cutNumber 51 = .ok (.isub, 1) := by decide +kernel
theorem dX9_cutNumber_52 : decode cX9_cutNumber 52 = .ok (.iconst 3, 1) := by decide +kernel
theorem dX9_cutNumber_53 : decode cX9_cutNumber 53 = .ok (.if_icmp .le 7, 3) := by decide +kernel
theorem dX9_cutNumber_56 : decode cX9_cutNumber 56 = .ok (.iconst 1, 1) := by decide +kernel
theorem dX9_cutNumber_57 : decode cX9_cutNumber 57 = .ok (.goto 4, 3) := by decide +kernel
theorem dX9_cutNumber_60 : decode cX9_cutNumber 60 = .ok (.iconst 2, 1) := by decide +kernel
theorem dX9_cutNumber_61 : decode cX9_cutNumber 61 = .ok (.iload_n 2, 1) := by decide +kernel
theorem dX9_cutNumber_62 : decode cX9_cutNumber 62 = .ok (.iload 5, 2) := by decide +kernel
theorem dX9_cutNumber_64 : decode cX9_cutNumber 64 = .ok (.invokevirtual 35, 3) := by decide +kernel
theorem dX9_cutNumber_67 : decode cX9_cutNumber 67 = .ok (.iload 4, 2) := by decide +kernel
theorem dX9_cutNumber_69 : decode cX9_cutNumber 69 = .ok (.ireturn, 1) := by decide +kernel
theorem dX9_put_0 : decode cX9_put 0 = .ok (.aload_n 0, 1) := by decide +kernel
theorem dX9_put_1 : decode cX9_put 1 = .ok (.getfield 21, 3) := by decide +kernel
theorem dX9_put_4 : decode cX9_put 4 = .ok (.ifCond .lt 79, 3) := by decide +kernel
theorem dX9_put_7 : decode cX9_put 7 = .ok (.aload_n 0, 1) := by decide +kernel
theorem dX9_put_8 : decode cX9_put 8 = .ok (.getfield 21, 3) := by decide +kernel
theorem dX9_put_11 : decode cX9_put 11 = .ok (.aload_n 0, 1) := by decide +kernel
theorem dX9_put_12 : decode cX9_put 12 = .ok (.getfield 9, 3) := by decide +kernel
theorem dX9_put_15 : decode cX9_put 15 = .ok (.arraylength, 1) := by decide +kernel
theorem dX9_put_16 : decode cX9_put 16 = .ok (.if_icmp .ge 67, 3) := by decide +kernel
theorem dX9_put_19 : decode cX9_put 19 = .ok (.aload_n 0, 1) := by decide +kernel
theorem dX9_put_20 : decode cX9_put 20 = .ok (.getfield 21, 3) := by decide +kernel
theorem dX9_put_23 : decode cX9_put 23 = .ok (.aload_n 0, 1) := by decide +kernel
theorem dX9_put_24 : decode cX9_put 24 = .ok (.getfield 15, 3) := by decide +kernel
theorem dX9_put_27 : decode cX9_put 27 = .ok (.arraylength, 1) := by decide +kernel
theorem dX9_put_28 : decode cX9_put 28 = .ok (.if_icmp .ge 55, 3) := by decide +kernel
theorem dX9_put_31 : decode cX9_put 31 = .ok (.aload_n 0, 1) := by decide +kernel
theorem dX9_put_32 : decode cX9_put 32 = .ok (.getfield 21, 3) := by decide +kernel
theorem dX9_put_35 : decode cX9_put 35 = .ok (.aload_n 0, 1) := by decide +kernel
theorem dX9_put_36 : decode cX9_put 36 = .ok (.getfield 18, 3) := by decide +kernel
theorem dX9_put_39 : decode cX9_put 39 = .ok (.arraylength, 1) := by decide +kernel
theorem dX9_put_40 : decode cX9_put 40 = .ok (.if_icmp .ge 43, 3) := by decide +kernel
theorem dX9_put_43 : decode cX9_put 43 = .ok (.aload_n 0, 1) := by decide +kernel
theorem dX9_put_44 : decode cX9_put 44 = .ok (.getfield 9, 3) := by decide +kernel
theorem dX9_put_47 : decode cX9_put 47 = .ok (.aload_n 0, 1) := by decide +kernel
theorem dX9_put_48 : decode cX9_put 48 = .ok (.getfield 21, 3) := by decide +kernel
theorem dX9_put_51 : decode cX9_put 51 = .ok (.iload_n 1, 1) := by decide +kernel
theorem dX9_put_52 : decode cX9_put 52 = .ok (.iastore, 1) := by decide +kernel
theorem dX9_put_53 : decode cX9_put 53 = .ok (.aload_n 0, 1) := by decide +kernel
theorem dX9_put_54 : decode cX9_put 54 = .ok (.getfield 15, 3) := by decide +kernel
theorem dX9_put_57 : decode cX9_put 57 = .ok (.aload_n 0, 1) := by decide +kernel
theorem dX9_put_58 : decode cX9_put 58 = .ok (.getfield 21, 3) := by decide +kernel
theorem dX9_put_61 : decode cX9_put 61 = .ok (.iload_n 2, 1) := by decide +kernel
theorem dX9_put_62 : decode cX9_put 62 = .ok (.iastore, 1) := by decide +kernel
theorem dX9_put_63 : decode cX9_put 63 = .ok (.aload_n 0, 1) := by decide +kernel
theorem dX9_put_64 : decode cX9_put 64 = .ok (.getfield 18, 3) := by decide +kernel
theorem dX9_put_67 : decode cX9_put 67 = .ok (.aload_n 0, 1) := by decide +kernel
theorem dX9_put_68 : decode cX9_put 68 = .ok (.getfield 21, 3) := by decide +kernel
theorem dX9_put_71 : decode cX9_put 71 = .ok (.iload_n 3, 1) := by decide +kernel
theorem dX9_put_72 : decode cX9_put 72 = .ok (.iastore, 1) := by decide +kernel
theorem dX9_put_73 : decode cX9_put 73 = .ok (.aload_n 0, 1) := by decide +kernel
theorem dX9_put_74 : decode cX9_put 74 = .ok (.dup, 1) := by decide +kernel
theorem dX9_put_75 : decode cX9_put 75 = .ok (.getfield 21, 3) := by decide +kernel
theorem dX9_put_78 : decode cX9_put 78 = .ok (.iconst 1, 1) := by decide +kernel
theorem dX9_put_79 : decode cX9_put 79 = .ok (.iadd, 1) := by decide +kernel
theorem dX9_put_80 : decode cX9_put 80 = .ok (.putfield 21, 3) := by decide +kernel
theorem dX9_put_83 : decode cX9_put 83 = .ok (.return_, 1) := by decide +kernel
theorem dX9_isLetter_0 : decode cX9_isLetter 0 = .ok (.iload_n 0, 1) := by decide +kernel
theorem dX9_isLetter_1 : decode cX9_isLetter 1 = .ok (.bipush 97, 2) := by decide +kernel
theorem dX9_isLetter_3 : decode cX9_isLetter 3 = .ok (.if_icmp .lt 13, 3) := by decide +kernel
theorem dX9_isLetter_6 : decode cX9_isLetter 6 = .ok (.iload_n 0, 1) := by decide +kernel
theorem dX9_isLetter_7 : decode cX9_isLetter 7 = .ok (.bipush 122, 2) := by decide +kernel
theorem dX9_isLetter_9 : decode cX9_isLetter 9 = .ok (.if_icmp .gt 7, 3) := by decide +kernel
theorem dX9_isLetter_12 : decode cX9_isLetter 12 = .ok (.iconst 1, 1) := by decide +kernel
theorem dX9_isLetter_13 : decode cX9_isLetter 13 = .ok (.goto 4, 3) := by decide +kernel
theorem dX9_isLetter_16 : decode cX9_isLetter 16 = .ok (.iconst 0, 1) := by decide +kernel
theorem dX9_isLetter_17 : decode cX9_isLetter 17 = .ok (.ireturn, 1) := by decide +kernel
theorem dX9_isDigit_0 : decode cX9_isDigit 0 = .ok (.iload_n 0, 1) := by decide +kernel
theorem dX9_isDigit_1 : decode cX9_isDigit 1 = .ok (.bipush 48, 2) := by decide +kernel
theorem dX9_isDigit_3 : decode cX9_isDigit 3 = .ok (.if_icmp .lt 13, 3) := by decide +kernel
theorem dX9_isDigit_6 : decode cX9_isDigit 6 = .ok (.iload_n 0, 1) := by decide +kernel
theorem dX9_isDigit_7 : decode cX9_isDigit 7 = .ok (.bipush 57, 2) := by decide +kernel
theorem dX9_isDigit_9 : decode cX9_isDigit 9 = .ok (.if_icmp .gt 7, 3) := by decide +kernel
theorem dX9_isDigit_12 : decode cX9_isDigit 12 = .ok (.iconst 1, 1) := by decide +kernel
theorem dX9_isDigit_13 : decode cX9_isDigit 13 = .ok (.goto 4, 3) := by decide +kernel
theorem dX9_isDigit_16 : decode cX9_isDigit 16 = .ok (.iconst 0, 1) := by decide +kernel
theorem dX9_isDigit_17 : decode cX9_isDigit 17 = .ok (.ireturn, 1) := by decide +kernel
theorem dX9_wordKind_0 : decode cX9_wordKind 0 = .ok (.aload_n 0, 1) := by decide +kernel
theorem dX9_wordKind_1 : decode cX9_wordKind 1 = .ok (.iload_n 1, 1) := by decide +kernel
theorem dX9_wordKind_2 : decode cX9_wordKind 2 = .ok (.iload_n 2, 1) := by decide +kernel
theorem dX9_wordKind_3 : decode cX9_wordKind 3 = .ok (.ldc 68, 2) := by decide +kernel
theorem dX9_wordKind_5 : decode cX9_wordKind 5 = .ok (.invokestatic 70, 3) := by decide +kernel
theorem dX9_wordKind_8 : decode cX9_wordKind 8 = .ok (.ifCond .eq 5, 3) := by decide +kernel
theorem dX9_wordKind_11 : decode cX9_wordKind 11 = .ok (.iconst 4, 1) := by decide +kernel
theorem dX9_wordKind_12 : decode cX9_wordKind 12 = .ok (.ireturn, 1) := by decide +kernel
theorem dX9_wordKind_13 : decode cX9_wordKind 13 = .ok (.aload_n 0, 1) := by decide +kernel
theorem dX9_wordKind_14 : decode cX9_wordKind 14 = .ok (.iload_n 1, 1) := by decide +kernel
theorem dX9_wordKind_15 : decode cX9_wordKind 15 = .ok (.iload_n 2, 1) := by decide +kernel
theorem dX9_wordKind_16 : decode cX9_wordKind 16 = .ok (.ldc 74, 2) := by decide +kernel
theorem dX9_wordKind_18 : decode cX9_wordKind 18 = .ok (.invokestatic 70, 3) := by decide +kernel
theorem dX9_wordKind_21 : decode cX9_wordKind 21 = .ok (.ifCond .eq 5, 3) := by decide +kernel
theorem dX9_wordKind_24 : decode cX9_wordKind 24 = .ok (.iconst 5, 1) := by decide +kernel
theorem dX9_wordKind_25 : decode cX9_wordKind 25 = .ok (.ireturn, 1) := by decide +kernel
theorem dX9_wordKind_26 : decode cX9_wordKind 26 = .ok (.aload_n 0, 1) := by decide +kernel
theorem dX9_wordKind_27 : decode cX9_wordKind 27 = .ok (.iload_n 1, 1) := by decide +kernel
theorem dX9_wordKind_28 : decode cX9_wordKind 28 = .ok (.iload_n 2, 1) := by decide +kernel
theorem dX9_wordKind_29 : decode cX9_wordKind 29 = .ok (.ldc 76, 2) := by decide +kernel
theorem dX9_wordKind_31 : decode cX9_wordKind 31 = .ok (.invokestatic 70, 3) := by decide +kernel
theorem dX9_wordKind_34 : decode cX9_wordKind 34 = .ok (.ifCond .eq 6, 3) := by decide +kernel
theorem dX9_wordKind_37 : decode cX9_wordKind 37 = .ok (.bipush 6, 2) := by decide +kernel
theorem dX9_wordKind_39 : decode cX9_wordKind 39 = .ok (.ireturn, 1) := by decide +kernel
theorem dX9_wordKind_40 : decode cX9_wordKind 40 = .ok (.aload_n 0, 1) := by decide +kernel
theorem dX9_wordKind_41 : decode cX9_wordKind 41 = .ok (.iload_n 1, 1) := by decide +kernel
theorem dX9_wordKind_42 : decode cX9_wordKind 42 = .ok (.iload_n 2, 1) := by decide +kernel
theorem dX9_wordKind_43 : decode cX9_wordKind 43 = .ok (.ldc 78, 2) := by decide +kernel
theorem dX9_wordKind_45 : decode cX9_wordKind 45 = .ok (.invokestatic 70, 3) := by decide +kernel
theorem dX9_wordKind_48 : decode cX9_wordKind 48 = .ok (.ifCond .eq 6, 3) := by decide +kernel
theorem dX9_wordKind_51 : decode cX9_wordKind 51 = .ok (.bipush 7, 2) := by decide +kernel
theorem dX9_wordKind_53 : decode cX9_wordKind 53 = .ok (.ireturn, 1) := by decide +kernel
theorem dX9_wordKind_54 : decode cX9_wordKind 54 = .ok (.aload_n 0, 1) := by decide +kernel
theorem dX9_wordKind_55 : decode cX9_wordKind 55 = .ok (.iload_n 1, 1) := by decide +kernel
theorem dX9_wordKind_56 : decode cX9_wordKind 56 = .ok (.iload_n 2, 1) := by decide +kernel
theorem dX9_wordKind_57 : decode cX9_wordKind 57 = .ok (.ldc 80, 2) := by decide +kernel
theorem dX9_wordKind_59 : decode cX9_wordKind 59 = .ok (.invokestatic 70, 3) := by decide +kernel
theorem dX9_wordKind_62 : decode cX9_wordKind 62 = .ok (.ifCond .eq 6, 3) := by decide +kernel
theorem dX9_wordKind_65 : decode cX9_wordKind 65 = .ok (.bipush 8, 2) := by decide +kernel
theorem dX9_wordKind_67 : decode cX9_wordKind 67 = .ok (.ireturn, 1) := by decide +kernel
theorem dX9_wordKind_68 : decode cX9_wordKind 68 = .ok (.aload_n 0, 1) := by decide +kernel
theorem dX9_wordKind_69 : decode cX9_wordKind 69 = .ok (.iload_n 1, 1) := by decide +kernel
theorem dX9_wordKind_70 : decode cX9_wordKind 70 = .ok (.iload_n 2, 1) := by decide +kernel
theorem dX9_wordKind_71 : decode cX9_wordKind 71 = .ok (.ldc 82, 2) := by decide +kernel
theorem dX9_wordKind_73 : decode cX9_wordKind 73 = .ok (.invokestatic 70, 3) := by decide +kernel
theorem dX9_wordKind_76 : decode cX9_wordKind 76 = .ok (.ifCond .eq 6, 3) := by decide +kernel
theorem dX9_wordKind_79 : decode cX9_wordKind 79 = .ok (.bipush 9, 2) := by decide +kernel
theorem dX9_wordKind_81 : decode cX9_wordKind 81 = .ok (.ireturn, 1) := by decide +kernel
theorem dX9_wordKind_82 : decode cX9_wordKind 82 = .ok (.aload_n 0, 1) := by decide +kernel
theorem dX9_wordKind_83 : decode cX9_wordKind 83 = .ok (.iload_n 1, 1) := by decide +kernel
theorem dX9_wordKind_84 : decode cX9_wordKind 84 = .ok (.iload_n 2, 1) := by decide +kernel
theorem dX9_wordKind_85 : decode cX9_wordKind 85 = .ok (.ldc 84, 2) := by decide +kernel
theorem dX9_wordKind_87 : decode cX9_wordKind 87 = .ok (.invokestatic 70, 3) := by decide +kernel
theorem dX9_wordKind_90 : decode cX9_wordKind 90 = .ok (.ifCond .eq 6, 3) := by decide +kernel
theorem dX9_wordKind_93 : decode cX9_wordKind 93 = .ok (.bipush 10, 2) := by decide +kernel
theorem dX9_wordKind_95 : decode cX9_wordKind 95 = .ok (.ireturn, 1) := by decide +kernel
theorem dX9_wordKind_96 : decode cX9_wordKind 96 = .ok (.aload_n 0, 1) := by decide +kernel
theorem dX9_wordKind_97 : decode cX9_wordKind 97 = .ok (.iload_n 1, 1) := by decide +kernel
theorem dX9_wordKind_98 : decode cX9_wordKind 98 = .ok (.iload_n 2, 1) := by decide +kernel
theorem dX9_wordKind_99 : decode cX9_wordKind 99 = .ok (.ldc 86, 2) := by decide +kernel
theorem dX9_wordKind_101 : decode cX9_wordKind 101 = .ok (.invokestatic 70, 3) := by decide +kernel
theorem dX9_wordKind_104 : decode cX9_wordKind 104 = .ok (.ifCond .eq 8, 3) := by decide +kernel
theorem dX9_wordKind_107 : decode cX9_wordKind 107 = .ok (.bipush 11, 2) := by decide +kernel
theorem dX9_wordKind_109 : decode cX9_wordKind 109 = .ok (.goto 4, 3) := by decide +kernel
theorem dX9_wordKind_112 : decode cX9_wordKind 112 = .ok (.iconst 3, 1) := by decide +kernel
theorem dX9_wordKind_113 : decode cX9_wordKind 113 = .ok (.ireturn, 1) := by decide +kernel
theorem dX9_isWord_0 : decode cX9_isWord 0 = .ok (.iload_n 2, 1) := by decide +kernel
theorem dX9_isWord_1 : decode cX9_isWord 1 = .ok (.iload_n 1, 1) := by decide +kernel
theorem dX9_isWord_2 : decode cX9_isWord 2 = .ok (.isub, 1) := by decide +kernel
theorem dX9_isWord_3 : decode cX9_isWord 3 = .ok (.aload_n 3, 1) := by decide +kernel
theorem dX9_isWord_4 : decode cX9_isWord 4 = .ok (.invokevirtual 88, 3) := by decide +kernel
theorem dX9_isWord_7 : decode cX9_isWord 7 = .ok (.if_icmp .eq 5, 3) := by decide +kernel
theorem dX9_isWord_10 : decode cX9_isWord 10 = .ok (.iconst 0, 1) := by decide +kernel
theorem dX9_isWord_11 : decode cX9_isWord 11 = .ok (.ireturn, 1) := by decide +kernel
theorem dX9_isWord_12 : decode cX9_isWord 12 = .ok (.iconst 0, 1) := by decide +kernel
theorem dX9_isWord_13 : decode cX9_isWord 13 = .ok (.istore 4, 2) := by decide +kernel
theorem dX9_isWord_15 : decode cX9_isWord 15 = .ok (.iload 4, 2) := by decide +kernel
theorem dX9_isWord_17 : decode cX9_isWord 17 = .ok (.aload_n 3, 1) := by decide +kernel
theorem dX9_isWord_18 : decode cX9_isWord 18 = .ok (.invokevirtual 88, 3) := by decide +kernel
theorem dX9_isWord_21 : decode cX9_isWord 21 = .ok (.if_icmp .ge 28, 3) := by decide +kernel
theorem dX9_isWord_24 : decode cX9_isWord 24 = .ok (.aload_n 0, 1) := by decide +kernel
theorem dX9_isWord_25 : decode cX9_isWord 25 = .ok (.iload_n 1, 1) := by decide +kernel
theorem dX9_isWord_26 : decode cX9_isWord 26 = .ok (.iload 4, 2) := by decide +kernel
theorem dX9_isWord_28 : decode cX9_isWord 28 = .ok (.iadd, 1) := by decide +kernel
theorem dX9_isWord_29 : decode cX9_isWord 29 = .ok (.invokevirtual 39, 3) := by decide +kernel
theorem dX9_isWord_32 : decode cX9_isWord 32 = .ok (.aload_n 3, 1) := by decide +kernel
theorem dX9_isWord_33 : decode cX9_isWord 33 = .ok (.iload 4, 2) := by decide +kernel
theorem dX9_isWord_35 : decode cX9_isWord 35 = .ok (.invokevirtual 92, 3) := by decide +kernel
theorem dX9_isWord_38 : decode cX9_isWord 38 = .ok (.if_icmp .eq 5, 3) := by decide +kernel
theorem dX9_isWord_41 : decode cX9_isWord 41 = .ok (.iconst 0, 1) := by decide +kernel
theorem dX9_isWord_42 : decode cX9_isWord 42 = .ok (.ireturn, 1) := by decide +kernel
theorem dX9_isWord_43 : decode cX9_isWord 43 = .ok (.iinc 4 1, 3) := by decide +kernel
theorem dX9_isWord_46 : decode cX9_isWord 46 = .ok (.goto (-31), 3) := by decide +kernel
theorem dX9_isWord_49 : decode cX9_isWord 49 = .ok (.iconst 1, 1) := by decide +kernel
theorem dX9_isWord_50 : decode cX9_isWord 50 = .ok (.ireturn, 1) := by decide +kernel
