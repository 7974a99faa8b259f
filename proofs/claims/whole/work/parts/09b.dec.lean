theorem dX10_init_0 : decode cX10_init 0 = .ok (.aload_n 0, 1) := by decide +kernel
theorem dX10_init_1 : decode cX10_init 1 = .ok (.invokespecial 1, 3) := by decide +kernel
theorem dX10_init_4 : decode cX10_init 4 = .ok (.aload_n 0, 1) := by decide +kernel
theorem dX10_init_5 : decode cX10_init 5 = .ok (.bipush 8, 2) := by decide +kernel
theorem dX10_init_7 : decode cX10_init 7 = .ok (.anewarray 9, 3) := by decide +kernel
theorem dX10_init_10 : decode cX10_init 10 = .ok (.putfield 11, 3) := by decide +kernel
theorem dX10_init_13 : decode cX10_init 13 = .ok (.aload_n 0, 1) := by decide +kernel
theorem dX10_init_14 : decode cX10_init 14 = .ok (.bipush 30, 2) := by decide +kernel
theorem dX10_init_16 : decode cX10_init 16 = .ok (.anewarray 15, 3) := by decide +kernel
theorem dX10_init_19 : decode cX10_init 19 = .ok (.putfield 17, 3) := by decide +kernel
theorem dX10_init_22 : decode cX10_init 22 = .ok (.aload_n 0, 1) := by decide +kernel
theorem dX10_init_23 : decode cX10_init 23 = .ok (.sipush 200, 3) := by decide +kernel
theorem dX10_init_26 : decode cX10_init 26 = .ok (.anewarray 21, 3) := by decide +kernel
theorem dX10_init_29 : decode cX10_init 29 = .ok (.putfield 23, 3) := by decide +kernel
theorem dX10_init_32 : decode cX10_init 32 = .ok (.aload_n 0, 1) := by decide +kernel
theorem dX10_init_33 : decode cX10_init 33 = .ok (.new 27, 3) := by decide +kernel
theorem dX10_init_36 : decode cX10_init 36 = .ok (.dup, 1) := by decide +kernel
theorem dX10_init_37 : decode cX10_init 37 = .ok (.invokespecial 29, 3) := by decide +kernel
theorem dX10_init_40 : decode cX10_init 40 = .ok (.putfield 30, 3) := by decide +kernel
theorem dX10_init_43 : decode cX10_init 43 = .ok (.aload_n 0, 1) := by decide +kernel
theorem dX10_init_44 : decode cX10_init 44 = .ok (.new 34, 3) := by decide +kernel
theorem dX10_init_47 : decode cX10_init 47 = .ok (.dup, 1) := by decide +kernel
theorem dX10_init_48 : decode cX10_init 48 = .ok (.invokespecial 36, 3) := by decide +kernel
theorem dX10_init_51 : decode cX10_init 51 = .ok (.putfield 37, 3) := by decide +kernel
theorem dX10_init_54 : decode cX10_init 54 = .ok (.aload_n 0, 1) := by decide +kernel
theorem dX10_init_55 : decode cX10_init 55 = .ok (.new 41, 3) := by decide +kernel
theorem dX10_init_58 : decode cX10_init 58 = .ok (.dup, 1) := by decide +kernel
theorem dX10_init_59 : decode cX10_init 59 = .ok (.aload_n 0, 1) := by decide +kernel
theorem dX10_init_60 : decode cX10_init 60 = .ok (.getfield 37, 3) := by decide +kernel
theorem dX10_init_63 : decode cX10_init 63 = .ok (.invokespecial 43, 3) := by decide +kernel
theorem dX10_init_66 : decode cX10_init 66 = .ok (.putfield 46, 3) := by decide +kernel
theorem dX10_init_69 : decode cX10_init 69 = .ok (.aload_n 0, 1) := by decide +kernel
theorem dX10_init_70 : decode cX10_init 70 = .ok (.new 50, 3) := by decide +kernel
theorem dX10_init_73 : decode cX10_init 73 = .ok (.dup, 1) := by decide +kernel
theorem dX10_init_74 : decode cX10_init 74 = .ok (.invokespecial 52, 3) := by decide +kernel
theorem dX10_init_77 : decode cX10_init 77 = .ok (.putfield 53, 3) := by decide +kernel
theorem dX10_init_80 : decode cX10_init 80 = .ok (.aload_n 0, 1) := by decide +kernel
theorem dX10_init_81 : decode cX10_init 81 = .ok (.iconst 0, 1) := by decide +kernel
theorem dX10_init_82 : decode cX10_init 82 = .ok (.putfield 57, 3) := by decide +kernel
theorem dX10_init_85 : decode cX10_init 85 = .ok (.aload_n 0, 1) := by decide +kernel
theorem dX10_init_86 : decode cX10_init 86 = .ok (.iconst 0, 1) := by decide +kernel
theorem dX10_init_87 : decode cX10_init 87 = .ok (.putfield 61, 3) := by decide +kernel
theorem dX10_init_90 : decode cX10_init 90 = .ok (.aload_n 0, 1) := by decide +kernel
theorem dX10_init_91 : decode cX10_init 91 = .ok (.iconst 0, 1) := by decide +kernel
theorem dX10_init_92 : decode cX10_init 92 = .ok (.putfield 64, 3) := by decide +kernel
theorem dX10_init_95 : decode cX10_init 95 = .ok (.aload_n 0, 1) := by decide +kernel
theorem dX10_init_96 : decode cX10_init 96 = .ok (.iconst 0, 1) := by decide +kernel
theorem dX10_init_97 : decode cX10_init 97 = .ok (.putfield 67, 3) := by decide +kernel
theorem dX10_init_100 : decode cX10_init 100 = .ok (.aload_n 0, 1) := by decide +kernel
theorem dX10_init_101 : decode cX10_init 101 = .ok (.iconst 0, 1) := by decide +kernel
theorem dX10_init_102 : decode cX10_init 102 = .ok (.putfield 70, 3) := by decide +kernel
theorem dX10_init_105 : decode cX10_init 105 = .ok (.aload_n 0, 1) := by decide +kernel
theorem dX10_init_106 : decode cX10_init 106 = .ok (.iconst 0, 1) := by decide +kernel
theorem dX10_init_107 : decode cX10_init 107 = .ok (.putfield 73, 3) := by decide +kernel
theorem dX10_init_110 : decode cX10_init 110 = .ok (.return_, 1) := by decide +kernel
theorem dX10_port_0 : decode cX10_port 0 = .ok (.iload_n 1, 1) := by decide +kernel
theorem dX10_port_1 : decode cX10_port 1 = .ok (.iconst 1, 1) := by decide +kernel
theorem dX10_port_2 : decode cX10_port 2 = .ok (.if_icmp .lt 9, 3) := by decide +kernel
theorem dX10_port_5 : decode cX10_port 5 = .ok (.iload_n 1, 1) := by decide +kernel
theorem dX10_port_6 : decode cX10_port 6 = .ok (.bipush 60, 2) := by decide +kernel
theorem dX10_port_8 : decode cX10_port 8 = .ok (.if_icmp .le 9, 3) := by decide +kernel
theorem dX10_port_11 : decode cX10_port 11 = .ok (.aload_n 0, 1) := by decide +kernel
theorem dX10_port_12 : decode cX10_port 12 = .ok (.iconst 2, 1) := by decide +kernel
theorem dX10_port_13 : decode cX10_port 13 = .ok (.invokevirtual 76, 3) := by decide +kernel
theorem dX10_port_16 : decode cX10_port 16 = .ok (.ireturn, 1) := by decide +kernel
theorem dX10_port_17 : decode cX10_port 17 = .ok (.aload_n 0, 1) := by decide +kernel
theorem dX10_port_18 : decode cX10_port 18 = .ok (.getfield 57, 3) := by decide +kernel
theorem dX10_port_21 : decode cX10_port 21 = .ok (.aload_n 0, 1) := by decide +kernel
theorem dX10_port_22 : decode cX10_port 22 = .ok (.getfield 11, 3) := by decide +kernel
theorem dX10_port_25 : decode cX10_port 25 = .ok (.arraylength, 1) := by decide +kernel
theorem dX10_port_26 : decode cX10_port 26 = .ok (.if_icmp .lt 9, 3) := by decide +kernel
theorem dX10_port_29 : decode cX10_port 29 = .ok (.aload_n 0, 1) := by decide +kernel
theorem dX10_port_30 : decode cX10_port 30 = .ok (.iconst 3, 1) := by decide +kernel
theorem dX10_port_31 : decode cX10_port 31 = .ok (.invokevirtual 76, 3) := by decide +kernel
theorem dX10_port_34 : decode cX10_port 34 = .ok (.ireturn, 1) := by decide +kernel
theorem dX10_port_35 : decode cX10_port 35 = .ok (.new 9, 3) := by decide +kernel
theorem dX10_port_38 : decode cX10_port 38 = .ok (.dup, 1) := by decide +kernel
theorem dX10_port_39 : decode cX10_port 39 = .ok (.iload_n 1, 1) := by decide +kernel
theorem dX10_port_40 : decode cX10_port 40 = .ok (.aload_n 0, 1) := by decide +kernel
theorem dX10_port_41 : decode cX10_port 41 = .ok (.getfield 67, 3) := by decide +kernel
theorem dX10_port_44 : decode cX10_port 44 = .ok (.invokespecial 80, 3) := by decide +kernel
theorem dX10_port_47 : decode cX10_port 47 = .ok (.astore_n 2, 1) := by decide +kernel
theorem dX10_port_48 : decode cX10_port 48 = .ok (.iconst 0, 1) := by decide +kernel
theorem dX10_port_49 : decode cX10_port 49 = .ok (.istore_n 3, 1) := by decide +kernel
theorem dX10_port_50 : decode cX10_port 50 = .ok (.iload_n 3, 1) := by decide +kernel
theorem dX10_port_51 : decode cX10_port 51 = .ok (.aload_n 0, 1) := by decide +kernel
theorem dX10_port_52 : decode cX10_port 52 = .ok (.getfield 61, 3) := by decide +kernel
theorem dX10_port_55 : decode cX10_port 55 = .ok (.if_icmp .ge 17, 3) := by decide +kernel
theorem dX10_port_58 : decode cX10_port 58 = .ok (.aload_n 2, 1) := by decide +kernel
theorem dX10_port_59 : decode cX10_port 59 = .ok (.aload_n 0, 1) := by decide +kernel
theorem dX10_port_60 : decode cX10_port 60 = .ok (.getfield 67, 3) := by decide +kernel
theorem dX10_port_63 : decode cX10_port 63 = .ok (.invokevirtual 83, 3) := by decide +kernel
theorem dX10_port_66 : decode cX10_port 66 = .ok (.iinc 3 1, 3) := by decide +kernel
theorem dX10_port_69 : decode cX10_port 69 = .ok (.goto (-19), 3) := by decide +kernel
theorem dX10_port_72 : decode cX10_port 72 = .ok (.aload_n 0, 1) := by decide +kernel
theorem dX10_port_73 : decode cX10_port 73 = .ok (.getfield 11, 3) := by decide +kernel
theorem dX10_port_76 : decode cX10_port 76 = .ok (.aload_n 0, 1) := by decide +kernel
theorem dX10_port_77 : decode cX10_port 77 = .ok (.getfield 57, 3) := by decide +kernel
theorem dX10_port_80 : decode cX10_port 80 = .ok (.aload_n 2, 1) := by decide +kernel
theorem dX10_port_81 : decode cX10_port 81 = .ok (.aastore, 1) := by decide +kernel
theorem dX10_port_82 : decode cX10_port 82 = .ok (.aload_n 0, 1) := by decide +kernel
theorem dX10_port_83 : decode cX10_port 83 = .ok (.dup, 1) := by decide +kernel
theorem dX10_port_84 : decode cX10_port 84 = .ok (.getfield 57, 3) := by decide +kernel
theorem dX10_port_87 : decode cX10_port 87 = .ok (.iconst 1, 1) := by decide +kernel
theorem dX10_port_88 : decode cX10_port 88 = .ok (.iadd, 1) := by decide +kernel
theorem dX10_port_89 : decode cX10_port 89 = .ok (.putfield 57, 3) := by decide +kernel
theorem dX10_port_92 : decode cX10_port 92 = .ok (.aload_n 0, 1) := by decide +kernel
theorem dX10_port_93 : decode cX10_port 93 = .ok (.aload_n 0, 1) := by decide +kernel
theorem dX10_port_94 : decode cX10_port 94 = .ok (.getfield 57, 3) := by decide +kernel
theorem dX10_port_97 : decode cX10_port 97 = .ok (.iconst 1, 1) := by decide +kernel
theorem dX10_port_98 : decode cX10_port 98 = .ok (.isub, 1) := by decide +kernel
theorem dX10_port_99 : decode cX10_port 99 = .ok (.invokevirtual 87, 3) := by decide +kernel
theorem dX10_port_102 : decode cX10_port 102 = .ok (.ireturn, 1) := by decide +kernel
theorem dX10_feed_0 : decode cX10_feed 0 = .ok (.aload_n 0, 1) := by decide +kernel
theorem dX10_feed_1 : decode cX10_feed 1 = .ok (.getfield 30, 3) := by decide +kernel
theorem dX10_feed_4 : decode cX10_feed 4 = .ok (.getfield 90, 3) := by decide +kernel
theorem dX10_feed_7 : decode cX10_feed 7 = .ok (.bipush 20, 2) := by decide +kernel
theorem dX10_feed_9 : decode cX10_feed 9 = .ok (.iadd, 1) := by decide +kernel
theorem dX10_feed_10 : decode cX10_feed 10 = .ok (.sipush 300, 3) := by decide +kernel
theorem dX10_feed_13 : decode cX10_feed 13 = .ok (.if_icmp .le 5, 3) := by decide +kernel
theorem dX10_feed_16 : decode cX10_feed 16 = .ok (.iconst (-1), 1) := by decide +kernel
theorem dX10_feed_17 : decode cX10_feed 17 = .ok (.ireturn, 1) := by decide +kernel
theorem dX10_feed_18 : decode cX10_feed 18 = .ok (.aload_n 0, 1) := by decide +kernel
theorem dX10_feed_19 : decode cX10_feed 19 = .ok (.getfield 30, 3) := by decide +kernel
theorem dX10_feed_22 : decode cX10_feed 22 = .ok (.iload_n 1, 1) := by decide +kernel
theorem dX10_feed_23 : decode cX10_feed 23 = .ok (.invokevirtual 93, 3) := by decide +kernel
theorem dX10_feed_26 : decode cX10_feed 26 = .ok (.aload_n 0, 1) := by decide +kernel
theorem dX10_feed_27 : decode cX10_feed 27 = .ok (.getfield 30, 3) := by decide +kernel
theorem dX10_feed_30 : decode cX10_feed 30 = .ok (.iload_n 2, 1) := by decide +kernel
theorem dX10_feed_31 : decode cX10_feed 31 = .ok (.invokevirtual 93, 3) := by decide +kernel
theorem dX10_feed_34 : decode cX10_feed 34 = .ok (.aload_n 0, 1) := by decide +kernel
theorem dX10_feed_35 : decode cX10_feed 35 = .ok (.getfield 30, 3) := by decide +kernel
theorem dX10_feed_38 : decode cX10_feed 38 = .ok (.iload_n 3, 1) := by decide +kernel
theorem dX10_feed_39 : decode cX10_feed 39 = .ok (.invokevirtual 93, 3) := by decide +kernel
theorem dX10_feed_42 : decode cX10_feed 42 = .ok (.aload_n 0, 1) := by decide +kernel
theorem dX10_feed_43 : decode cX10_feed 43 = .ok (.getfield 30, 3) := by decide +kernel
theorem dX10_feed_46 : decode cX10_feed 46 = .ok (.iload 4, 2) := by decide +kernel
theorem dX10_feed_48 : decode cX10_feed 48 = .ok (.invokevirtual 93, 3) := by decide +kernel
theorem dX10_feed_51 : decode cX10_feed 51 = .ok (.aload_n 0, 1) := by decide +kernel
theorem dX10_feed_52 : decode cX10_feed 52 = .ok (.getfield 30, 3) := by decide +kernel
theorem dX10_feed_55 : decode cX10_feed 55 = .ok (.iload 5, 2) := by decide +kernel
theorem dX10_feed_57 : decode cX10_feed 57 = .ok (.invokevirtual 93, 3) := by decide +kernel
theorem dX10_feed_60 : decode cX10_feed 60 = .ok (.aload_n 0, 1) := by decide +kernel
theorem dX10_feed_61 : decode cX10_feed 61 = .ok (.getfield 30, 3) := by decide +kernel
theorem dX10_feed_64 : decode cX10_feed 64 = .ok (.getfield 90, 3) := by decide +kernel
theorem dX10_feed_67 : decode cX10_feed 67 = .ok (.ireturn, 1) := by decide +kernel
theorem dX10_tariff_0 : decode cX10_tariff 0 = .ok (.iload_n 1, 1) := by decide +kernel
theorem dX10_tariff_1 : decode cX10_tariff 1 = .ok (.ifCond .lt 14, 3) := by decide +kernel
theorem dX10_tariff_4 : decode cX10_tariff 4 = .ok (.iload_n 1, 1) := by decide +kernel
theorem dX10_tariff_5 : decode cX10_tariff 5 = .ok (.aload_n 0, 1) := by decide +kernel
theorem dX10_tariff_6 : decode cX10_tariff 6 = .ok (.getfield 30, 3) := by decide +kernel
theorem dX10_tariff_9 : decode cX10_tariff 9 = .ok (.getfield 90, 3) := by decide +kernel
theorem dX10_tariff_12 : decode cX10_tariff 12 = .ok (.if_icmp .le 9, 3) := by decide +kernel
theorem dX10_tariff_15 : decode cX10_tariff 15 = .ok (.aload_n 0, 1) := by decide +kernel
theorem dX10_tariff_16 : decode cX10_tariff 16 = .ok (.iconst 2, 1) := by decide +kernel
theorem dX10_tariff_17 : decode cX10_tariff 17 = .ok (.invokevirtual 76, 3) := by decide +kernel
theorem dX10_tariff_20 : decode cX10_tariff 20 = .ok (.ireturn, 1) := by decide +kernel
theorem dX10_tariff_21 : decode cX10_tariff 21 = .ok (.aload_n 0, 1) := by decide +kernel
theorem dX10_tariff_22 : decode cX10_tariff 22 = .ok (.getfield 37, 3) := by decide +kernel
theorem dX10_tariff_25 : decode cX10_tariff 25 = .ok (.aload_n 0, 1) := by decide +kernel
theorem dX10_tariff_26 : decode cX10_tariff 26 = .ok (.getfield 30, 3) := by decide +kernel
theorem dX10_tariff_29 : decode cX10_tariff 29 = .ok (.iload_n 1, 1) := by decide +kernel
theorem dX10_tariff_30 : decode cX10_tariff 30 = .ok (.invokevirtual 96, 3) := by decide +kernel
theorem dX10_tariff_33 : decode cX10_tariff 33 = .ok (.aload_n 0, 1) := by decide +kernel
theorem dX10_tariff_34 : decode cX10_tariff 34 = .ok (.getfield 46, 3) := by decide +kernel
theorem dX10_tariff_37 : decode cX10_tariff 37 = .ok (.invokevirtual 100, 3) := by decide +kernel
theorem dX10_tariff_40 : decode cX10_tariff 40 = .ok (.astore_n 2, 1) := by decide +kernel
theorem dX10_tariff_41 : decode cX10_tariff 41 = .ok (.aload_n 0, 1) := by decide +kernel
theorem dX10_tariff_42 : decode cX10_tariff 42 = .ok (.getfield 30, 3) := by decide +kernel
theorem dX10_tariff_45 : decode cX10_tariff 45 = .ok (.invokevirtual 104, 3) := by decide +kernel
theorem dX10_tariff_48 : decode cX10_tariff 48 = .ok (.aload_n 0, 1) := by decide +kernel
theorem dX10_tariff_49 : decode cX10_tariff 49 = .ok (.aload_n 0, 1) := by decide +kernel
theorem dX10_tariff_50 : decode cX10_tariff 50 = .ok (.getfield 46, 3) := by decide +kernel
theorem dX10_tariff_53 : decode cX10_tariff 53 = .ok (.getfield 107, 3) := by decide +kernel
theorem dX10_tariff_56 : decode cX10_tariff 56 = .ok (.putfield 73, 3) := by decide +kernel
theorem dX10_tariff_59 : decode cX10_tariff 59 = .ok (.aload_n 2, 1) := by decide +kernel
theorem dX10_tariff_60 : decode cX10_tariff 60 = .ok (.ifnonnull 9, 3) := by decide +kernel
theorem dX10_tariff_63 : decode cX10_tariff 63 = .ok (.aload_n 0, 1) := by decide +kernel
theorem dX10_tariff_64 : decode cX10_tariff 64 = .ok (.iconst 4, 1) := by decide +kernel
theorem dX10_tariff_65 : decode cX10_tariff 65 = .ok (.invokevirtual 76, 3) := by decide +kernel
theorem dX10_tariff_68 : decode cX10_tariff 68 = .ok (.ireturn, 1) := by decide +kernel
theorem dX10_tariff_69 : decode cX10_tariff 69 = .ok (.aload_n 0, 1) := by decide +kernel
theorem dX10_tariff_70 : decode cX10_tariff 70 = .ok (.getfield 61, 3) := by decide +kernel
theorem dX10_tariff_73 : decode cX10_tariff 73 = .ok (.aload_n 0, 1) := by decide +kernel
theorem dX10_tariff_74 : decode cX10_tariff 74 = .ok (.getfield 17, 3) := by decide +kernel
theorem dX10_tariff_77 : decode cX10_tariff 77 = .ok (.arraylength, 1) := by decide +kernel
theorem dX10_tariff_78 : decode cX10_tariff 78 = .ok (.if_icmp .lt 9, 3) := by decide +kernel
theorem dX10_tariff_81 : decode cX10_tariff 81 = .ok (.aload_n 0, 1) := by decide +kernel
theorem dX10_tariff_82 : decode cX10_tariff 82 = .ok (.iconst 3, 1) := by decide +kernel
theorem dX10_tariff_83 : decode cX10_tariff 83 = .ok (.invokevirtual 76, 3) := by decide +kernel
theorem dX10_tariff_86 : decode cX10_tariff 86 = .ok (.ireturn, 1) := by decide +kernel
theorem dX10_tariff_87 : decode cX10_tariff 87 = .ok (.aload_n 0, 1) := by decide +kernel
theorem dX10_tariff_88 : decode cX10_tariff 88 = .ok (.getfield 17, 3) := by decide +kernel
theorem dX10_tariff_91 : decode cX10_tariff 91 = .ok (.aload_n 0, 1) := by decide +kernel
theorem dX10_tariff_92 : decode cX10_tariff 92 = .ok (.getfield 61, 3) := by decide +kernel
theorem dX10_tariff_95 : decode cX10_tariff 95 = .ok (.new 15, 3) := by decide +kernel
theorem dX10_tariff_98 : decode cX10_tariff 98 = .ok (.dup, 1) := by decide +kernel
theorem dX10_tariff_99 : decode cX10_tariff 99 = .ok (.aload_n 0, 1) := by decide +kernel
theorem dX10_tariff_100 : decode cX10_tariff 100 = .ok (.getfield 67, 3) := by decide +kernel
theorem dX10_tariff_103 : decode cX10_tariff 103 = .ok (.aload_n 2, 1) := by decide +kernel
theorem dX10_tariff_104 : decode cX10_tariff 104 = .ok (.invokespecial 110, 3) := by decide +kernel
theorem dX10_tariff_107 : decode cX10_tariff 107 = .ok (.aastore, 1) := by decide +kernel
theorem dX10_tariff_108 : decode cX10_tariff 108 = .ok (.aload_n 0, 1) := by decide +kernel
theorem dX10_tariff_109 : decode cX10_tariff 109 = .ok (.dup, 1) := by decide +kernel
theorem dX10_tariff_110 : decode cX10_tariff 110 = .ok (.getfield 61, 3) := by decide +kernel
theorem dX10_tariff_113 : decode cX10_tariff 113 = .ok (.iconst 1, 1) := by decide +kernel
theorem dX10_tariff_114 : decode cX10_tariff 114 = .ok (.iadd, 1) := by decide +kernel
theorem dX10_tariff_115 : decode cX10_tariff 115 = .ok (.putfield 61, 3) := by decide +kernel
theorem dX10_tariff_118 : decode cX10_tariff 118 = .ok (.aload_n 0, 1) := by decide +kernel
theorem dX10_tariff_119 : decode cX10_tariff 119 = .ok (.invokevirtual 113, 3) := by decide +kernel
theorem dX10_tariff_122 : decode cX10_tariff 122 = .ok (.aload_n 0, 1) := by decide +kernel
theorem dX10_tariff_123 : decode cX10_tariff 123 = .ok (.aload_n 0, 1) := by decide +kernel
theorem dX10_tariff_124 : decode cX10_tariff 124 = .ok (.getfield 61, 3) := by decide +kernel
theorem dX10_tariff_127 : decode cX10_tariff 127 = .ok (.iconst 1, 1) := by decide +kernel
theorem dX10_tariff_128 : decode cX10_tariff 128 = .ok (.isub, 1) := by decide +kernel
theorem dX10_tariff_129 : decode cX10_tariff 129 = .ok (.invokevirtual 87, 3) := by decide +kernel
theorem dX10_tariff_132 : decode cX10_tariff 132 = .ok (.ireturn, 1) := by decide +kernel
theorem dX10_fault_0 : decode cX10_fault 0 = .ok (.aload_n 0, 1) := by decide +kernel
theorem dX10_fault_1 : decode cX10_fault 1 = .ok (.getfield 73, 3) := by decide +kernel
theorem dX10_fault_4 : decode cX10_fault 4 = .ok (.ireturn, 1) := by decide +kernel
theorem dX10_where_0 : decode cX10_where 0 = .ok (.aload_n 0, 1) := by decide +kernel
theorem dX10_where_1 : decode cX10_where 1 = .ok (.getfield 70, 3) := by decide +kernel
theorem dX10_where_4 : decode cX10_where 4 = .ok (.iconst 4, 1) := by decide +kernel
theorem dX10_where_5 : decode cX10_where 5 = .ok (.if_icmp .ne 13, 3) := by decide +kernel
theorem dX10_where_8 : decode cX10_where 8 = .ok (.aload_n 0, 1) := by decide +kernel
theorem dX10_where_9 : decode cX10_where 9 = .ok (.getfield 46, 3) := by decide +kernel
theorem dX10_where_12 : decode cX10_where 12 = .ok (.getfield 116, 3) := by decide +kernel
theorem dX10_where_15 : decode cX10_where 15 = .ok (.goto 4, 3) := by decide +kernel
theorem dX10_where_18 : decode cX10_where 18 = .ok (.iconst (-1), 1) := by decide +kernel
theorem dX10_where_19 : decode cX10_where 19 = .ok (.ireturn, 1) := by decide +kernel
theorem dX10_lost_0 : decode cX10_lost 0 = .ok (.aload_n 0, 1) := by decide +kernel
theorem dX10_lost_1 : decode cX10_lost 1 = .ok (.iload_n 1, 1) := by decide +kernel
theorem dX10_lost_2 : decode cX10_lost 2 = .ok (.invokevirtual 119, 3) := by decide +kernel
theorem dX10_lost_5 : decode cX10_lost 5 = .ok (.astore_n 3, 1) := by decide +kernel
theorem dX10_lost_6 : decode cX10_lost 6 = .ok (.aload_n 3, 1) := by decide +kernel
theorem dX10_lost_7 : decode cX10_lost 7 = .ok (.ifnull 11, 3) := by decide +kernel
theorem dX10_lost_10 : decode cX10_lost 10 = .ok (.aload_n 3, 1) := by decide +kernel
theorem dX10_lost_11 : decode cX10_lost 11 = .ok (.iload_n 2, 1) := by decide +kernel
theorem dX10_lost_12 : decode cX10_lost 12 = .ok (.invokevirtual 123, 3) := by decide +kernel
theorem dX10_lost_15 : decode cX10_lost 15 = .ok (.ifCond .ne 11, 3) := by decide +kernel
theorem dX10_lost_18 : decode cX10_lost 18 = .ok (.aload_n 0, 1) := by decide +kernel
theorem dX10_lost_19 : decode cX10_lost 19 = .ok (.iconst 1, 1) := by decide +kernel
theorem dX10_lost_20 : decode cX10_lost 20 = .ok (.invokevirtual 76, 3) := by decide +kernel
theorem dX10_lost_23 : decode cX10_lost 23 = .ok (.pop, 1) := by decide +kernel
theorem dX10_lost_24 : decode cX10_lost 24 = .ok (.iconst 0, 1) := by decide +kernel
theorem dX10_lost_25 : decode cX10_lost 25 = .ok (.ireturn, 1) := by decide +kernel
theorem dX10_lost_26 : decode cX10_lost 26 = .ok (.aload_n 3, 1) := by decide +kernel
theorem dX10_lost_27 : decode cX10_lost 27 = .ok (.iload_n 2, 1) := by decide +kernel
theorem dX10_lost_28 : decode cX10_lost 28 = .ok (.aload_n 0, 1) := by decide +kernel
theorem dX10_lost_29 : decode cX10_lost 29 = .ok (.getfield 67, 3) := by decide +kernel
theorem dX10_lost_32 : decode cX10_lost 32 = .ok (.invokevirtual 127, 3) := by decide +kernel
theorem dX10_lost_35 : decode cX10_lost 35 = .ok (.ifCond .ne 12, 3) := by decide +kernel
theorem dX10_lost_38 : decode cX10_lost 38 = .ok (.aload_n 0, 1) := by decide +kernel
theorem dX10_lost_39 : decode cX10_lost 39 = .ok (.bipush 7, 2) := by decide +kernel
theorem dX10_lost_41 : decode cX10_lost 41 = .ok (.invokevirtual 76, 3) := by decide +kernel
theorem dX10_lost_44 : decode cX10_lost 44 = .ok (.pop, 1) := by decide +kernel
theorem dX10_lost_45 : decode cX10_lost 45 = .ok (.iconst 0, 1) := by decide +kernel
theorem dX10_lost_46 : decode cX10_lost 46 = .ok (.ireturn, 1) := by decide +kernel
theorem dX10_lost_47 : decode cX10_lost 47 = .ok (.aload_n 0, 1) := by decide +kernel
theorem dX10_lost_48 : decode cX10_lost 48 = .ok (.iconst 0, 1) := by decide +kernel
theorem dX10_lost_49 : decode cX10_lost 49 = .ok (.invokevirtual 87, 3) := by decide +kernel
theorem dX10_lost_52 : decode cX10_lost 52 = .ok (.pop, 1) := by decide +kernel
theorem dX10_lost_53 : decode cX10_lost 53 = .ok (.iconst 1, 1) := by decide +kernel
theorem dX10_lost_54 : decode cX10_lost 54 = .ok (.ireturn, 1) := by decide +kernel
theorem dX10_pass_0 : decode cX10_pass 0 = .ok (.iload_n 1, 1) := by decide +kernel
theorem dX10_pass_1 : decode cX10_pass 1 = .ok (.iconst 1, 1) := by decide +kernel
theorem dX10_pass_2 : decode cX10_pass 2 = .ok (.if_icmp .lt 22, 3) := by decide +kernel
theorem dX10_pass_5 : decode cX10_pass 5 = .ok (.iload_n 1, 1) := by decide +kernel
theorem dX10_pass_6 : decode cX10_pass 6 = .ok (.sipush 400, 3) := by decide +kernel
theorem dX10_pass_9 : decode cX10_pass 9 = .ok (.if_icmp .gt 15, 3) := by decide +kernel
theorem dX10_pass_12 : decode cX10_pass 12 = .ok (.iload_n 1, 1) := by decide +kernel
theorem dX10_pass_13 : decode cX10_pass 13 = .ok (.sipush 10000, 3) := by decide +kernel
theorem dX10_pass_16 : decode cX10_pass 16 = .ok (.aload_n 0, 1) := by decide +kernel
theorem dX10_pass_17 : decode cX10_pass 17 = .ok (.getfield 67, 3) := by decide +kernel
theorem dX10_pass_20 : decode cX10_pass 20 = .ok (.isub, 1) := by decide +kernel
theorem dX10_pass_21 : decode cX10_pass 21 = .ok (.if_icmp .le 9, 3) := by decide +kernel
theorem dX10_pass_24 : decode cX10_pass 24 = .ok (.aload_n 0, 1) := by decide +kernel
theorem dX10_pass_25 : decode cX10_pass 25 = .ok (.iconst 2, 1) := by decide +kernel
theorem dX10_pass_26 : decode cX10_pass 26 = .ok (.invokevirtual 76, 3) := by decide +kernel
theorem dX10_pass_29 : decode cX10_pass 29 = .ok (.ireturn, 1) := by decide +kernel
theorem dX10_pass_30 : decode cX10_pass 30 = .ok (.aload_n 0, 1) := by decide +kernel
theorem dX10_pass_31 : decode cX10_pass 31 = .ok (.dup, 1) := by decide +kernel
theorem dX10_pass_32 : decode cX10_pass 32 = .ok (.getfield 67, 3) := by decide +kernel
theorem dX10_pass_35 : decode cX10_pass 35 = .ok (.iload_n 1, 1) := by decide +kernel
theorem dX10_pass_36 : decode cX10_pass 36 = .ok (.iadd, 1) := by decide +kernel
theorem dX10_pass_37 : decode cX10_pass 37 = .ok (.putfield 67, 3) := by decide +kernel
theorem dX10_pass_40 : decode cX10_pass 40 = .ok (.aload_n 0, 1) := by decide +kernel
theorem dX10_pass_41 : decode cX10_pass 41 = .ok (.aload_n 0, 1) := by decide +kernel
theorem dX10_pass_42 : decode cX10_pass 42 = .ok (.getfield 67, 3) := by decide +kernel
theorem dX10_pass_45 : decode cX10_pass 45 = .ok (.invokevirtual 87, 3) := by decide +kernel
theorem dX10_pass_48 : decode cX10_pass 48 = .ok (.ireturn, 1) := by decide +kernel
theorem dX10_force_0 : decode cX10_force 0 = .ok (.aload_n 0, 1) := by decide +kernel
theorem dX10_force_1 : decode cX10_force 1 = .ok (.iload_n 1, 1) := by decide +kernel
theorem dX10_force_2 : decode cX10_force 2 = .ok (.invokevirtual 119, 3) := by decide +kernel
theorem dX10_force_5 : decode cX10_force 5 = .ok (.astore_n 2, 1) := by decide +kernel
theorem dX10_force_6 : decode cX10_force 6 = .ok (.aload_n 2, 1) := by decide +kernel
theorem dX10_force_7 : decode cX10_force 7 = .ok (.ifnonnull 7, 3) := by decide +kernel
theorem dX10_force_10 : decode cX10_force 10 = .ok (.iconst (-1), 1) := by decide +kernel
theorem dX10_force_11 : decode cX10_force 11 = .ok (.goto 11, 3) := by decide +kernel
theorem dX10_force_14 : decode cX10_force 14 = .ok (.aload_n 2, 1) := by decide +kernel
theorem dX10_force_15 : decode cX10_force 15 = .ok (.aload_n 0, 1) := by decide +kernel
theorem dX10_force_16 : decode cX10_force 16 = .ok (.getfield 67, 3) := by decide +kernel
theorem dX10_force_19 : decode cX10_force 19 = .ok (.invokevirtual 131, 3) := by decide +kernel
theorem dX10_force_22 : decode cX10_force 22 = .ok (.ireturn, 1) := by decide +kernel
theorem dX10_came_0 : decode cX10_came 0 = .ok (.aload_n 0, 1) := by decide +kernel
theorem dX10_came_1 : decode cX10_came 1 = .ok (.iload_n 1, 1) := by decide +kernel
theorem dX10_came_2 : decode cX10_came 2 = .ok (.invokevirtual 119, 3) := by decide +kernel
theorem dX10_came_5 : decode cX10_came 5 = .ok (.astore_n 3, 1) := by decide +kernel
theorem dX10_came_6 : decode cX10_came 6 = .ok (.aload_n 3, 1) := by decide +kernel
theorem dX10_came_7 : decode cX10_came 7 = .ok (.ifnull 11, 3) := by decide +kernel
theorem dX10_came_10 : decode cX10_came 10 = .ok (.aload_n 3, 1) := by decide +kernel
theorem dX10_came_11 : decode cX10_came 11 = .ok (.iload_n 2, 1) := by decide +kernel
theorem dX10_came_12 : decode cX10_came 12 = .ok (.invokevirtual 123, 3) := by decide +kernel
theorem dX10_came_15 : decode cX10_came 15 = .ok (.ifCond .ne 5, 3) := by decide +kernel
theorem dX10_came_18 : decode cX10_came 18 = .ok (.iconst (-1), 1) := by decide +kernel
theorem dX10_came_19 : decode cX10_came 19 = .ok (.ireturn, 1) := by decide +kernel
theorem dX10_came_20 : decode cX10_came 20 = .ok (.aload_n 3, 1) := by decide +kernel
theorem dX10_came_21 : decode cX10_came 21 = .ok (.iload_n 2, 1) := by decide +kernel
theorem dX10_came_22 : decode cX10_came 22 = .ok (.aload_n 0, 1) := by decide +kernel
theorem dX10_came_23 : decode cX10_came 23 = .ok (.getfield 67, 3) := by decide +kernel
theorem dX10_came_26 : decode cX10_came 26 = .ok (.invokevirtual 134, 3) := by decide +kernel
theorem dX10_came_29 : decode cX10_came 29 = .ok (.ireturn, 1) := by decide +kernel
theorem dX10_asked_0 : decode cX10_asked 0 = .ok (.aload_n 0, 1) := by decide +kernel
theorem dX10_asked_1 : decode cX10_asked 1 = .ok (.iload_n 1, 1) := by decide +kernel
theorem dX10_asked_2 : decode cX10_asked 2 = .ok (.invokevirtual 119, 3) := by decide +kernel
theorem dX10_asked_5 : decode cX10_asked 5 = .ok (.astore_n 3, 1) := by decide +kernel
theorem dX10_asked_6 : decode cX10_asked 6 = .ok (.aload_n 3, 1) := by decide +kernel
theorem dX10_asked_7 : decode cX10_asked 7 = .ok (.ifnull 11, 3) := by decide +kernel
theorem dX10_asked_10 : decode cX10_asked 10 = .ok (.aload_n 3, 1) := by decide +kernel
theorem dX10_asked_11 : decode cX10_asked 11 = .ok (.iload_n 2, 1) := by decide +kernel
theorem dX10_asked_12 : decode cX10_asked 12 = .ok (.invokevirtual 123, 3) := by decide +kernel
theorem dX10_asked_15 : decode cX10_asked 15 = .ok (.ifCond .ne 5, 3) := by decide +kernel
theorem dX10_asked_18 : decode cX10_asked 18 = .ok (.iconst (-1), 1) := by decide +kernel
theorem dX10_asked_19 : decode cX10_asked 19 = .ok (.ireturn, 1) := by decide +kernel
theorem dX10_asked_20 : decode cX10_asked 20 = .ok (.aload_n 3, 1) := by decide +kernel
theorem dX10_asked_21 : decode cX10_asked 21 = .ok (.iload_n 2, 1) := by decide +kernel
theorem dX10_asked_22 : decode cX10_asked 22 = .ok (.aload_n 0, 1) := by decide +kernel
theorem dX10_asked_23 : decode cX10_asked 23 = .ok (.getfield 67, 3) := by decide +kernel
theorem dX10_asked_26 : decode cX10_asked 26 = .ok (.invokevirtual 138, 3) := by decide +kernel
theorem dX10_asked_29 : decode cX10_asked 29 = .ok (.bipush (-2), 2) := by decide +kernel
theorem dX10_asked_31 : decode cX10_asked 31 = .ok (.if_icmp .ne 7, 3) := by decide +kernel
theorem dX10_asked_34 : decode cX10_asked 34 = .ok (.iconst 0, 1) := by decide +kernel
theorem dX10_asked_35 : decode cX10_asked 35 = .ok (.goto 4, 3) := by decide +kernel
theorem dX10_asked_38 : decode cX10_asked 38 = .ok (.iconst 1, 1) := by decide +kernel
theorem dX10_asked_39 : decode cX10_asked 39 = .ok (.ireturn, 1) := by decide +kernel
theorem dX10_under_0 : decode cX10_under 0 = .ok (.iload_n 1, 1) := by decide +kernel
theorem dX10_under_1 : decode cX10_under 1 = .ok (.ifCond .lt 8, 3) := by decide +kernel
theorem dX10_under_4 : decode cX10_under 4 = .ok (.iload_n 1, 1) := by decide +kernel
theorem dX10_under_5 : decode cX10_under 5 = .ok (.iconst 2, 1) := by decide +kernel
theorem dX10_under_6 : decode cX10_under 6 = .ok (.if_icmp .le 5, 3) := by decide +kernel
theorem dX10_under_9 : decode cX10_under 9 = .ok (.iconst (-1), 1) := by decide +kernel
theorem dX10_under_10 : decode cX10_under 10 = .ok (.ireturn, 1) := by decide +kernel
theorem dX10_under_11 : decode cX10_under 11 = .ok (.iconst 0, 1) := by decide +kernel
theorem dX10_under_12 : decode cX10_under 12 = .ok (.istore_n 2, 1) := by decide +kernel
theorem dX10_under_13 : decode cX10_under 13 = .ok (.iconst 0, 1) := by decide +kernel
theorem dX10_under_14 : decode cX10_under 14 = .ok (.istore_n 3, 1) := by decide +kernel
theorem dX10_under_15 : decode cX10_under 15 = .ok (.iload_n 3, 1) := by decide +kernel
theorem dX10_under_16 : decode cX10_under 16 = .ok (.aload_n 0, 1) := by decide +kernel
theorem dX10_under_17 : decode cX10_under 17 = .ok (.getfield 57, 3) := by decide +kernel
theorem dX10_under_20 : decode cX10_under 20 = .ok (.if_icmp .ge 34, 3) := by decide +kernel
theorem dX10_under_23 : decode cX10_under 23 = .ok (.aload_n 0, 1) := by decide +kernel
theorem dX10_under_24 : decode cX10_under 24 = .ok (.iload_n 3, 1) := by decide +kernel
theorem dX10_under_25 : decode cX10_under 25 = .ok (.invokevirtual 119, 3) := by decide +kernel
theorem dX10_under_28 : decode cX10_under 28 = .ok (.astore 4, 2) := by decide +kernel
theorem dX10_under_30 : decode cX10_under 30 = .ok (.aload 4, 2) := by decide +kernel
theorem dX10_under_32 : decode cX10_under 32 = .ok (.ifnull 16, 3) := by decide +kernel
theorem dX10_under_35 : decode cX10_under 35 = .ok (.iload_n 2, 1) := by decide +kernel
theorem dX10_under_36 : decode cX10_under 36 = .ok (.aload 4, 2) := by decide +kernel
theorem dX10_under_38 : decode cX10_under 38 = .ok (.iload_n 1, 1) := by decide +kernel
theorem dX10_under_39 : decode cX10_under 39 = .ok (.aload_n 0, 1) := by decide +kernel
theorem dX10_under_40 : decode cX10_under 40 = .ok (.getfield 67, 3) := by decide +kernel
theorem dX10_under_43 : decode cX10_under 43 = .ok (.invokevirtual 141, 3) := by decide +kernel
theorem dX10_under_46 : decode cX10_under 46 = .ok (.iadd, 1) := by decide +kernel
theorem dX10_under_47 : decode cX10_under 47 = .ok (.istore_n 2, 1) := by decide +kernel
theorem dX10_under_48 : decode cX10_under 48 = .ok (.iinc 3 1, 3) := by decide +kernel
theorem dX10_under_51 : decode cX10_under 51 = .ok (.goto (-36), 3) := by decide +kernel
theorem dX10_under_54 : decode cX10_under 54 = .ok (.iload_n 2, 1) := by decide +kernel
theorem dX10_under_55 : decode cX10_under 55 = .ok (.ireturn, 1) := by decide +kernel
theorem dX10_stock_0 : decode cX10_stock 0 = .ok (.aload_n 0, 1) := by decide +kernel
theorem dX10_stock_1 : decode cX10_stock 1 = .ok (.iload_n 1, 1) := by decide +kernel
theorem dX10_stock_2 : decode cX10_stock 2 = .ok (.invokevirtual 119, 3) := by decide +kernel
theorem dX10_stock_5 : decode cX10_stock 5 = .ok (.astore 4, 2) := by decide +kernel
theorem dX10_stock_7 : decode cX10_stock 7 = .ok (.aload 4, 2) := by decide +kernel
theorem dX10_stock_9 : decode cX10_stock 9 = .ok (.ifnull 10, 3) := by decide +kernel
theorem dX10_stock_12 : decode cX10_stock 12 = .ok (.iload_n 2, 1) := by decide +kernel
theorem dX10_stock_13 : decode cX10_stock 13 = .ok (.invokestatic 144, 3) := by decide +kernel
theorem dX10_stock_16 : decode cX10_stock 16 = .ok (.ifCond .ne 9, 3) := by decide +kernel
theorem dX10_stock_19 : decode cX10_stock 19 = .ok (.aload_n 0, 1) := by decide +kernel
theorem dX10_stock_20 : decode cX10_stock 20 = .ok (.iconst 1, 1) := by decide +kernel
theorem dX10_stock_21 : decode cX10_stock 21 = .ok (.invokevirtual 76, 3) := by decide +kernel
theorem dX10_stock_24 : decode cX10_stock 24 = .ok (.ireturn, 1) := by decide +kernel
theorem dX10_stock_25 : decode cX10_stock 25 = .ok (.iload_n 3, 1) := by decide +kernel
theorem dX10_stock_26 : decode cX10_stock 26 = .ok (.ifCond .lt 17, 3) := by decide +kernel
theorem dX10_stock_29 : decode cX10_stock 29 = .ok (.iload_n 3, 1) := by decide +kernel
theorem dX10_stock_30 : decode cX10_stock 30 = .ok (.sipush 10000, 3) := by decide +kernel
theorem dX10_stock_33 : decode cX10_stock 33 = .ok (.aload 4, 2) := by decide +kernel
theorem dX10_stock_35 : decode cX10_stock 35 = .ok (.iload_n 2, 1) := by decide +kernel
theorem dX10_stock_36 : decode cX10_stock 36 = .ok (.invokevirtual 147, 3) := by decide +kernel
theorem dX10_stock_39 : decode cX10_stock 39 = .ok (.isub, 1) := by decide +kernel
theorem dX10_stock_40 : decode cX10_stock 40 = .ok (.if_icmp .le 9, 3) := by decide +kernel
theorem dX10_stock_43 : decode cX10_stock 43 = .ok (.aload_n 0, 1) := by decide +kernel
theorem dX10_stock_44 : decode cX10_stock 44 = .ok (.iconst 2, 1) := by decide +kernel
theorem dX10_stock_45 : decode cX10_stock 45 = .ok (.invokevirtual 76, 3) := by decide +kernel
theorem dX10_stock_48 : decode cX10_stock 48 = .ok (.ireturn, 1) := by decide +kernel
theorem dX10_stock_49 : decode cX10_stock 49 = .ok (.aload 4, 2) := by decide +kernel
theorem dX10_stock_51 : decode cX10_stock 51 = .ok (.iload_n 2, 1) := by decide +kernel
theorem dX10_stock_52 : decode cX10_stock 52 = .ok (.iload_n 3, 1) := by decide +kernel
theorem dX10_stock_53 : decode cX10_stock 53 = .ok (.invokevirtual 150, 3) := by decide +kernel
theorem dX10_stock_56 : decode cX10_stock 56 = .ok (.aload_n 0, 1) := by decide +kernel
theorem dX10_stock_57 : decode cX10_stock 57 = .ok (.aload 4, 2) := by decide +kernel
theorem dX10_stock_59 : decode cX10_stock 59 = .ok (.iload_n 2, 1) := by decide +kernel
theorem dX10_stock_60 : decode cX10_stock 60 = .ok (.invokevirtual 147, 3) := by decide +kernel
theorem dX10_stock_63 : decode cX10_stock 63 = .ok (.invokevirtual 87, 3) := by decide +kernel
theorem dX10_stock_66 : decode cX10_stock 66 = .ok (.ireturn, 1) := by decide +kernel
theorem dX10_fee_0 : decode cX10_fee 0 = .ok (.aload_n 0, 1) := by decide +kernel
theorem dX10_fee_1 : decode cX10_fee 1 = .ok (.iload_n 1, 1) := by decide +kernel
theorem dX10_fee_2 : decode cX10_fee 2 = .ok (.invokevirtual 153, 3) := by decide +kernel
theorem dX10_fee_5 : decode cX10_fee 5 = .ok (.astore 6, 2) := by decide +kernel
theorem dX10_fee_7 : decode cX10_fee 7 = .ok (.aload_n 0, 1) := by decide +kernel
theorem dX10_fee_8 : decode cX10_fee 8 = .ok (.iload_n 2, 1) := by decide +kernel
theorem dX10_fee_9 : decode cX10_fee 9 = .ok (.invokevirtual 119, 3) := by decide +kernel
theorem dX10_fee_12 : decode cX10_fee 12 = .ok (.astore 7, 2) := by decide +kernel
theorem dX10_fee_14 : decode cX10_fee 14 = .ok (.aload 6, 2) := by decide +kernel
theorem dX10_fee_16 : decode cX10_fee 16 = .ok (.ifnull 8, 3) := by decide +kernel
theorem dX10_fee_19 : decode cX10_fee 19 = .ok (.aload 7, 2) := by decide +kernel
theorem dX10_fee_21 : decode cX10_fee 21 = .ok (.ifnonnull 9, 3) := by decide +kernel
theorem dX10_fee_24 : decode cX10_fee 24 = .ok (.aload_n 0, 1) := by decide +kernel
theorem dX10_fee_25 : decode cX10_fee 25 = .ok (.iconst 1, 1) := by decide +kernel
theorem dX10_fee_26 : decode cX10_fee 26 = .ok (.invokevirtual 76, 3) := by decide +kernel
theorem dX10_fee_29 : decode cX10_fee 29 = .ok (.ireturn, 1) := by decide +kernel
theorem dX10_fee_30 : decode cX10_fee 30 = .ok (.iload_n 3, 1) := by decide +kernel
theorem dX10_fee_31 : decode cX10_fee 31 = .ok (.iload 4, 2) := by decide +kernel
theorem dX10_fee_33 : decode cX10_fee 33 = .ok (.iload 5, 2) := by decide +kernel
theorem dX10_fee_35 : decode cX10_fee 35 = .ok (.invokestatic 157, 3) := by decide +kernel
theorem dX10_fee_38 : decode cX10_fee 38 = .ok (.ifCond .ne 9, 3) := by decide +kernel
theorem dX10_fee_41 : decode cX10_fee 41 = .ok (.aload_n 0, 1) := by decide +kernel
theorem dX10_fee_42 : decode cX10_fee 42 = .ok (.iconst 2, 1) := by decide +kernel
theorem dX10_fee_43 : decode cX10_fee 43 = .ok (.invokevirtual 76, 3) := by decide +kernel
theorem dX10_fee_46 : decode cX10_fee 46 = .ok (.ireturn, 1) := by decide +kernel
theorem dX10_fee_47 : decode cX10_fee 47 = .ok (.aload_n 0, 1) := by decide +kernel
theorem dX10_fee_48 : decode cX10_fee 48 = .ok (.aload 6, 2) := by decide +kernel
theorem dX10_fee_50 : decode cX10_fee 50 = .ok (.new 21, 3) := by decide +kernel
theorem dX10_fee_53 : decode cX10_fee 53 = .ok (.dup, 1) := by decide +kernel
theorem dX10_fee_54 : decode cX10_fee 54 = .ok (.iload_n 2, 1) := by decide +kernel
theorem dX10_fee_55 : decode cX10_fee 55 = .ok (.iload_n 3, 1) := by decide +kernel
theorem dX10_fee_56 : decode cX10_fee 56 = .ok (.iload 4, 2) := by decide +kernel
theorem dX10_fee_58 : decode cX10_fee 58 = .ok (.iload 5, 2) := by decide +kernel
theorem dX10_fee_60 : decode cX10_fee 60 = .ok (.aload 7, 2) := by decide +kernel
theorem dX10_fee_62 : decode cX10_fee 62 = .ok (.getfield 161, 3) := by decide +kernel
theorem dX10_fee_65 : decode cX10_fee 65 = .ok (.invokespecial 163, 3) := by decide +kernel
theorem dX10_fee_68 : decode cX10_fee 68 = .ok (.invokevirtual 166, 3) := by decide +kernel
theorem dX10_fee_71 : decode cX10_fee 71 = .ok (.invokevirtual 87, 3) := by decide +kernel
theorem dX10_fee_74 : decode cX10_fee 74 = .ok (.ireturn, 1) := by decide +kernel
theorem dX10_seal_0 : decode cX10_seal 0 = .ok (.aload_n 0, 1) := by decide +kernel
theorem dX10_seal_1 : decode cX10_seal 1 = .ok (.iload_n 1, 1) := by decide +kernel
theorem dX10_seal_2 : decode cX10_seal 2 = .ok (.invokevirtual 119, 3) := by decide +kernel
theorem dX10_seal_5 : decode cX10_seal 5 = .ok (.astore 5, 2) := by decide +kernel
theorem dX10_seal_7 : decode cX10_seal 7 = .ok (.aload 5, 2) := by decide +kernel
theorem dX10_seal_9 : decode cX10_seal 9 = .ok (.ifnonnull 9, 3) := by decide +kernel
theorem dX10_seal_12 : decode cX10_seal 12 = .ok (.aload_n 0, 1) := by decide +kernel
theorem dX10_seal_13 : decode cX10_seal 13 = .ok (.iconst 1, 1) := by decide +kernel
theorem dX10_seal_14 : decode cX10_seal 14 = .ok (.invokevirtual 76, 3) := by decide +kernel
theorem dX10_seal_17 : decode cX10_seal 17 = .ok (.ireturn, 1) := by decide +kernel
theorem dX10_seal_18 : decode cX10_seal 18 = .ok (.iload_n 2, 1) := by decide +kernel
theorem dX10_seal_19 : decode cX10_seal 19 = .ok (.iload_n 3, 1) := by decide +kernel
theorem dX10_seal_20 : decode cX10_seal 20 = .ok (.iload 4, 2) := by decide +kernel
theorem dX10_seal_22 : decode cX10_seal 22 = .ok (.invokestatic 157, 3) := by decide +kernel
theorem dX10_seal_25 : decode cX10_seal 25 = .ok (.ifCond .ne 9, 3) := by decide +kernel
theorem dX10_seal_28 : decode cX10_seal 28 = .ok (.aload_n 0, 1) := by decide +kernel
theorem dX10_seal_29 : decode cX10_seal 29 = .ok (.iconst 2, 1) := by decide +kernel
theorem dX10_seal_30 : decode cX10_seal 30 = .ok (.invokevirtual 76, 3) := by decide +kernel
theorem dX10_seal_33 : decode cX10_seal 33 = .ok (.ireturn, 1) := by decide +kernel
theorem dX10_seal_34 : decode cX10_seal 34 = .ok (.aload 5, 2) := by decide +kernel
theorem dX10_seal_36 : decode cX10_seal 36 = .ok (.aload_n 0, 1) := by decide +kernel
theorem dX10_seal_37 : decode cX10_seal 37 = .ok (.getfield 67, 3) := by decide +kernel
theorem dX10_seal_40 : decode cX10_seal 40 = .ok (.invokevirtual 131, 3) := by decide +kernel
theorem dX10_seal_43 : decode cX10_seal 43 = .ok (.istore 6, 2) := by decide +kernel
theorem dX10_seal_45 : decode cX10_seal 45 = .ok (.aload_n 0, 1) := by decide +kernel
theorem dX10_seal_46 : decode cX10_seal 46 = .ok (.iload 6, 2) := by decide +kernel
theorem dX10_seal_48 : decode cX10_seal 48 = .ok (.invokevirtual 153, 3) := by decide +kernel
theorem dX10_seal_51 : decode cX10_seal 51 = .ok (.astore 7, 2) := by decide +kernel
theorem dX10_seal_53 : decode cX10_seal 53 = .ok (.aload 7, 2) := by decide +kernel
theorem dX10_seal_55 : decode cX10_seal 55 = .ok (.ifnonnull 9, 3) := by decide +kernel
theorem dX10_seal_58 : decode cX10_seal 58 = .ok (.aload_n 0, 1) := by decide +kernel
theorem dX10_seal_59 : decode cX10_seal 59 = .ok (.iconst 5, 1) := by decide +kernel
theorem dX10_seal_60 : decode cX10_seal 60 = .ok (.invokevirtual 76, 3) := by decide +kernel
theorem dX10_seal_63 : decode cX10_seal 63 = .ok (.ireturn, 1) := by decide +kernel
theorem dX10_seal_64 : decode cX10_seal 64 = .ok (.new 21, 3) := by decide +kernel
theorem dX10_seal_67 : decode cX10_seal 67 = .ok (.dup, 1) := by decide +kernel
theorem dX10_seal_68 : decode cX10_seal 68 = .ok (.iload_n 1, 1) := by decide +kernel
theorem dX10_seal_69 : decode cX10_seal 69 = .ok (.iload_n 2, 1) := by decide +kernel
theorem dX10_seal_70 : decode cX10_seal 70 = .ok (.iload_n 3, 1) := by decide +kernel
theorem dX10_seal_71 : decode cX10_seal 71 = .ok (.iload 4, 2) := by decide +kernel
theorem dX10_seal_73 : decode cX10_seal 73 = .ok (.aload 5, 2) := by decide +kernel
theorem dX10_seal_75 : decode cX10_seal 75 = .ok (.getfield 161, 3) := by decide +kernel
theorem dX10_seal_78 : decode cX10_seal 78 = .ok (.invokespecial 163, 3) := by decide +kernel
theorem dX10_seal_81 : decode cX10_seal 81 = .ok (.astore 8, 2) := by decide +kernel
theorem dX10_seal_83 : decode cX10_seal 83 = .ok (.aload 7, 2) := by decide +kernel
theorem dX10_seal_85 : decode cX10_seal 85 = .ok (.aload 8, 2) := by decide +kernel
theorem dX10_seal_87 : decode cX10_seal 87 = .ok (.invokevirtual 166, 3) := by decide +kernel
theorem dX10_seal_90 : decode cX10_seal 90 = .ok (.istore 9, 2) := by decide +kernel
theorem dX10_seal_92 : decode cX10_seal 92 = .ok (.iload 9, 2) := by decide +kernel
theorem dX10_seal_94 : decode cX10_seal 94 = .ok (.bipush (-2), 2) := by decide +kernel
theorem dX10_seal_96 : decode cX10_seal 96 = .ok (.if_icmp .ne 9, 3) := by decide +kernel
theorem dX10_seal_99 : decode cX10_seal 99 = .ok (.aload_n 0, 1) := by decide +kernel
theorem dX10_seal_100 : decode cX10_seal 100 = .ok (.iconst 5, 1) := by decide +kernel
theorem dX10_seal_101 : decode cX10_seal 101 = .ok (.invokevirtual 76, 3) := by decide +kernel
theorem dX10_seal_104 : decode cX10_seal 104 = .ok (.ireturn, 1) := by decide +kernel
theorem dX10_seal_105 : decode cX10_seal 105 = .ok (.aload_n 0, 1) := by decide +kernel
theorem dX10_seal_106 : decode cX10_seal 106 = .ok (.getfield 53, 3) := by decide +kernel
theorem dX10_seal_109 : decode cX10_seal 109 = .ok (.aload 5, 2) := by decide +kernel
theorem dX10_seal_111 : decode cX10_seal 111 = .ok (.getfield 170, 3) := by decide +kernel
theorem dX10_seal_114 : decode cX10_seal 114 = .ok (.iload 9, 2) := by decide +kernel
theorem dX10_seal_116 : decode cX10_seal 116 = .ok (.invokevirtual 174, 3) := by decide +kernel
theorem dX10_seal_119 : decode cX10_seal 119 = .ok (.astore 10, 2) := by decide +kernel
theorem dX10_seal_121 : decode cX10_seal 121 = .ok (.aload 10, 2) := by decide +kernel
theorem dX10_seal_123 : decode cX10_seal 123 = .ok (.ifnonnull 10, 3) := by decide +kernel
theorem dX10_seal_126 : decode cX10_seal 126 = .ok (.aload_n 0, 1) := by decide +kernel
theorem dX10_seal_127 : decode cX10_seal 127 = .ok (.bipush 6, 2) := by decide +kernel
theorem dX10_seal_129 : decode cX10_seal 129 = .ok (.invokevirtual 76, 3) := by decide +kernel
theorem dX10_seal_132 : decode cX10_seal 132 = .ok (.ireturn, 1) := by decide +kernel
theorem dX10_seal_133 : decode cX10_seal 133 = .ok (.aload_n 0, 1) := by decide +kernel
theorem dX10_seal_134 : decode cX10_seal 134 = .ok (.getfield 64, 3) := by decide +kernel
theorem dX10_seal_137 : decode cX10_seal 137 = .ok (.aload_n 0, 1) := by decide +kernel
theorem dX10_seal_138 : decode cX10_seal 138 = .ok (.getfield 23, 3) := by decide +kernel
theorem dX10_seal_141 : decode cX10_seal 141 = .ok (.arraylength, 1) := by decide +kernel
theorem dX10_seal_142 : decode cX10_seal 142 = .ok (.if_icmp .lt 9, 3) := by decide +kernel
theorem dX10_seal_145 : decode cX10_seal 145 = .ok (.aload_n 0, 1) := by decide +kernel
theorem dX10_seal_146 : decode cX10_seal 146 = .ok (.iconst 3, 1) := by decide +kernel
theorem dX10_seal_147 : decode cX10_seal 147 = .ok (.invokevirtual 76, 3) := by decide +kernel
theorem dX10_seal_150 : decode cX10_seal 150 = .ok (.ireturn, 1) := by decide +kernel
theorem dX10_seal_151 : decode cX10_seal 151 = .ok (.aload 8, 2) := by decide +kernel
theorem dX10_seal_153 : decode cX10_seal 153 = .ok (.aload_n 0, 1) := by decide +kernel
theorem dX10_seal_154 : decode cX10_seal 154 = .ok (.getfield 67, 3) := by decide +kernel
theorem dX10_seal_157 : decode cX10_seal 157 = .ok (.iload 9, 2) := by decide +kernel
theorem dX10_seal_159 : decode cX10_seal 159 = .ok (.iload 6, 2) := by decide +kernel
theorem dX10_seal_161 : decode cX10_seal 161 = .ok (.aload 10, 2) := by decide +kernel
theorem dX10_seal_163 : decode cX10_seal 163 = .ok (.invokevirtual 178, 3) := by decide +kernel
theorem dX10_seal_166 : decode cX10_seal 166 = .ok (.aload 5, 2) := by decide +kernel
theorem dX10_seal_168 : decode cX10_seal 168 = .ok (.iload 9, 2) := by decide +kernel
theorem dX10_seal_170 : decode cX10_seal 170 = .ok (.aload 10, 2) := by decide +kernel
theorem dX10_seal_172 : decode cX10_seal 172 = .ok (.invokevirtual 182, 3) := by decide +kernel
theorem dX10_seal_175 : decode cX10_seal 175 = .ok (.aload_n 0, 1) := by decide +kernel
theorem dX10_seal_176 : decode cX10_seal 176 = .ok (.getfield 23, 3) := by decide +kernel
theorem dX10_seal_179 : decode cX10_seal 179 = .ok (.aload_n 0, 1) := by decide +kernel
theorem dX10_seal_180 : decode cX10_seal 180 = .ok (.getfield 64, 3) := by decide +kernel
theorem dX10_seal_183 : decode cX10_seal 183 = .ok (.aload 8, 2) := by decide +kernel
theorem dX10_seal_185 : decode cX10_seal 185 = .ok (.aastore, 1) := by decide +kernel
theorem dX10_seal_186 : decode cX10_seal 186 = .ok (.aload_n 0, 1) := by decide +kernel
theorem dX10_seal_187 : decode cX10_seal 187 = .ok (.dup, 1) := by decide +kernel
theorem dX10_seal_188 : decode cX10_seal 188 = .ok (.getfield 64, 3) := by decide +kernel
theorem dX10_seal_191 : decode cX10_seal 191 = .ok (.iconst 1, 1) := by decide +kernel
theorem dX10_seal_192 : decode cX10_seal 192 = .ok (.iadd, 1) := by decide +kernel
theorem dX10_seal_193 : decode cX10_seal 193 = .ok (.putfield 64, 3) := by decide +kernel
theorem dX10_seal_196 : decode cX10_seal 196 = .ok (.aload_n 0, 1) := by decide +kernel
theorem dX10_seal_197 : decode cX10_seal 197 = .ok (.aload_n 0, 1) := by decide +kernel
theorem dX10_seal_198 : decode cX10_seal 198 = .ok (.getfield 64, 3) := by decide +kernel
theorem dX10_seal_201 : decode cX10_seal 201 = .ok (.iconst 1, 1) := by decide +kernel
theorem dX10_seal_202 : decode cX10_seal 202 = .ok (.isub, 1) := by decide +kernel
theorem dX10_seal_203 : decode cX10_seal 203 = .ok (.invokevirtual 87, 3) := by decide +kernel
theorem dX10_seal_206 : decode cX10_seal 206 = .ok (.ireturn, 1) := by decide +kernel
theorem dX10_paper_0 : decode cX10_paper 0 = .ok (.aload_n 0, 1) := by decide +kernel
theorem dX10_paper_1 : decode cX10_paper 1 = .ok (.iload_n 1, 1) := by decide +kernel
theorem dX10_paper_2 : decode cX10_paper 2 = .ok (.invokevirtual 186, 3) := by decide +kernel
theorem dX10_paper_5 : decode cX10_paper 5 = .ok (.astore_n 3, 1) := by decide +kernel
theorem dX10_paper_6 : decode cX10_paper 6 = .ok (.aload_n 3, 1) := by decide +kernel
theorem dX10_paper_7 : decode cX10_paper 7 = .ok (.ifnonnull 5, 3) := by decide +kernel
theorem dX10_paper_10 : decode cX10_paper 10 = .ok (.iconst (-1), 1) := by decide +kernel
theorem dX10_paper_11 : decode cX10_paper 11 = .ok (.ireturn, 1) := by decide +kernel
theorem dX10_paper_12 : decode cX10_paper 12 = .ok (.iload_n 2, 1) := by decide +kernel
theorem dX10_paper_13 : decode cX10_paper 13 = .ok (.tableswitch 114 0 8 #[51, 56, 61, 66, 71, 76, 81, 86, 91], 51) := by decide +kernel
theorem dX10_paper_64 : decode cX10_paper 64 = .ok (.aload_n 3, 1) := by decide +kernel
theorem dX10_paper_65 : decode cX10_paper 65 = .ok (.getfield 190, 3) := by decide +kernel
theorem dX10_paper_68 : decode cX10_paper 68 = .ok (.ireturn, 1) := by decide +kernel
theorem dX10_paper_69 : decode cX10_paper 69 = .ok (.aload_n 3, 1) := by decide +kernel
theorem dX10_paper_70 : decode cX10_paper 70 = .ok (.getfield 193, 3) := by decide +kernel
theorem dX10_paper_73 : decode cX10_paper 73 = .ok (.ireturn, 1) := by decide +kernel
theorem dX10_paper_74 : decode cX10_paper 74 = .ok (.aload_n 3, 1) := by decide +kernel
theorem dX10_paper_75 : decode cX10_paper 75 = .ok (.getfield 196, 3) := by decide +kernel
theorem dX10_paper_78 : decode cX10_paper 78 = .ok (.ireturn, 1) := by decide +kernel
theorem dX10_paper_79 : decode cX10_paper 79 = .ok (.aload_n 3, 1) := by decide +kernel
theorem dX10_paper_80 : decode cX10_paper 80 = .ok (.getfield 199, 3) := by decide +kernel
theorem dX10_paper_83 : decode cX10_paper 83 = .ok (.ireturn, 1) := by decide +kernel
theorem dX10_paper_84 : decode cX10_paper 84 = .ok (.aload_n 3, 1) := by decide +kernel
theorem dX10_paper_85 : decode cX10_paper 85 = .ok (.getfield 202, 3) := by decide +kernel
theorem dX10_paper_88 : decode cX10_paper 88 = .ok (.ireturn, 1) := by decide +kernel
theorem dX10_paper_89 : decode cX10_paper 89 = .ok (.aload_n 3, 1) := by decide +kernel
theorem dX10_paper_90 : decode cX10_paper 90 = .ok (.getfield 205, 3) := by decide +kernel
theorem dX10_paper_93 : decode cX10_paper 93 = .ok (.ireturn, 1) := by decide +kernel
theorem dX10_paper_94 : decode cX10_paper 94 = .ok (.aload_n 3, 1) := by decide +kernel
theorem dX10_paper_95 : decode cX10_paper 95 = .ok (.getfield 208, 3) := by decide +kernel
theorem dX10_paper_98 : decode cX10_paper 98 = .ok (.ireturn, 1) := by decide +kernel
theorem dX10_paper_99 : decode cX10_paper 99 = .ok (.aload_n 3, 1) := by decide +kernel
theorem dX10_paper_100 : decode cX10_paper 100 = .ok (.invokevirtual 211, 3) := by decide +kernel
theorem dX10_paper_103 : decode cX10_paper 103 = .ok (.ireturn, 1) := by decide +kernel
theorem dX10_paper_104 : decode cX10_paper 104 = .ok (.aload_n 0, 1) := by decide +kernel
theorem dX10_paper_105 : decode cX10_paper 105 = .ok (.aload_n 3, 1) := by decide +kernel
theorem dX10_paper_106 : decode cX10_paper 106 = .ok (.aload_n 0, 1) := by decide +kernel
theorem dX10_paper_107 : decode cX10_paper 107 = .ok (.getfield 67, 3) := by decide +kernel
theorem dX10_paper_110 : decode cX10_paper 110 = .ok (.invokevirtual 215, 3) := by decide +kernel
theorem dX10_paper_113 : decode cX10_paper 113 = .ok (.ifCond .eq 11, 3) := by decide +kernel
theorem dX10_paper_116 : decode cX10_paper 116 = .ok (.aload_n 0, 1) := by decide +kernel
theorem dX10_paper_117 : decode cX10_paper 117 = .ok (.aload_n 3, 1) := by decide +kernel
theorem dX10_paper_118 : decode cX10_paper 118 = .ok (.invokevirtual 219, 3) := by decide +kernel
theorem dX10_paper_121 : decode cX10_paper 121 = .ok (.goto 5, 3) := by decide +kernel
theorem dX10_paper_124 : decode cX10_paper 124 = .ok (.bipush (-2), 2) := by decide +kernel
theorem dX10_paper_126 : decode cX10_paper 126 = .ok (.ireturn, 1) := by decide +kernel
theorem dX10_paper_127 : decode cX10_paper 127 = .ok (.iconst (-1), 1) := by decide +kernel
theorem dX10_paper_128 : decode cX10_paper 128 = .ok (.ireturn, 1) := by decide +kernel
theorem dX10_stamps_0 : decode cX10_stamps 0 = .ok (.aload_n 0, 1) := by decide +kernel
theorem dX10_stamps_1 : decode cX10_stamps 1 = .ok (.iload_n 1, 1) := by decide +kernel
theorem dX10_stamps_2 : decode cX10_stamps 2 = .ok (.invokevirtual 186, 3) := by decide +kernel
theorem dX10_stamps_5 : decode cX10_stamps 5 = .ok (.astore_n 3, 1) := by decide +kernel
theorem dX10_stamps_6 : decode cX10_stamps 6 = .ok (.aload_n 3, 1) := by decide +kernel
theorem dX10_stamps_7 : decode cX10_stamps 7 = .ok (.ifnull 10, 3) := by decide +kernel
theorem dX10_stamps_10 : decode cX10_stamps 10 = .ok (.iload_n 2, 1) := by decide +kernel
theorem dX10_stamps_11 : decode cX10_stamps 11 = .ok (.invokestatic 144, 3) := by decide +kernel
theorem dX10_stamps_14 : decode cX10_stamps 14 = .ok (.ifCond .ne 5, 3) := by decide +kernel
theorem dX10_stamps_17 : decode cX10_stamps 17 = .ok (.iconst (-1), 1) := by decide +kernel
theorem dX10_stamps_18 : decode cX10_stamps 18 = .ok (.ireturn, 1) := by decide +kernel
theorem dX10_stamps_19 : decode cX10_stamps 19 = .ok (.aload_n 3, 1) := by decide +kernel
theorem dX10_stamps_20 : decode cX10_stamps 20 = .ok (.iload_n 2, 1) := by decide +kernel
theorem dX10_stamps_21 : decode cX10_stamps 21 = .ok (.invokevirtual 222, 3) := by decide +kernel
theorem dX10_stamps_24 : decode cX10_stamps 24 = .ok (.ireturn, 1) := by decide +kernel
theorem dX10_about_0 : decode cX10_about 0 = .ok (.aload_n 0, 1) := by decide +kernel
theorem dX10_about_1 : decode cX10_about 1 = .ok (.iload_n 1, 1) := by decide +kernel
theorem dX10_about_2 : decode cX10_about 2 = .ok (.invokevirtual 119, 3) := by decide +kernel
theorem dX10_about_5 : decode cX10_about 5 = .ok (.astore_n 3, 1) := by decide +kernel
theorem dX10_about_6 : decode cX10_about 6 = .ok (.aload_n 3, 1) := by decide +kernel
theorem dX10_about_7 : decode cX10_about 7 = .ok (.ifnonnull 5, 3) := by decide +kernel
theorem dX10_about_10 : decode cX10_about 10 = .ok (.iconst (-1), 1) := by decide +kernel
theorem dX10_about_11 : decode cX10_about 11 = .ok (.ireturn, 1) := by decide +kernel
theorem dX10_about_12 : decode cX10_about 12 = .ok (.iload_n 2, 1) := by decide +kernel
theorem dX10_about_13 : decode cX10_about 13 = .ok (.tableswitch 55 0 3 #[31, 36, 41, 46], 31) := by decide +kernel
theorem dX10_about_44 : decode cX10_about 44 = .ok (.aload_n 3, 1) := by decide +kernel
theorem dX10_about_45 : decode cX10_about 45 = .ok (.getfield 223, 3) := by decide +kernel
theorem dX10_about_48 : decode cX10_about 48 = .ok (.ireturn, 1) := by decide +kernel
theorem dX10_about_49 : decode cX10_about 49 = .ok (.aload_n 3, 1) := by decide +kernel
theorem dX10_about_50 : decode cX10_about 50 = .ok (.getfield 226, 3) := by decide +kernel
theorem dX10_about_53 : decode cX10_about 53 = .ok (.ireturn, 1) := by decide +kernel
theorem dX10_about_54 : decode cX10_about 54 = .ok (.aload_n 3, 1) := by decide +kernel
theorem dX10_about_55 : decode cX10_about 55 = .ok (.getfield 161, 3) := by decide +kernel
theorem dX10_about_58 : decode cX10_about 58 = .ok (.ireturn, 1) := by decide +kernel
theorem dX10_about_59 : decode cX10_about 59 = .ok (.aload_n 3, 1) := by decide +kernel
theorem dX10_about_60 : decode cX10_about 60 = .ok (.aload_n 0, 1) := by decide +kernel
theorem dX10_about_61 : decode cX10_about 61 = .ok (.getfield 67, 3) := by decide +kernel
theorem dX10_about_64 : decode cX10_about 64 = .ok (.invokevirtual 229, 3) := by decide +kernel
theorem dX10_about_67 : decode cX10_about 67 = .ok (.ireturn, 1) := by decide +kernel
theorem dX10_about_68 : decode cX10_about 68 = .ok (.iload_n 2, 1) := by decide +kernel
theorem dX10_about_69 : decode cX10_about 69 = .ok (.iconst 4, 1) := by decide +kernel
theorem dX10_about_70 : decode cX10_about 70 = .ok (.isub, 1) := by decide +kernel
theorem dX10_about_71 : decode cX10_about 71 = .ok (.invokestatic 144, 3) := by decide +kernel
theorem dX10_about_74 : decode cX10_about 74 = .ok (.ifCond .eq 13, 3) := by decide +kernel
theorem dX10_about_77 : decode cX10_about 77 = .ok (.aload_n 3, 1) := by decide +kernel
theorem dX10_about_78 : decode cX10_about 78 = .ok (.iload_n 2, 1) := by decide +kernel
theorem dX10_about_79 : decode cX10_about 79 = .ok (.iconst 4, 1) := by decide +kernel
theorem dX10_about_80 : decode cX10_about 80 = .ok (.isub, 1) := by decide +kernel
theorem dX10_about_81 : decode cX10_about 81 = .ok (.invokevirtual 147, 3) := by decide +kernel
theorem dX10_about_84 : decode cX10_about 84 = .ok (.goto 4, 3) := by decide +kernel
theorem dX10_about_87 : decode cX10_about 87 = .ok (.iconst (-1), 1) := by decide +kernel
theorem dX10_about_88 : decode cX10_about 88 = .ok (.ireturn, 1) := by decide +kernel
theorem dX10_known_0 : decode cX10_known 0 = .ok (.aload_n 0, 1) := by decide +kernel
theorem dX10_known_1 : decode cX10_known 1 = .ok (.iload_n 1, 1) := by decide +kernel
theorem dX10_known_2 : decode cX10_known 2 = .ok (.invokevirtual 119, 3) := by decide +kernel
theorem dX10_known_5 : decode cX10_known 5 = .ok (.ifnull 11, 3) := by decide +kernel
theorem dX10_known_8 : decode cX10_known 8 = .ok (.aload_n 0, 1) := by decide +kernel
theorem dX10_known_9 : decode cX10_known 9 = .ok (.iload_n 2, 1) := by decide +kernel
theorem dX10_known_10 : decode cX10_known 10 = .ok (.invokevirtual 232, 3) := by decide +kernel
theorem dX10_known_13 : decode cX10_known 13 = .ok (.ifCond .ne 5, 3) := by decide +kernel
theorem dX10_known_16 : decode cX10_known 16 = .ok (.iconst (-1), 1) := by decide +kernel
theorem dX10_known_17 : decode cX10_known 17 = .ok (.ireturn, 1) := by decide +kernel
theorem dX10_known_18 : decode cX10_known 18 = .ok (.iconst 0, 1) := by decide +kernel
theorem dX10_known_19 : decode cX10_known 19 = .ok (.istore_n 3, 1) := by decide +kernel
theorem dX10_known_20 : decode cX10_known 20 = .ok (.iconst 0, 1) := by decide +kernel
theorem dX10_known_21 : decode cX10_known 21 = .ok (.istore 4, 2) := by decide +kernel
theorem dX10_known_23 : decode cX10_known 23 = .ok (.iload 4, 2) := by decide +kernel
theorem dX10_known_25 : decode cX10_known 25 = .ok (.aload_n 0, 1) := by decide +kernel
theorem dX10_known_26 : decode cX10_known 26 = .ok (.getfield 64, 3) := by decide +kernel
theorem dX10_known_29 : decode cX10_known 29 = .ok (.if_icmp .ge 23, 3) := by decide +kernel
theorem dX10_known_32 : decode cX10_known 32 = .ok (.aload_n 0, 1) := by decide +kernel
theorem dX10_known_33 : decode cX10_known 33 = .ok (.iload_n 1, 1) := by decide +kernel
theorem dX10_known_34 : decode cX10_known 34 = .ok (.iload 4, 2) := by decide +kernel
theorem dX10_known_36 : decode cX10_known 36 = .ok (.iload_n 2, 1) := by decide +kernel
theorem dX10_known_37 : decode cX10_known 37 = .ok (.invokevirtual 235, 3) := by decide +kernel
theorem dX10_known_40 : decode cX10_known 40 = .ok (.ifCond .eq 6, 3) := by decide +kernel
theorem dX10_known_43 : decode cX10_known 43 = .ok (.iinc 3 1, 3) := by decide +kernel
theorem dX10_known_46 : decode cX10_known 46 = .ok (.iinc 4 1, 3) := by decide +kernel
theorem dX10_known_49 : decode cX10_known 49 = .ok (.goto (-26), 3) := by decide +kernel
theorem dX10_known_52 : decode cX10_known 52 = .ok (.iload_n 3, 1) := by decide +kernel
theorem dX10_known_53 : decode cX10_known 53 = .ok (.ireturn, 1) := by decide +kernel
theorem dX10_sum_0 : decode cX10_sum 0 = .ok (.aload_n 0, 1) := by decide +kernel
theorem dX10_sum_1 : decode cX10_sum 1 = .ok (.iload_n 1, 1) := by decide +kernel
theorem dX10_sum_2 : decode cX10_sum 2 = .ok (.invokevirtual 119, 3) := by decide +kernel
theorem dX10_sum_5 : decode cX10_sum 5 = .ok (.ifnull 11, 3) := by decide +kernel
theorem dX10_sum_8 : decode cX10_sum 8 = .ok (.aload_n 0, 1) := by decide +kernel
theorem dX10_sum_9 : decode cX10_sum 9 = .ok (.iload_n 2, 1) := by decide +kernel
theorem dX10_sum_10 : decode cX10_sum 10 = .ok (.invokevirtual 232, 3) := by decide +kernel
theorem dX10_sum_13 : decode cX10_sum 13 = .ok (.ifCond .ne 5, 3) := by decide +kernel
theorem dX10_sum_16 : decode cX10_sum 16 = .ok (.iconst (-1), 1) := by decide +kernel
theorem dX10_sum_17 : decode cX10_sum 17 = .ok (.ireturn, 1) := by decide +kernel
theorem dX10_sum_18 : decode cX10_sum 18 = .ok (.iconst 0, 1) := by decide +kernel
theorem dX10_sum_19 : decode cX10_sum 19 = .ok (.istore_n 3, 1) := by decide +kernel
theorem dX10_sum_20 : decode cX10_sum 20 = .ok (.iconst 0, 1) := by decide +kernel
theorem dX10_sum_21 : decode cX10_sum 21 = .ok (.istore 4, 2) := by decide +kernel
theorem dX10_sum_23 : decode cX10_sum 23 = .ok (.iload 4, 2) := by decide +kernel
theorem dX10_sum_25 : decode cX10_sum 25 = .ok (.aload_n 0, 1) := by decide +kernel
theorem dX10_sum_26 : decode cX10_sum 26 = .ok (.getfield 64, 3) := by decide +kernel
theorem dX10_sum_29 : decode cX10_sum 29 = .ok (.if_icmp .ge 29, 3) := by decide +kernel
theorem dX10_sum_32 : decode cX10_sum 32 = .ok (.aload_n 0, 1) := by decide +kernel
theorem dX10_sum_33 : decode cX10_sum 33 = .ok (.iload_n 1, 1) := by decide +kernel
theorem dX10_sum_34 : decode cX10_sum 34 = .ok (.iload 4, 2) := by decide +kernel
theorem dX10_sum_36 : decode cX10_sum 36 = .ok (.iload_n 2, 1) := by decide +kernel
theorem dX10_sum_37 : decode cX10_sum 37 = .ok (.invokevirtual 235, 3) := by decide +kernel
theorem dX10_sum_40 : decode cX10_sum 40 = .ok (.ifCond .eq 12, 3) := by decide +kernel
theorem dX10_sum_43 : decode cX10_sum 43 = .ok (.iload_n 3, 1) := by decide +kernel
theorem dX10_sum_44 : decode cX10_sum 44 = .ok (.aload_n 0, 1) := by decide +kernel
theorem dX10_sum_45 : decode cX10_sum 45 = .ok (.iload 4, 2) := by decide +kernel
theorem dX10_sum_47 : decode cX10_sum 47 = .ok (.invokevirtual 238, 3) := by decide +kernel
theorem dX10_sum_50 : decode cX10_sum 50 = .ok (.iadd, 1) := by decide +kernel
theorem dX10_sum_51 : decode cX10_sum 51 = .ok (.istore_n 3, 1) := by decide +kernel
theorem dX10_sum_52 : decode cX10_sum 52 = .ok (.iinc 4 1, 3) := by decide +kernel
theorem dX10_sum_55 : decode cX10_sum 55 = .ok (.goto (-32), 3) := by decide +kernel
theorem dX10_sum_58 : decode cX10_sum 58 = .ok (.iload_n 3, 1) := by decide +kernel
theorem dX10_sum_59 : decode cX10_sum 59 = .ok (.ireturn, 1) := by decide +kernel
theorem dX10_homes_0 : decode cX10_homes 0 = .ok (.aload_n 0, 1) := by decide +kernel
theorem dX10_homes_1 : decode cX10_homes 1 = .ok (.iload_n 1, 1) := by decide +kernel
theorem dX10_homes_2 : decode cX10_homes 2 = .ok (.invokevirtual 241, 3) := by decide +kernel
theorem dX10_homes_5 : decode cX10_homes 5 = .ok (.ireturn, 1) := by decide +kernel
theorem dX10_difference_0 : decode cX10_difference 0 = .ok (.iconst 0, 1) := by decide +kernel
theorem dX10_difference_1 : decode cX10_difference 1 = .ok (.istore_n 2, 1) := by decide +kernel
theorem dX10_difference_2 : decode cX10_difference 2 = .ok (.iconst 0, 1) := by decide +kernel
theorem dX10_difference_3 : decode cX10_difference 3 = .ok (.istore_n 3, 1) := by decide +kernel
theorem dX10_difference_4 : decode cX10_difference 4 = .ok (.iload_n 3, 1) := by decide +kernel
theorem dX10_difference_5 : decode cX10_difference 5 = .ok (.aload_n 0, 1) := by decide +kernel
theorem dX10_difference_6 : decode cX10_difference 6 = .ok (.getfield 64, 3) := by decide +kernel
theorem dX10_difference_9 : decode cX10_difference 9 = .ok (.if_icmp .ge 48, 3) := by decide +kernel
theorem dX10_difference_12 : decode cX10_difference 12 = .ok (.aload_n 0, 1) := by decide +kernel
theorem dX10_difference_13 : decode cX10_difference 13 = .ok (.iload_n 3, 1) := by decide +kernel
theorem dX10_difference_14 : decode cX10_difference 14 = .ok (.invokevirtual 241, 3) := by decide +kernel
theorem dX10_difference_17 : decode cX10_difference 17 = .ok (.istore 4, 2) := by decide +kernel
theorem dX10_difference_19 : decode cX10_difference 19 = .ok (.iload 4, 2) := by decide +kernel
theorem dX10_difference_21 : decode cX10_difference 21 = .ok (.sipush (-10000), 3) := by decide +kernel
theorem dX10_difference_24 : decode cX10_difference 24 = .ok (.if_icmp .eq 27, 3) := by decide +kernel
theorem dX10_difference_27 : decode cX10_difference 27 = .ok (.aload_n 0, 1) := by decide +kernel
theorem dX10_difference_28 : decode cX10_difference 28 = .ok (.iload_n 1, 1) := by decide +kernel
theorem dX10_difference_29 : decode cX10_difference 29 = .ok (.iload_n 3, 1) := by decide +kernel
theorem dX10_difference_30 : decode cX10_difference 30 = .ok (.aload_n 0, 1) := by decide +kernel
theorem dX10_difference_31 : decode cX10_difference 31 = .ok (.getfield 67, 3) := by decide +kernel
theorem dX10_difference_34 : decode cX10_difference 34 = .ok (.invokevirtual 235, 3) := by decide +kernel
theorem dX10_difference_37 : decode cX10_difference 37 = .ok (.ifCond .eq 14, 3) := by decide +kernel
theorem dX10_difference_40 : decode cX10_difference 40 = .ok (.iload_n 2, 1) := by decide +kernel
theorem dX10_difference_41 : decode cX10_difference 41 = .ok (.aload_n 0, 1) := by decide +kernel
theorem dX10_difference_42 : decode cX10_difference 42 = .ok (.iload_n 3, 1) := by decide +kernel
theorem dX10_difference_43 : decode cX10_difference 43 = .ok (.invokevirtual 238, 3) := by decide +kernel
theorem dX10_difference_46 : decode cX10_difference 46 = .ok (.iload 4, 2) := by decide +kernel
theorem dX10_difference_48 : decode cX10_difference 48 = .ok (.isub, 1) := by decide +kernel
theorem dX10_difference_49 : decode cX10_difference 49 = .ok (.iadd, 1) := by decide +kernel
theorem dX10_difference_50 : decode cX10_difference 50 = .ok (.istore_n 2, 1) := by decide +kernel
theorem dX10_difference_51 : decode cX10_difference 51 = .ok (.iinc 3 1, 3) := by decide +kernel
theorem dX10_difference_54 : decode cX10_difference 54 = .ok (.goto (-50), 3) := by decide +kernel
theorem dX10_difference_57 : decode cX10_difference 57 = .ok (.iload_n 2, 1) := by decide +kernel
theorem dX10_difference_58 : decode cX10_difference 58 = .ok (.ireturn, 1) := by decide +kernel
theorem dX10_unlike_0 : decode cX10_unlike 0 = .ok (.aload_n 0, 1) := by decide +kernel
theorem dX10_unlike_1 : decode cX10_unlike 1 = .ok (.iload_n 1, 1) := by decide +kernel
theorem dX10_unlike_2 : decode cX10_unlike 2 = .ok (.invokevirtual 119, 3) := by decide +kernel
theorem dX10_unlike_5 : decode cX10_unlike 5 = .ok (.ifnonnull 5, 3) := by decide +kernel
theorem dX10_unlike_8 : decode cX10_unlike 8 = .ok (.iconst (-1), 1) := by decide +kernel
theorem dX10_unlike_9 : decode cX10_unlike 9 = .ok (.ireturn, 1) := by decide +kernel
theorem dX10_unlike_10 : decode cX10_unlike 10 = .ok (.iconst 0, 1) := by decide +kernel
theorem dX10_unlike_11 : decode cX10_unlike 11 = .ok (.istore_n 2, 1) := by decide +kernel
theorem dX10_unlike_12 : decode cX10_unlike 12 = .ok (.iconst 0, 1) := by decide +kernel
theorem dX10_unlike_13 : decode cX10_unlike 13 = .ok (.istore_n 3, 1) := by decide +kernel
theorem dX10_unlike_14 : decode cX10_unlike 14 = .ok (.iload_n 3, 1) := by decide +kernel
theorem dX10_unlike_15 : decode cX10_unlike 15 = .ok (.aload_n 0, 1) := by decide +kernel
theorem dX10_unlike_16 : decode cX10_unlike 16 = .ok (.getfield 64, 3) := by decide +kernel
theorem dX10_unlike_19 : decode cX10_unlike 19 = .ok (.if_icmp .ge 38, 3) := by decide +kernel
theorem dX10_unlike_22 : decode cX10_unlike 22 = .ok (.aload_n 0, 1) := by decide +kernel
theorem dX10_unlike_23 : decode cX10_unlike 23 = .ok (.iload_n 1, 1) := by decide +kernel
theorem dX10_unlike_24 : decode cX10_unlike 24 = .ok (.iload_n 3, 1) := by decide +kernel
theorem dX10_unlike_25 : decode cX10_unlike 25 = .ok (.aload_n 0, 1) := by decide +kernel
theorem dX10_unlike_26 : decode cX10_unlike 26 = .ok (.getfield 67, 3) := by decide +kernel
theorem dX10_unlike_29 : decode cX10_unlike 29 = .ok (.invokevirtual 235, 3) := by decide +kernel
theorem dX10_unlike_32 : decode cX10_unlike 32 = .ok (.ifCond .eq 19, 3) := by decide +kernel
theorem dX10_unlike_35 : decode cX10_unlike 35 = .ok (.aload_n 0, 1) := by decide +kernel
theorem dX10_unlike_36 : decode cX10_unlike 36 = .ok (.iload_n 3, 1) := by decide +kernel
theorem dX10_unlike_37 : decode cX10_unlike 37 = .ok (.invokevirtual 238, 3) := by decide +kernel
theorem dX10_unlike_40 : decode cX10_unlike 40 = .ok (.aload_n 0, 1) := by decide +kernel
theorem dX10_unlike_41 : decode cX10_unlike 41 = .ok (.iload_n 3, 1) := by decide +kernel
theorem dX10_unlike_42 : decode cX10_unlike 42 = .ok (.invokevirtual 241, 3) := by decide +kernel
theorem dX10_unlike_45 : decode cX10_unlike 45 = .ok (.if_icmp .eq 6, 3) := by decide +kernel
theorem dX10_unlike_48 : decode cX10_unlike 48 = .ok (.iinc 2 1, 3) := by decide +kernel
theorem dX10_unlike_51 : decode cX10_unlike 51 = .ok (.iinc 3 1, 3) := by decide +kernel
theorem dX10_unlike_54 : decode cX10_unlike 54 = .ok (.goto (-40), 3) := by decide +kernel
theorem dX10_unlike_57 : decode cX10_unlike 57 = .ok (.iload_n 2, 1) := by decide +kernel
theorem dX10_unlike_58 : decode cX10_unlike 58 = .ok (.ireturn, 1) := by decide +kernel
theorem dX10_count_0 : decode cX10_count 0 = .ok (.iload_n 1, 1) := by decide +kernel
theorem dX10_count_1 : decode cX10_count 1 = .ok (.tableswitch 63 0 4 #[35, 40, 45, 50, 55], 35) := by decide +kernel
theorem dX10_count_36 : decode cX10_count 36 = .ok (.aload_n 0, 1) := by decide +kernel
theorem dX10_count_37 : decode cX10_count 37 = .ok (.getfield 57, 3) := by decide +kernel
theorem dX10_count_40 : decode cX10_count 40 = .ok (.ireturn, 1) := by decide +kernel
theorem dX10_count_41 : decode cX10_count 41 = .ok (.aload_n 0, 1) := by decide +kernel
theorem dX10_count_42 : decode cX10_count 42 = .ok (.getfield 61, 3) := by decide +kernel
theorem dX10_count_45 : decode cX10_count 45 = .ok (.ireturn, 1) := by decide +kernel
theorem dX10_count_46 : decode cX10_count 46 = .ok (.aload_n 0, 1) := by decide +kernel
theorem dX10_count_47 : decode cX10_count 47 = .ok (.getfield 64, 3) := by decide +kernel
theorem dX10_count_50 : decode cX10_count 50 = .ok (.ireturn, 1) := by decide +kernel
theorem dX10_count_51 : decode cX10_count 51 = .ok (.aload_n 0, 1) := by decide +kernel
theorem dX10_count_52 : decode cX10_count 52 = .ok (.getfield 67, 3) := by decide +kernel
theorem dX10_count_55 : decode cX10_count 55 = .ok (.ireturn, 1) := by decide +kernel
theorem dX10_count_56 : decode cX10_count 56 = .ok (.aload_n 0, 1) := by decide +kernel
theorem dX10_count_57 : decode cX10_count 57 = .ok (.getfield 30, 3) := by decide +kernel
theorem dX10_count_60 : decode cX10_count 60 = .ok (.getfield 90, 3) := by decide +kernel
theorem dX10_count_63 : decode cX10_count 63 = .ok (.ireturn, 1) := by decide +kernel
theorem dX10_count_64 : decode cX10_count 64 = .ok (.iconst (-1), 1) := by decide +kernel
theorem dX10_count_65 : decode cX10_count 65 = .ok (.ireturn, 1) := by decide +kernel
theorem dX10_trouble_0 : decode cX10_trouble 0 = .ok (.aload_n 0, 1) := by decide +kernel
theorem dX10_trouble_1 : decode cX10_trouble 1 = .ok (.getfield 70, 3) := by decide +kernel
theorem dX10_trouble_4 : decode cX10_trouble 4 = .ok (.ireturn, 1) := by decide +kernel
theorem dX10_refuse_0 : decode cX10_refuse 0 = .ok (.aload_n 0, 1) := by decide +kernel
theorem dX10_refuse_1 : decode cX10_refuse 1 = .ok (.iload_n 1, 1) := by decide +kernel
theorem dX10_refuse_2 : decode cX10_refuse 2 = .ok (.putfield 70, 3) := by decide +kernel
theorem dX10_refuse_5 : decode cX10_refuse 5 = .ok (.iconst (-1), 1) := by decide +kernel
theorem dX10_refuse_6 : decode cX10_refuse 6 = .ok (.ireturn, 1) := by decide +kernel
theorem dX10_accept_0 : decode cX10_accept 0 = .ok (.aload_n 0, 1) := by decide +kernel
theorem dX10_accept_1 : decode cX10_accept 1 = .ok (.iconst 0, 1) := by decide +kernel
theorem dX10_accept_2 : decode cX10_accept 2 = .ok (.putfield 70, 3) := by decide +kernel
theorem dX10_accept_5 : decode cX10_accept 5 = .ok (.iload_n 1, 1) := by decide +kernel
theorem dX10_accept_6 : decode cX10_accept 6 = .ok (.ireturn, 1) := by decide +kernel
theorem dX10_portAt_0 : decode cX10_portAt 0 = .ok (.iload_n 1, 1) := by decide +kernel
theorem dX10_portAt_1 : decode cX10_portAt 1 = .ok (.ifCond .lt 29, 3) := by decide +kernel
theorem dX10_portAt_4 : decode cX10_portAt 4 = .ok (.iload_n 1, 1) := by decide +kernel
theorem dX10_portAt_5 : decode cX10_portAt 5 = .ok (.aload_n 0, 1) := by decide +kernel
theorem dX10_portAt_6 : decode cX10_portAt 6 = .ok (.getfield 57, 3) := by decide +kernel
theorem dX10_portAt_9 : decode cX10_portAt 9 = .ok (.if_icmp .ge 21, 3) := by decide +kernel
theorem dX10_portAt_12 : decode cX10_portAt 12 = .ok (.iload_n 1, 1) := by decide +kernel
theorem dX10_portAt_13 : decode cX10_portAt 13 = .ok (.aload_n 0, 1) := by decide +kernel
theorem dX10_portAt_14 : decode cX10_portAt 14 = .ok (.getfield 11, 3) := by decide +kernel
theorem dX10_portAt_17 : decode cX10_portAt 17 = .ok (.arraylength, 1) := by decide +kernel
theorem dX10_portAt_18 : decode cX10_portAt 18 = .ok (.if_icmp .ge 12, 3) := by decide +kernel
theorem dX10_portAt_21 : decode cX10_portAt 21 = .ok (.aload_n 0, 1) := by decide +kernel
theorem dX10_portAt_22 : decode cX10_portAt 22 = .ok (.getfield 11, 3) := by decide +kernel
theorem dX10_portAt_25 : decode cX10_portAt 25 = .ok (.iload_n 1, 1) := by decide +kernel
theorem dX10_portAt_26 : decode cX10_portAt 26 = .ok (.aaload, 1) := by decide +kernel
theorem dX10_portAt_27 : decode cX10_portAt 27 = .ok (.goto 4, 3) := by decide +kernel
theorem dX10_portAt_30 : decode cX10_portAt 30 = .ok (.aconst_null, 1) := by decide +kernel
theorem dX10_portAt_31 : decode cX10_portAt 31 = .ok (.areturn, 1) := by decide +kernel
theorem dX10_tariffAt_0 : decode cX10_tariffAt 0 = .ok (.iload_n 1, 1) := by decide +kernel
theorem dX10_tariffAt_1 : decode cX10_tariffAt 1 = .ok (.ifCond .lt 29, 3) := by decide +kernel
theorem dX10_tariffAt_4 : decode cX10_tariffAt 4 = .ok (.iload_n 1, 1) := by decide +kernel
theorem dX10_tariffAt_5 : decode cX10_tariffAt 5 = .ok (.aload_n 0, 1) := by decide +kernel
theorem dX10_tariffAt_6 : decode cX10_tariffAt 6 = .ok (.getfield 61, 3) := by decide +kernel
theorem dX10_tariffAt_9 : decode cX10_tariffAt 9 = .ok (.if_icmp .ge 21, 3) := by decide +kernel
theorem dX10_tariffAt_12 : decode cX10_tariffAt 12 = .ok (.iload_n 1, 1) := by decide +kernel
theorem dX10_tariffAt_13 : decode cX10_tariffAt 13 = .ok (.aload_n 0, 1) := by decide +kernel
theorem dX10_tariffAt_14 : decode cX10_tariffAt 14 = .ok (.getfield 17, 3) := by decide +kernel
theorem dX10_tariffAt_17 : decode cX10_tariffAt 17 = .ok (.arraylength, 1) := by decide +kernel
theorem dX10_tariffAt_18 : decode cX10_tariffAt 18 = .ok (.if_icmp .ge 12, 3) := by decide +kernel
theorem dX10_tariffAt_21 : decode cX10_tariffAt 21 = .ok (.aload_n 0, 1) := by decide +kernel
theorem dX10_tariffAt_22 : decode cX10_tariffAt 22 = .ok (.getfield 17, 3) := by decide +kernel
theorem dX10_tariffAt_25 : decode cX10_tariffAt 25 = .ok (.iload_n 1, 1) := by decide +kernel
theorem dX10_tariffAt_26 : decode cX10_tariffAt 26 = .ok (.aaload, 1) := by decide +kernel
theorem dX10_tariffAt_27 : decode cX10_tariffAt 27 = .ok (.goto 4, 3) := by decide +kernel
theorem dX10_tariffAt_30 : decode cX10_tariffAt 30 = .ok (.aconst_null, 1) := by decide +kernel
theorem dX10_tariffAt_31 : decode cX10_tariffAt 31 = .ok (.areturn, 1) := by decide +kernel
theorem dX10_paperAt_0 : decode cX10_paperAt 0 = .ok (.iload_n 1, 1) := by decide +kernel
theorem dX10_paperAt_1 : decode cX10_paperAt 1 = .ok (.ifCond .lt 29, 3) := by decide +kernel
theorem dX10_paperAt_4 : decode cX10_paperAt 4 = .ok (.iload_n 1, 1) := by decide +kernel
theorem dX10_paperAt_5 : decode cX10_paperAt 5 = .ok (.aload_n 0, 1) := by decide +kernel
theorem dX10_paperAt_6 : decode cX10_paperAt 6 = .ok (.getfield 64, 3) := by decide +kernel
theorem dX10_paperAt_9 : decode cX10_paperAt 9 = .ok (.if_icmp .ge 21, 3) := by decide +kernel
theorem dX10_paperAt_12 : decode cX10_paperAt 12 = .ok (.iload_n 1, 1) := by decide +kernel
theorem dX10_paperAt_13 : decode cX10_paperAt 13 = .ok (.aload_n 0, 1) := by decide +kernel
theorem dX10_paperAt_14 : decode cX10_paperAt 14 = .ok (.getfield 23, 3) := by decide +kernel
theorem dX10_paperAt_17 : decode cX10_paperAt 17 = .ok (.arraylength, 1) := by decide +kernel
theorem dX10_paperAt_18 : decode cX10_paperAt 18 = .ok (.if_icmp .ge 12, 3) := by decide +kernel
theorem dX10_paperAt_21 : decode cX10_paperAt 21 = .ok (.aload_n 0, 1) := by decide +kernel
theorem dX10_paperAt_22 : decode cX10_paperAt 22 = .ok (.getfield 23, 3) := by decide +kernel
theorem dX10_paperAt_25 : decode cX10_paperAt 25 = .ok (.iload_n 1, 1) := by decide +kernel
theorem dX10_paperAt_26 : decode cX10_paperAt 26 = .ok (.aaload, 1) := by decide +kernel
theorem dX10_paperAt_27 : decode cX10_paperAt 27 = .ok (.goto 4, 3) := by decide +kernel
theorem dX10_paperAt_30 : decode cX10_paperAt 30 = .ok (.aconst_null, 1) := by decide +kernel
theorem dX10_paperAt_31 : decode cX10_paperAt 31 = .ok (.areturn, 1) := by decide +kernel
theorem dX10_isWorth_0 : decode cX10_isWorth 0 = .ok (.iload_n 0, 1) := by decide +kernel
theorem dX10_isWorth_1 : decode cX10_isWorth 1 = .ok (.ifCond .lt 15, 3) := by decide +kernel
theorem dX10_isWorth_4 : decode cX10_isWorth 4 = .ok (.iload_n 0, 1) := by decide +kernel
theorem dX10_isWorth_5 : decode cX10_isWorth 5 = .ok (.getstatic 244, 3) := by decide +kernel
theorem dX10_isWorth_8 : decode cX10_isWorth 8 = .ok (.arraylength, 1) := by decide +kernel
theorem dX10_isWorth_9 : decode cX10_isWorth 9 = .ok (.if_icmp .ge 7, 3) := by decide +kernel
theorem dX10_isWorth_12 : decode cX10_isWorth 12 = .ok (.iconst 1, 1) := by decide +kernel
theorem dX10_isWorth_13 : decode cX10_isWorth 13 = .ok (.goto 4, 3) := by decide +kernel
theorem dX10_isWorth_16 : decode cX10_isWorth 16 = .ok (.iconst 0, 1) := by decide +kernel
theorem dX10_isWorth_17 : decode cX10_isWorth 17 = .ok (.ireturn, 1) := by decide +kernel
theorem dX10_isPaper_0 : decode cX10_isPaper 0 = .ok (.iload_n 0, 1) := by decide +kernel
theorem dX10_isPaper_1 : decode cX10_isPaper 1 = .ok (.ifCond .lt 35, 3) := by decide +kernel
theorem dX10_isPaper_4 : decode cX10_isPaper 4 = .ok (.iload_n 0, 1) := by decide +kernel
theorem dX10_isPaper_5 : decode cX10_isPaper 5 = .ok (.bipush 9, 2) := by decide +kernel
theorem dX10_isPaper_7 : decode cX10_isPaper 7 = .ok (.if_icmp .gt 29, 3) := by decide +kernel
theorem dX10_isPaper_10 : decode cX10_isPaper 10 = .ok (.iload_n 1, 1) := by decide +kernel
theorem dX10_isPaper_11 : decode cX10_isPaper 11 = .ok (.ifCond .lt 25, 3) := by decide +kernel
theorem dX10_isPaper_14 : decode cX10_isPaper 14 = .ok (.iload_n 1, 1) := by decide +kernel
theorem dX10_isPaper_15 : decode cX10_isPaper 15 = .ok (.sipush 9999, 3) := by decide +kernel
theorem dX10_isPaper_18 : decode cX10_isPaper 18 = .ok (.if_icmp .gt 18, 3) := by decide +kernel
theorem dX10_isPaper_21 : decode cX10_isPaper 21 = .ok (.iload_n 2, 1) := by decide +kernel
theorem dX10_isPaper_22 : decode cX10_isPaper 22 = .ok (.iconst 1, 1) := by decide +kernel
theorem dX10_isPaper_23 : decode cX10_isPaper 23 = .ok (.if_icmp .lt 13, 3) := by decide +kernel
theorem dX10_isPaper_26 : decode cX10_isPaper 26 = .ok (.iload_n 2, 1) := by decide +kernel
theorem dX10_isPaper_27 : decode cX10_isPaper 27 = .ok (.bipush 99, 2) := by decide +kernel
theorem dX10_isPaper_29 : decode cX10_isPaper 29 = .ok (.if_icmp .gt 7, 3) := by decide +kernel
theorem dX10_isPaper_32 : decode cX10_isPaper 32 = .ok (.iconst 1, 1) := by decide +kernel
theorem dX10_isPaper_33 : decode cX10_isPaper 33 = .ok (.goto 4, 3) := by decide +kernel
theorem dX10_isPaper_36 : decode cX10_isPaper 36 = .ok (.iconst 0, 1) := by decide +kernel
theorem dX10_isPaper_37 : decode cX10_isPaper 37 = .ok (.ireturn, 1) := by decide +kernel
theorem dX10_isPast_0 : decode cX10_isPast 0 = .ok (.iload_n 1, 1) := by decide +kernel
theorem dX10_isPast_1 : decode cX10_isPast 1 = .ok (.ifCond .lt 15, 3) := by decide +kernel
theorem dX10_isPast_4 : decode cX10_isPast 4 = .ok (.iload_n 1, 1) := by decide +kernel
theorem dX10_isPast_5 : decode cX10_isPast 5 = .ok (.aload_n 0, 1) := by decide +kernel
theorem dX10_isPast_6 : decode cX10_isPast 6 = .ok (.getfield 67, 3) := by decide +kernel
theorem dX10_isPast_9 : decode cX10_isPast 9 = .ok (.if_icmp .gt 7, 3) := by decide +kernel
theorem dX10_isPast_12 : decode cX10_isPast 12 = .ok (.iconst 1, 1) := by decide +kernel
theorem dX10_isPast_13 : decode cX10_isPast 13 = .ok (.goto 4, 3) := by decide +kernel
theorem dX10_isPast_16 : decode cX10_isPast 16 = .ok (.iconst 0, 1) := by decide +kernel
theorem dX10_isPast_17 : decode cX10_isPast 17 = .ok (.ireturn, 1) := by decide +kernel
theorem dX10_sendOut_0 : decode cX10_sendOut 0 = .ok (.iconst 0, 1) := by decide +kernel
theorem dX10_sendOut_1 : decode cX10_sendOut 1 = .ok (.istore_n 1, 1) := by decide +kernel
theorem dX10_sendOut_2 : decode cX10_sendOut 2 = .ok (.iload_n 1, 1) := by decide +kernel
theorem dX10_sendOut_3 : decode cX10_sendOut 3 = .ok (.aload_n 0, 1) := by decide +kernel
theorem dX10_sendOut_4 : decode cX10_sendOut 4 = .ok (.getfield 57, 3) := by decide +kernel
theorem dX10_sendOut_7 : decode cX10_sendOut 7 = .ok (.if_icmp .ge 32, 3) := by decide +kernel
theorem dX10_sendOut_10 : decode cX10_sendOut 10 = .ok (.aload_n 0, 1) := by decide +kernel
theorem dX10_sendOut_11 : decode cX10_sendOut 11 = .ok (.iload_n 1, 1) := by decide +kernel
theorem dX10_sendOut_12 : decode cX10_sendOut 12 = .ok (.invokevirtual 119, 3) := by decide +kernel
theorem dX10_sendOut_15 : decode cX10_sendOut 15 = .ok (.astore_n 2, 1) := by decide +kernel
theorem dX10_sendOut_16 : decode cX10_sendOut 16 = .ok (.aload_n 2, 1) := by decide +kernel
theorem dX10_sendOut_17 : decode cX10_sendOut 17 = .ok (.ifnull 16, 3) := by decide +kernel
theorem dX10_sendOut_20 : decode cX10_sendOut 20 = .ok (.aload_n 2, 1) := by decide +kernel
theorem dX10_sendOut_21 : decode cX10_sendOut 21 = .ok (.aload_n 0, 1) := by decide +kernel
theorem dX10_sendOut_22 : decode cX10_sendOut 22 = .ok (.getfield 67, 3) := by decide +kernel
theorem dX10_sendOut_25 : decode cX10_sendOut 25 = .ok (.aload_n 2, 1) := by decide +kernel
theorem dX10_sendOut_26 : decode cX10_sendOut 26 = .ok (.getfield 223, 3) := by decide +kernel
theorem dX10_sendOut_29 : decode cX10_sendOut 29 = .ok (.iadd, 1) := by decide +kernel
theorem dX10_sendOut_30 : decode cX10_sendOut 30 = .ok (.invokevirtual 83, 3) := by decide +kernel
theorem dX10_sendOut_33 : decode cX10_sendOut 33 = .ok (.iinc 1 1, 3) := by decide +kernel
theorem dX10_sendOut_36 : decode cX10_sendOut 36 = .ok (.goto (-34), 3) := by decide +kernel
theorem dX10_sendOut_39 : decode cX10_sendOut 39 = .ok (.return_, 1) := by decide +kernel
theorem dX10_knownDay_0 : decode cX10_knownDay 0 = .ok (.aload_n 0, 1) := by decide +kernel
theorem dX10_knownDay_1 : decode cX10_knownDay 1 = .ok (.aload_n 1, 1) := by decide +kernel
theorem dX10_knownDay_2 : decode cX10_knownDay 2 = .ok (.getfield 190, 3) := by decide +kernel
theorem dX10_knownDay_5 : decode cX10_knownDay 5 = .ok (.invokevirtual 119, 3) := by decide +kernel
theorem dX10_knownDay_8 : decode cX10_knownDay 8 = .ok (.astore_n 2, 1) := by decide +kernel
theorem dX10_knownDay_9 : decode cX10_knownDay 9 = .ok (.aload_n 2, 1) := by decide +kernel
theorem dX10_knownDay_10 : decode cX10_knownDay 10 = .ok (.ifnonnull 7, 3) := by decide +kernel
theorem dX10_knownDay_13 : decode cX10_knownDay 13 = .ok (.iconst 0, 1) := by decide +kernel
theorem dX10_knownDay_14 : decode cX10_knownDay 14 = .ok (.goto 7, 3) := by decide +kernel
theorem dX10_knownDay_17 : decode cX10_knownDay 17 = .ok (.aload_n 2, 1) := by decide +kernel
theorem dX10_knownDay_18 : decode cX10_knownDay 18 = .ok (.getfield 223, 3) := by decide +kernel
theorem dX10_knownDay_21 : decode cX10_knownDay 21 = .ok (.istore_n 3, 1) := by decide +kernel
theorem dX10_knownDay_22 : decode cX10_knownDay 22 = .ok (.aload_n 1, 1) := by decide +kernel
theorem dX10_knownDay_23 : decode cX10_knownDay 23 = .ok (.getfield 202, 3) := by decide +kernel
theorem dX10_knownDay_26 : decode cX10_knownDay 26 = .ok (.invokestatic 247, 3) := by decide +kernel
theorem dX10_knownDay_29 : decode cX10_knownDay 29 = .ok (.bipush 30, 2) := by decide +kernel
theorem dX10_knownDay_31 : decode cX10_knownDay 31 = .ok (.imul, 1) := by decide +kernel
theorem dX10_knownDay_32 : decode cX10_knownDay 32 = .ok (.iload_n 3, 1) := by decide +kernel
theorem dX10_knownDay_33 : decode cX10_knownDay 33 = .ok (.iadd, 1) := by decide +kernel
theorem dX10_knownDay_34 : decode cX10_knownDay 34 = .ok (.ireturn, 1) := by decide +kernel
theorem dX10_isKnown_0 : decode cX10_isKnown 0 = .ok (.aload_n 0, 1) := by decide +kernel
theorem dX10_isKnown_1 : decode cX10_isKnown 1 = .ok (.aload_n 1, 1) := by decide +kernel
theorem dX10_isKnown_2 : decode cX10_isKnown 2 = .ok (.invokevirtual 219, 3) := by decide +kernel
theorem dX10_isKnown_5 : decode cX10_isKnown 5 = .ok (.iload_n 2, 1) := by decide +kernel
theorem dX10_isKnown_6 : decode cX10_isKnown 6 = .ok (.if_icmp .gt 7, 3) := by decide +kernel
theorem dX10_isKnown_9 : decode cX10_isKnown 9 = .ok (.iconst 1, 1) := by decide +kernel
theorem dX10_isKnown_10 : decode cX10_isKnown 10 = .ok (.goto 4, 3) := by decide +kernel
theorem dX10_isKnown_13 : decode cX10_isKnown 13 = .ok (.iconst 0, 1) := by decide +kernel
theorem dX10_isKnown_14 : decode cX10_isKnown 14 = .ok (.ireturn, 1) := by decide +kernel
theorem dX10_isKnownOf_0 : decode cX10_isKnownOf 0 = .ok (.aload_n 0, 1) := by decide +kernel
theorem dX10_isKnownOf_1 : decode cX10_isKnownOf 1 = .ok (.iload_n 2, 1) := by decide +kernel
theorem dX10_isKnownOf_2 : decode cX10_isKnownOf 2 = .ok (.invokevirtual 186, 3) := by decide +kernel
theorem dX10_isKnownOf_5 : decode cX10_isKnownOf 5 = .ok (.astore 4, 2) := by decide +kernel
theorem dX10_isKnownOf_7 : decode cX10_isKnownOf 7 = .ok (.aload 4, 2) := by decide +kernel
theorem dX10_isKnownOf_9 : decode cX10_isKnownOf 9 = .ok (.ifnull 26, 3) := by decide +kernel
theorem dX10_isKnownOf_12 : decode cX10_isKnownOf 12 = .ok (.aload 4, 2) := by decide +kernel
theorem dX10_isKnownOf_14 : decode cX10_isKnownOf 14 = .ok (.getfield 190, 3) := by decide +kernel
theorem dX10_isKnownOf_17 : decode cX10_isKnownOf 17 = .ok (.iload_n 1, 1) := by decide +kernel
theorem dX10_isKnownOf_18 : decode cX10_isKnownOf 18 = .ok (.if_icmp .ne 17, 3) := by decide +kernel
theorem dX10_isKnownOf_21 : decode cX10_isKnownOf 21 = .ok (.aload_n 0, 1) := by decide +kernel
theorem dX10_isKnownOf_22 : decode cX10_isKnownOf 22 = .ok (.aload 4, 2) := by decide +kernel
theorem dX10_isKnownOf_24 : decode cX10_isKnownOf 24 = .ok (.iload_n 3, 1) := by decide +kernel
theorem dX10_isKnownOf_25 : decode cX10_isKnownOf 25 = .ok (.invokevirtual 215, 3) := by decide +kernel
theorem dX10_isKnownOf_28 : decode cX10_isKnownOf 28 = .ok (.ifCond .eq 7, 3) := by decide +kernel
theorem dX10_isKnownOf_31 : decode cX10_isKnownOf 31 = .ok (.iconst 1, 1) := by decide +kernel
theorem dX10_isKnownOf_32 : decode cX10_isKnownOf 32 = .ok (.goto 4, 3) := by decide +kernel
theorem dX10_isKnownOf_35 : decode cX10_isKnownOf 35 = .ok (.iconst 0, 1) := by decide +kernel
theorem dX10_isKnownOf_36 : decode cX10_isKnownOf 36 = .ok (.ireturn, 1) := by decide +kernel
theorem dX10_chargedFor_0 : decode cX10_chargedFor 0 = .ok (.aload_n 0, 1) := by decide +kernel
theorem dX10_chargedFor_1 : decode cX10_chargedFor 1 = .ok (.iload_n 1, 1) := by decide +kernel
theorem dX10_chargedFor_2 : decode cX10_chargedFor 2 = .ok (.invokevirtual 186, 3) := by decide +kernel
theorem dX10_chargedFor_5 : decode cX10_chargedFor 5 = .ok (.astore_n 2, 1) := by decide +kernel
theorem dX10_chargedFor_6 : decode cX10_chargedFor 6 = .ok (.aload_n 2, 1) := by decide +kernel
theorem dX10_chargedFor_7 : decode cX10_chargedFor 7 = .ok (.ifnonnull 7, 3) := by decide +kernel
theorem dX10_chargedFor_10 : decode cX10_chargedFor 10 = .ok (.iconst 0, 1) := by decide +kernel
theorem dX10_chargedFor_11 : decode cX10_chargedFor 11 = .ok (.goto 7, 3) := by decide +kernel
theorem dX10_chargedFor_14 : decode cX10_chargedFor 14 = .ok (.aload_n 2, 1) := by decide +kernel
theorem dX10_chargedFor_15 : decode cX10_chargedFor 15 = .ok (.getfield 205, 3) := by decide +kernel
theorem dX10_chargedFor_18 : decode cX10_chargedFor 18 = .ok (.ireturn, 1) := by decide +kernel
theorem dX10_homeFee_0 : decode cX10_homeFee 0 = .ok (.aload_n 0, 1) := by decide +kernel
theorem dX10_homeFee_1 : decode cX10_homeFee 1 = .ok (.iload_n 1, 1) := by decide +kernel
theorem dX10_homeFee_2 : decode cX10_homeFee 2 = .ok (.invokevirtual 186, 3) := by decide +kernel
theorem dX10_homeFee_5 : decode cX10_homeFee 5 = .ok (.astore_n 2, 1) := by decide +kernel
theorem dX10_homeFee_6 : decode cX10_homeFee 6 = .ok (.aload_n 2, 1) := by decide +kernel
theorem dX10_homeFee_7 : decode cX10_homeFee 7 = .ok (.ifnonnull 7, 3) := by decide +kernel
theorem dX10_homeFee_10 : decode cX10_homeFee 10 = .ok (.sipush (-10000), 3) := by decide +kernel
theorem dX10_homeFee_13 : decode cX10_homeFee 13 = .ok (.ireturn, 1) := by decide +kernel
theorem dX10_homeFee_14 : decode cX10_homeFee 14 = .ok (.aload_n 0, 1) := by decide +kernel
theorem dX10_homeFee_15 : decode cX10_homeFee 15 = .ok (.getfield 61, 3) := by decide +kernel
theorem dX10_homeFee_18 : decode cX10_homeFee 18 = .ok (.iconst 1, 1) := by decide +kernel
theorem dX10_homeFee_19 : decode cX10_homeFee 19 = .ok (.isub, 1) := by decide +kernel
theorem dX10_homeFee_20 : decode cX10_homeFee 20 = .ok (.istore_n 3, 1) := by decide +kernel
theorem dX10_homeFee_21 : decode cX10_homeFee 21 = .ok (.iload_n 3, 1) := by decide +kernel
theorem dX10_homeFee_22 : decode cX10_homeFee 22 = .ok (.ifCond .lt 57, 3) := by decide +kernel
theorem dX10_homeFee_25 : decode cX10_homeFee 25 = .ok (.aload_n 0, 1) := by decide +kernel
theorem dX10_homeFee_26 : decode cX10_homeFee 26 = .ok (.iload_n 3, 1) := by decide +kernel
theorem dX10_homeFee_27 : decode cX10_homeFee 27 = .ok (.invokevirtual 153, 3) := by decide +kernel
theorem dX10_homeFee_30 : decode cX10_homeFee 30 = .ok (.astore 4, 2) := by decide +kernel
theorem dX10_homeFee_32 : decode cX10_homeFee 32 = .ok (.aload 4, 2) := by decide +kernel
theorem dX10_homeFee_34 : decode cX10_homeFee 34 = .ok (.ifnull 39, 3) := by decide +kernel
theorem dX10_homeFee_37 : decode cX10_homeFee 37 = .ok (.aload 4, 2) := by decide +kernel
theorem dX10_homeFee_39 : decode cX10_homeFee 39 = .ok (.getfield 250, 3) := by decide +kernel
theorem dX10_homeFee_42 : decode cX10_homeFee 42 = .ok (.aload_n 2, 1) := by decide +kernel
theorem dX10_homeFee_43 : decode cX10_homeFee 43 = .ok (.getfield 202, 3) := by decide +kernel
theorem dX10_homeFee_46 : decode cX10_homeFee 46 = .ok (.if_icmp .gt 27, 3) := by decide +kernel
theorem dX10_homeFee_49 : decode cX10_homeFee 49 = .ok (.aload 4, 2) := by decide +kernel
theorem dX10_homeFee_51 : decode cX10_homeFee 51 = .ok (.aload_n 2, 1) := by decide +kernel
theorem dX10_homeFee_52 : decode cX10_homeFee 52 = .ok (.invokevirtual 166, 3) := by decide +kernel
theorem dX10_homeFee_55 : decode cX10_homeFee 55 = .ok (.istore 5, 2) := by decide +kernel
theorem dX10_homeFee_57 : decode cX10_homeFee 57 = .ok (.iload 5, 2) := by decide +kernel
theorem dX10_homeFee_59 : decode cX10_homeFee 59 = .ok (.bipush (-2), 2) := by decide +kernel
theorem dX10_homeFee_61 : decode cX10_homeFee 61 = .ok (.if_icmp .ne 9, 3) := by decide +kernel
theorem dX10_homeFee_64 : decode cX10_homeFee 64 = .ok (.sipush (-10000), 3) := by decide +kernel
theorem dX10_homeFee_67 : decode cX10_homeFee 67 = .ok (.goto 5, 3) := by decide +kernel
theorem dX10_homeFee_70 : decode cX10_homeFee 70 = .ok (.iload 5, 2) := by decide +kernel
theorem dX10_homeFee_72 : decode cX10_homeFee 72 = .ok (.ireturn, 1) := by decide +kernel
theorem dX10_homeFee_73 : decode cX10_homeFee 73 = .ok (.iinc 3 (-1), 3) := by decide +kernel
theorem dX10_homeFee_76 : decode cX10_homeFee 76 = .ok (.goto (-55), 3) := by decide +kernel
theorem dX10_homeFee_79 : decode cX10_homeFee 79 = .ok (.sipush (-10000), 3) := by decide +kernel
theorem dX10_homeFee_82 : decode cX10_homeFee 82 = .ok (.ireturn, 1) := by decide +kernel
theorem dX10_accountsBelow_0 : decode cX10_accountsBelow 0 = .ok (.iload_n 0, 1) := by decide +kernel
theorem dX10_accountsBelow_1 : decode cX10_accountsBelow 1 = .ok (.ifCond .gt 7, 3) := by decide +kernel
theorem dX10_accountsBelow_4 : decode cX10_accountsBelow 4 = .ok (.iconst 0, 1) := by decide +kernel
theorem dX10_accountsBelow_5 : decode cX10_accountsBelow 5 = .ok (.goto 12, 3) := by decide +kernel
theorem dX10_accountsBelow_8 : decode cX10_accountsBelow 8 = .ok (.iload_n 0, 1) := by decide +kernel
theorem dX10_accountsBelow_9 : decode cX10_accountsBelow 9 = .ok (.bipush 30, 2) := by decide +kernel
theorem dX10_accountsBelow_11 : decode cX10_accountsBelow 11 = .ok (.iadd, 1) := by decide +kernel
theorem dX10_accountsBelow_12 : decode cX10_accountsBelow 12 = .ok (.iconst 1, 1) := by decide +kernel
theorem dX10_accountsBelow_13 : decode cX10_accountsBelow 13 = .ok (.isub, 1) := by decide +kernel
theorem dX10_accountsBelow_14 : decode cX10_accountsBelow 14 = .ok (.bipush 30, 2) := by decide +kernel
theorem dX10_accountsBelow_16 : decode cX10_accountsBelow 16 = .ok (.idiv, 1) := by decide +kernel
theorem dX10_accountsBelow_17 : decode cX10_accountsBelow 17 = .ok (.ireturn, 1) := by decide +kernel
theorem dX11_init_0 : decode cX11_init 0 = .ok (.aload_n 0, 1) := by decide +kernel
theorem dX11_init_1 : decode cX11_init 1 = .ok (.aconst_null, 1) := by decide +kernel
theorem dX11_init_2 : decode cX11_init 2 = .ok (.aconst_null, 1) := by decide +kernel
theorem dX11_init_3 : decode cX11_init 3 = .ok (.iconst 0, 1) := by decide +kernel
theorem dX11_init_4 : decode cX11_init 4 = .ok (.iconst 0, 1) := by decide +kernel
theorem dX11_init_5 : decode cX11_init 5 = .ok (.invokespecial 1, 3) := by decide +kernel
theorem dX11_init_8 : decode cX11_init 8 = .ok (.return_, 1) := by decide +kernel
