theorem dX12_lost_83 : decode cX12_lost 83 = .ok (.bipush 7, 2) := by decide +kernel
theorem dX12_lost_85 : decode cX12_lost 85 = .ok (.putfield 126, 3) := by decide +kernel
theorem dX12_lost_88 : decode cX12_lost 88 = .ok (.aload_n 0, 1) := by decide +kernel
theorem dX12_lost_89 : decode cX12_lost 89 = .ok (.iconst (-1), 1) := by decide +kernel
theorem dX12_lost_90 : decode cX12_lost 90 = .ok (.putfield 9, 3) := by decide +kernel
theorem dX12_lost_93 : decode cX12_lost 93 = .ok (.iload 4, 2) := by decide +kernel
theorem dX12_lost_95 : decode cX12_lost 95 = .ok (.ifCond .eq 15, 3) := by decide +kernel
theorem dX12_lost_98 : decode cX12_lost 98 = .ok (.aload_n 0, 1) := by decide +kernel
theorem dX12_lost_99 : decode cX12_lost 99 = .ok (.getfield 85, 3) := by decide +kernel
theorem dX12_lost_102 : decode cX12_lost 102 = .ok (.bipush 30, 2) := by decide +kernel
theorem dX12_lost_104 : decode cX12_lost 104 = .ok (.iload_n 1, 1) := by decide +kernel
theorem dX12_lost_105 : decode cX12_lost 105 = .ok (.imul, 1) := by decide +kernel
theorem dX12_lost_106 : decode cX12_lost 106 = .ok (.iload_n 2, 1) := by decide +kernel
theorem dX12_lost_107 : decode cX12_lost 107 = .ok (.iadd, 1) := by decide +kernel
theorem dX12_lost_108 : decode cX12_lost 108 = .ok (.iconst 1, 1) := by decide +kernel
theorem dX12_lost_109 : decode cX12_lost 109 = .ok (.bastore, 1) := by decide +kernel
theorem dX12_lost_110 : decode cX12_lost 110 = .ok (.iload 4, 2) := by decide +kernel
theorem dX12_lost_112 : decode cX12_lost 112 = .ok (.ireturn, 1) := by decide +kernel
theorem dX12_asks_0 : decode cX12_asks 0 = .ok (.iconst 0, 1) := by decide +kernel
theorem dX12_asks_1 : decode cX12_asks 1 = .ok (.istore_n 3, 1) := by decide +kernel
theorem dX12_asks_2 : decode cX12_asks 2 = .ok (.aload_n 0, 1) := by decide +kernel
theorem dX12_asks_3 : decode cX12_asks 3 = .ok (.getfield 201, 3) := by decide +kernel
theorem dX12_asks_6 : decode cX12_asks 6 = .ok (.iconst 1, 1) := by decide +kernel
theorem dX12_asks_7 : decode cX12_asks 7 = .ok (.isub, 1) := by decide +kernel
theorem dX12_asks_8 : decode cX12_asks 8 = .ok (.istore 4, 2) := by decide +kernel
theorem dX12_asks_10 : decode cX12_asks 10 = .ok (.iload 4, 2) := by decide +kernel
theorem dX12_asks_12 : decode cX12_asks 12 = .ok (.ifCond .lt 75, 3) := by decide +kernel
theorem dX12_asks_15 : decode cX12_asks 15 = .ok (.bipush 30, 2) := by decide +kernel
theorem dX12_asks_17 : decode cX12_asks 17 = .ok (.iload_n 1, 1) := by decide +kernel
theorem dX12_asks_18 : decode cX12_asks 18 = .ok (.imul, 1) := by decide +kernel
theorem dX12_asks_19 : decode cX12_asks 19 = .ok (.iload 4, 2) := by decide +kernel
theorem dX12_asks_21 : decode cX12_asks 21 = .ok (.iadd, 1) := by decide +kernel
theorem dX12_asks_22 : decode cX12_asks 22 = .ok (.istore 5, 2) := by decide +kernel
theorem dX12_asks_24 : decode cX12_asks 24 = .ok (.aload_n 0, 1) := by decide +kernel
theorem dX12_asks_25 : decode cX12_asks 25 = .ok (.iload_n 1, 1) := by decide +kernel
theorem dX12_asks_26 : decode cX12_asks 26 = .ok (.iload 4, 2) := by decide +kernel
theorem dX12_asks_28 : decode cX12_asks 28 = .ok (.iload_n 2, 1) := by decide +kernel
theorem dX12_asks_29 : decode cX12_asks 29 = .ok (.invokevirtual 268, 3) := by decide +kernel
theorem dX12_asks_32 : decode cX12_asks 32 = .ok (.ifCond .eq 8, 3) := by decide +kernel
theorem dX12_asks_35 : decode cX12_asks 35 = .ok (.iconst 1, 1) := by decide +kernel
theorem dX12_asks_36 : decode cX12_asks 36 = .ok (.istore_n 3, 1) := by decide +kernel
theorem dX12_asks_37 : decode cX12_asks 37 = .ok (.goto 44, 3) := by decide +kernel
theorem dX12_asks_40 : decode cX12_asks 40 = .ok (.iload_n 3, 1) := by decide +kernel
theorem dX12_asks_41 : decode cX12_asks 41 = .ok (.ifCond .eq 40, 3) := by decide +kernel
theorem dX12_asks_44 : decode cX12_asks 44 = .ok (.aload_n 0, 1) := by decide +kernel
theorem dX12_asks_45 : decode cX12_asks 45 = .ok (.getfield 82, 3) := by decide +kernel
theorem dX12_asks_48 : decode cX12_asks 48 = .ok (.iload 5, 2) := by decide +kernel
theorem dX12_asks_50 : decode cX12_asks 50 = .ok (.iaload, 1) := by decide +kernel
theorem dX12_asks_51 : decode cX12_asks 51 = .ok (.ldc 249, 2) := by decide +kernel
theorem dX12_asks_53 : decode cX12_asks 53 = .ok (.if_icmp .ne 28, 3) := by decide +kernel
theorem dX12_asks_56 : decode cX12_asks 56 = .ok (.aload_n 0, 1) := by decide +kernel
theorem dX12_asks_57 : decode cX12_asks 57 = .ok (.getfield 82, 3) := by decide +kernel
theorem dX12_asks_60 : decode cX12_asks 60 = .ok (.iload 5, 2) := by decide +kernel
theorem dX12_asks_62 : decode cX12_asks 62 = .ok (.iload_n 2, 1) := by decide +kernel
theorem dX12_asks_63 : decode cX12_asks 63 = .ok (.iastore, 1) := by decide +kernel
theorem dX12_asks_64 : decode cX12_asks 64 = .ok (.aload_n 0, 1) := by decide +kernel
theorem dX12_asks_65 : decode cX12_asks 65 = .ok (.getfield 79, 3) := by decide +kernel
theorem dX12_asks_68 : decode cX12_asks 68 = .ok (.iload 5, 2) := by decide +kernel
theorem dX12_asks_70 : decode cX12_asks 70 = .ok (.iload_n 2, 1) := by decide +kernel
theorem dX12_asks_71 : decode cX12_asks 71 = .ok (.iconst 2, 1) := by decide +kernel
theorem dX12_asks_72 : decode cX12_asks 72 = .ok (.aload_n 0, 1) := by decide +kernel
theorem dX12_asks_73 : decode cX12_asks 73 = .ok (.getfield 58, 3) := by decide +kernel
theorem dX12_asks_76 : decode cX12_asks 76 = .ok (.iload_n 1, 1) := by decide +kernel
theorem dX12_asks_77 : decode cX12_asks 77 = .ok (.iaload, 1) := by decide +kernel
theorem dX12_asks_78 : decode cX12_asks 78 = .ok (.imul, 1) := by decide +kernel
theorem dX12_asks_79 : decode cX12_asks 79 = .ok (.iadd, 1) := by decide +kernel
theorem dX12_asks_80 : decode cX12_asks 80 = .ok (.iastore, 1) := by decide +kernel
theorem dX12_asks_81 : decode cX12_asks 81 = .ok (.iinc 4 (-1), 3) := by decide +kernel
theorem dX12_asks_84 : decode cX12_asks 84 = .ok (.goto (-74), 3) := by decide +kernel
theorem dX12_asks_87 : decode cX12_asks 87 = .ok (.return_, 1) := by decide +kernel
theorem dX12_pass_0 : decode cX12_pass 0 = .ok (.aload_n 0, 1) := by decide +kernel
theorem dX12_pass_1 : decode cX12_pass 1 = .ok (.iconst 0, 1) := by decide +kernel
theorem dX12_pass_2 : decode cX12_pass 2 = .ok (.putfield 123, 3) := by decide +kernel
theorem dX12_pass_5 : decode cX12_pass 5 = .ok (.iload_n 1, 1) := by decide +kernel
theorem dX12_pass_6 : decode cX12_pass 6 = .ok (.iconst 1, 1) := by decide +kernel
theorem dX12_pass_7 : decode cX12_pass 7 = .ok (.sipush 400, 3) := by decide +kernel
theorem dX12_pass_10 : decode cX12_pass 10 = .ok (.invokestatic 229, 3) := by decide +kernel
theorem dX12_pass_13 : decode cX12_pass 13 = .ok (.ifCond .eq 15, 3) := by decide +kernel
theorem dX12_pass_16 : decode cX12_pass 16 = .ok (.aload_n 0, 1) := by decide +kernel
theorem dX12_pass_17 : decode cX12_pass 17 = .ok (.getfield 239, 3) := by decide +kernel
theorem dX12_pass_20 : decode cX12_pass 20 = .ok (.iload_n 1, 1) := by decide +kernel
theorem dX12_pass_21 : decode cX12_pass 21 = .ok (.iadd, 1) := by decide +kernel
theorem dX12_pass_22 : decode cX12_pass 22 = .ok (.sipush 10000, 3) := by decide +kernel
theorem dX12_pass_25 : decode cX12_pass 25 = .ok (.if_icmp .le 9, 3) := by decide +kernel
theorem dX12_pass_28 : decode cX12_pass 28 = .ok (.aload_n 0, 1) := by decide +kernel
theorem dX12_pass_29 : decode cX12_pass 29 = .ok (.iconst 2, 1) := by decide +kernel
theorem dX12_pass_30 : decode cX12_pass 30 = .ok (.invokevirtual 233, 3) := by decide +kernel
theorem dX12_pass_33 : decode cX12_pass 33 = .ok (.ireturn, 1) := by decide +kernel
theorem dX12_pass_34 : decode cX12_pass 34 = .ok (.iconst 0, 1) := by decide +kernel
theorem dX12_pass_35 : decode cX12_pass 35 = .ok (.istore_n 2, 1) := by decide +kernel
theorem dX12_pass_36 : decode cX12_pass 36 = .ok (.iload_n 2, 1) := by decide +kernel
theorem dX12_pass_37 : decode cX12_pass 37 = .ok (.iload_n 1, 1) := by decide +kernel
theorem dX12_pass_38 : decode cX12_pass 38 = .ok (.if_icmp .ge 97, 3) := by decide +kernel
theorem dX12_pass_41 : decode cX12_pass 41 = .ok (.iconst 0, 1) := by decide +kernel
theorem dX12_pass_42 : decode cX12_pass 42 = .ok (.istore_n 3, 1) := by decide +kernel
theorem dX12_pass_43 : decode cX12_pass 43 = .ok (.iload_n 3, 1) := by decide +kernel
theorem dX12_pass_44 : decode cX12_pass 44 = .ok (.aload_n 0, 1) := by decide +kernel
theorem dX12_pass_45 : decode cX12_pass 45 = .ok (.getfield 236, 3) := by decide +kernel
theorem dX12_pass_48 : decode cX12_pass 48 = .ok (.if_icmp .ge 46, 3) := by decide +kernel
theorem dX12_pass_51 : decode cX12_pass 51 = .ok (.aload_n 0, 1) := by decide +kernel
theorem dX12_pass_52 : decode cX12_pass 52 = .ok (.getfield 70, 3) := by decide +kernel
theorem dX12_pass_55 : decode cX12_pass 55 = .ok (.iload_n 3, 1) := by decide +kernel
theorem dX12_pass_56 : decode cX12_pass 56 = .ok (.dup2, 1) := by decide +kernel
theorem dX12_pass_57 : decode cX12_pass 57 = .ok (.iaload, 1) := by decide +kernel
theorem dX12_pass_58 : decode cX12_pass 58 = .ok (.aload_n 0, 1) := by decide +kernel
theorem dX12_pass_59 : decode cX12_pass 59 = .ok (.getfield 239, 3) := by decide +kernel
theorem dX12_pass_62 : decode cX12_pass 62 = .ok (.bipush 30, 2) := by decide +kernel
theorem dX12_pass_64 : decode cX12_pass 64 = .ok (.irem, 1) := by decide +kernel
theorem dX12_pass_65 : decode cX12_pass 65 = .ok (.ifCond .ne 20, 3) := by decide +kernel
theorem dX12_pass_68 : decode cX12_pass 68 = .ok (.aload_n 0, 1) := by decide +kernel
theorem dX12_pass_69 : decode cX12_pass 69 = .ok (.getfield 239, 3) := by decide +kernel
theorem dX12_pass_72 : decode cX12_pass 72 = .ok (.aload_n 0, 1) := by decide +kernel
theorem dX12_pass_73 : decode cX12_pass 73 = .ok (.getfield 61, 3) := by decide +kernel
theorem dX12_pass_76 : decode cX12_pass 76 = .ok (.iload_n 3, 1) := by decide +kernel
theorem dX12_pass_77 : decode cX12_pass 77 = .ok (.iaload, 1) := by decide +kernel
theorem dX12_pass_78 : decode cX12_pass 78 = .ok (.if_icmp .lt 7, 3) := by decide +kernel
theorem dX12_pass_81 : decode cX12_pass 81 = .ok (.iconst 1, 1) := by decide +kernel
theorem dX12_pass_82 : decode cX12_pass 82 = .ok (.goto 4, 3) := by decide +kernel
theorem dX12_pass_85 : decode cX12_pass 85 = .ok (.iconst 0, 1) := by decide +kernel
theorem dX12_pass_86 : decode cX12_pass 86 = .ok (.iadd, 1) := by decide +kernel
theorem dX12_pass_87 : decode cX12_pass 87 = .ok (.iastore, 1) := by decide +kernel
theorem dX12_pass_88 : decode cX12_pass 88 = .ok (.iinc 3 1, 3) := by decide +kernel
theorem dX12_pass_91 : decode cX12_pass 91 = .ok (.goto (-48), 3) := by decide +kernel
theorem dX12_pass_94 : decode cX12_pass 94 = .ok (.aload_n 0, 1) := by decide +kernel
theorem dX12_pass_95 : decode cX12_pass 95 = .ok (.dup, 1) := by decide +kernel
theorem dX12_pass_96 : decode cX12_pass 96 = .ok (.getfield 239, 3) := by decide +kernel
theorem dX12_pass_99 : decode cX12_pass 99 = .ok (.iconst 1, 1) := by decide +kernel
theorem dX12_pass_100 : decode cX12_pass 100 = .ok (.iadd, 1) := by decide +kernel
theorem dX12_pass_101 : decode cX12_pass 101 = .ok (.putfield 239, 3) := by decide +kernel
theorem dX12_pass_104 : decode cX12_pass 104 = .ok (.iconst 0, 1) := by decide +kernel
theorem dX12_pass_105 : decode cX12_pass 105 = .ok (.istore_n 3, 1) := by decide +kernel
theorem dX12_pass_106 : decode cX12_pass 106 = .ok (.iload_n 3, 1) := by decide +kernel
theorem dX12_pass_107 : decode cX12_pass 107 = .ok (.aload_n 0, 1) := by decide +kernel
theorem dX12_pass_108 : decode cX12_pass 108 = .ok (.getfield 236, 3) := by decide +kernel
theorem dX12_pass_111 : decode cX12_pass 111 = .ok (.if_icmp .ge 18, 3) := by decide +kernel
theorem dX12_pass_114 : decode cX12_pass 114 = .ok (.aload_n 0, 1) := by decide +kernel
theorem dX12_pass_115 : decode cX12_pass 115 = .ok (.iload_n 3, 1) := by decide +kernel
theorem dX12_pass_116 : decode cX12_pass 116 = .ok (.aload_n 0, 1) := by decide +kernel
theorem dX12_pass_117 : decode cX12_pass 117 = .ok (.getfield 239, 3) := by decide +kernel
theorem dX12_pass_120 : decode cX12_pass 120 = .ok (.invokevirtual 271, 3) := by decide +kernel
theorem dX12_pass_123 : decode cX12_pass 123 = .ok (.iinc 3 1, 3) := by decide +kernel
theorem dX12_pass_126 : decode cX12_pass 126 = .ok (.goto (-20), 3) := by decide +kernel
theorem dX12_pass_129 : decode cX12_pass 129 = .ok (.iinc 2 1, 3) := by decide +kernel
theorem dX12_pass_132 : decode cX12_pass 132 = .ok (.goto (-96), 3) := by decide +kernel
theorem dX12_pass_135 : decode cX12_pass 135 = .ok (.aload_n 0, 1) := by decide +kernel
theorem dX12_pass_136 : decode cX12_pass 136 = .ok (.aload_n 0, 1) := by decide +kernel
theorem dX12_pass_137 : decode cX12_pass 137 = .ok (.getfield 239, 3) := by decide +kernel
theorem dX12_pass_140 : decode cX12_pass 140 = .ok (.invokevirtual 246, 3) := by decide +kernel
theorem dX12_pass_143 : decode cX12_pass 143 = .ok (.ireturn, 1) := by decide +kernel
theorem dX12_forceOf_0 : decode cX12_forceOf 0 = .ok (.iconst 0, 1) := by decide +kernel
theorem dX12_forceOf_1 : decode cX12_forceOf 1 = .ok (.istore_n 2, 1) := by decide +kernel
theorem dX12_forceOf_2 : decode cX12_forceOf 2 = .ok (.iload_n 2, 1) := by decide +kernel
theorem dX12_forceOf_3 : decode cX12_forceOf 3 = .ok (.aload_n 0, 1) := by decide +kernel
theorem dX12_forceOf_4 : decode cX12_forceOf 4 = .ok (.getfield 201, 3) := by decide +kernel
theorem dX12_forceOf_7 : decode cX12_forceOf 7 = .ok (.if_icmp .ge 22, 3) := by decide +kernel
theorem dX12_forceOf_10 : decode cX12_forceOf 10 = .ok (.aload_n 0, 1) := by decide +kernel
theorem dX12_forceOf_11 : decode cX12_forceOf 11 = .ok (.iload_n 1, 1) := by decide +kernel
theorem dX12_forceOf_12 : decode cX12_forceOf 12 = .ok (.iload_n 2, 1) := by decide +kernel
theorem dX12_forceOf_13 : decode cX12_forceOf 13 = .ok (.aload_n 0, 1) := by decide +kernel
theorem dX12_forceOf_14 : decode cX12_forceOf 14 = .ok (.getfield 239, 3) := by decide +kernel
theorem dX12_forceOf_17 : decode cX12_forceOf 17 = .ok (.invokevirtual 268, 3) := by decide +kernel
theorem dX12_forceOf_20 : decode cX12_forceOf 20 = .ok (.ifCond .eq 9, 3) := by decide +kernel
theorem dX12_forceOf_23 : decode cX12_forceOf 23 = .ok (.iinc 2 1, 3) := by decide +kernel
theorem dX12_forceOf_26 : decode cX12_forceOf 26 = .ok (.goto (-24), 3) := by decide +kernel
theorem dX12_forceOf_29 : decode cX12_forceOf 29 = .ok (.iload_n 2, 1) := by decide +kernel
theorem dX12_forceOf_30 : decode cX12_forceOf 30 = .ok (.ifCond .ne 8, 3) := by decide +kernel
theorem dX12_forceOf_33 : decode cX12_forceOf 33 = .ok (.bipush (-2), 2) := by decide +kernel
theorem dX12_forceOf_35 : decode cX12_forceOf 35 = .ok (.goto 6, 3) := by decide +kernel
theorem dX12_forceOf_38 : decode cX12_forceOf 38 = .ok (.iload_n 2, 1) := by decide +kernel
theorem dX12_forceOf_39 : decode cX12_forceOf 39 = .ok (.iconst 1, 1) := by decide +kernel
theorem dX12_forceOf_40 : decode cX12_forceOf 40 = .ok (.isub, 1) := by decide +kernel
theorem dX12_forceOf_41 : decode cX12_forceOf 41 = .ok (.ireturn, 1) := by decide +kernel
theorem dX12_force_0 : decode cX12_force 0 = .ok (.aload_n 0, 1) := by decide +kernel
theorem dX12_force_1 : decode cX12_force 1 = .ok (.iconst 0, 1) := by decide +kernel
theorem dX12_force_2 : decode cX12_force 2 = .ok (.putfield 123, 3) := by decide +kernel
theorem dX12_force_5 : decode cX12_force 5 = .ok (.aload_n 0, 1) := by decide +kernel
theorem dX12_force_6 : decode cX12_force 6 = .ok (.iload_n 1, 1) := by decide +kernel
theorem dX12_force_7 : decode cX12_force 7 = .ok (.invokevirtual 262, 3) := by decide +kernel
theorem dX12_force_10 : decode cX12_force 10 = .ok (.ifCond .eq 11, 3) := by decide +kernel
theorem dX12_force_13 : decode cX12_force 13 = .ok (.aload_n 0, 1) := by decide +kernel
theorem dX12_force_14 : decode cX12_force 14 = .ok (.iload_n 1, 1) := by decide +kernel
theorem dX12_force_15 : decode cX12_force 15 = .ok (.invokevirtual 275, 3) := by decide +kernel
theorem dX12_force_18 : decode cX12_force 18 = .ok (.goto 4, 3) := by decide +kernel
theorem dX12_force_21 : decode cX12_force 21 = .ok (.iconst (-1), 1) := by decide +kernel
theorem dX12_force_22 : decode cX12_force 22 = .ok (.ireturn, 1) := by decide +kernel
theorem dX12_came_0 : decode cX12_came 0 = .ok (.aload_n 0, 1) := by decide +kernel
theorem dX12_came_1 : decode cX12_came 1 = .ok (.iconst 0, 1) := by decide +kernel
theorem dX12_came_2 : decode cX12_came 2 = .ok (.putfield 123, 3) := by decide +kernel
theorem dX12_came_5 : decode cX12_came 5 = .ok (.aload_n 0, 1) := by decide +kernel
theorem dX12_came_6 : decode cX12_came 6 = .ok (.iload_n 1, 1) := by decide +kernel
theorem dX12_came_7 : decode cX12_came 7 = .ok (.invokevirtual 262, 3) := by decide +kernel
theorem dX12_came_10 : decode cX12_came 10 = .ok (.ifCond .eq 11, 3) := by decide +kernel
theorem dX12_came_13 : decode cX12_came 13 = .ok (.aload_n 0, 1) := by decide +kernel
theorem dX12_came_14 : decode cX12_came 14 = .ok (.iload_n 2, 1) := by decide +kernel
theorem dX12_came_15 : decode cX12_came 15 = .ok (.invokevirtual 265, 3) := by decide +kernel
theorem dX12_came_18 : decode cX12_came 18 = .ok (.ifCond .ne 5, 3) := by decide +kernel
theorem dX12_came_21 : decode cX12_came 21 = .ok (.iconst (-1), 1) := by decide +kernel
theorem dX12_came_22 : decode cX12_came 22 = .ok (.ireturn, 1) := by decide +kernel
theorem dX12_came_23 : decode cX12_came 23 = .ok (.aload_n 0, 1) := by decide +kernel
theorem dX12_came_24 : decode cX12_came 24 = .ok (.iload_n 1, 1) := by decide +kernel
theorem dX12_came_25 : decode cX12_came 25 = .ok (.iload_n 2, 1) := by decide +kernel
theorem dX12_came_26 : decode cX12_came 26 = .ok (.aload_n 0, 1) := by decide +kernel
theorem dX12_came_27 : decode cX12_came 27 = .ok (.getfield 239, 3) := by decide +kernel
theorem dX12_came_30 : decode cX12_came 30 = .ok (.invokevirtual 268, 3) := by decide +kernel
theorem dX12_came_33 : decode cX12_came 33 = .ok (.ifCond .eq 12, 3) := by decide +kernel
theorem dX12_came_36 : decode cX12_came 36 = .ok (.aload_n 0, 1) := by decide +kernel
theorem dX12_came_37 : decode cX12_came 37 = .ok (.iload_n 1, 1) := by decide +kernel
theorem dX12_came_38 : decode cX12_came 38 = .ok (.iload_n 2, 1) := by decide +kernel
theorem dX12_came_39 : decode cX12_came 39 = .ok (.invokevirtual 259, 3) := by decide +kernel
theorem dX12_came_42 : decode cX12_came 42 = .ok (.goto 5, 3) := by decide +kernel
theorem dX12_came_45 : decode cX12_came 45 = .ok (.bipush (-2), 2) := by decide +kernel
theorem dX12_came_47 : decode cX12_came 47 = .ok (.ireturn, 1) := by decide +kernel
theorem dX12_asked_0 : decode cX12_asked 0 = .ok (.aload_n 0, 1) := by decide +kernel
theorem dX12_asked_1 : decode cX12_asked 1 = .ok (.iconst 0, 1) := by decide +kernel
theorem dX12_asked_2 : decode cX12_asked 2 = .ok (.putfield 123, 3) := by decide +kernel
theorem dX12_asked_5 : decode cX12_asked 5 = .ok (.aload_n 0, 1) := by decide +kernel
theorem dX12_asked_6 : decode cX12_asked 6 = .ok (.iload_n 1, 1) := by decide +kernel
theorem dX12_asked_7 : decode cX12_asked 7 = .ok (.invokevirtual 262, 3) := by decide +kernel
theorem dX12_asked_10 : decode cX12_asked 10 = .ok (.ifCond .eq 11, 3) := by decide +kernel
theorem dX12_asked_13 : decode cX12_asked 13 = .ok (.aload_n 0, 1) := by decide +kernel
theorem dX12_asked_14 : decode cX12_asked 14 = .ok (.iload_n 2, 1) := by decide +kernel
theorem dX12_asked_15 : decode cX12_asked 15 = .ok (.invokevirtual 265, 3) := by decide +kernel
theorem dX12_asked_18 : decode cX12_asked 18 = .ok (.ifCond .ne 5, 3) := by decide +kernel
theorem dX12_asked_21 : decode cX12_asked 21 = .ok (.iconst (-1), 1) := by decide +kernel
theorem dX12_asked_22 : decode cX12_asked 22 = .ok (.ireturn, 1) := by decide +kernel
theorem dX12_asked_23 : decode cX12_asked 23 = .ok (.aload_n 0, 1) := by decide +kernel
theorem dX12_asked_24 : decode cX12_asked 24 = .ok (.getfield 82, 3) := by decide +kernel
theorem dX12_asked_27 : decode cX12_asked 27 = .ok (.bipush 30, 2) := by decide +kernel
theorem dX12_asked_29 : decode cX12_asked 29 = .ok (.iload_n 1, 1) := by decide +kernel
theorem dX12_asked_30 : decode cX12_asked 30 = .ok (.imul, 1) := by decide +kernel
theorem dX12_asked_31 : decode cX12_asked 31 = .ok (.iload_n 2, 1) := by decide +kernel
theorem dX12_asked_32 : decode cX12_asked 32 = .ok (.iadd, 1) := by decide +kernel
theorem dX12_asked_33 : decode cX12_asked 33 = .ok (.iaload, 1) := by decide +kernel
theorem dX12_asked_34 : decode cX12_asked 34 = .ok (.ldc 249, 2) := by decide +kernel
theorem dX12_asked_36 : decode cX12_asked 36 = .ok (.if_icmp .ne 7, 3) := by decide +kernel
theorem dX12_asked_39 : decode cX12_asked 39 = .ok (.iconst 0, 1) := by decide +kernel
theorem dX12_asked_40 : decode cX12_asked 40 = .ok (.goto 4, 3) := by decide +kernel
theorem dX12_asked_43 : decode cX12_asked 43 = .ok (.iconst 1, 1) := by decide +kernel
theorem dX12_asked_44 : decode cX12_asked 44 = .ok (.ireturn, 1) := by decide +kernel
theorem dX12_under_0 : decode cX12_under 0 = .ok (.aload_n 0, 1) := by decide +kernel
theorem dX12_under_1 : decode cX12_under 1 = .ok (.iconst 0, 1) := by decide +kernel
theorem dX12_under_2 : decode cX12_under 2 = .ok (.putfield 123, 3) := by decide +kernel
theorem dX12_under_5 : decode cX12_under 5 = .ok (.iload_n 1, 1) := by decide +kernel
theorem dX12_under_6 : decode cX12_under 6 = .ok (.iconst 0, 1) := by decide +kernel
theorem dX12_under_7 : decode cX12_under 7 = .ok (.iconst 2, 1) := by decide +kernel
theorem dX12_under_8 : decode cX12_under 8 = .ok (.invokestatic 229, 3) := by decide +kernel
theorem dX12_under_11 : decode cX12_under 11 = .ok (.ifCond .ne 5, 3) := by decide +kernel
theorem dX12_under_14 : decode cX12_under 14 = .ok (.iconst (-1), 1) := by decide +kernel
theorem dX12_under_15 : decode cX12_under 15 = .ok (.ireturn, 1) := by decide +kernel
theorem dX12_under_16 : decode cX12_under 16 = .ok (.iconst 0, 1) := by decide +kernel
theorem dX12_under_17 : decode cX12_under 17 = .ok (.istore_n 2, 1) := by decide +kernel
theorem dX12_under_18 : decode cX12_under 18 = .ok (.iconst 0, 1) := by decide +kernel
theorem dX12_under_19 : decode cX12_under 19 = .ok (.istore_n 3, 1) := by decide +kernel
theorem dX12_under_20 : decode cX12_under 20 = .ok (.iload_n 3, 1) := by decide +kernel
theorem dX12_under_21 : decode cX12_under 21 = .ok (.aload_n 0, 1) := by decide +kernel
theorem dX12_under_22 : decode cX12_under 22 = .ok (.getfield 236, 3) := by decide +kernel
theorem dX12_under_25 : decode cX12_under 25 = .ok (.if_icmp .ge 218, 3) := by decide +kernel
theorem dX12_under_28 : decode cX12_under 28 = .ok (.iconst 0, 1) := by decide +kernel
theorem dX12_under_29 : decode cX12_under 29 = .ok (.istore 4, 2) := by decide +kernel
theorem dX12_under_31 : decode cX12_under 31 = .ok (.iload 4, 2) := by decide +kernel
theorem dX12_under_33 : decode cX12_under 33 = .ok (.aload_n 0, 1) := by decide +kernel
theorem dX12_under_34 : decode cX12_under 34 = .ok (.getfield 201, 3) := by decide +kernel
theorem dX12_under_37 : decode cX12_under 37 = .ok (.if_icmp .ge 142, 3) := by decide +kernel
theorem dX12_under_40 : decode cX12_under 40 = .ok (.bipush 30, 2) := by decide +kernel
theorem dX12_under_42 : decode cX12_under 42 = .ok (.iload_n 3, 1) := by decide +kernel
theorem dX12_under_43 : decode cX12_under 43 = .ok (.imul, 1) := by decide +kernel
theorem dX12_under_44 : decode cX12_under 44 = .ok (.iload 4, 2) := by decide +kernel
theorem dX12_under_46 : decode cX12_under 46 = .ok (.iadd, 1) := by decide +kernel
theorem dX12_under_47 : decode cX12_under 47 = .ok (.istore 5, 2) := by decide +kernel
theorem dX12_under_49 : decode cX12_under 49 = .ok (.aload_n 0, 1) := by decide +kernel
theorem dX12_under_50 : decode cX12_under 50 = .ok (.getfield 82, 3) := by decide +kernel
theorem dX12_under_53 : decode cX12_under 53 = .ok (.iload 5, 2) := by decide +kernel
theorem dX12_under_55 : decode cX12_under 55 = .ok (.iaload, 1) := by decide +kernel
theorem dX12_under_56 : decode cX12_under 56 = .ok (.ldc 249, 2) := by decide +kernel
theorem dX12_under_58 : decode cX12_under 58 = .ok (.if_icmp .ne 8, 3) := by decide +kernel
theorem dX12_under_61 : decode cX12_under 61 = .ok (.ldc 249, 2) := by decide +kernel
theorem dX12_under_63 : decode cX12_under 63 = .ok (.goto 17, 3) := by decide +kernel
theorem dX12_under_66 : decode cX12_under 66 = .ok (.aload_n 0, 1) := by decide +kernel
theorem dX12_under_67 : decode cX12_under 67 = .ok (.getfield 82, 3) := by decide +kernel
theorem dX12_under_70 : decode cX12_under 70 = .ok (.iload 5, 2) := by decide +kernel
theorem dX12_under_72 : decode cX12_under 72 = .ok (.iaload, 1) := by decide +kernel
theorem dX12_under_73 : decode cX12_under 73 = .ok (.aload_n 0, 1) := by decide +kernel
theorem dX12_under_74 : decode cX12_under 74 = .ok (.getfield 58, 3) := by decide +kernel
theorem dX12_under_77 : decode cX12_under 77 = .ok (.iload_n 3, 1) := by decide +kernel
theorem dX12_under_78 : decode cX12_under 78 = .ok (.iaload, 1) := by decide +kernel
theorem dX12_under_79 : decode cX12_under 79 = .ok (.iadd, 1) := by decide +kernel
theorem dX12_under_80 : decode cX12_under 80 = .ok (.istore 6, 2) := by decide +kernel
theorem dX12_under_82 : decode cX12_under 82 = .ok (.iload_n 1, 1) := by decide +kernel
theorem dX12_under_83 : decode cX12_under 83 = .ok (.ifCond .ne 61, 3) := by decide +kernel
theorem dX12_under_86 : decode cX12_under 86 = .ok (.iload_n 2, 1) := by decide +kernel
theorem dX12_under_87 : decode cX12_under 87 = .ok (.aload_n 0, 1) := by decide +kernel
theorem dX12_under_88 : decode cX12_under 88 = .ok (.getfield 85, 3) := by decide +kernel
theorem dX12_under_91 : decode cX12_under 91 = .ok (.iload 5, 2) := by decide +kernel
theorem dX12_under_93 : decode cX12_under 93 = .ok (.baload, 1) := by decide +kernel
theorem dX12_under_94 : decode cX12_under 94 = .ok (.ifCond .ne 17, 3) := by decide +kernel
theorem dX12_under_97 : decode cX12_under 97 = .ok (.aload_n 0, 1) := by decide +kernel
theorem dX12_under_98 : decode cX12_under 98 = .ok (.getfield 76, 3) := by decide +kernel
theorem dX12_under_101 : decode cX12_under 101 = .ok (.iload 5, 2) := by decide +kernel
theorem dX12_under_103 : decode cX12_under 103 = .ok (.iaload, 1) := by decide +kernel
theorem dX12_under_104 : decode cX12_under 104 = .ok (.aload_n 0, 1) := by decide +kernel
theorem dX12_under_105 : decode cX12_under 105 = .ok (.getfield 239, 3) := by decide +kernel
theorem dX12_under_108 : decode cX12_under 108 = .ok (.if_icmp .gt 26, 3) := by decide +kernel
theorem dX12_under_111 : decode cX12_under 111 = .ok (.iload 6, 2) := by decide +kernel
theorem dX12_under_113 : decode cX12_under 113 = .ok (.aload_n 0, 1) := by decide +kernel
theorem dX12_under_114 : decode cX12_under 114 = .ok (.getfield 239, 3) := by decide +kernel
theorem dX12_under_117 : decode cX12_under 117 = .ok (.if_icmp .gt 21, 3) := by decide +kernel
theorem dX12_under_120 : decode cX12_under 120 = .ok (.aload_n 0, 1) := by decide +kernel
theorem dX12_under_121 : decode cX12_under 121 = .ok (.getfield 79, 3) := by decide +kernel
theorem dX12_under_124 : decode cX12_under 124 = .ok (.iload 5, 2) := by decide +kernel
theorem dX12_under_126 : decode cX12_under 126 = .ok (.iaload, 1) := by decide +kernel
theorem dX12_under_127 : decode cX12_under 127 = .ok (.aload_n 0, 1) := by decide +kernel
theorem dX12_under_128 : decode cX12_under 128 = .ok (.getfield 239, 3) := by decide +kernel
theorem dX12_under_131 : decode cX12_under 131 = .ok (.if_icmp .le 7, 3) := by decide +kernel
theorem dX12_under_134 : decode cX12_under 134 = .ok (.iconst 1, 1) := by decide +kernel
theorem dX12_under_135 : decode cX12_under 135 = .ok (.goto 4, 3) := by decide +kernel
theorem dX12_under_138 : decode cX12_under 138 = .ok (.iconst 0, 1) := by decide +kernel
theorem dX12_under_139 : decode cX12_under 139 = .ok (.iadd, 1) := by decide +kernel
theorem dX12_under_140 : decode cX12_under 140 = .ok (.istore_n 2, 1) := by decide +kernel
theorem dX12_under_141 : decode cX12_under 141 = .ok (.goto 32, 3) := by decide +kernel
theorem dX12_under_144 : decode cX12_under 144 = .ok (.iload_n 1, 1) := by decide +kernel
theorem dX12_under_145 : decode cX12_under 145 = .ok (.iconst 1, 1) := by decide +kernel
theorem dX12_under_146 : decode cX12_under 146 = .ok (.if_icmp .ne 27, 3) := by decide +kernel
theorem dX12_under_149 : decode cX12_under 149 = .ok (.iload_n 2, 1) := by decide +kernel
theorem dX12_under_150 : decode cX12_under 150 = .ok (.iload 6, 2) := by decide +kernel
theorem dX12_under_152 : decode cX12_under 152 = .ok (.ldc 249, 2) := by decide +kernel
theorem dX12_under_154 : decode cX12_under 154 = .ok (.if_icmp .eq 16, 3) := by decide +kernel
theorem dX12_under_157 : decode cX12_under 157 = .ok (.iload 6, 2) := by decide +kernel
theorem dX12_under_159 : decode cX12_under 159 = .ok (.aload_n 0, 1) := by decide +kernel
theorem dX12_under_160 : decode cX12_under 160 = .ok (.getfield 239, 3) := by decide +kernel
theorem dX12_under_163 : decode cX12_under 163 = .ok (.if_icmp .le 7, 3) := by decide +kernel
theorem dX12_under_166 : decode cX12_under 166 = .ok (.iconst 1, 1) := by decide +kernel
theorem dX12_under_167 : decode cX12_under 167 = .ok (.goto 4, 3) := by decide +kernel
theorem dX12_under_170 : decode cX12_under 170 = .ok (.iconst 0, 1) := by decide +kernel
theorem dX12_under_171 : decode cX12_under 171 = .ok (.iadd, 1) := by decide +kernel
theorem dX12_under_172 : decode cX12_under 172 = .ok (.istore_n 2, 1) := by decide +kernel
theorem dX12_under_173 : decode cX12_under 173 = .ok (.iinc 4 1, 3) := by decide +kernel
theorem dX12_under_176 : decode cX12_under 176 = .ok (.goto (-145), 3) := by decide +kernel
theorem dX12_under_179 : decode cX12_under 179 = .ok (.iconst 0, 1) := by decide +kernel
theorem dX12_under_180 : decode cX12_under 180 = .ok (.istore 4, 2) := by decide +kernel
theorem dX12_under_182 : decode cX12_under 182 = .ok (.iload 4, 2) := by decide +kernel
theorem dX12_under_184 : decode cX12_under 184 = .ok (.aload_n 0, 1) := by decide +kernel
theorem dX12_under_185 : decode cX12_under 185 = .ok (.getfield 239, 3) := by decide +kernel
theorem dX12_under_188 : decode cX12_under 188 = .ok (.if_icmp .ge 49, 3) := by decide +kernel
theorem dX12_under_191 : decode cX12_under 191 = .ok (.iload_n 1, 1) := by decide +kernel
theorem dX12_under_192 : decode cX12_under 192 = .ok (.iconst 2, 1) := by decide +kernel
theorem dX12_under_193 : decode cX12_under 193 = .ok (.if_icmp .ne 44, 3) := by decide +kernel
theorem dX12_under_196 : decode cX12_under 196 = .ok (.iload_n 2, 1) := by decide +kernel
theorem dX12_under_197 : decode cX12_under 197 = .ok (.iload 4, 2) := by decide +kernel
theorem dX12_under_199 : decode cX12_under 199 = .ok (.aload_n 0, 1) := by decide +kernel
theorem dX12_under_200 : decode cX12_under 200 = .ok (.getfield 61, 3) := by decide +kernel
theorem dX12_under_203 : decode cX12_under 203 = .ok (.iload_n 3, 1) := by decide +kernel
theorem dX12_under_204 : decode cX12_under 204 = .ok (.iaload, 1) := by decide +kernel
theorem dX12_under_205 : decode cX12_under 205 = .ok (.if_icmp .lt 23, 3) := by decide +kernel
theorem dX12_under_208 : decode cX12_under 208 = .ok (.iload 4, 2) := by decide +kernel
theorem dX12_under_210 : decode cX12_under 210 = .ok (.aload_n 0, 1) := by decide +kernel
theorem dX12_under_211 : decode cX12_under 211 = .ok (.getfield 58, 3) := by decide +kernel
theorem dX12_under_214 : decode cX12_under 214 = .ok (.iload_n 3, 1) := by decide +kernel
theorem dX12_under_215 : decode cX12_under 215 = .ok (.iaload, 1) := by decide +kernel
theorem dX12_under_216 : decode cX12_under 216 = .ok (.iadd, 1) := by decide +kernel
theorem dX12_under_217 : decode cX12_under 217 = .ok (.aload_n 0, 1) := by decide +kernel
theorem dX12_under_218 : decode cX12_under 218 = .ok (.getfield 239, 3) := by decide +kernel
theorem dX12_under_221 : decode cX12_under 221 = .ok (.if_icmp .le 7, 3) := by decide +kernel
theorem dX12_under_224 : decode cX12_under 224 = .ok (.iconst 1, 1) := by decide +kernel
theorem dX12_under_225 : decode cX12_under 225 = .ok (.goto 4, 3) := by decide +kernel
theorem dX12_under_228 : decode cX12_under 228 = .ok (.iconst 0, 1) := by decide +kernel
theorem dX12_under_229 : decode cX12_under 229 = .ok (.iadd, 1) := by decide +kernel
theorem dX12_under_230 : decode cX12_under 230 = .ok (.istore_n 2, 1) := by decide +kernel
theorem dX12_under_231 : decode cX12_under 231 = .ok (.iinc 4 30, 3) := by decide +kernel
theorem dX12_under_234 : decode cX12_under 234 = .ok (.goto (-52), 3) := by decide +kernel
theorem dX12_under_237 : decode cX12_under 237 = .ok (.iinc 3 1, 3) := by decide +kernel
theorem dX12_under_240 : decode cX12_under 240 = .ok (.goto (-220), 3) := by decide +kernel
theorem dX12_under_243 : decode cX12_under 243 = .ok (.iload_n 2, 1) := by decide +kernel
theorem dX12_under_244 : decode cX12_under 244 = .ok (.ireturn, 1) := by decide +kernel
theorem dX12_stock_0 : decode cX12_stock 0 = .ok (.aload_n 0, 1) := by decide +kernel
theorem dX12_stock_1 : decode cX12_stock 1 = .ok (.iconst 0, 1) := by decide +kernel
theorem dX12_stock_2 : decode cX12_stock 2 = .ok (.putfield 123, 3) := by decide +kernel
theorem dX12_stock_5 : decode cX12_stock 5 = .ok (.aload_n 0, 1) := by decide +kernel
theorem dX12_stock_6 : decode cX12_stock 6 = .ok (.iload_n 1, 1) := by decide +kernel
theorem dX12_stock_7 : decode cX12_stock 7 = .ok (.invokevirtual 262, 3) := by decide +kernel
theorem dX12_stock_10 : decode cX12_stock 10 = .ok (.ifCond .eq 12, 3) := by decide +kernel
theorem dX12_stock_13 : decode cX12_stock 13 = .ok (.iload_n 2, 1) := by decide +kernel
theorem dX12_stock_14 : decode cX12_stock 14 = .ok (.iconst 0, 1) := by decide +kernel
theorem dX12_stock_15 : decode cX12_stock 15 = .ok (.iconst 4, 1) := by decide +kernel
theorem dX12_stock_16 : decode cX12_stock 16 = .ok (.invokestatic 229, 3) := by decide +kernel
theorem dX12_stock_19 : decode cX12_stock 19 = .ok (.ifCond .ne 9, 3) := by decide +kernel
theorem dX12_stock_22 : decode cX12_stock 22 = .ok (.aload_n 0, 1) := by decide +kernel
theorem dX12_stock_23 : decode cX12_stock 23 = .ok (.iconst 1, 1) := by decide +kernel
theorem dX12_stock_24 : decode cX12_stock 24 = .ok (.invokevirtual 233, 3) := by decide +kernel
theorem dX12_stock_27 : decode cX12_stock 27 = .ok (.ireturn, 1) := by decide +kernel
theorem dX12_stock_28 : decode cX12_stock 28 = .ok (.iconst 5, 1) := by decide +kernel
theorem dX12_stock_29 : decode cX12_stock 29 = .ok (.iload_n 1, 1) := by decide +kernel
theorem dX12_stock_30 : decode cX12_stock 30 = .ok (.imul, 1) := by decide +kernel
theorem dX12_stock_31 : decode cX12_stock 31 = .ok (.iload_n 2, 1) := by decide +kernel
theorem dX12_stock_32 : decode cX12_stock 32 = .ok (.iadd, 1) := by decide +kernel
theorem dX12_stock_33 : decode cX12_stock 33 = .ok (.istore 4, 2) := by decide +kernel
theorem dX12_stock_35 : decode cX12_stock 35 = .ok (.iload_n 3, 1) := by decide +kernel
theorem dX12_stock_36 : decode cX12_stock 36 = .ok (.ifCond .lt 25, 3) := by decide +kernel
theorem dX12_stock_39 : decode cX12_stock 39 = .ok (.iload_n 3, 1) := by decide +kernel
theorem dX12_stock_40 : decode cX12_stock 40 = .ok (.sipush 10000, 3) := by decide +kernel
theorem dX12_stock_43 : decode cX12_stock 43 = .ok (.if_icmp .gt 18, 3) := by decide +kernel
theorem dX12_stock_46 : decode cX12_stock 46 = .ok (.aload_n 0, 1) := by decide +kernel
theorem dX12_stock_47 : decode cX12_stock 47 = .ok (.getfield 73, 3) := by decide +kernel
theorem dX12_stock_50 : decode cX12_stock 50 = .ok (.iload 4, 2) := by decide +kernel
theorem dX12_stock_52 : decode cX12_stock 52 = .ok (.iaload, 1) := by decide +kernel
theorem dX12_stock_53 : decode cX12_stock 53 = .ok (.iload_n 3, 1) := by decide +kernel
theorem dX12_stock_54 : decode cX12_stock 54 = .ok (.iadd, 1) := by decide +kernel
theorem dX12_stock_55 : decode cX12_stock 55 = .ok (.sipush 10000, 3) := by decide +kernel
theorem dX12_stock_58 : decode cX12_stock 58 = .ok (.if_icmp .le 9, 3) := by decide +kernel
theorem dX12_stock_61 : decode cX12_stock 61 = .ok (.aload_n 0, 1) := by decide +kernel
theorem dX12_stock_62 : decode cX12_stock 62 = .ok (.iconst 2, 1) := by decide +kernel
theorem dX12_stock_63 : decode cX12_stock 63 = .ok (.invokevirtual 233, 3) := by decide +kernel
theorem dX12_stock_66 : decode cX12_stock 66 = .ok (.ireturn, 1) := by decide +kernel
theorem dX12_stock_67 : decode cX12_stock 67 = .ok (.aload_n 0, 1) := by decide +kernel
theorem dX12_stock_68 : decode cX12_stock 68 = .ok (.getfield 73, 3) := by decide +kernel
theorem dX12_stock_71 : decode cX12_stock 71 = .ok (.iload 4, 2) := by decide +kernel
theorem dX12_stock_73 : decode cX12_stock 73 = .ok (.dup2, 1) := by decide +kernel
theorem dX12_stock_74 : decode cX12_stock 74 = .ok (.iaload, 1) := by decide +kernel
theorem dX12_stock_75 : decode cX12_stock 75 = .ok (.iload_n 3, 1) := by decide +kernel
theorem dX12_stock_76 : decode cX12_stock 76 = .ok (.iadd, 1) := by decide +kernel
theorem dX12_stock_77 : decode cX12_stock 77 = .ok (.iastore, 1) := by decide +kernel
theorem dX12_stock_78 : decode cX12_stock 78 = .ok (.aload_n 0, 1) := by decide +kernel
theorem dX12_stock_79 : decode cX12_stock 79 = .ok (.aload_n 0, 1) := by decide +kernel
theorem dX12_stock_80 : decode cX12_stock 80 = .ok (.getfield 73, 3) := by decide +kernel
theorem dX12_stock_83 : decode cX12_stock 83 = .ok (.iload 4, 2) := by decide +kernel
theorem dX12_stock_85 : decode cX12_stock 85 = .ok (.iaload, 1) := by decide +kernel
theorem dX12_stock_86 : decode cX12_stock 86 = .ok (.invokevirtual 246, 3) := by decide +kernel
theorem dX12_stock_89 : decode cX12_stock 89 = .ok (.ireturn, 1) := by decide +kernel
theorem dX12_isPaper_0 : decode cX12_isPaper 0 = .ok (.iload_n 0, 1) := by decide +kernel
theorem dX12_isPaper_1 : decode cX12_isPaper 1 = .ok (.iconst 0, 1) := by decide +kernel
theorem dX12_isPaper_2 : decode cX12_isPaper 2 = .ok (.bipush 9, 2) := by decide +kernel
theorem dX12_isPaper_4 : decode cX12_isPaper 4 = .ok (.invokestatic 229, 3) := by decide +kernel
theorem dX12_isPaper_7 : decode cX12_isPaper 7 = .ok (.ifCond .eq 28, 3) := by decide +kernel
theorem dX12_isPaper_10 : decode cX12_isPaper 10 = .ok (.iload_n 1, 1) := by decide +kernel
theorem dX12_isPaper_11 : decode cX12_isPaper 11 = .ok (.iconst 0, 1) := by decide +kernel
theorem dX12_isPaper_12 : decode cX12_isPaper 12 = .ok (.sipush 9999, 3) := by decide +kernel
theorem dX12_isPaper_15 : decode cX12_isPaper 15 = .ok (.invokestatic 229, 3) := by decide +kernel
theorem dX12_isPaper_18 : decode cX12_isPaper 18 = .ok (.ifCond .eq 17, 3) := by decide +kernel
theorem dX12_isPaper_21 : decode cX12_isPaper 21 = .ok (.iload_n 2, 1) := by decide +kernel
theorem dX12_isPaper_22 : decode cX12_isPaper 22 = .ok (.iconst 1, 1) := by decide +kernel
theorem dX12_isPaper_23 : decode cX12_isPaper 23 = .ok (.bipush 99, 2) := by decide +kernel
theorem dX12_isPaper_25 : decode cX12_isPaper 25 = .ok (.invokestatic 229, 3) := by decide +kernel
theorem dX12_isPaper_28 : decode cX12_isPaper 28 = .ok (.ifCond .eq 7, 3) := by decide +kernel
theorem dX12_isPaper_31 : decode cX12_isPaper 31 = .ok (.iconst 1, 1) := by decide +kernel
theorem dX12_isPaper_32 : decode cX12_isPaper 32 = .ok (.goto 4, 3) := by decide +kernel
theorem dX12_isPaper_35 : decode cX12_isPaper 35 = .ok (.iconst 0, 1) := by decide +kernel
theorem dX12_isPaper_36 : decode cX12_isPaper 36 = .ok (.ireturn, 1) := by decide +kernel
theorem dX12_fee_0 : decode cX12_fee 0 = .ok (.aload_n 0, 1) := by decide +kernel
theorem dX12_fee_1 : decode cX12_fee 1 = .ok (.iconst 0, 1) := by decide +kernel
theorem dX12_fee_2 : decode cX12_fee 2 = .ok (.putfield 123, 3) := by decide +kernel
theorem dX12_fee_5 : decode cX12_fee 5 = .ok (.aload_n 0, 1) := by decide +kernel
theorem dX12_fee_6 : decode cX12_fee 6 = .ok (.iload_n 1, 1) := by decide +kernel
theorem dX12_fee_7 : decode cX12_fee 7 = .ok (.invokevirtual 265, 3) := by decide +kernel
theorem dX12_fee_10 : decode cX12_fee 10 = .ok (.ifCond .eq 11, 3) := by decide +kernel
theorem dX12_fee_13 : decode cX12_fee 13 = .ok (.aload_n 0, 1) := by decide +kernel
theorem dX12_fee_14 : decode cX12_fee 14 = .ok (.iload_n 2, 1) := by decide +kernel
theorem dX12_fee_15 : decode cX12_fee 15 = .ok (.invokevirtual 262, 3) := by decide +kernel
theorem dX12_fee_18 : decode cX12_fee 18 = .ok (.ifCond .ne 9, 3) := by decide +kernel
theorem dX12_fee_21 : decode cX12_fee 21 = .ok (.aload_n 0, 1) := by decide +kernel
theorem dX12_fee_22 : decode cX12_fee 22 = .ok (.iconst 1, 1) := by decide +kernel
theorem dX12_fee_23 : decode cX12_fee 23 = .ok (.invokevirtual 233, 3) := by decide +kernel
theorem dX12_fee_26 : decode cX12_fee 26 = .ok (.ireturn, 1) := by decide +kernel
theorem dX12_fee_27 : decode cX12_fee 27 = .ok (.iload_n 3, 1) := by decide +kernel
theorem dX12_fee_28 : decode cX12_fee 28 = .ok (.iload 4, 2) := by decide +kernel
theorem dX12_fee_30 : decode cX12_fee 30 = .ok (.iload 5, 2) := by decide +kernel
theorem dX12_fee_32 : decode cX12_fee 32 = .ok (.invokestatic 278, 3) := by decide +kernel
theorem dX12_fee_35 : decode cX12_fee 35 = .ok (.ifCond .ne 9, 3) := by decide +kernel
theorem dX12_fee_38 : decode cX12_fee 38 = .ok (.aload_n 0, 1) := by decide +kernel
theorem dX12_fee_39 : decode cX12_fee 39 = .ok (.iconst 2, 1) := by decide +kernel
theorem dX12_fee_40 : decode cX12_fee 40 = .ok (.invokevirtual 233, 3) := by decide +kernel
theorem dX12_fee_43 : decode cX12_fee 43 = .ok (.ireturn, 1) := by decide +kernel
theorem dX12_fee_44 : decode cX12_fee 44 = .ok (.aload_n 0, 1) := by decide +kernel
theorem dX12_fee_45 : decode cX12_fee 45 = .ok (.iload_n 1, 1) := by decide +kernel
theorem dX12_fee_46 : decode cX12_fee 46 = .ok (.iload_n 3, 1) := by decide +kernel
theorem dX12_fee_47 : decode cX12_fee 47 = .ok (.iload 4, 2) := by decide +kernel
theorem dX12_fee_49 : decode cX12_fee 49 = .ok (.iload 5, 2) := by decide +kernel
theorem dX12_fee_51 : decode cX12_fee 51 = .ok (.iload_n 2, 1) := by decide +kernel
theorem dX12_fee_52 : decode cX12_fee 52 = .ok (.aload_n 0, 1) := by decide +kernel
theorem dX12_fee_53 : decode cX12_fee 53 = .ok (.getfield 67, 3) := by decide +kernel
theorem dX12_fee_56 : decode cX12_fee 56 = .ok (.iload_n 2, 1) := by decide +kernel
theorem dX12_fee_57 : decode cX12_fee 57 = .ok (.iaload, 1) := by decide +kernel
theorem dX12_fee_58 : decode cX12_fee 58 = .ok (.invokevirtual 281, 3) := by decide +kernel
theorem dX12_fee_61 : decode cX12_fee 61 = .ok (.istore 6, 2) := by decide +kernel
theorem dX12_fee_63 : decode cX12_fee 63 = .ok (.aload_n 0, 1) := by decide +kernel
theorem dX12_fee_64 : decode cX12_fee 64 = .ok (.iload 6, 2) := by decide +kernel
theorem dX12_fee_66 : decode cX12_fee 66 = .ok (.iconst (-1), 1) := by decide +kernel
theorem dX12_fee_67 : decode cX12_fee 67 = .ok (.if_icmp .ne 8, 3) := by decide +kernel
theorem dX12_fee_70 : decode cX12_fee 70 = .ok (.bipush (-2), 2) := by decide +kernel
theorem dX12_fee_72 : decode cX12_fee 72 = .ok (.goto 5, 3) := by decide +kernel
theorem dX12_fee_75 : decode cX12_fee 75 = .ok (.iload 6, 2) := by decide +kernel
theorem dX12_fee_77 : decode cX12_fee 77 = .ok (.invokevirtual 246, 3) := by decide +kernel
theorem dX12_fee_80 : decode cX12_fee 80 = .ok (.ireturn, 1) := by decide +kernel
theorem dX12_chooses_0 : decode cX12_chooses 0 = .ok (.iconst 1, 1) := by decide +kernel
theorem dX12_chooses_1 : decode cX12_chooses 1 = .ok (.istore_n 3, 1) := by decide +kernel
theorem dX12_chooses_2 : decode cX12_chooses 2 = .ok (.iload_n 3, 1) := by decide +kernel
theorem dX12_chooses_3 : decode cX12_chooses 3 = .ok (.iload_n 2, 1) := by decide +kernel
theorem dX12_chooses_4 : decode cX12_chooses 4 = .ok (.if_icmp .gt 18, 3) := by decide +kernel
theorem dX12_chooses_7 : decode cX12_chooses 7 = .ok (.aload_n 0, 1) := by decide +kernel
theorem dX12_chooses_8 : decode cX12_chooses 8 = .ok (.getfield 116, 3) := by decide +kernel
theorem dX12_chooses_11 : decode cX12_chooses 11 = .ok (.iload_n 3, 1) := by decide +kernel
theorem dX12_chooses_12 : decode cX12_chooses 12 = .ok (.ldc2_w 287, 3) := by decide +kernel
theorem dX12_chooses_15 : decode cX12_chooses 15 = .ok (.lastore, 1) := by decide +kernel
theorem dX12_chooses_16 : decode cX12_chooses 16 = .ok (.iinc 3 1, 3) := by decide +kernel
theorem dX12_chooses_19 : decode cX12_chooses 19 = .ok (.goto (-17), 3) := by decide +kernel
theorem dX12_chooses_22 : decode cX12_chooses 22 = .ok (.aload_n 0, 1) := by decide +kernel
theorem dX12_chooses_23 : decode cX12_chooses 23 = .ok (.getfield 116, 3) := by decide +kernel
theorem dX12_chooses_26 : decode cX12_chooses 26 = .ok (.iconst 0, 1) := by decide +kernel
theorem dX12_chooses_27 : decode cX12_chooses 27 = .ok (.lconst 0, 1) := by decide +kernel
theorem dX12_chooses_28 : decode cX12_chooses 28 = .ok (.lastore, 1) := by decide +kernel
theorem dX12_chooses_29 : decode cX12_chooses 29 = .ok (.iconst 0, 1) := by decide +kernel
theorem dX12_chooses_30 : decode cX12_chooses 30 = .ok (.istore_n 3, 1) := by decide +kernel
theorem dX12_chooses_31 : decode cX12_chooses 31 = .ok (.iload_n 3, 1) := by decide +kernel
theorem dX12_chooses_32 : decode cX12_chooses 32 = .ok (.iconst 5, 1) := by decide +kernel
theorem dX12_chooses_33 : decode cX12_chooses 33 = .ok (.if_icmp .ge 187, 3) := by decide +kernel
theorem dX12_chooses_36 : decode cX12_chooses 36 = .ok (.aload_n 0, 1) := by decide +kernel
theorem dX12_chooses_37 : decode cX12_chooses 37 = .ok (.getfield 73, 3) := by decide +kernel
theorem dX12_chooses_40 : decode cX12_chooses 40 = .ok (.iconst 5, 1) := by decide +kernel
theorem dX12_chooses_41 : decode cX12_chooses 41 = .ok (.iload_n 1, 1) := by decide +kernel
theorem dX12_chooses_42 : decode cX12_chooses 42 = .ok (.imul, 1) := by decide +kernel
theorem dX12_chooses_43 : decode cX12_chooses 43 = .ok (.iload_n 3, 1) := by decide +kernel
theorem dX12_chooses_44 : decode cX12_chooses 44 = .ok (.iadd, 1) := by decide +kernel
theorem dX12_chooses_45 : decode cX12_chooses 45 = .ok (.iaload, 1) := by decide +kernel
theorem dX12_chooses_46 : decode cX12_chooses 46 = .ok (.iload_n 2, 1) := by decide +kernel
theorem dX12_chooses_47 : decode cX12_chooses 47 = .ok (.getstatic 289, 3) := by decide +kernel
theorem dX12_chooses_50 : decode cX12_chooses 50 = .ok (.iload_n 3, 1) := by decide +kernel
theorem dX12_chooses_51 : decode cX12_chooses 51 = .ok (.iaload, 1) := by decide +kernel
theorem dX12_chooses_52 : decode cX12_chooses 52 = .ok (.idiv, 1) := by decide +kernel
theorem dX12_chooses_53 : decode cX12_chooses 53 = .ok (.invokestatic 223, 3) := by decide +kernel
theorem dX12_chooses_56 : decode cX12_chooses 56 = .ok (.istore 4, 2) := by decide +kernel
theorem dX12_chooses_58 : decode cX12_chooses 58 = .ok (.ldc2_w 292, 3) := by decide +kernel
theorem dX12_chooses_61 : decode cX12_chooses 61 = .ok (.iload_n 3, 1) := by decide +kernel
theorem dX12_chooses_62 : decode cX12_chooses 62 = .ok (.ifCond .ne 7, 3) := by decide +kernel
theorem dX12_chooses_65 : decode cX12_chooses 65 = .ok (.lconst 0, 1) := by decide +kernel
theorem dX12_chooses_66 : decode cX12_chooses 66 = .ok (.goto 37, 3) := by decide +kernel
theorem dX12_chooses_69 : decode cX12_chooses 69 = .ok (.iload_n 3, 1) := by decide +kernel
theorem dX12_chooses_70 : decode cX12_chooses 70 = .ok (.iconst 1, 1) := by decide +kernel
theorem dX12_chooses_71 : decode cX12_chooses 71 = .ok (.if_icmp .ne 7, 3) := by decide +kernel
theorem dX12_chooses_74 : decode cX12_chooses 74 = .ok (.lconst 1, 1) := by decide +kernel
theorem dX12_chooses_75 : decode cX12_chooses 75 = .ok (.goto 28, 3) := by decide +kernel
theorem dX12_chooses_78 : decode cX12_chooses 78 = .ok (.iload_n 3, 1) := by decide +kernel
theorem dX12_chooses_79 : decode cX12_chooses 79 = .ok (.iconst 2, 1) := by decide +kernel
theorem dX12_chooses_80 : decode cX12_chooses 80 = .ok (.if_icmp .ne 9, 3) := by decide +kernel
theorem dX12_chooses_83 : decode cX12_chooses 83 = .ok (.ldc2_w 294, 3) := by decide +kernel
theorem dX12_chooses_86 : decode cX12_chooses 86 = .ok (.goto 17, 3) := by decide +kernel
theorem dX12_chooses_89 : decode cX12_chooses 89 = .ok (.iload_n 3, 1) := by decide +kernel
theorem dX12_chooses_90 : decode cX12_chooses 90 = .ok (.iconst 3, 1) := by decide +kernel
theorem dX12_chooses_91 : decode cX12_chooses 91 = .ok (.if_icmp .ne 9, 3) := by decide +kernel
theorem dX12_chooses_94 : decode cX12_chooses 94 = .ok (.ldc2_w 296, 3) := by decide +kernel
theorem dX12_chooses_97 : decode cX12_chooses 97 = .ok (.goto 6, 3) := by decide +kernel
theorem dX12_chooses_100 : decode cX12_chooses 100 = .ok (.ldc2_w 298, 3) := by decide +kernel
theorem dX12_chooses_103 : decode cX12_chooses 103 = .ok (.lsub, 1) := by decide +kernel
theorem dX12_chooses_104 : decode cX12_chooses 104 = .ok (.lstore 5, 2) := by decide +kernel
theorem dX12_chooses_106 : decode cX12_chooses 106 = .ok (.iconst 1, 1) := by decide +kernel
theorem dX12_chooses_107 : decode cX12_chooses 107 = .ok (.istore 7, 2) := by decide +kernel
theorem dX12_chooses_109 : decode cX12_chooses 109 = .ok (.iload 4, 2) := by decide +kernel
theorem dX12_chooses_111 : decode cX12_chooses 111 = .ok (.ifCond .le 103, 3) := by decide +kernel
theorem dX12_chooses_114 : decode cX12_chooses 114 = .ok (.iload 7, 2) := by decide +kernel
theorem dX12_chooses_116 : decode cX12_chooses 116 = .ok (.iload 4, 2) := by decide +kernel
theorem dX12_chooses_118 : decode cX12_chooses 118 = .ok (.invokestatic 223, 3) := by decide +kernel
theorem dX12_chooses_121 : decode cX12_chooses 121 = .ok (.istore 8, 2) := by decide +kernel
theorem dX12_chooses_123 : decode cX12_chooses 123 = .ok (.iload 4, 2) := by decide +kernel
theorem dX12_chooses_125 : decode cX12_chooses 125 = .ok (.iload 8, 2) := by decide +kernel
theorem dX12_chooses_127 : decode cX12_chooses 127 = .ok (.isub, 1) := by decide +kernel
theorem dX12_chooses_128 : decode cX12_chooses 128 = .ok (.istore 4, 2) := by decide +kernel
theorem dX12_chooses_130 : decode cX12_chooses 130 = .ok (.iload_n 2, 1) := by decide +kernel
theorem dX12_chooses_131 : decode cX12_chooses 131 = .ok (.istore 9, 2) := by decide +kernel
theorem dX12_chooses_133 : decode cX12_chooses 133 = .ok (.iload 9, 2) := by decide +kernel
theorem dX12_chooses_135 : decode cX12_chooses 135 = .ok (.iload 8, 2) := by decide +kernel
theorem dX12_chooses_137 : decode cX12_chooses 137 = .ok (.getstatic 289, 3) := by decide +kernel
theorem dX12_chooses_140 : decode cX12_chooses 140 = .ok (.iload_n 3, 1) := by decide +kernel
theorem dX12_chooses_141 : decode cX12_chooses 141 = .ok (.iaload, 1) := by decide +kernel
theorem dX12_chooses_142 : decode cX12_chooses 142 = .ok (.imul, 1) := by decide +kernel
theorem dX12_chooses_143 : decode cX12_chooses 143 = .ok (.if_icmp .lt 62, 3) := by decide +kernel
theorem dX12_chooses_146 : decode cX12_chooses 146 = .ok (.aload_n 0, 1) := by decide +kernel
theorem dX12_chooses_147 : decode cX12_chooses 147 = .ok (.getfield 116, 3) := by decide +kernel
theorem dX12_chooses_150 : decode cX12_chooses 150 = .ok (.iload 9, 2) := by decide +kernel
theorem dX12_chooses_152 : decode cX12_chooses 152 = .ok (.iload 8, 2) := by decide +kernel
theorem dX12_chooses_154 : decode cX12_chooses 154 = .ok (.getstatic 289, 3) := by decide +kernel
theorem dX12_chooses_157 : decode cX12_chooses 157 = .ok (.iload_n 3, 1) := by decide +kernel
theorem dX12_chooses_158 : decode cX12_chooses 158 = .ok (.iaload, 1) := by decide +kernel
theorem dX12_chooses_159 : decode cX12_chooses 159 = .ok (.imul, 1) := by decide +kernel
theorem dX12_chooses_160 : decode cX12_chooses 160 = .ok (.isub, 1) := by decide +kernel
theorem dX12_chooses_161 : decode cX12_chooses 161 = .ok (.laload, 1) := by decide +kernel
theorem dX12_chooses_162 : decode cX12_chooses 162 = .ok (.lstore 10, 2) := by decide +kernel
theorem dX12_chooses_164 : decode cX12_chooses 164 = .ok (.lload 10, 2) := by decide +kernel
theorem dX12_chooses_166 : decode cX12_chooses 166 = .ok (.ldc2_w 287, 3) := by decide +kernel
theorem dX12_chooses_169 : decode cX12_chooses 169 = .ok (.lcmp, 1) := by decide +kernel
theorem dX12_chooses_170 : decode cX12_chooses 170 = .ok (.ifCond .eq 29, 3) := by decide +kernel
theorem dX12_chooses_173 : decode cX12_chooses 173 = .ok (.aload_n 0, 1) := by decide +kernel
theorem dX12_chooses_174 : decode cX12_chooses 174 = .ok (.getfield 116, 3) := by decide +kernel
theorem dX12_chooses_177 : decode cX12_chooses 177 = .ok (.iload 9, 2) := by decide +kernel
theorem dX12_chooses_179 : decode cX12_chooses 179 = .ok (.aload_n 0, 1) := by decide +kernel
theorem dX12_chooses_180 : decode cX12_chooses 180 = .ok (.getfield 116, 3) := by decide +kernel
theorem dX12_chooses_183 : decode cX12_chooses 183 = .ok (.iload 9, 2) := by decide +kernel
theorem dX12_chooses_185 : decode cX12_chooses 185 = .ok (.laload, 1) := by decide +kernel
theorem dX12_chooses_186 : decode cX12_chooses 186 = .ok (.lload 10, 2) := by decide +kernel
theorem dX12_chooses_188 : decode cX12_chooses 188 = .ok (.iload 8, 2) := by decide +kernel
theorem dX12_chooses_190 : decode cX12_chooses 190 = .ok (.i2l, 1) := by decide +kernel
theorem dX12_chooses_191 : decode cX12_chooses 191 = .ok (.lload 5, 2) := by decide +kernel
theorem dX12_chooses_193 : decode cX12_chooses 193 = .ok (.lmul, 1) := by decide +kernel
theorem dX12_chooses_194 : decode cX12_chooses 194 = .ok (.ladd, 1) := by decide +kernel
theorem dX12_chooses_195 : decode cX12_chooses 195 = .ok (.invokestatic 300, 3) := by decide +kernel
theorem dX12_chooses_198 : decode cX12_chooses 198 = .ok (.lastore, 1) := by decide +kernel
theorem dX12_chooses_199 : decode cX12_chooses 199 = .ok (.iinc 9 (-1), 3) := by decide +kernel
theorem dX12_chooses_202 : decode cX12_chooses 202 = .ok (.goto (-69), 3) := by decide +kernel
theorem dX12_chooses_205 : decode cX12_chooses 205 = .ok (.iload 7, 2) := by decide +kernel
theorem dX12_chooses_207 : decode cX12_chooses 207 = .ok (.iconst 2, 1) := by decide +kernel
theorem dX12_chooses_208 : decode cX12_chooses 208 = .ok (.imul, 1) := by decide +kernel
theorem dX12_chooses_209 : decode cX12_chooses 209 = .ok (.istore 7, 2) := by decide +kernel
theorem dX12_chooses_211 : decode cX12_chooses 211 = .ok (.goto (-102), 3) := by decide +kernel
theorem dX12_chooses_214 : decode cX12_chooses 214 = .ok (.iinc 3 1, 3) := by decide +kernel
theorem dX12_chooses_217 : decode cX12_chooses 217 = .ok (.goto (-186), 3) := by decide +kernel
theorem dX12_chooses_220 : decode cX12_chooses 220 = .ok (.aload_n 0, 1) := by decide +kernel
theorem dX12_chooses_221 : decode cX12_chooses 221 = .ok (.getfield 116, 3) := by decide +kernel
theorem dX12_chooses_224 : decode cX12_chooses 224 = .ok (.iload_n 2, 1) := by decide +kernel
theorem dX12_chooses_225 : decode cX12_chooses 225 = .ok (.laload, 1) := by decide +kernel
theorem dX12_chooses_226 : decode cX12_chooses 226 = .ok (.ldc2_w 287, 3) := by decide +kernel
theorem dX12_chooses_229 : decode cX12_chooses 229 = .ok (.lcmp, 1) := by decide +kernel
theorem dX12_chooses_230 : decode cX12_chooses 230 = .ok (.ifCond .ne 5, 3) := by decide +kernel
theorem dX12_chooses_233 : decode cX12_chooses 233 = .ok (.iconst 0, 1) := by decide +kernel
theorem dX12_chooses_234 : decode cX12_chooses 234 = .ok (.ireturn, 1) := by decide +kernel
theorem dX12_chooses_235 : decode cX12_chooses 235 = .ok (.aload_n 0, 1) := by decide +kernel
theorem dX12_chooses_236 : decode cX12_chooses 236 = .ok (.getfield 116, 3) := by decide +kernel
theorem dX12_chooses_239 : decode cX12_chooses 239 = .ok (.iload_n 2, 1) := by decide +kernel
theorem dX12_chooses_240 : decode cX12_chooses 240 = .ok (.laload, 1) := by decide +kernel
theorem dX12_chooses_241 : decode cX12_chooses 241 = .ok (.ldc2_w 292, 3) := by decide +kernel
theorem dX12_chooses_244 : decode cX12_chooses 244 = .ok (.ladd, 1) := by decide +kernel
theorem dX12_chooses_245 : decode cX12_chooses 245 = .ok (.lconst 1, 1) := by decide +kernel
theorem dX12_chooses_246 : decode cX12_chooses 246 = .ok (.lsub, 1) := by decide +kernel
theorem dX12_chooses_247 : decode cX12_chooses 247 = .ok (.bipush 40, 2) := by decide +kernel
theorem dX12_chooses_249 : decode cX12_chooses 249 = .ok (.lshr, 1) := by decide +kernel
theorem dX12_chooses_250 : decode cX12_chooses 250 = .ok (.lstore_n 3, 1) := by decide +kernel
theorem dX12_chooses_251 : decode cX12_chooses 251 = .ok (.lload_n 3, 1) := by decide +kernel
theorem dX12_chooses_252 : decode cX12_chooses 252 = .ok (.bipush 40, 2) := by decide +kernel
theorem dX12_chooses_254 : decode cX12_chooses 254 = .ok (.lshl, 1) := by decide +kernel
theorem dX12_chooses_255 : decode cX12_chooses 255 = .ok (.aload_n 0, 1) := by decide +kernel
theorem dX12_chooses_256 : decode cX12_chooses 256 = .ok (.getfield 116, 3) := by decide +kernel
theorem dX12_chooses_259 : decode cX12_chooses 259 = .ok (.iload_n 2, 1) := by decide +kernel
theorem dX12_chooses_260 : decode cX12_chooses 260 = .ok (.laload, 1) := by decide +kernel
theorem dX12_chooses_261 : decode cX12_chooses 261 = .ok (.lsub, 1) := by decide +kernel
theorem dX12_chooses_262 : decode cX12_chooses 262 = .ok (.lstore 5, 2) := by decide +kernel
theorem dX12_chooses_264 : decode cX12_chooses 264 = .ok (.aload_n 0, 1) := by decide +kernel
theorem dX12_chooses_265 : decode cX12_chooses 265 = .ok (.getfield 120, 3) := by decide +kernel
theorem dX12_chooses_268 : decode cX12_chooses 268 = .ok (.iconst 1, 1) := by decide +kernel
theorem dX12_chooses_269 : decode cX12_chooses 269 = .ok (.lload 5, 2) := by decide +kernel
theorem dX12_chooses_271 : decode cX12_chooses 271 = .ok (.ldc2_w 303, 3) := by decide +kernel
theorem dX12_chooses_274 : decode cX12_chooses 274 = .ok (.land, 1) := by decide +kernel
theorem dX12_chooses_275 : decode cX12_chooses 275 = .ok (.l2i, 1) := by decide +kernel
theorem dX12_chooses_276 : decode cX12_chooses 276 = .ok (.iastore, 1) := by decide +kernel
theorem dX12_chooses_277 : decode cX12_chooses 277 = .ok (.aload_n 0, 1) := by decide +kernel
theorem dX12_chooses_278 : decode cX12_chooses 278 = .ok (.getfield 120, 3) := by decide +kernel
theorem dX12_chooses_281 : decode cX12_chooses 281 = .ok (.iconst 2, 1) := by decide +kernel
theorem dX12_chooses_282 : decode cX12_chooses 282 = .ok (.lload 5, 2) := by decide +kernel
theorem dX12_chooses_284 : decode cX12_chooses 284 = .ok (.bipush 12, 2) := by decide +kernel
theorem dX12_chooses_286 : decode cX12_chooses 286 = .ok (.lshr, 1) := by decide +kernel
theorem dX12_chooses_287 : decode cX12_chooses 287 = .ok (.ldc2_w 305, 3) := by decide +kernel
theorem dX12_chooses_290 : decode cX12_chooses 290 = .ok (.land, 1) := by decide +kernel
theorem dX12_chooses_291 : decode cX12_chooses 291 = .ok (.l2i, 1) := by decide +kernel
theorem dX12_chooses_292 : decode cX12_chooses 292 = .ok (.iastore, 1) := by decide +kernel
theorem dX12_chooses_293 : decode cX12_chooses 293 = .ok (.aload_n 0, 1) := by decide +kernel
theorem dX12_chooses_294 : decode cX12_chooses 294 = .ok (.getfield 120, 3) := by decide +kernel
theorem dX12_chooses_297 : decode cX12_chooses 297 = .ok (.iconst 3, 1) := by decide +kernel
theorem dX12_chooses_298 : decode cX12_chooses 298 = .ok (.lload 5, 2) := by decide +kernel
theorem dX12_chooses_300 : decode cX12_chooses 300 = .ok (.bipush 22, 2) := by decide +kernel
theorem dX12_chooses_302 : decode cX12_chooses 302 = .ok (.lshr, 1) := by decide +kernel
theorem dX12_chooses_303 : decode cX12_chooses 303 = .ok (.ldc2_w 307, 3) := by decide +kernel
theorem dX12_chooses_306 : decode cX12_chooses 306 = .ok (.land, 1) := by decide +kernel
theorem dX12_chooses_307 : decode cX12_chooses 307 = .ok (.l2i, 1) := by decide +kernel
theorem dX12_chooses_308 : decode cX12_chooses 308 = .ok (.iastore, 1) := by decide +kernel
theorem dX12_chooses_309 : decode cX12_chooses 309 = .ok (.aload_n 0, 1) := by decide +kernel
theorem dX12_chooses_310 : decode cX12_chooses 310 = .ok (.getfield 120, 3) := by decide +kernel
theorem dX12_chooses_313 : decode cX12_chooses 313 = .ok (.iconst 4, 1) := by decide +kernel
theorem dX12_chooses_314 : decode cX12_chooses 314 = .ok (.lload 5, 2) := by decide +kernel
theorem dX12_chooses_316 : decode cX12_chooses 316 = .ok (.bipush 31, 2) := by decide +kernel
theorem dX12_chooses_318 : decode cX12_chooses 318 = .ok (.lshr, 1) := by decide +kernel
theorem dX12_chooses_319 : decode cX12_chooses 319 = .ok (.l2i, 1) := by decide +kernel
theorem dX12_chooses_320 : decode cX12_chooses 320 = .ok (.iastore, 1) := by decide +kernel
theorem dX12_chooses_321 : decode cX12_chooses 321 = .ok (.aload_n 0, 1) := by decide +kernel
theorem dX12_chooses_322 : decode cX12_chooses 322 = .ok (.getfield 120, 3) := by decide +kernel
theorem dX12_chooses_325 : decode cX12_chooses 325 = .ok (.iconst 0, 1) := by decide +kernel
theorem dX12_chooses_326 : decode cX12_chooses 326 = .ok (.lload_n 3, 1) := by decide +kernel
theorem dX12_chooses_327 : decode cX12_chooses 327 = .ok (.l2i, 1) := by decide +kernel
theorem dX12_chooses_328 : decode cX12_chooses 328 = .ok (.aload_n 0, 1) := by decide +kernel
theorem dX12_chooses_329 : decode cX12_chooses 329 = .ok (.getfield 120, 3) := by decide +kernel
theorem dX12_chooses_332 : decode cX12_chooses 332 = .ok (.iconst 1, 1) := by decide +kernel
theorem dX12_chooses_333 : decode cX12_chooses 333 = .ok (.iaload, 1) := by decide +kernel
theorem dX12_chooses_334 : decode cX12_chooses 334 = .ok (.isub, 1) := by decide +kernel
theorem dX12_chooses_335 : decode cX12_chooses 335 = .ok (.aload_n 0, 1) := by decide +kernel
theorem dX12_chooses_336 : decode cX12_chooses 336 = .ok (.getfield 120, 3) := by decide +kernel
theorem dX12_chooses_339 : decode cX12_chooses 339 = .ok (.iconst 2, 1) := by decide +kernel
theorem dX12_chooses_340 : decode cX12_chooses 340 = .ok (.iaload, 1) := by decide +kernel
theorem dX12_chooses_341 : decode cX12_chooses 341 = .ok (.isub, 1) := by decide +kernel
theorem dX12_chooses_342 : decode cX12_chooses 342 = .ok (.aload_n 0, 1) := by decide +kernel
theorem dX12_chooses_343 : decode cX12_chooses 343 = .ok (.getfield 120, 3) := by decide +kernel
theorem dX12_chooses_346 : decode cX12_chooses 346 = .ok (.iconst 3, 1) := by decide +kernel
theorem dX12_chooses_347 : decode cX12_chooses 347 = .ok (.iaload, 1) := by decide +kernel
theorem dX12_chooses_348 : decode cX12_chooses 348 = .ok (.isub, 1) := by decide +kernel
theorem dX12_chooses_349 : decode cX12_chooses 349 = .ok (.aload_n 0, 1) := by decide +kernel
theorem dX12_chooses_350 : decode cX12_chooses 350 = .ok (.getfield 120, 3) := by decide +kernel
theorem dX12_chooses_353 : decode cX12_chooses 353 = .ok (.iconst 4, 1) := by decide +kernel
theorem dX12_chooses_354 : decode cX12_chooses 354 = .ok (.iaload, 1) := by decide +kernel
theorem dX12_chooses_355 : decode cX12_chooses 355 = .ok (.isub, 1) := by decide +kernel
theorem dX12_chooses_356 : decode cX12_chooses 356 = .ok (.iastore, 1) := by decide +kernel
theorem dX12_chooses_357 : decode cX12_chooses 357 = .ok (.iconst 1, 1) := by decide +kernel
theorem dX12_chooses_358 : decode cX12_chooses 358 = .ok (.ireturn, 1) := by decide +kernel
theorem dX12_seal_0 : decode cX12_seal 0 = .ok (.aload_n 0, 1) := by decide +kernel
theorem dX12_seal_1 : decode cX12_seal 1 = .ok (.iconst 0, 1) := by decide +kernel
theorem dX12_seal_2 : decode cX12_seal 2 = .ok (.putfield 123, 3) := by decide +kernel
theorem dX12_seal_5 : decode cX12_seal 5 = .ok (.aload_n 0, 1) := by decide +kernel
theorem dX12_seal_6 : decode cX12_seal 6 = .ok (.iload_n 1, 1) := by decide +kernel
theorem dX12_seal_7 : decode cX12_seal 7 = .ok (.invokevirtual 262, 3) := by decide +kernel
theorem dX12_seal_10 : decode cX12_seal 10 = .ok (.ifCond .ne 9, 3) := by decide +kernel
theorem dX12_seal_13 : decode cX12_seal 13 = .ok (.aload_n 0, 1) := by decide +kernel
theorem dX12_seal_14 : decode cX12_seal 14 = .ok (.iconst 1, 1) := by decide +kernel
theorem dX12_seal_15 : decode cX12_seal 15 = .ok (.invokevirtual 233, 3) := by decide +kernel
theorem dX12_seal_18 : decode cX12_seal 18 = .ok (.ireturn, 1) := by decide +kernel
theorem dX12_seal_19 : decode cX12_seal 19 = .ok (.iload_n 2, 1) := by decide +kernel
theorem dX12_seal_20 : decode cX12_seal 20 = .ok (.iload_n 3, 1) := by decide +kernel
theorem dX12_seal_21 : decode cX12_seal 21 = .ok (.iload 4, 2) := by decide +kernel
theorem dX12_seal_23 : decode cX12_seal 23 = .ok (.invokestatic 278, 3) := by decide +kernel
theorem dX12_seal_26 : decode cX12_seal 26 = .ok (.ifCond .ne 9, 3) := by decide +kernel
theorem dX12_seal_29 : decode cX12_seal 29 = .ok (.aload_n 0, 1) := by decide +kernel
theorem dX12_seal_30 : decode cX12_seal 30 = .ok (.iconst 2, 1) := by decide +kernel
theorem dX12_seal_31 : decode cX12_seal 31 = .ok (.invokevirtual 233, 3) := by decide +kernel
theorem dX12_seal_34 : decode cX12_seal 34 = .ok (.ireturn, 1) := by decide +kernel
theorem dX12_seal_35 : decode cX12_seal 35 = .ok (.aload_n 0, 1) := by decide +kernel
theorem dX12_seal_36 : decode cX12_seal 36 = .ok (.iload_n 1, 1) := by decide +kernel
theorem dX12_seal_37 : decode cX12_seal 37 = .ok (.invokevirtual 275, 3) := by decide +kernel
theorem dX12_seal_40 : decode cX12_seal 40 = .ok (.istore 5, 2) := by decide +kernel
theorem dX12_seal_42 : decode cX12_seal 42 = .ok (.iload 5, 2) := by decide +kernel
theorem dX12_seal_44 : decode cX12_seal 44 = .ok (.ifCond .ge 7, 3) := by decide +kernel
theorem dX12_seal_47 : decode cX12_seal 47 = .ok (.iconst (-1), 1) := by decide +kernel
theorem dX12_seal_48 : decode cX12_seal 48 = .ok (.goto 20, 3) := by decide +kernel
theorem dX12_seal_51 : decode cX12_seal 51 = .ok (.aload_n 0, 1) := by decide +kernel
theorem dX12_seal_52 : decode cX12_seal 52 = .ok (.iload 5, 2) := by decide +kernel
theorem dX12_seal_54 : decode cX12_seal 54 = .ok (.iload_n 2, 1) := by decide +kernel
theorem dX12_seal_55 : decode cX12_seal 55 = .ok (.iload_n 3, 1) := by decide +kernel
theorem dX12_seal_56 : decode cX12_seal 56 = .ok (.iload 4, 2) := by decide +kernel
theorem dX12_seal_58 : decode cX12_seal 58 = .ok (.iload_n 1, 1) := by decide +kernel
theorem dX12_seal_59 : decode cX12_seal 59 = .ok (.aload_n 0, 1) := by decide +kernel
theorem dX12_seal_60 : decode cX12_seal 60 = .ok (.getfield 67, 3) := by decide +kernel
theorem dX12_seal_63 : decode cX12_seal 63 = .ok (.iload_n 1, 1) := by decide +kernel
theorem dX12_seal_64 : decode cX12_seal 64 = .ok (.iaload, 1) := by decide +kernel
theorem dX12_seal_65 : decode cX12_seal 65 = .ok (.invokevirtual 281, 3) := by decide +kernel
theorem dX12_seal_68 : decode cX12_seal 68 = .ok (.istore 6, 2) := by decide +kernel
theorem dX12_seal_70 : decode cX12_seal 70 = .ok (.iload 6, 2) := by decide +kernel
theorem dX12_seal_72 : decode cX12_seal 72 = .ok (.iconst (-1), 1) := by decide +kernel
theorem dX12_seal_73 : decode cX12_seal 73 = .ok (.if_icmp .ne 9, 3) := by decide +kernel
theorem dX12_seal_76 : decode cX12_seal 76 = .ok (.aload_n 0, 1) := by decide +kernel
theorem dX12_seal_77 : decode cX12_seal 77 = .ok (.iconst 5, 1) := by decide +kernel
theorem dX12_seal_78 : decode cX12_seal 78 = .ok (.invokevirtual 233, 3) := by decide +kernel
theorem dX12_seal_81 : decode cX12_seal 81 = .ok (.ireturn, 1) := by decide +kernel
theorem dX12_seal_82 : decode cX12_seal 82 = .ok (.aload_n 0, 1) := by decide +kernel
theorem dX12_seal_83 : decode cX12_seal 83 = .ok (.iload_n 1, 1) := by decide +kernel
theorem dX12_seal_84 : decode cX12_seal 84 = .ok (.iload 6, 2) := by decide +kernel
theorem dX12_seal_86 : decode cX12_seal 86 = .ok (.invokevirtual 309, 3) := by decide +kernel
theorem dX12_seal_89 : decode cX12_seal 89 = .ok (.ifCond .ne 10, 3) := by decide +kernel
theorem dX12_seal_92 : decode cX12_seal 92 = .ok (.aload_n 0, 1) := by decide +kernel
theorem dX12_seal_93 : decode cX12_seal 93 = .ok (.bipush 6, 2) := by decide +kernel
theorem dX12_seal_95 : decode cX12_seal 95 = .ok (.invokevirtual 233, 3) := by decide +kernel
theorem dX12_seal_98 : decode cX12_seal 98 = .ok (.ireturn, 1) := by decide +kernel
theorem dX12_seal_99 : decode cX12_seal 99 = .ok (.aload_n 0, 1) := by decide +kernel
theorem dX12_seal_100 : decode cX12_seal 100 = .ok (.getfield 313, 3) := by decide +kernel
theorem dX12_seal_103 : decode cX12_seal 103 = .ok (.sipush 200, 3) := by decide +kernel
theorem dX12_seal_106 : decode cX12_seal 106 = .ok (.if_icmp .ne 9, 3) := by decide +kernel
theorem dX12_seal_109 : decode cX12_seal 109 = .ok (.aload_n 0, 1) := by decide +kernel
theorem dX12_seal_110 : decode cX12_seal 110 = .ok (.iconst 3, 1) := by decide +kernel
theorem dX12_seal_111 : decode cX12_seal 111 = .ok (.invokevirtual 233, 3) := by decide +kernel
theorem dX12_seal_114 : decode cX12_seal 114 = .ok (.ireturn, 1) := by decide +kernel
theorem dX12_seal_115 : decode cX12_seal 115 = .ok (.aload_n 0, 1) := by decide +kernel
theorem dX12_seal_116 : decode cX12_seal 116 = .ok (.getfield 313, 3) := by decide +kernel
theorem dX12_seal_119 : decode cX12_seal 119 = .ok (.istore 7, 2) := by decide +kernel
theorem dX12_seal_121 : decode cX12_seal 121 = .ok (.aload_n 0, 1) := by decide +kernel
theorem dX12_seal_122 : decode cX12_seal 122 = .ok (.dup, 1) := by decide +kernel
theorem dX12_seal_123 : decode cX12_seal 123 = .ok (.getfield 313, 3) := by decide +kernel
theorem dX12_seal_126 : decode cX12_seal 126 = .ok (.iconst 1, 1) := by decide +kernel
theorem dX12_seal_127 : decode cX12_seal 127 = .ok (.iadd, 1) := by decide +kernel
theorem dX12_seal_128 : decode cX12_seal 128 = .ok (.putfield 313, 3) := by decide +kernel
theorem dX12_seal_131 : decode cX12_seal 131 = .ok (.aload_n 0, 1) := by decide +kernel
theorem dX12_seal_132 : decode cX12_seal 132 = .ok (.getfield 89, 3) := by decide +kernel
theorem dX12_seal_135 : decode cX12_seal 135 = .ok (.iload 7, 2) := by decide +kernel
theorem dX12_seal_137 : decode cX12_seal 137 = .ok (.iload_n 1, 1) := by decide +kernel
theorem dX12_seal_138 : decode cX12_seal 138 = .ok (.iastore, 1) := by decide +kernel
theorem dX12_seal_139 : decode cX12_seal 139 = .ok (.aload_n 0, 1) := by decide +kernel
theorem dX12_seal_140 : decode cX12_seal 140 = .ok (.getfield 92, 3) := by decide +kernel
theorem dX12_seal_143 : decode cX12_seal 143 = .ok (.iload 7, 2) := by decide +kernel
theorem dX12_seal_145 : decode cX12_seal 145 = .ok (.iload_n 2, 1) := by decide +kernel
theorem dX12_seal_146 : decode cX12_seal 146 = .ok (.iastore, 1) := by decide +kernel
theorem dX12_seal_147 : decode cX12_seal 147 = .ok (.aload_n 0, 1) := by decide +kernel
theorem dX12_seal_148 : decode cX12_seal 148 = .ok (.getfield 95, 3) := by decide +kernel
theorem dX12_seal_151 : decode cX12_seal 151 = .ok (.iload 7, 2) := by decide +kernel
theorem dX12_seal_153 : decode cX12_seal 153 = .ok (.iload_n 3, 1) := by decide +kernel
theorem dX12_seal_154 : decode cX12_seal 154 = .ok (.iastore, 1) := by decide +kernel
theorem dX12_seal_155 : decode cX12_seal 155 = .ok (.aload_n 0, 1) := by decide +kernel
theorem dX12_seal_156 : decode cX12_seal 156 = .ok (.getfield 98, 3) := by decide +kernel
theorem dX12_seal_159 : decode cX12_seal 159 = .ok (.iload 7, 2) := by decide +kernel
theorem dX12_seal_161 : decode cX12_seal 161 = .ok (.iload 4, 2) := by decide +kernel
theorem dX12_seal_163 : decode cX12_seal 163 = .ok (.iastore, 1) := by decide +kernel
theorem dX12_seal_164 : decode cX12_seal 164 = .ok (.aload_n 0, 1) := by decide +kernel
theorem dX12_seal_165 : decode cX12_seal 165 = .ok (.getfield 101, 3) := by decide +kernel
theorem dX12_seal_168 : decode cX12_seal 168 = .ok (.iload 7, 2) := by decide +kernel
theorem dX12_seal_170 : decode cX12_seal 170 = .ok (.aload_n 0, 1) := by decide +kernel
theorem dX12_seal_171 : decode cX12_seal 171 = .ok (.getfield 239, 3) := by decide +kernel
theorem dX12_seal_174 : decode cX12_seal 174 = .ok (.iastore, 1) := by decide +kernel
theorem dX12_seal_175 : decode cX12_seal 175 = .ok (.aload_n 0, 1) := by decide +kernel
theorem dX12_seal_176 : decode cX12_seal 176 = .ok (.getfield 104, 3) := by decide +kernel
theorem dX12_seal_179 : decode cX12_seal 179 = .ok (.iload 7, 2) := by decide +kernel
theorem dX12_seal_181 : decode cX12_seal 181 = .ok (.iload 6, 2) := by decide +kernel
theorem dX12_seal_183 : decode cX12_seal 183 = .ok (.iastore, 1) := by decide +kernel
theorem dX12_seal_184 : decode cX12_seal 184 = .ok (.aload_n 0, 1) := by decide +kernel
theorem dX12_seal_185 : decode cX12_seal 185 = .ok (.getfield 107, 3) := by decide +kernel
theorem dX12_seal_188 : decode cX12_seal 188 = .ok (.iload 7, 2) := by decide +kernel
theorem dX12_seal_190 : decode cX12_seal 190 = .ok (.iload 5, 2) := by decide +kernel
theorem dX12_seal_192 : decode cX12_seal 192 = .ok (.iastore, 1) := by decide +kernel
theorem dX12_seal_193 : decode cX12_seal 193 = .ok (.aload_n 0, 1) := by decide +kernel
theorem dX12_seal_194 : decode cX12_seal 194 = .ok (.getfield 110, 3) := by decide +kernel
theorem dX12_seal_197 : decode cX12_seal 197 = .ok (.iload 7, 2) := by decide +kernel
theorem dX12_seal_199 : decode cX12_seal 199 = .ok (.aload_n 0, 1) := by decide +kernel
theorem dX12_seal_200 : decode cX12_seal 200 = .ok (.getfield 67, 3) := by decide +kernel
theorem dX12_seal_203 : decode cX12_seal 203 = .ok (.iload_n 1, 1) := by decide +kernel
theorem dX12_seal_204 : decode cX12_seal 204 = .ok (.iaload, 1) := by decide +kernel
theorem dX12_seal_205 : decode cX12_seal 205 = .ok (.iastore, 1) := by decide +kernel
theorem dX12_seal_206 : decode cX12_seal 206 = .ok (.aload_n 0, 1) := by decide +kernel
theorem dX12_seal_207 : decode cX12_seal 207 = .ok (.getfield 67, 3) := by decide +kernel
theorem dX12_seal_210 : decode cX12_seal 210 = .ok (.iload_n 1, 1) := by decide +kernel
theorem dX12_seal_211 : decode cX12_seal 211 = .ok (.dup2, 1) := by decide +kernel
theorem dX12_seal_212 : decode cX12_seal 212 = .ok (.iaload, 1) := by decide +kernel
theorem dX12_seal_213 : decode cX12_seal 213 = .ok (.iconst 1, 1) := by decide +kernel
theorem dX12_seal_214 : decode cX12_seal 214 = .ok (.iadd, 1) := by decide +kernel
theorem dX12_seal_215 : decode cX12_seal 215 = .ok (.iastore, 1) := by decide +kernel
theorem dX12_seal_216 : decode cX12_seal 216 = .ok (.aload_n 0, 1) := by decide +kernel
theorem dX12_seal_217 : decode cX12_seal 217 = .ok (.getfield 64, 3) := by decide +kernel
theorem dX12_seal_220 : decode cX12_seal 220 = .ok (.iload_n 1, 1) := by decide +kernel
theorem dX12_seal_221 : decode cX12_seal 221 = .ok (.dup2, 1) := by decide +kernel
theorem dX12_seal_222 : decode cX12_seal 222 = .ok (.iaload, 1) := by decide +kernel
theorem dX12_seal_223 : decode cX12_seal 223 = .ok (.iload 6, 2) := by decide +kernel
theorem dX12_seal_225 : decode cX12_seal 225 = .ok (.iadd, 1) := by decide +kernel
theorem dX12_seal_226 : decode cX12_seal 226 = .ok (.iastore, 1) := by decide +kernel
theorem dX12_seal_227 : decode cX12_seal 227 = .ok (.iconst 0, 1) := by decide +kernel
theorem dX12_seal_228 : decode cX12_seal 228 = .ok (.istore 8, 2) := by decide +kernel
theorem dX12_seal_230 : decode cX12_seal 230 = .ok (.iload 8, 2) := by decide +kernel
theorem dX12_seal_232 : decode cX12_seal 232 = .ok (.iconst 5, 1) := by decide +kernel
theorem dX12_seal_233 : decode cX12_seal 233 = .ok (.if_icmp .ge 49, 3) := by decide +kernel
theorem dX12_seal_236 : decode cX12_seal 236 = .ok (.aload_n 0, 1) := by decide +kernel
theorem dX12_seal_237 : decode cX12_seal 237 = .ok (.getfield 113, 3) := by decide +kernel
theorem dX12_seal_240 : decode cX12_seal 240 = .ok (.iconst 5, 1) := by decide +kernel
theorem dX12_seal_241 : decode cX12_seal 241 = .ok (.iload 7, 2) := by decide +kernel
theorem dX12_seal_243 : decode cX12_seal 243 = .ok (.imul, 1) := by decide +kernel
theorem dX12_seal_244 : decode cX12_seal 244 = .ok (.iload 8, 2) := by decide +kernel
theorem dX12_seal_246 : decode cX12_seal 246 = .ok (.iadd, 1) := by decide +kernel
theorem dX12_seal_247 : decode cX12_seal 247 = .ok (.aload_n 0, 1) := by decide +kernel
theorem dX12_seal_248 : decode cX12_seal 248 = .ok (.getfield 120, 3) := by decide +kernel
theorem dX12_seal_251 : decode cX12_seal 251 = .ok (.iload 8, 2) := by decide +kernel
theorem dX12_seal_253 : decode cX12_seal 253 = .ok (.iaload, 1) := by decide +kernel
theorem dX12_seal_254 : decode cX12_seal 254 = .ok (.iastore, 1) := by decide +kernel
theorem dX12_seal_255 : decode cX12_seal 255 = .ok (.aload_n 0, 1) := by decide +kernel
theorem dX12_seal_256 : decode cX12_seal 256 = .ok (.getfield 73, 3) := by decide +kernel
theorem dX12_seal_259 : decode cX12_seal 259 = .ok (.iconst 5, 1) := by decide +kernel
theorem dX12_seal_260 : decode cX12_seal 260 = .ok (.iload_n 1, 1) := by decide +kernel
theorem dX12_seal_261 : decode cX12_seal 261 = .ok (.imul, 1) := by decide +kernel
theorem dX12_seal_262 : decode cX12_seal 262 = .ok (.iload 8, 2) := by decide +kernel
theorem dX12_seal_264 : decode cX12_seal 264 = .ok (.iadd, 1) := by decide +kernel
theorem dX12_seal_265 : decode cX12_seal 265 = .ok (.dup2, 1) := by decide +kernel
theorem dX12_seal_266 : decode cX12_seal 266 = .ok (.iaload, 1) := by decide +kernel
theorem dX12_seal_267 : decode cX12_seal 267 = .ok (.aload_n 0, 1) := by decide +kernel
theorem dX12_seal_268 : decode cX12_seal 268 = .ok (.getfield 120, 3) := by decide +kernel
theorem dX12_seal_271 : decode cX12_seal 271 = .ok (.iload 8, 2) := by decide +kernel
theorem dX12_seal_273 : decode cX12_seal 273 = .ok (.iaload, 1) := by decide +kernel
theorem dX12_seal_274 : decode cX12_seal 274 = .ok (.isub, 1) := by decide +kernel
theorem dX12_seal_275 : decode cX12_seal 275 = .ok (.iastore, 1) := by decide +kernel
theorem dX12_seal_276 : decode cX12_seal 276 = .ok (.iinc 8 1, 3) := by decide +kernel
theorem dX12_seal_279 : decode cX12_seal 279 = .ok (.goto (-49), 3) := by decide +kernel
theorem dX12_seal_282 : decode cX12_seal 282 = .ok (.aload_n 0, 1) := by decide +kernel
theorem dX12_seal_283 : decode cX12_seal 283 = .ok (.iload 7, 2) := by decide +kernel
theorem dX12_seal_285 : decode cX12_seal 285 = .ok (.invokevirtual 246, 3) := by decide +kernel
theorem dX12_seal_288 : decode cX12_seal 288 = .ok (.ireturn, 1) := by decide +kernel
theorem dX12_homeOf_0 : decode cX12_homeOf 0 = .ok (.aload_n 0, 1) := by decide +kernel
theorem dX12_homeOf_1 : decode cX12_homeOf 1 = .ok (.getfield 101, 3) := by decide +kernel
theorem dX12_homeOf_4 : decode cX12_homeOf 4 = .ok (.iload_n 1, 1) := by decide +kernel
theorem dX12_homeOf_5 : decode cX12_homeOf 5 = .ok (.iaload, 1) := by decide +kernel
theorem dX12_homeOf_6 : decode cX12_homeOf 6 = .ok (.bipush 29, 2) := by decide +kernel
theorem dX12_homeOf_8 : decode cX12_homeOf 8 = .ok (.iadd, 1) := by decide +kernel
theorem dX12_homeOf_9 : decode cX12_homeOf 9 = .ok (.bipush 30, 2) := by decide +kernel
theorem dX12_homeOf_11 : decode cX12_homeOf 11 = .ok (.idiv, 1) := by decide +kernel
theorem dX12_homeOf_12 : decode cX12_homeOf 12 = .ok (.bipush 30, 2) := by decide +kernel
theorem dX12_homeOf_14 : decode cX12_homeOf 14 = .ok (.imul, 1) := by decide +kernel
theorem dX12_homeOf_15 : decode cX12_homeOf 15 = .ok (.aload_n 0, 1) := by decide +kernel
theorem dX12_homeOf_16 : decode cX12_homeOf 16 = .ok (.getfield 58, 3) := by decide +kernel
theorem dX12_homeOf_19 : decode cX12_homeOf 19 = .ok (.aload_n 0, 1) := by decide +kernel
theorem dX12_homeOf_20 : decode cX12_homeOf 20 = .ok (.getfield 89, 3) := by decide +kernel
theorem dX12_homeOf_23 : decode cX12_homeOf 23 = .ok (.iload_n 1, 1) := by decide +kernel
theorem dX12_homeOf_24 : decode cX12_homeOf 24 = .ok (.iaload, 1) := by decide +kernel
theorem dX12_homeOf_25 : decode cX12_homeOf 25 = .ok (.iaload, 1) := by decide +kernel
theorem dX12_homeOf_26 : decode cX12_homeOf 26 = .ok (.iadd, 1) := by decide +kernel
theorem dX12_homeOf_27 : decode cX12_homeOf 27 = .ok (.ireturn, 1) := by decide +kernel
theorem dX12_paper_0 : decode cX12_paper 0 = .ok (.aload_n 0, 1) := by decide +kernel
theorem dX12_paper_1 : decode cX12_paper 1 = .ok (.iconst 0, 1) := by decide +kernel
theorem dX12_paper_2 : decode cX12_paper 2 = .ok (.putfield 123, 3) := by decide +kernel
theorem dX12_paper_5 : decode cX12_paper 5 = .ok (.iload_n 1, 1) := by decide +kernel
theorem dX12_paper_6 : decode cX12_paper 6 = .ok (.ifCond .lt 11, 3) := by decide +kernel
theorem dX12_paper_9 : decode cX12_paper 9 = .ok (.iload_n 1, 1) := by decide +kernel
theorem dX12_paper_10 : decode cX12_paper 10 = .ok (.aload_n 0, 1) := by decide +kernel
theorem dX12_paper_11 : decode cX12_paper 11 = .ok (.getfield 313, 3) := by decide +kernel
theorem dX12_paper_14 : decode cX12_paper 14 = .ok (.if_icmp .lt 5, 3) := by decide +kernel
theorem dX12_paper_17 : decode cX12_paper 17 = .ok (.iconst (-1), 1) := by decide +kernel
theorem dX12_paper_18 : decode cX12_paper 18 = .ok (.ireturn, 1) := by decide +kernel
theorem dX12_paper_19 : decode cX12_paper 19 = .ok (.iload_n 2, 1) := by decide +kernel
theorem dX12_paper_20 : decode cX12_paper 20 = .ok (.tableswitch 157 0 8 #[52, 59, 66, 73, 80, 87, 94, 101, 134], 52) := by decide +kernel
theorem dX12_paper_72 : decode cX12_paper 72 = .ok (.aload_n 0, 1) := by decide +kernel
theorem dX12_paper_73 : decode cX12_paper 73 = .ok (.getfield 89, 3) := by decide +kernel
theorem dX12_paper_76 : decode cX12_paper 76 = .ok (.iload_n 1, 1) := by decide +kernel
theorem dX12_paper_77 : decode cX12_paper 77 = .ok (.iaload, 1) := by decide +kernel
theorem dX12_paper_78 : decode cX12_paper 78 = .ok (.ireturn, 1) := by decide +kernel
theorem dX12_paper_79 : decode cX12_paper 79 = .ok (.aload_n 0, 1) := by decide +kernel
theorem dX12_paper_80 : decode cX12_paper 80 = .ok (.getfield 92, 3) := by decide +kernel
theorem dX12_paper_83 : decode cX12_paper 83 = .ok (.iload_n 1, 1) := by decide +kernel
theorem dX12_paper_84 : decode cX12_paper 84 = .ok (.iaload, 1) := by decide +kernel
theorem dX12_paper_85 : decode cX12_paper 85 = .ok (.ireturn, 1) := by decide +kernel
theorem dX12_paper_86 : decode cX12_paper 86 = .ok (.aload_n 0, 1) := by decide +kernel
theorem dX12_paper_87 : decode cX12_paper 87 = .ok (.getfield 95, 3) := by decide +kernel
theorem dX12_paper_90 : decode cX12_paper 90 = .ok (.iload_n 1, 1) := by decide +kernel
theorem dX12_paper_91 : decode cX12_paper 91 = .ok (.iaload, 1) := by decide +kernel
theorem dX12_paper_92 : decode cX12_paper 92 = .ok (.ireturn, 1) := by decide +kernel
theorem dX12_paper_93 : decode cX12_paper 93 = .ok (.aload_n 0, 1) := by decide +kernel
theorem dX12_paper_94 : decode cX12_paper 94 = .ok (.getfield 98, 3) := by decide +kernel
theorem dX12_paper_97 : decode cX12_paper 97 = .ok (.iload_n 1, 1) := by decide +kernel
theorem dX12_paper_98 : decode cX12_paper 98 = .ok (.iaload, 1) := by decide +kernel
theorem dX12_paper_99 : decode cX12_paper 99 = .ok (.ireturn, 1) := by decide +kernel
theorem dX12_paper_100 : decode cX12_paper 100 = .ok (.aload_n 0, 1) := by decide +kernel
theorem dX12_paper_101 : decode cX12_paper 101 = .ok (.getfield 101, 3) := by decide +kernel
theorem dX12_paper_104 : decode cX12_paper 104 = .ok (.iload_n 1, 1) := by decide +kernel
theorem dX12_paper_105 : decode cX12_paper 105 = .ok (.iaload, 1) := by decide +kernel
theorem dX12_paper_106 : decode cX12_paper 106 = .ok (.ireturn, 1) := by decide +kernel
theorem dX12_paper_107 : decode cX12_paper 107 = .ok (.aload_n 0, 1) := by decide +kernel
theorem dX12_paper_108 : decode cX12_paper 108 = .ok (.getfield 104, 3) := by decide +kernel
theorem dX12_paper_111 : decode cX12_paper 111 = .ok (.iload_n 1, 1) := by decide +kernel
theorem dX12_paper_112 : decode cX12_paper 112 = .ok (.iaload, 1) := by decide +kernel
theorem dX12_paper_113 : decode cX12_paper 113 = .ok (.ireturn, 1) := by decide +kernel
theorem dX12_paper_114 : decode cX12_paper 114 = .ok (.aload_n 0, 1) := by decide +kernel
theorem dX12_paper_115 : decode cX12_paper 115 = .ok (.getfield 107, 3) := by decide +kernel
theorem dX12_paper_118 : decode cX12_paper 118 = .ok (.iload_n 1, 1) := by decide +kernel
theorem dX12_paper_119 : decode cX12_paper 119 = .ok (.iaload, 1) := by decide +kernel
theorem dX12_paper_120 : decode cX12_paper 120 = .ok (.ireturn, 1) := by decide +kernel
theorem dX12_paper_121 : decode cX12_paper 121 = .ok (.iconst 0, 1) := by decide +kernel
theorem dX12_paper_122 : decode cX12_paper 122 = .ok (.istore_n 3, 1) := by decide +kernel
theorem dX12_paper_123 : decode cX12_paper 123 = .ok (.iconst 0, 1) := by decide +kernel
theorem dX12_paper_124 : decode cX12_paper 124 = .ok (.istore 4, 2) := by decide +kernel
theorem dX12_paper_126 : decode cX12_paper 126 = .ok (.iload 4, 2) := by decide +kernel
theorem dX12_paper_128 : decode cX12_paper 128 = .ok (.iconst 5, 1) := by decide +kernel
theorem dX12_paper_129 : decode cX12_paper 129 = .ok (.if_icmp .ge 23, 3) := by decide +kernel
theorem dX12_paper_132 : decode cX12_paper 132 = .ok (.iload_n 3, 1) := by decide +kernel
theorem dX12_paper_133 : decode cX12_paper 133 = .ok (.aload_n 0, 1) := by decide +kernel
theorem dX12_paper_134 : decode cX12_paper 134 = .ok (.getfield 113, 3) := by decide +kernel
theorem dX12_paper_137 : decode cX12_paper 137 = .ok (.iconst 5, 1) := by decide +kernel
theorem dX12_paper_138 : decode cX12_paper 138 = .ok (.iload_n 1, 1) := by decide +kernel
theorem dX12_paper_139 : decode cX12_paper 139 = .ok (.imul, 1) := by decide +kernel
theorem dX12_paper_140 : decode cX12_paper 140 = .ok (.iload 4, 2) := by decide +kernel
theorem dX12_paper_142 : decode cX12_paper 142 = .ok (.iadd, 1) := by decide +kernel
theorem dX12_paper_143 : decode cX12_paper 143 = .ok (.iaload, 1) := by decide +kernel
theorem dX12_paper_144 : decode cX12_paper 144 = .ok (.iadd, 1) := by decide +kernel
theorem dX12_paper_145 : decode cX12_paper 145 = .ok (.istore_n 3, 1) := by decide +kernel
theorem dX12_paper_146 : decode cX12_paper 146 = .ok (.iinc 4 1, 3) := by decide +kernel
theorem dX12_paper_149 : decode cX12_paper 149 = .ok (.goto (-23), 3) := by decide +kernel
theorem dX12_paper_152 : decode cX12_paper 152 = .ok (.iload_n 3, 1) := by decide +kernel
theorem dX12_paper_153 : decode cX12_paper 153 = .ok (.ireturn, 1) := by decide +kernel
theorem dX12_paper_154 : decode cX12_paper 154 = .ok (.aload_n 0, 1) := by decide +kernel
theorem dX12_paper_155 : decode cX12_paper 155 = .ok (.iload_n 1, 1) := by decide +kernel
theorem dX12_paper_156 : decode cX12_paper 156 = .ok (.invokevirtual 316, 3) := by decide +kernel
theorem dX12_paper_159 : decode cX12_paper 159 = .ok (.aload_n 0, 1) := by decide +kernel
theorem dX12_paper_160 : decode cX12_paper 160 = .ok (.getfield 239, 3) := by decide +kernel
theorem dX12_paper_163 : decode cX12_paper 163 = .ok (.if_icmp .gt 11, 3) := by decide +kernel
theorem dX12_paper_166 : decode cX12_paper 166 = .ok (.aload_n 0, 1) := by decide +kernel
theorem dX12_paper_167 : decode cX12_paper 167 = .ok (.iload_n 1, 1) := by decide +kernel
theorem dX12_paper_168 : decode cX12_paper 168 = .ok (.invokevirtual 316, 3) := by decide +kernel
theorem dX12_paper_171 : decode cX12_paper 171 = .ok (.goto 5, 3) := by decide +kernel
theorem dX12_paper_174 : decode cX12_paper 174 = .ok (.bipush (-2), 2) := by decide +kernel
theorem dX12_paper_176 : decode cX12_paper 176 = .ok (.ireturn, 1) := by decide +kernel
theorem dX12_paper_177 : decode cX12_paper 177 = .ok (.iconst (-1), 1) := by decide +kernel
theorem dX12_paper_178 : decode cX12_paper 178 = .ok (.ireturn, 1) := by decide +kernel
theorem dX12_stamps_0 : decode cX12_stamps 0 = .ok (.aload_n 0, 1) := by decide +kernel
theorem dX12_stamps_1 : decode cX12_stamps 1 = .ok (.iconst 0, 1) := by decide +kernel
theorem dX12_stamps_2 : decode cX12_stamps 2 = .ok (.putfield 123, 3) := by decide +kernel
theorem dX12_stamps_5 : decode cX12_stamps 5 = .ok (.iload_n 1, 1) := by decide +kernel
theorem dX12_stamps_6 : decode cX12_stamps 6 = .ok (.ifCond .lt 33, 3) := by decide +kernel
theorem dX12_stamps_9 : decode cX12_stamps 9 = .ok (.iload_n 1, 1) := by decide +kernel
theorem dX12_stamps_10 : decode cX12_stamps 10 = .ok (.aload_n 0, 1) := by decide +kernel
theorem dX12_stamps_11 : decode cX12_stamps 11 = .ok (.getfield 313, 3) := by decide +kernel
theorem dX12_stamps_14 : decode cX12_stamps 14 = .ok (.if_icmp .ge 25, 3) := by decide +kernel
theorem dX12_stamps_17 : decode cX12_stamps 17 = .ok (.iload_n 2, 1) := by decide +kernel
theorem dX12_stamps_18 : decode cX12_stamps 18 = .ok (.iconst 0, 1) := by decide +kernel
theorem dX12_stamps_19 : decode cX12_stamps 19 = .ok (.iconst 4, 1) := by decide +kernel
theorem dX12_stamps_20 : decode cX12_stamps 20 = .ok (.invokestatic 229, 3) := by decide +kernel
theorem dX12_stamps_23 : decode cX12_stamps 23 = .ok (.ifCond .eq 16, 3) := by decide +kernel
theorem dX12_stamps_26 : decode cX12_stamps 26 = .ok (.aload_n 0, 1) := by decide +kernel
theorem dX12_stamps_27 : decode cX12_stamps 27 = .ok (.getfield 113, 3) := by decide +kernel
theorem dX12_stamps_30 : decode cX12_stamps 30 = .ok (.iconst 5, 1) := by decide +kernel
theorem dX12_stamps_31 : decode cX12_stamps 31 = .ok (.iload_n 1, 1) := by decide +kernel
theorem dX12_stamps_32 : decode cX12_stamps 32 = .ok (.imul, 1) := by decide +kernel
theorem dX12_stamps_33 : decode cX12_stamps 33 = .ok (.iload_n 2, 1) := by decide +kernel
theorem dX12_stamps_34 : decode cX12_stamps 34 = .ok (.iadd, 1) := by decide +kernel
theorem dX12_stamps_35 : decode cX12_stamps 35 = .ok (.iaload, 1) := by decide +kernel
theorem dX12_stamps_36 : decode cX12_stamps 36 = .ok (.goto 4, 3) := by decide +kernel
theorem dX12_stamps_39 : decode cX12_stamps 39 = .ok (.iconst (-1), 1) := by decide +kernel
theorem dX12_stamps_40 : decode cX12_stamps 40 = .ok (.ireturn, 1) := by decide +kernel
theorem dX12_about_0 : decode cX12_about 0 = .ok (.aload_n 0, 1) := by decide +kernel
theorem dX12_about_1 : decode cX12_about 1 = .ok (.iconst 0, 1) := by decide +kernel
theorem dX12_about_2 : decode cX12_about 2 = .ok (.putfield 123, 3) := by decide +kernel
theorem dX12_about_5 : decode cX12_about 5 = .ok (.aload_n 0, 1) := by decide +kernel
theorem dX12_about_6 : decode cX12_about 6 = .ok (.iload_n 1, 1) := by decide +kernel
theorem dX12_about_7 : decode cX12_about 7 = .ok (.invokevirtual 262, 3) := by decide +kernel
theorem dX12_about_10 : decode cX12_about 10 = .ok (.ifCond .ne 5, 3) := by decide +kernel
theorem dX12_about_13 : decode cX12_about 13 = .ok (.iconst (-1), 1) := by decide +kernel
theorem dX12_about_14 : decode cX12_about 14 = .ok (.ireturn, 1) := by decide +kernel
theorem dX12_about_15 : decode cX12_about 15 = .ok (.iload_n 2, 1) := by decide +kernel
theorem dX12_about_16 : decode cX12_about 16 = .ok (.tableswitch 93 0 8 #[52, 59, 66, 73, 80, 80, 80, 80, 80], 52) := by decide +kernel
theorem dX12_about_68 : decode cX12_about 68 = .ok (.aload_n 0, 1) := by decide +kernel
theorem dX12_about_69 : decode cX12_about 69 = .ok (.getfield 58, 3) := by decide +kernel
theorem dX12_about_72 : decode cX12_about 72 = .ok (.iload_n 1, 1) := by decide +kernel
theorem dX12_about_73 : decode cX12_about 73 = .ok (.iaload, 1) := by decide +kernel
theorem dX12_about_74 : decode cX12_about 74 = .ok (.ireturn, 1) := by decide +kernel
theorem dX12_about_75 : decode cX12_about 75 = .ok (.aload_n 0, 1) := by decide +kernel
theorem dX12_about_76 : decode cX12_about 76 = .ok (.getfield 64, 3) := by decide +kernel
theorem dX12_about_79 : decode cX12_about 79 = .ok (.iload_n 1, 1) := by decide +kernel
theorem dX12_about_80 : decode cX12_about 80 = .ok (.iaload, 1) := by decide +kernel
theorem dX12_about_81 : decode cX12_about 81 = .ok (.ireturn, 1) := by decide +kernel
theorem dX12_about_82 : decode cX12_about 82 = .ok (.aload_n 0, 1) := by decide +kernel
theorem dX12_about_83 : decode cX12_about 83 = .ok (.getfield 67, 3) := by decide +kernel
theorem dX12_about_86 : decode cX12_about 86 = .ok (.iload_n 1, 1) := by decide +kernel
theorem dX12_about_87 : decode cX12_about 87 = .ok (.iaload, 1) := by decide +kernel
theorem dX12_about_88 : decode cX12_about 88 = .ok (.ireturn, 1) := by decide +kernel
theorem dX12_about_89 : decode cX12_about 89 = .ok (.aload_n 0, 1) := by decide +kernel
theorem dX12_about_90 : decode cX12_about 90 = .ok (.getfield 70, 3) := by decide +kernel
theorem dX12_about_93 : decode cX12_about 93 = .ok (.iload_n 1, 1) := by decide +kernel
theorem dX12_about_94 : decode cX12_about 94 = .ok (.iaload, 1) := by decide +kernel
theorem dX12_about_95 : decode cX12_about 95 = .ok (.ireturn, 1) := by decide +kernel
theorem dX12_about_96 : decode cX12_about 96 = .ok (.aload_n 0, 1) := by decide +kernel
theorem dX12_about_97 : decode cX12_about 97 = .ok (.getfield 73, 3) := by decide +kernel
theorem dX12_about_100 : decode cX12_about 100 = .ok (.iconst 5, 1) := by decide +kernel
theorem dX12_about_101 : decode cX12_about 101 = .ok (.iload_n 1, 1) := by decide +kernel
theorem dX12_about_102 : decode cX12_about 102 = .ok (.imul, 1) := by decide +kernel
theorem dX12_about_103 : decode cX12_about 103 = .ok (.iload_n 2, 1) := by decide +kernel
theorem dX12_about_104 : decode cX12_about 104 = .ok (.iadd, 1) := by decide +kernel
theorem dX12_about_105 : decode cX12_about 105 = .ok (.iconst 4, 1) := by decide +kernel
theorem dX12_about_106 : decode cX12_about 106 = .ok (.isub, 1) := by decide +kernel
theorem dX12_about_107 : decode cX12_about 107 = .ok (.iaload, 1) := by decide +kernel
theorem dX12_about_108 : decode cX12_about 108 = .ok (.ireturn, 1) := by decide +kernel
theorem dX12_about_109 : decode cX12_about 109 = .ok (.iconst (-1), 1) := by decide +kernel
theorem dX12_about_110 : decode cX12_about 110 = .ok (.ireturn, 1) := by decide +kernel
theorem dX12_known_0 : decode cX12_known 0 = .ok (.aload_n 0, 1) := by decide +kernel
theorem dX12_known_1 : decode cX12_known 1 = .ok (.iconst 0, 1) := by decide +kernel
theorem dX12_known_2 : decode cX12_known 2 = .ok (.putfield 123, 3) := by decide +kernel
theorem dX12_known_5 : decode cX12_known 5 = .ok (.aload_n 0, 1) := by decide +kernel
theorem dX12_known_6 : decode cX12_known 6 = .ok (.iload_n 1, 1) := by decide +kernel
theorem dX12_known_7 : decode cX12_known 7 = .ok (.invokevirtual 262, 3) := by decide +kernel
theorem dX12_known_10 : decode cX12_known 10 = .ok (.ifCond .eq 15, 3) := by decide +kernel
theorem dX12_known_13 : decode cX12_known 13 = .ok (.iload_n 2, 1) := by decide +kernel
theorem dX12_known_14 : decode cX12_known 14 = .ok (.ifCond .lt 11, 3) := by decide +kernel
theorem dX12_known_17 : decode cX12_known 17 = .ok (.iload_n 2, 1) := by decide +kernel
theorem dX12_known_18 : decode cX12_known 18 = .ok (.aload_n 0, 1) := by decide +kernel
theorem dX12_known_19 : decode cX12_known 19 = .ok (.getfield 239, 3) := by decide +kernel
theorem dX12_known_22 : decode cX12_known 22 = .ok (.if_icmp .le 5, 3) := by decide +kernel
theorem dX12_known_25 : decode cX12_known 25 = .ok (.iconst (-1), 1) := by decide +kernel
theorem dX12_known_26 : decode cX12_known 26 = .ok (.ireturn, 1) := by decide +kernel
theorem dX12_known_27 : decode cX12_known 27 = .ok (.iconst 0, 1) := by decide +kernel
theorem dX12_known_28 : decode cX12_known 28 = .ok (.istore_n 3, 1) := by decide +kernel
theorem dX12_known_29 : decode cX12_known 29 = .ok (.iconst 0, 1) := by decide +kernel
theorem dX12_known_30 : decode cX12_known 30 = .ok (.istore 4, 2) := by decide +kernel
theorem dX12_known_32 : decode cX12_known 32 = .ok (.iload 4, 2) := by decide +kernel
theorem dX12_known_34 : decode cX12_known 34 = .ok (.aload_n 0, 1) := by decide +kernel
theorem dX12_known_35 : decode cX12_known 35 = .ok (.getfield 313, 3) := by decide +kernel
theorem dX12_known_38 : decode cX12_known 38 = .ok (.if_icmp .ge 38, 3) := by decide +kernel
theorem dX12_known_41 : decode cX12_known 41 = .ok (.iload_n 3, 1) := by decide +kernel
theorem dX12_known_42 : decode cX12_known 42 = .ok (.aload_n 0, 1) := by decide +kernel
theorem dX12_known_43 : decode cX12_known 43 = .ok (.getfield 89, 3) := by decide +kernel
theorem dX12_known_46 : decode cX12_known 46 = .ok (.iload 4, 2) := by decide +kernel
theorem dX12_known_48 : decode cX12_known 48 = .ok (.iaload, 1) := by decide +kernel
theorem dX12_known_49 : decode cX12_known 49 = .ok (.iload_n 1, 1) := by decide +kernel
theorem dX12_known_50 : decode cX12_known 50 = .ok (.if_icmp .ne 17, 3) := by decide +kernel
theorem dX12_known_53 : decode cX12_known 53 = .ok (.aload_n 0, 1) := by decide +kernel
theorem dX12_known_54 : decode cX12_known 54 = .ok (.iload 4, 2) := by decide +kernel
theorem dX12_known_56 : decode cX12_known 56 = .ok (.invokevirtual 316, 3) := by decide +kernel
theorem dX12_known_59 : decode cX12_known 59 = .ok (.iload_n 2, 1) := by decide +kernel
theorem dX12_known_60 : decode cX12_known 60 = .ok (.if_icmp .gt 7, 3) := by decide +kernel
theorem dX12_known_63 : decode cX12_known 63 = .ok (.iconst 1, 1) := by decide +kernel
theorem dX12_known_64 : decode cX12_known 64 = .ok (.goto 4, 3) := by decide +kernel
theorem dX12_known_67 : decode cX12_known 67 = .ok (.iconst 0, 1) := by decide +kernel
theorem dX12_known_68 : decode cX12_known 68 = .ok (.iadd, 1) := by decide +kernel
theorem dX12_known_69 : decode cX12_known 69 = .ok (.istore_n 3, 1) := by decide +kernel
theorem dX12_known_70 : decode cX12_known 70 = .ok (.iinc 4 1, 3) := by decide +kernel
theorem dX12_known_73 : decode cX12_known 73 = .ok (.goto (-41), 3) := by decide +kernel
theorem dX12_known_76 : decode cX12_known 76 = .ok (.iload_n 3, 1) := by decide +kernel
theorem dX12_known_77 : decode cX12_known 77 = .ok (.ireturn, 1) := by decide +kernel
theorem dX12_sum_0 : decode cX12_sum 0 = .ok (.aload_n 0, 1) := by decide +kernel
theorem dX12_sum_1 : decode cX12_sum 1 = .ok (.iconst 0, 1) := by decide +kernel
theorem dX12_sum_2 : decode cX12_sum 2 = .ok (.putfield 123, 3) := by decide +kernel
theorem dX12_sum_5 : decode cX12_sum 5 = .ok (.aload_n 0, 1) := by decide +kernel
theorem dX12_sum_6 : decode cX12_sum 6 = .ok (.iload_n 1, 1) := by decide +kernel
theorem dX12_sum_7 : decode cX12_sum 7 = .ok (.invokevirtual 262, 3) := by decide +kernel
theorem dX12_sum_10 : decode cX12_sum 10 = .ok (.ifCond .eq 15, 3) := by decide +kernel
theorem dX12_sum_13 : decode cX12_sum 13 = .ok (.iload_n 2, 1) := by decide +kernel
theorem dX12_sum_14 : decode cX12_sum 14 = .ok (.ifCond .lt 11, 3) := by decide +kernel
theorem dX12_sum_17 : decode cX12_sum 17 = .ok (.iload_n 2, 1) := by decide +kernel
theorem dX12_sum_18 : decode cX12_sum 18 = .ok (.aload_n 0, 1) := by decide +kernel
theorem dX12_sum_19 : decode cX12_sum 19 = .ok (.getfield 239, 3) := by decide +kernel
theorem dX12_sum_22 : decode cX12_sum 22 = .ok (.if_icmp .le 5, 3) := by decide +kernel
theorem dX12_sum_25 : decode cX12_sum 25 = .ok (.iconst (-1), 1) := by decide +kernel
theorem dX12_sum_26 : decode cX12_sum 26 = .ok (.ireturn, 1) := by decide +kernel
theorem dX12_sum_27 : decode cX12_sum 27 = .ok (.iconst 0, 1) := by decide +kernel
theorem dX12_sum_28 : decode cX12_sum 28 = .ok (.istore_n 3, 1) := by decide +kernel
theorem dX12_sum_29 : decode cX12_sum 29 = .ok (.iconst 0, 1) := by decide +kernel
theorem dX12_sum_30 : decode cX12_sum 30 = .ok (.istore 4, 2) := by decide +kernel
theorem dX12_sum_32 : decode cX12_sum 32 = .ok (.iload 4, 2) := by decide +kernel
theorem dX12_sum_34 : decode cX12_sum 34 = .ok (.aload_n 0, 1) := by decide +kernel
theorem dX12_sum_35 : decode cX12_sum 35 = .ok (.getfield 313, 3) := by decide +kernel
theorem dX12_sum_38 : decode cX12_sum 38 = .ok (.if_icmp .ge 44, 3) := by decide +kernel
theorem dX12_sum_41 : decode cX12_sum 41 = .ok (.iload_n 3, 1) := by decide +kernel
theorem dX12_sum_42 : decode cX12_sum 42 = .ok (.aload_n 0, 1) := by decide +kernel
theorem dX12_sum_43 : decode cX12_sum 43 = .ok (.getfield 89, 3) := by decide +kernel
theorem dX12_sum_46 : decode cX12_sum 46 = .ok (.iload 4, 2) := by decide +kernel
theorem dX12_sum_48 : decode cX12_sum 48 = .ok (.iaload, 1) := by decide +kernel
theorem dX12_sum_49 : decode cX12_sum 49 = .ok (.iload_n 1, 1) := by decide +kernel
theorem dX12_sum_50 : decode cX12_sum 50 = .ok (.if_icmp .ne 23, 3) := by decide +kernel
theorem dX12_sum_53 : decode cX12_sum 53 = .ok (.aload_n 0, 1) := by decide +kernel
theorem dX12_sum_54 : decode cX12_sum 54 = .ok (.iload 4, 2) := by decide +kernel
theorem dX12_sum_56 : decode cX12_sum 56 = .ok (.invokevirtual 316, 3) := by decide +kernel
theorem dX12_sum_59 : decode cX12_sum 59 = .ok (.iload_n 2, 1) := by decide +kernel
theorem dX12_sum_60 : decode cX12_sum 60 = .ok (.if_icmp .gt 13, 3) := by decide +kernel
theorem dX12_sum_63 : decode cX12_sum 63 = .ok (.aload_n 0, 1) := by decide +kernel
theorem dX12_sum_64 : decode cX12_sum 64 = .ok (.getfield 104, 3) := by decide +kernel
theorem dX12_sum_67 : decode cX12_sum 67 = .ok (.iload 4, 2) := by decide +kernel
theorem dX12_sum_69 : decode cX12_sum 69 = .ok (.iaload, 1) := by decide +kernel
theorem dX12_sum_70 : decode cX12_sum 70 = .ok (.goto 4, 3) := by decide +kernel
theorem dX12_sum_73 : decode cX12_sum 73 = .ok (.iconst 0, 1) := by decide +kernel
theorem dX12_sum_74 : decode cX12_sum 74 = .ok (.iadd, 1) := by decide +kernel
theorem dX12_sum_75 : decode cX12_sum 75 = .ok (.istore_n 3, 1) := by decide +kernel
theorem dX12_sum_76 : decode cX12_sum 76 = .ok (.iinc 4 1, 3) := by decide +kernel
theorem dX12_sum_79 : decode cX12_sum 79 = .ok (.goto (-47), 3) := by decide +kernel
theorem dX12_sum_82 : decode cX12_sum 82 = .ok (.iload_n 3, 1) := by decide +kernel
theorem dX12_sum_83 : decode cX12_sum 83 = .ok (.ireturn, 1) := by decide +kernel
theorem dX12_homesFee_0 : decode cX12_homesFee 0 = .ok (.aload_n 0, 1) := by decide +kernel
theorem dX12_homesFee_1 : decode cX12_homesFee 1 = .ok (.getfield 201, 3) := by decide +kernel
theorem dX12_homesFee_4 : decode cX12_homesFee 4 = .ok (.iconst 1, 1) := by decide +kernel
theorem dX12_homesFee_5 : decode cX12_homesFee 5 = .ok (.isub, 1) := by decide +kernel
theorem dX12_homesFee_6 : decode cX12_homesFee 6 = .ok (.istore_n 2, 1) := by decide +kernel
theorem dX12_homesFee_7 : decode cX12_homesFee 7 = .ok (.iload_n 2, 1) := by decide +kernel
theorem dX12_homesFee_8 : decode cX12_homesFee 8 = .ok (.ifCond .lt 24, 3) := by decide +kernel
theorem dX12_homesFee_11 : decode cX12_homesFee 11 = .ok (.aload_n 0, 1) := by decide +kernel
theorem dX12_homesFee_12 : decode cX12_homesFee 12 = .ok (.getfield 24, 3) := by decide +kernel
theorem dX12_homesFee_15 : decode cX12_homesFee 15 = .ok (.iload_n 2, 1) := by decide +kernel
theorem dX12_homesFee_16 : decode cX12_homesFee 16 = .ok (.iaload, 1) := by decide +kernel
theorem dX12_homesFee_17 : decode cX12_homesFee 17 = .ok (.aload_n 0, 1) := by decide +kernel
theorem dX12_homesFee_18 : decode cX12_homesFee 18 = .ok (.getfield 101, 3) := by decide +kernel
theorem dX12_homesFee_21 : decode cX12_homesFee 21 = .ok (.iload_n 1, 1) := by decide +kernel
theorem dX12_homesFee_22 : decode cX12_homesFee 22 = .ok (.iaload, 1) := by decide +kernel
theorem dX12_homesFee_23 : decode cX12_homesFee 23 = .ok (.if_icmp .le 9, 3) := by decide +kernel
theorem dX12_homesFee_26 : decode cX12_homesFee 26 = .ok (.iinc 2 (-1), 3) := by decide +kernel
theorem dX12_homesFee_29 : decode cX12_homesFee 29 = .ok (.goto (-22), 3) := by decide +kernel
theorem dX12_homesFee_32 : decode cX12_homesFee 32 = .ok (.iload_n 2, 1) := by decide +kernel
theorem dX12_homesFee_33 : decode cX12_homesFee 33 = .ok (.ifCond .ge 7, 3) := by decide +kernel
theorem dX12_homesFee_36 : decode cX12_homesFee 36 = .ok (.iconst (-1), 1) := by decide +kernel
theorem dX12_homesFee_37 : decode cX12_homesFee 37 = .ok (.goto 38, 3) := by decide +kernel
theorem dX12_homesFee_40 : decode cX12_homesFee 40 = .ok (.aload_n 0, 1) := by decide +kernel
theorem dX12_homesFee_41 : decode cX12_homesFee 41 = .ok (.iload_n 2, 1) := by decide +kernel
theorem dX12_homesFee_42 : decode cX12_homesFee 42 = .ok (.aload_n 0, 1) := by decide +kernel
theorem dX12_homesFee_43 : decode cX12_homesFee 43 = .ok (.getfield 92, 3) := by decide +kernel
theorem dX12_homesFee_46 : decode cX12_homesFee 46 = .ok (.iload_n 1, 1) := by decide +kernel
theorem dX12_homesFee_47 : decode cX12_homesFee 47 = .ok (.iaload, 1) := by decide +kernel
theorem dX12_homesFee_48 : decode cX12_homesFee 48 = .ok (.aload_n 0, 1) := by decide +kernel
theorem dX12_homesFee_49 : decode cX12_homesFee 49 = .ok (.getfield 95, 3) := by decide +kernel
theorem dX12_homesFee_52 : decode cX12_homesFee 52 = .ok (.iload_n 1, 1) := by decide +kernel
theorem dX12_homesFee_53 : decode cX12_homesFee 53 = .ok (.iaload, 1) := by decide +kernel
theorem dX12_homesFee_54 : decode cX12_homesFee 54 = .ok (.aload_n 0, 1) := by decide +kernel
theorem dX12_homesFee_55 : decode cX12_homesFee 55 = .ok (.getfield 98, 3) := by decide +kernel
theorem dX12_homesFee_58 : decode cX12_homesFee 58 = .ok (.iload_n 1, 1) := by decide +kernel
theorem dX12_homesFee_59 : decode cX12_homesFee 59 = .ok (.iaload, 1) := by decide +kernel
theorem dX12_homesFee_60 : decode cX12_homesFee 60 = .ok (.aload_n 0, 1) := by decide +kernel
theorem dX12_homesFee_61 : decode cX12_homesFee 61 = .ok (.getfield 89, 3) := by decide +kernel
theorem dX12_homesFee_64 : decode cX12_homesFee 64 = .ok (.iload_n 1, 1) := by decide +kernel
theorem dX12_homesFee_65 : decode cX12_homesFee 65 = .ok (.iaload, 1) := by decide +kernel
theorem dX12_homesFee_66 : decode cX12_homesFee 66 = .ok (.aload_n 0, 1) := by decide +kernel
theorem dX12_homesFee_67 : decode cX12_homesFee 67 = .ok (.getfield 110, 3) := by decide +kernel
theorem dX12_homesFee_70 : decode cX12_homesFee 70 = .ok (.iload_n 1, 1) := by decide +kernel
theorem dX12_homesFee_71 : decode cX12_homesFee 71 = .ok (.iaload, 1) := by decide +kernel
theorem dX12_homesFee_72 : decode cX12_homesFee 72 = .ok (.invokevirtual 281, 3) := by decide +kernel
theorem dX12_homesFee_75 : decode cX12_homesFee 75 = .ok (.istore_n 3, 1) := by decide +kernel
theorem dX12_homesFee_76 : decode cX12_homesFee 76 = .ok (.iload_n 3, 1) := by decide +kernel
theorem dX12_homesFee_77 : decode cX12_homesFee 77 = .ok (.iconst (-1), 1) := by decide +kernel
theorem dX12_homesFee_78 : decode cX12_homesFee 78 = .ok (.if_icmp .ne 9, 3) := by decide +kernel
theorem dX12_homesFee_81 : decode cX12_homesFee 81 = .ok (.sipush (-10000), 3) := by decide +kernel
theorem dX12_homesFee_84 : decode cX12_homesFee 84 = .ok (.goto 4, 3) := by decide +kernel
theorem dX12_homesFee_87 : decode cX12_homesFee 87 = .ok (.iload_n 3, 1) := by decide +kernel
theorem dX12_homesFee_88 : decode cX12_homesFee 88 = .ok (.ireturn, 1) := by decide +kernel
theorem dX12_homes_0 : decode cX12_homes 0 = .ok (.aload_n 0, 1) := by decide +kernel
theorem dX12_homes_1 : decode cX12_homes 1 = .ok (.iconst 0, 1) := by decide +kernel
theorem dX12_homes_2 : decode cX12_homes 2 = .ok (.putfield 123, 3) := by decide +kernel
theorem dX12_homes_5 : decode cX12_homes 5 = .ok (.iload_n 1, 1) := by decide +kernel
theorem dX12_homes_6 : decode cX12_homes 6 = .ok (.ifCond .lt 19, 3) := by decide +kernel
theorem dX12_homes_9 : decode cX12_homes 9 = .ok (.iload_n 1, 1) := by decide +kernel
theorem dX12_homes_10 : decode cX12_homes 10 = .ok (.aload_n 0, 1) := by decide +kernel
theorem dX12_homes_11 : decode cX12_homes 11 = .ok (.getfield 313, 3) := by decide +kernel
theorem dX12_homes_14 : decode cX12_homes 14 = .ok (.if_icmp .ge 11, 3) := by decide +kernel
theorem dX12_homes_17 : decode cX12_homes 17 = .ok (.aload_n 0, 1) := by decide +kernel
theorem dX12_homes_18 : decode cX12_homes 18 = .ok (.iload_n 1, 1) := by decide +kernel
theorem dX12_homes_19 : decode cX12_homes 19 = .ok (.invokevirtual 319, 3) := by decide +kernel
theorem dX12_homes_22 : decode cX12_homes 22 = .ok (.goto 6, 3) := by decide +kernel
theorem dX12_homes_25 : decode cX12_homes 25 = .ok (.sipush (-10000), 3) := by decide +kernel
theorem dX12_homes_28 : decode cX12_homes 28 = .ok (.ireturn, 1) := by decide +kernel
theorem dX12_difference_0 : decode cX12_difference 0 = .ok (.aload_n 0, 1) := by decide +kernel
theorem dX12_difference_1 : decode cX12_difference 1 = .ok (.iconst 0, 1) := by decide +kernel
theorem dX12_difference_2 : decode cX12_difference 2 = .ok (.putfield 123, 3) := by decide +kernel
theorem dX12_difference_5 : decode cX12_difference 5 = .ok (.aload_n 0, 1) := by decide +kernel
theorem dX12_difference_6 : decode cX12_difference 6 = .ok (.iload_n 1, 1) := by decide +kernel
theorem dX12_difference_7 : decode cX12_difference 7 = .ok (.invokevirtual 262, 3) := by decide +kernel
theorem dX12_difference_10 : decode cX12_difference 10 = .ok (.ifCond .ne 5, 3) := by decide +kernel
theorem dX12_difference_13 : decode cX12_difference 13 = .ok (.iconst 0, 1) := by decide +kernel
theorem dX12_difference_14 : decode cX12_difference 14 = .ok (.ireturn, 1) := by decide +kernel
theorem dX12_difference_15 : decode cX12_difference 15 = .ok (.iconst 0, 1) := by decide +kernel
theorem dX12_difference_16 : decode cX12_difference 16 = .ok (.istore_n 2, 1) := by decide +kernel
theorem dX12_difference_17 : decode cX12_difference 17 = .ok (.iconst 0, 1) := by decide +kernel
theorem dX12_difference_18 : decode cX12_difference 18 = .ok (.istore_n 3, 1) := by decide +kernel
theorem dX12_difference_19 : decode cX12_difference 19 = .ok (.iload_n 3, 1) := by decide +kernel
theorem dX12_difference_20 : decode cX12_difference 20 = .ok (.aload_n 0, 1) := by decide +kernel
theorem dX12_difference_21 : decode cX12_difference 21 = .ok (.getfield 313, 3) := by decide +kernel
theorem dX12_difference_24 : decode cX12_difference 24 = .ok (.if_icmp .ge 61, 3) := by decide +kernel
theorem dX12_difference_27 : decode cX12_difference 27 = .ok (.iload_n 2, 1) := by decide +kernel
theorem dX12_difference_28 : decode cX12_difference 28 = .ok (.aload_n 0, 1) := by decide +kernel
theorem dX12_difference_29 : decode cX12_difference 29 = .ok (.getfield 89, 3) := by decide +kernel
theorem dX12_difference_32 : decode cX12_difference 32 = .ok (.iload_n 3, 1) := by decide +kernel
theorem dX12_difference_33 : decode cX12_difference 33 = .ok (.iaload, 1) := by decide +kernel
theorem dX12_difference_34 : decode cX12_difference 34 = .ok (.iload_n 1, 1) := by decide +kernel
theorem dX12_difference_35 : decode cX12_difference 35 = .ok (.if_icmp .ne 41, 3) := by decide +kernel
theorem dX12_difference_38 : decode cX12_difference 38 = .ok (.aload_n 0, 1) := by decide +kernel
theorem dX12_difference_39 : decode cX12_difference 39 = .ok (.iload_n 3, 1) := by decide +kernel
theorem dX12_difference_40 : decode cX12_difference 40 = .ok (.invokevirtual 316, 3) := by decide +kernel
theorem dX12_difference_43 : decode cX12_difference 43 = .ok (.aload_n 0, 1) := by decide +kernel
theorem dX12_difference_44 : decode cX12_difference 44 = .ok (.getfield 239, 3) := by decide +kernel
theorem dX12_difference_47 : decode cX12_difference 47 = .ok (.if_icmp .gt 29, 3) := by decide +kernel
theorem dX12_difference_50 : decode cX12_difference 50 = .ok (.aload_n 0, 1) := by decide +kernel
theorem dX12_difference_51 : decode cX12_difference 51 = .ok (.iload_n 3, 1) := by decide +kernel
theorem dX12_difference_52 : decode cX12_difference 52 = .ok (.invokevirtual 319, 3) := by decide +kernel
theorem dX12_difference_55 : decode cX12_difference 55 = .ok (.sipush (-10000), 3) := by decide +kernel
theorem dX12_difference_58 : decode cX12_difference 58 = .ok (.if_icmp .eq 18, 3) := by decide +kernel
theorem dX12_difference_61 : decode cX12_difference 61 = .ok (.aload_n 0, 1) := by decide +kernel
theorem dX12_difference_62 : decode cX12_difference 62 = .ok (.getfield 104, 3) := by decide +kernel
theorem dX12_difference_65 : decode cX12_difference 65 = .ok (.iload_n 3, 1) := by decide +kernel
theorem dX12_difference_66 : decode cX12_difference 66 = .ok (.iaload, 1) := by decide +kernel
theorem dX12_difference_67 : decode cX12_difference 67 = .ok (.aload_n 0, 1) := by decide +kernel
theorem dX12_difference_68 : decode cX12_difference 68 = .ok (.iload_n 3, 1) := by decide +kernel
theorem dX12_difference_69 : decode cX12_difference 69 = .ok (.invokevirtual 319, 3) := by decide +kernel
theorem dX12_difference_72 : decode cX12_difference 72 = .ok (.isub, 1) := by decide +kernel
theorem dX12_difference_73 : decode cX12_difference 73 = .ok (.goto 4, 3) := by decide +kernel
theorem dX12_difference_76 : decode cX12_difference 76 = .ok (.iconst 0, 1) := by decide +kernel
theorem dX12_difference_77 : decode cX12_difference 77 = .ok (.iadd, 1) := by decide +kernel
theorem dX12_difference_78 : decode cX12_difference 78 = .ok (.istore_n 2, 1) := by decide +kernel
theorem dX12_difference_79 : decode cX12_difference 79 = .ok (.iinc 3 1, 3) := by decide +kernel
theorem dX12_difference_82 : decode cX12_difference 82 = .ok (.goto (-63), 3) := by decide +kernel
theorem dX12_difference_85 : decode cX12_difference 85 = .ok (.iload_n 2, 1) := by decide +kernel
theorem dX12_difference_86 : decode cX12_difference 86 = .ok (.ireturn, 1) := by decide +kernel
theorem dX12_unlike_0 : decode cX12_unlike 0 = .ok (.aload_n 0, 1) := by decide +kernel
theorem dX12_unlike_1 : decode cX12_unlike 1 = .ok (.iconst 0, 1) := by decide +kernel
theorem dX12_unlike_2 : decode cX12_unlike 2 = .ok (.putfield 123, 3) := by decide +kernel
theorem dX12_unlike_5 : decode cX12_unlike 5 = .ok (.aload_n 0, 1) := by decide +kernel
theorem dX12_unlike_6 : decode cX12_unlike 6 = .ok (.iload_n 1, 1) := by decide +kernel
theorem dX12_unlike_7 : decode cX12_unlike 7 = .ok (.invokevirtual 262, 3) := by decide +kernel
theorem dX12_unlike_10 : decode cX12_unlike 10 = .ok (.ifCond .ne 5, 3) := by decide +kernel
theorem dX12_unlike_13 : decode cX12_unlike 13 = .ok (.iconst (-1), 1) := by decide +kernel
theorem dX12_unlike_14 : decode cX12_unlike 14 = .ok (.ireturn, 1) := by decide +kernel
theorem dX12_unlike_15 : decode cX12_unlike 15 = .ok (.iconst 0, 1) := by decide +kernel
theorem dX12_unlike_16 : decode cX12_unlike 16 = .ok (.istore_n 2, 1) := by decide +kernel
theorem dX12_unlike_17 : decode cX12_unlike 17 = .ok (.iconst 0, 1) := by decide +kernel
theorem dX12_unlike_18 : decode cX12_unlike 18 = .ok (.istore_n 3, 1) := by decide +kernel
theorem dX12_unlike_19 : decode cX12_unlike 19 = .ok (.iload_n 3, 1) := by decide +kernel
theorem dX12_unlike_20 : decode cX12_unlike 20 = .ok (.aload_n 0, 1) := by decide +kernel
theorem dX12_unlike_21 : decode cX12_unlike 21 = .ok (.getfield 313, 3) := by decide +kernel
theorem dX12_unlike_24 : decode cX12_unlike 24 = .ok (.if_icmp .ge 53, 3) := by decide +kernel
theorem dX12_unlike_27 : decode cX12_unlike 27 = .ok (.iload_n 2, 1) := by decide +kernel
theorem dX12_unlike_28 : decode cX12_unlike 28 = .ok (.aload_n 0, 1) := by decide +kernel
theorem dX12_unlike_29 : decode cX12_unlike 29 = .ok (.getfield 89, 3) := by decide +kernel
theorem dX12_unlike_32 : decode cX12_unlike 32 = .ok (.iload_n 3, 1) := by decide +kernel
theorem dX12_unlike_33 : decode cX12_unlike 33 = .ok (.iaload, 1) := by decide +kernel
theorem dX12_unlike_34 : decode cX12_unlike 34 = .ok (.iload_n 1, 1) := by decide +kernel
theorem dX12_unlike_35 : decode cX12_unlike 35 = .ok (.if_icmp .ne 33, 3) := by decide +kernel
theorem dX12_unlike_38 : decode cX12_unlike 38 = .ok (.aload_n 0, 1) := by decide +kernel
theorem dX12_unlike_39 : decode cX12_unlike 39 = .ok (.iload_n 3, 1) := by decide +kernel
theorem dX12_unlike_40 : decode cX12_unlike 40 = .ok (.invokevirtual 316, 3) := by decide +kernel
theorem dX12_unlike_43 : decode cX12_unlike 43 = .ok (.aload_n 0, 1) := by decide +kernel
theorem dX12_unlike_44 : decode cX12_unlike 44 = .ok (.getfield 239, 3) := by decide +kernel
theorem dX12_unlike_47 : decode cX12_unlike 47 = .ok (.if_icmp .gt 21, 3) := by decide +kernel
theorem dX12_unlike_50 : decode cX12_unlike 50 = .ok (.aload_n 0, 1) := by decide +kernel
theorem dX12_unlike_51 : decode cX12_unlike 51 = .ok (.iload_n 3, 1) := by decide +kernel
theorem dX12_unlike_52 : decode cX12_unlike 52 = .ok (.invokevirtual 319, 3) := by decide +kernel
theorem dX12_unlike_55 : decode cX12_unlike 55 = .ok (.aload_n 0, 1) := by decide +kernel
theorem dX12_unlike_56 : decode cX12_unlike 56 = .ok (.getfield 104, 3) := by decide +kernel
theorem dX12_unlike_59 : decode cX12_unlike 59 = .ok (.iload_n 3, 1) := by decide +kernel
theorem dX12_unlike_60 : decode cX12_unlike 60 = .ok (.iaload, 1) := by decide +kernel
theorem dX12_unlike_61 : decode cX12_unlike 61 = .ok (.if_icmp .eq 7, 3) := by decide +kernel
theorem dX12_unlike_64 : decode cX12_unlike 64 = .ok (.iconst 1, 1) := by decide +kernel
theorem dX12_unlike_65 : decode cX12_unlike 65 = .ok (.goto 4, 3) := by decide +kernel
theorem dX12_unlike_68 : decode cX12_unlike 68 = .ok (.iconst 0, 1) := by decide +kernel
theorem dX12_unlike_69 : decode cX12_unlike 69 = .ok (.iadd, 1) := by decide +kernel
theorem dX12_unlike_70 : decode cX12_unlike 70 = .ok (.istore_n 2, 1) := by decide +kernel
theorem dX12_unlike_71 : decode cX12_unlike 71 = .ok (.iinc 3 1, 3) := by decide +kernel
theorem dX12_unlike_74 : decode cX12_unlike 74 = .ok (.goto (-55), 3) := by decide +kernel
theorem dX12_unlike_77 : decode cX12_unlike 77 = .ok (.iload_n 2, 1) := by decide +kernel
theorem dX12_unlike_78 : decode cX12_unlike 78 = .ok (.ireturn, 1) := by decide +kernel
theorem dX12_count_0 : decode cX12_count 0 = .ok (.aload_n 0, 1) := by decide +kernel
theorem dX12_count_1 : decode cX12_count 1 = .ok (.iconst 0, 1) := by decide +kernel
theorem dX12_count_2 : decode cX12_count 2 = .ok (.putfield 123, 3) := by decide +kernel
theorem dX12_count_5 : decode cX12_count 5 = .ok (.iload_n 1, 1) := by decide +kernel
theorem dX12_count_6 : decode cX12_count 6 = .ok (.tableswitch 59 0 4 #[34, 39, 44, 49, 54], 34) := by decide +kernel
theorem dX12_count_40 : decode cX12_count 40 = .ok (.aload_n 0, 1) := by decide +kernel
theorem dX12_count_41 : decode cX12_count 41 = .ok (.getfield 236, 3) := by decide +kernel
theorem dX12_count_44 : decode cX12_count 44 = .ok (.ireturn, 1) := by decide +kernel
theorem dX12_count_45 : decode cX12_count 45 = .ok (.aload_n 0, 1) := by decide +kernel
theorem dX12_count_46 : decode cX12_count 46 = .ok (.getfield 201, 3) := by decide +kernel
theorem dX12_count_49 : decode cX12_count 49 = .ok (.ireturn, 1) := by decide +kernel
theorem dX12_count_50 : decode cX12_count 50 = .ok (.aload_n 0, 1) := by decide +kernel
theorem dX12_count_51 : decode cX12_count 51 = .ok (.getfield 313, 3) := by decide +kernel
theorem dX12_count_54 : decode cX12_count 54 = .ok (.ireturn, 1) := by decide +kernel
theorem dX12_count_55 : decode cX12_count 55 = .ok (.aload_n 0, 1) := by decide +kernel
theorem dX12_count_56 : decode cX12_count 56 = .ok (.getfield 239, 3) := by decide +kernel
theorem dX12_count_59 : decode cX12_count 59 = .ok (.ireturn, 1) := by decide +kernel
theorem dX12_count_60 : decode cX12_count 60 = .ok (.aload_n 0, 1) := by decide +kernel
theorem dX12_count_61 : decode cX12_count 61 = .ok (.getfield 250, 3) := by decide +kernel
theorem dX12_count_64 : decode cX12_count 64 = .ok (.ireturn, 1) := by decide +kernel
theorem dX12_count_65 : decode cX12_count 65 = .ok (.iconst (-1), 1) := by decide +kernel
theorem dX12_count_66 : decode cX12_count 66 = .ok (.ireturn, 1) := by decide +kernel
theorem dX12_trouble_0 : decode cX12_trouble 0 = .ok (.aload_n 0, 1) := by decide +kernel
theorem dX12_trouble_1 : decode cX12_trouble 1 = .ok (.iconst 0, 1) := by decide +kernel
theorem dX12_trouble_2 : decode cX12_trouble 2 = .ok (.putfield 123, 3) := by decide +kernel
theorem dX12_trouble_5 : decode cX12_trouble 5 = .ok (.aload_n 0, 1) := by decide +kernel
theorem dX12_trouble_6 : decode cX12_trouble 6 = .ok (.getfield 126, 3) := by decide +kernel
theorem dX12_trouble_9 : decode cX12_trouble 9 = .ok (.ireturn, 1) := by decide +kernel
