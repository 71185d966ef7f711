theorem dX8_drawn_19 : decode cX8_drawn 19 = .ok (.iconst 2, 1) := by decide +kernel
theorem dX8_drawn_20 : decode cX8_drawn 20 = .ok (.iaload, 1) := by decide +kernel
theorem dX8_drawn_21 : decode cX8_drawn 21 = .ok (.irem, 1) := by decide +kernel
theorem dX8_drawn_22 : decode cX8_drawn 22 = .ok (.istore_n 2, 1) := by decide +kernel
theorem dX8_drawn_23 : decode cX8_drawn 23 = .ok (.aload_n 0, 1) := by decide +kernel
theorem dX8_drawn_24 : decode cX8_drawn 24 = .ok (.invokevirtual 206, 3) := by decide +kernel
theorem dX8_drawn_27 : decode cX8_drawn 27 = .ok (.bipush 64, 2) := by decide +kernel
theorem dX8_drawn_29 : decode cX8_drawn 29 = .ok (.irem, 1) := by decide +kernel
theorem dX8_drawn_30 : decode cX8_drawn 30 = .ok (.istore_n 3, 1) := by decide +kernel
theorem dX8_drawn_31 : decode cX8_drawn 31 = .ok (.aload_n 0, 1) := by decide +kernel
theorem dX8_drawn_32 : decode cX8_drawn 32 = .ok (.invokevirtual 206, 3) := by decide +kernel
theorem dX8_drawn_35 : decode cX8_drawn 35 = .ok (.bipush 16, 2) := by decide +kernel
theorem dX8_drawn_37 : decode cX8_drawn 37 = .ok (.irem, 1) := by decide +kernel
theorem dX8_drawn_38 : decode cX8_drawn 38 = .ok (.ifCond .ne 7, 3) := by decide +kernel
theorem dX8_drawn_41 : decode cX8_drawn 41 = .ok (.iconst 1, 1) := by decide +kernel
theorem dX8_drawn_42 : decode cX8_drawn 42 = .ok (.goto 4, 3) := by decide +kernel
theorem dX8_drawn_45 : decode cX8_drawn 45 = .ok (.iconst 0, 1) := by decide +kernel
theorem dX8_drawn_46 : decode cX8_drawn 46 = .ok (.istore 4, 2) := by decide +kernel
theorem dX8_drawn_48 : decode cX8_drawn 48 = .ok (.aload_n 0, 1) := by decide +kernel
theorem dX8_drawn_49 : decode cX8_drawn 49 = .ok (.iload_n 2, 1) := by decide +kernel
theorem dX8_drawn_50 : decode cX8_drawn 50 = .ok (.iload_n 3, 1) := by decide +kernel
theorem dX8_drawn_51 : decode cX8_drawn 51 = .ok (.invokevirtual 111, 3) := by decide +kernel
theorem dX8_drawn_54 : decode cX8_drawn 54 = .ok (.ifCond .eq 7, 3) := by decide +kernel
theorem dX8_drawn_57 : decode cX8_drawn 57 = .ok (.iconst 0, 1) := by decide +kernel
theorem dX8_drawn_58 : decode cX8_drawn 58 = .ok (.goto 11, 3) := by decide +kernel
theorem dX8_drawn_61 : decode cX8_drawn 61 = .ok (.aload_n 0, 1) := by decide +kernel
theorem dX8_drawn_62 : decode cX8_drawn 62 = .ok (.iload_n 2, 1) := by decide +kernel
theorem dX8_drawn_63 : decode cX8_drawn 63 = .ok (.iload_n 3, 1) := by decide +kernel
theorem dX8_drawn_64 : decode cX8_drawn 64 = .ok (.iload 4, 2) := by decide +kernel
theorem dX8_drawn_66 : decode cX8_drawn 66 = .ok (.invokevirtual 144, 3) := by decide +kernel
theorem dX8_drawn_69 : decode cX8_drawn 69 = .ok (.istore_n 1, 1) := by decide +kernel
theorem dX8_drawn_70 : decode cX8_drawn 70 = .ok (.aload_n 0, 1) := by decide +kernel
theorem dX8_drawn_71 : decode cX8_drawn 71 = .ok (.getfield 9, 3) := by decide +kernel
theorem dX8_drawn_74 : decode cX8_drawn 74 = .ok (.iconst 0, 1) := by decide +kernel
theorem dX8_drawn_75 : decode cX8_drawn 75 = .ok (.dup2, 1) := by decide +kernel
theorem dX8_drawn_76 : decode cX8_drawn 76 = .ok (.iaload, 1) := by decide +kernel
theorem dX8_drawn_77 : decode cX8_drawn 77 = .ok (.iconst 1, 1) := by decide +kernel
theorem dX8_drawn_78 : decode cX8_drawn 78 = .ok (.iadd, 1) := by decide +kernel
theorem dX8_drawn_79 : decode cX8_drawn 79 = .ok (.iastore, 1) := by decide +kernel
theorem dX8_drawn_80 : decode cX8_drawn 80 = .ok (.iload_n 1, 1) := by decide +kernel
theorem dX8_drawn_81 : decode cX8_drawn 81 = .ok (.ireturn, 1) := by decide +kernel
theorem dX8_loose_0 : decode cX8_loose 0 = .ok (.iload_n 1, 1) := by decide +kernel
theorem dX8_loose_1 : decode cX8_loose 1 = .ok (.iconst 1, 1) := by decide +kernel
theorem dX8_loose_2 : decode cX8_loose 2 = .ok (.bipush 20, 2) := by decide +kernel
theorem dX8_loose_4 : decode cX8_loose 4 = .ok (.invokestatic 59, 3) := by decide +kernel
theorem dX8_loose_7 : decode cX8_loose 7 = .ok (.ifCond .ne 10, 3) := by decide +kernel
theorem dX8_loose_10 : decode cX8_loose 10 = .ok (.aload_n 0, 1) := by decide +kernel
theorem dX8_loose_11 : decode cX8_loose 11 = .ok (.ldc 106, 2) := by decide +kernel
theorem dX8_loose_13 : decode cX8_loose 13 = .ok (.invokevirtual 107, 3) := by decide +kernel
theorem dX8_loose_16 : decode cX8_loose 16 = .ok (.ireturn, 1) := by decide +kernel
theorem dX8_loose_17 : decode cX8_loose 17 = .ok (.aload_n 0, 1) := by decide +kernel
theorem dX8_loose_18 : decode cX8_loose 18 = .ok (.getfield 9, 3) := by decide +kernel
theorem dX8_loose_21 : decode cX8_loose 21 = .ok (.iconst 0, 1) := by decide +kernel
theorem dX8_loose_22 : decode cX8_loose 22 = .ok (.iaload, 1) := by decide +kernel
theorem dX8_loose_23 : decode cX8_loose 23 = .ok (.iload_n 1, 1) := by decide +kernel
theorem dX8_loose_24 : decode cX8_loose 24 = .ok (.iadd, 1) := by decide +kernel
theorem dX8_loose_25 : decode cX8_loose 25 = .ok (.sipush 9999, 3) := by decide +kernel
theorem dX8_loose_28 : decode cX8_loose 28 = .ok (.if_icmp .le 10, 3) := by decide +kernel
theorem dX8_loose_31 : decode cX8_loose 31 = .ok (.aload_n 0, 1) := by decide +kernel
theorem dX8_loose_32 : decode cX8_loose 32 = .ok (.ldc 143, 2) := by decide +kernel
theorem dX8_loose_34 : decode cX8_loose 34 = .ok (.invokevirtual 107, 3) := by decide +kernel
theorem dX8_loose_37 : decode cX8_loose 37 = .ok (.ireturn, 1) := by decide +kernel
theorem dX8_loose_38 : decode cX8_loose 38 = .ok (.iconst 0, 1) := by decide +kernel
theorem dX8_loose_39 : decode cX8_loose 39 = .ok (.istore_n 2, 1) := by decide +kernel
theorem dX8_loose_40 : decode cX8_loose 40 = .ok (.iconst 0, 1) := by decide +kernel
theorem dX8_loose_41 : decode cX8_loose 41 = .ok (.istore_n 3, 1) := by decide +kernel
theorem dX8_loose_42 : decode cX8_loose 42 = .ok (.iload_n 3, 1) := by decide +kernel
theorem dX8_loose_43 : decode cX8_loose 43 = .ok (.iload_n 1, 1) := by decide +kernel
theorem dX8_loose_44 : decode cX8_loose 44 = .ok (.if_icmp .ge 16, 3) := by decide +kernel
theorem dX8_loose_47 : decode cX8_loose 47 = .ok (.iload_n 2, 1) := by decide +kernel
theorem dX8_loose_48 : decode cX8_loose 48 = .ok (.aload_n 0, 1) := by decide +kernel
theorem dX8_loose_49 : decode cX8_loose 49 = .ok (.invokevirtual 209, 3) := by decide +kernel
theorem dX8_loose_52 : decode cX8_loose 52 = .ok (.iadd, 1) := by decide +kernel
theorem dX8_loose_53 : decode cX8_loose 53 = .ok (.istore_n 2, 1) := by decide +kernel
theorem dX8_loose_54 : decode cX8_loose 54 = .ok (.iinc 3 1, 3) := by decide +kernel
theorem dX8_loose_57 : decode cX8_loose 57 = .ok (.goto (-15), 3) := by decide +kernel
theorem dX8_loose_60 : decode cX8_loose 60 = .ok (.iload_n 2, 1) := by decide +kernel
theorem dX8_loose_61 : decode cX8_loose 61 = .ok (.ireturn, 1) := by decide +kernel
theorem dX8_day_0 : decode cX8_day 0 = .ok (.iload_n 1, 1) := by decide +kernel
theorem dX8_day_1 : decode cX8_day 1 = .ok (.iconst 0, 1) := by decide +kernel
theorem dX8_day_2 : decode cX8_day 2 = .ok (.sipush 9999, 3) := by decide +kernel
theorem dX8_day_5 : decode cX8_day 5 = .ok (.invokestatic 59, 3) := by decide +kernel
theorem dX8_day_8 : decode cX8_day 8 = .ok (.ifCond .eq 12, 3) := by decide +kernel
theorem dX8_day_11 : decode cX8_day 11 = .ok (.aload_n 0, 1) := by decide +kernel
theorem dX8_day_12 : decode cX8_day 12 = .ok (.iconst 0, 1) := by decide +kernel
theorem dX8_day_13 : decode cX8_day 13 = .ok (.iload_n 1, 1) := by decide +kernel
theorem dX8_day_14 : decode cX8_day 14 = .ok (.invokevirtual 120, 3) := by decide +kernel
theorem dX8_day_17 : decode cX8_day 17 = .ok (.goto 9, 3) := by decide +kernel
theorem dX8_day_20 : decode cX8_day 20 = .ok (.aload_n 0, 1) := by decide +kernel
theorem dX8_day_21 : decode cX8_day 21 = .ok (.ldc 106, 2) := by decide +kernel
theorem dX8_day_23 : decode cX8_day 23 = .ok (.invokevirtual 107, 3) := by decide +kernel
theorem dX8_day_26 : decode cX8_day 26 = .ok (.ireturn, 1) := by decide +kernel
theorem dX8_seed_0 : decode cX8_seed 0 = .ok (.aload_n 0, 1) := by decide +kernel
theorem dX8_seed_1 : decode cX8_seed 1 = .ok (.iconst 1, 1) := by decide +kernel
theorem dX8_seed_2 : decode cX8_seed 2 = .ok (.iload_n 1, 1) := by decide +kernel
theorem dX8_seed_3 : decode cX8_seed 3 = .ok (.invokevirtual 120, 3) := by decide +kernel
theorem dX8_seed_6 : decode cX8_seed 6 = .ok (.ireturn, 1) := by decide +kernel
theorem dX8_figuresOf_0 : decode cX8_figuresOf 0 = .ok (.iconst 0, 1) := by decide +kernel
theorem dX8_figuresOf_1 : decode cX8_figuresOf 1 = .ok (.istore_n 1, 1) := by decide +kernel
theorem dX8_figuresOf_2 : decode cX8_figuresOf 2 = .ok (.iload_n 0, 1) := by decide +kernel
theorem dX8_figuresOf_3 : decode cX8_figuresOf 3 = .ok (.istore_n 2, 1) := by decide +kernel
theorem dX8_figuresOf_4 : decode cX8_figuresOf 4 = .ok (.iconst 0, 1) := by decide +kernel
theorem dX8_figuresOf_5 : decode cX8_figuresOf 5 = .ok (.istore_n 3, 1) := by decide +kernel
theorem dX8_figuresOf_6 : decode cX8_figuresOf 6 = .ok (.iload_n 3, 1) := by decide +kernel
theorem dX8_figuresOf_7 : decode cX8_figuresOf 7 = .ok (.bipush 6, 2) := by decide +kernel
theorem dX8_figuresOf_9 : decode cX8_figuresOf 9 = .ok (.if_icmp .ge 28, 3) := by decide +kernel
theorem dX8_figuresOf_12 : decode cX8_figuresOf 12 = .ok (.iload_n 1, 1) := by decide +kernel
theorem dX8_figuresOf_13 : decode cX8_figuresOf 13 = .ok (.iload_n 2, 1) := by decide +kernel
theorem dX8_figuresOf_14 : decode cX8_figuresOf 14 = .ok (.iconst 3, 1) := by decide +kernel
theorem dX8_figuresOf_15 : decode cX8_figuresOf 15 = .ok (.irem, 1) := by decide +kernel
theorem dX8_figuresOf_16 : decode cX8_figuresOf 16 = .ok (.iconst 2, 1) := by decide +kernel
theorem dX8_figuresOf_17 : decode cX8_figuresOf 17 = .ok (.if_icmp .ne 7, 3) := by decide +kernel
theorem dX8_figuresOf_20 : decode cX8_figuresOf 20 = .ok (.iconst 0, 1) := by decide +kernel
theorem dX8_figuresOf_21 : decode cX8_figuresOf 21 = .ok (.goto 4, 3) := by decide +kernel
theorem dX8_figuresOf_24 : decode cX8_figuresOf 24 = .ok (.iconst 1, 1) := by decide +kernel
theorem dX8_figuresOf_25 : decode cX8_figuresOf 25 = .ok (.iadd, 1) := by decide +kernel
theorem dX8_figuresOf_26 : decode cX8_figuresOf 26 = .ok (.istore_n 1, 1) := by decide +kernel
theorem dX8_figuresOf_27 : decode cX8_figuresOf 27 = .ok (.iload_n 2, 1) := by decide +kernel
theorem dX8_figuresOf_28 : decode cX8_figuresOf 28 = .ok (.iconst 3, 1) := by decide +kernel
theorem dX8_figuresOf_29 : decode cX8_figuresOf 29 = .ok (.idiv, 1) := by decide +kernel
theorem dX8_figuresOf_30 : decode cX8_figuresOf 30 = .ok (.istore_n 2, 1) := by decide +kernel
theorem dX8_figuresOf_31 : decode cX8_figuresOf 31 = .ok (.iinc 3 1, 3) := by decide +kernel
theorem dX8_figuresOf_34 : decode cX8_figuresOf 34 = .ok (.goto (-28), 3) := by decide +kernel
theorem dX8_figuresOf_37 : decode cX8_figuresOf 37 = .ok (.iload_n 1, 1) := by decide +kernel
theorem dX8_figuresOf_38 : decode cX8_figuresOf 38 = .ok (.ireturn, 1) := by decide +kernel
theorem dX8_vows_0 : decode cX8_vows 0 = .ok (.iload_n 1, 1) := by decide +kernel
theorem dX8_vows_1 : decode cX8_vows 1 = .ok (.iconst 0, 1) := by decide +kernel
theorem dX8_vows_2 : decode cX8_vows 2 = .ok (.iconst 3, 1) := by decide +kernel
theorem dX8_vows_3 : decode cX8_vows 3 = .ok (.invokestatic 59, 3) := by decide +kernel
theorem dX8_vows_6 : decode cX8_vows 6 = .ok (.ifCond .ne 10, 3) := by decide +kernel
theorem dX8_vows_9 : decode cX8_vows 9 = .ok (.aload_n 0, 1) := by decide +kernel
theorem dX8_vows_10 : decode cX8_vows 10 = .ok (.ldc 106, 2) := by decide +kernel
theorem dX8_vows_12 : decode cX8_vows 12 = .ok (.invokevirtual 107, 3) := by decide +kernel
theorem dX8_vows_15 : decode cX8_vows 15 = .ok (.ireturn, 1) := by decide +kernel
theorem dX8_vows_16 : decode cX8_vows 16 = .ok (.aload_n 0, 1) := by decide +kernel
theorem dX8_vows_17 : decode cX8_vows 17 = .ok (.invokevirtual 78, 3) := by decide +kernel
theorem dX8_vows_20 : decode cX8_vows 20 = .ok (.iconst (-1), 1) := by decide +kernel
theorem dX8_vows_21 : decode cX8_vows 21 = .ok (.istore_n 2, 1) := by decide +kernel
theorem dX8_vows_22 : decode cX8_vows 22 = .ok (.iconst (-1), 1) := by decide +kernel
theorem dX8_vows_23 : decode cX8_vows 23 = .ok (.istore_n 3, 1) := by decide +kernel
theorem dX8_vows_24 : decode cX8_vows 24 = .ok (.sipush 728, 3) := by decide +kernel
theorem dX8_vows_27 : decode cX8_vows 27 = .ok (.istore 4, 2) := by decide +kernel
theorem dX8_vows_29 : decode cX8_vows 29 = .ok (.iload 4, 2) := by decide +kernel
theorem dX8_vows_31 : decode cX8_vows 31 = .ok (.ifCond .lt 71, 3) := by decide +kernel
theorem dX8_vows_34 : decode cX8_vows 34 = .ok (.aload_n 0, 1) := by decide +kernel
theorem dX8_vows_35 : decode cX8_vows 35 = .ok (.getfield 32, 3) := by decide +kernel
theorem dX8_vows_38 : decode cX8_vows 38 = .ok (.iload 4, 2) := by decide +kernel
theorem dX8_vows_40 : decode cX8_vows 40 = .ok (.baload, 1) := by decide +kernel
theorem dX8_vows_41 : decode cX8_vows 41 = .ok (.ifCond .eq 8, 3) := by decide +kernel
theorem dX8_vows_44 : decode cX8_vows 44 = .ok (.iload 4, 2) := by decide +kernel
theorem dX8_vows_46 : decode cX8_vows 46 = .ok (.goto 4, 3) := by decide +kernel
theorem dX8_vows_49 : decode cX8_vows 49 = .ok (.iload_n 2, 1) := by decide +kernel
theorem dX8_vows_50 : decode cX8_vows 50 = .ok (.istore_n 2, 1) := by decide +kernel
theorem dX8_vows_51 : decode cX8_vows 51 = .ok (.aload_n 0, 1) := by decide +kernel
theorem dX8_vows_52 : decode cX8_vows 52 = .ok (.getfield 32, 3) := by decide +kernel
theorem dX8_vows_55 : decode cX8_vows 55 = .ok (.iload 4, 2) := by decide +kernel
theorem dX8_vows_57 : decode cX8_vows 57 = .ok (.baload, 1) := by decide +kernel
theorem dX8_vows_58 : decode cX8_vows 58 = .ok (.ifCond .eq 23, 3) := by decide +kernel
theorem dX8_vows_61 : decode cX8_vows 61 = .ok (.iload_n 3, 1) := by decide +kernel
theorem dX8_vows_62 : decode cX8_vows 62 = .ok (.ifCond .lt 15, 3) := by decide +kernel
theorem dX8_vows_65 : decode cX8_vows 65 = .ok (.iload 4, 2) := by decide +kernel
theorem dX8_vows_67 : decode cX8_vows 67 = .ok (.invokestatic 212, 3) := by decide +kernel
theorem dX8_vows_70 : decode cX8_vows 70 = .ok (.iload_n 3, 1) := by decide +kernel
theorem dX8_vows_71 : decode cX8_vows 71 = .ok (.invokestatic 212, 3) := by decide +kernel
theorem dX8_vows_74 : decode cX8_vows 74 = .ok (.if_icmp .gt 7, 3) := by decide +kernel
theorem dX8_vows_77 : decode cX8_vows 77 = .ok (.iconst 1, 1) := by decide +kernel
theorem dX8_vows_78 : decode cX8_vows 78 = .ok (.goto 4, 3) := by decide +kernel
theorem dX8_vows_81 : decode cX8_vows 81 = .ok (.iconst 0, 1) := by decide +kernel
theorem dX8_vows_82 : decode cX8_vows 82 = .ok (.istore 5, 2) := by decide +kernel
theorem dX8_vows_84 : decode cX8_vows 84 = .ok (.iload 5, 2) := by decide +kernel
theorem dX8_vows_86 : decode cX8_vows 86 = .ok (.ifCond .eq 8, 3) := by decide +kernel
theorem dX8_vows_89 : decode cX8_vows 89 = .ok (.iload 4, 2) := by decide +kernel
theorem dX8_vows_91 : decode cX8_vows 91 = .ok (.goto 4, 3) := by decide +kernel
theorem dX8_vows_94 : decode cX8_vows 94 = .ok (.iload_n 3, 1) := by decide +kernel
theorem dX8_vows_95 : decode cX8_vows 95 = .ok (.istore_n 3, 1) := by decide +kernel
theorem dX8_vows_96 : decode cX8_vows 96 = .ok (.iinc 4 (-1), 3) := by decide +kernel
theorem dX8_vows_99 : decode cX8_vows 99 = .ok (.goto (-70), 3) := by decide +kernel
theorem dX8_vows_102 : decode cX8_vows 102 = .ok (.iload_n 1, 1) := by decide +kernel
theorem dX8_vows_103 : decode cX8_vows 103 = .ok (.ifCond .ne 8, 3) := by decide +kernel
theorem dX8_vows_106 : decode cX8_vows 106 = .ok (.aload_n 0, 1) := by decide +kernel
theorem dX8_vows_107 : decode cX8_vows 107 = .ok (.getfield 70, 3) := by decide +kernel
theorem dX8_vows_110 : decode cX8_vows 110 = .ok (.ireturn, 1) := by decide +kernel
theorem dX8_vows_111 : decode cX8_vows 111 = .ok (.iload_n 2, 1) := by decide +kernel
theorem dX8_vows_112 : decode cX8_vows 112 = .ok (.ifCond .ge 12, 3) := by decide +kernel
theorem dX8_vows_115 : decode cX8_vows 115 = .ok (.aload_n 0, 1) := by decide +kernel
theorem dX8_vows_116 : decode cX8_vows 116 = .ok (.ldc 215, 2) := by decide +kernel
theorem dX8_vows_118 : decode cX8_vows 118 = .ok (.invokevirtual 107, 3) := by decide +kernel
theorem dX8_vows_121 : decode cX8_vows 121 = .ok (.goto 25, 3) := by decide +kernel
theorem dX8_vows_124 : decode cX8_vows 124 = .ok (.iload_n 1, 1) := by decide +kernel
theorem dX8_vows_125 : decode cX8_vows 125 = .ok (.iconst 1, 1) := by decide +kernel
theorem dX8_vows_126 : decode cX8_vows 126 = .ok (.if_icmp .ne 7, 3) := by decide +kernel
theorem dX8_vows_129 : decode cX8_vows 129 = .ok (.iload_n 2, 1) := by decide +kernel
theorem dX8_vows_130 : decode cX8_vows 130 = .ok (.goto 16, 3) := by decide +kernel
theorem dX8_vows_133 : decode cX8_vows 133 = .ok (.iload_n 1, 1) := by decide +kernel
theorem dX8_vows_134 : decode cX8_vows 134 = .ok (.iconst 2, 1) := by decide +kernel
theorem dX8_vows_135 : decode cX8_vows 135 = .ok (.if_icmp .ne 7, 3) := by decide +kernel
theorem dX8_vows_138 : decode cX8_vows 138 = .ok (.iload_n 3, 1) := by decide +kernel
theorem dX8_vows_139 : decode cX8_vows 139 = .ok (.goto 7, 3) := by decide +kernel
theorem dX8_vows_142 : decode cX8_vows 142 = .ok (.iload_n 3, 1) := by decide +kernel
theorem dX8_vows_143 : decode cX8_vows 143 = .ok (.invokestatic 212, 3) := by decide +kernel
theorem dX8_vows_146 : decode cX8_vows 146 = .ok (.ireturn, 1) := by decide +kernel
theorem dX8_lesserOf_0 : decode cX8_lesserOf 0 = .ok (.aload_n 0, 1) := by decide +kernel
theorem dX8_lesserOf_1 : decode cX8_lesserOf 1 = .ok (.getfield 36, 3) := by decide +kernel
theorem dX8_lesserOf_4 : decode cX8_lesserOf 4 = .ok (.iload_n 1, 1) := by decide +kernel
theorem dX8_lesserOf_5 : decode cX8_lesserOf 5 = .ok (.iaload, 1) := by decide +kernel
theorem dX8_lesserOf_6 : decode cX8_lesserOf 6 = .ok (.aload_n 0, 1) := by decide +kernel
theorem dX8_lesserOf_7 : decode cX8_lesserOf 7 = .ok (.getfield 70, 3) := by decide +kernel
theorem dX8_lesserOf_10 : decode cX8_lesserOf 10 = .ok (.aload_n 0, 1) := by decide +kernel
theorem dX8_lesserOf_11 : decode cX8_lesserOf 11 = .ok (.getfield 36, 3) := by decide +kernel
theorem dX8_lesserOf_14 : decode cX8_lesserOf 14 = .ok (.iload_n 1, 1) := by decide +kernel
theorem dX8_lesserOf_15 : decode cX8_lesserOf 15 = .ok (.iaload, 1) := by decide +kernel
theorem dX8_lesserOf_16 : decode cX8_lesserOf 16 = .ok (.isub, 1) := by decide +kernel
theorem dX8_lesserOf_17 : decode cX8_lesserOf 17 = .ok (.if_icmp .ge 12, 3) := by decide +kernel
theorem dX8_lesserOf_20 : decode cX8_lesserOf 20 = .ok (.aload_n 0, 1) := by decide +kernel
theorem dX8_lesserOf_21 : decode cX8_lesserOf 21 = .ok (.getfield 36, 3) := by decide +kernel
theorem dX8_lesserOf_24 : decode cX8_lesserOf 24 = .ok (.iload_n 1, 1) := by decide +kernel
theorem dX8_lesserOf_25 : decode cX8_lesserOf 25 = .ok (.iaload, 1) := by decide +kernel
theorem dX8_lesserOf_26 : decode cX8_lesserOf 26 = .ok (.goto 14, 3) := by decide +kernel
theorem dX8_lesserOf_29 : decode cX8_lesserOf 29 = .ok (.aload_n 0, 1) := by decide +kernel
theorem dX8_lesserOf_30 : decode cX8_lesserOf 30 = .ok (.getfield 70, 3) := by decide +kernel
theorem dX8_lesserOf_33 : decode cX8_lesserOf 33 = .ok (.aload_n 0, 1) := by decide +kernel
theorem dX8_lesserOf_34 : decode cX8_lesserOf 34 = .ok (.getfield 36, 3) := by decide +kernel
theorem dX8_lesserOf_37 : decode cX8_lesserOf 37 = .ok (.iload_n 1, 1) := by decide +kernel
theorem dX8_lesserOf_38 : decode cX8_lesserOf 38 = .ok (.iaload, 1) := by decide +kernel
theorem dX8_lesserOf_39 : decode cX8_lesserOf 39 = .ok (.isub, 1) := by decide +kernel
theorem dX8_lesserOf_40 : decode cX8_lesserOf 40 = .ok (.ireturn, 1) := by decide +kernel
theorem dX8_parts_0 : decode cX8_parts 0 = .ok (.iload_n 1, 1) := by decide +kernel
theorem dX8_parts_1 : decode cX8_parts 1 = .ok (.iconst 0, 1) := by decide +kernel
theorem dX8_parts_2 : decode cX8_parts 2 = .ok (.iconst 1, 1) := by decide +kernel
theorem dX8_parts_3 : decode cX8_parts 3 = .ok (.invokestatic 59, 3) := by decide +kernel
theorem dX8_parts_6 : decode cX8_parts 6 = .ok (.ifCond .ne 10, 3) := by decide +kernel
theorem dX8_parts_9 : decode cX8_parts 9 = .ok (.aload_n 0, 1) := by decide +kernel
theorem dX8_parts_10 : decode cX8_parts 10 = .ok (.ldc 106, 2) := by decide +kernel
theorem dX8_parts_12 : decode cX8_parts 12 = .ok (.invokevirtual 107, 3) := by decide +kernel
theorem dX8_parts_15 : decode cX8_parts 15 = .ok (.ireturn, 1) := by decide +kernel
theorem dX8_parts_16 : decode cX8_parts 16 = .ok (.aload_n 0, 1) := by decide +kernel
theorem dX8_parts_17 : decode cX8_parts 17 = .ok (.invokevirtual 78, 3) := by decide +kernel
theorem dX8_parts_20 : decode cX8_parts 20 = .ok (.iconst 0, 1) := by decide +kernel
theorem dX8_parts_21 : decode cX8_parts 21 = .ok (.istore_n 2, 1) := by decide +kernel
theorem dX8_parts_22 : decode cX8_parts 22 = .ok (.iconst 1, 1) := by decide +kernel
theorem dX8_parts_23 : decode cX8_parts 23 = .ok (.istore_n 3, 1) := by decide +kernel
theorem dX8_parts_24 : decode cX8_parts 24 = .ok (.iload_n 3, 1) := by decide +kernel
theorem dX8_parts_25 : decode cX8_parts 25 = .ok (.bipush 64, 2) := by decide +kernel
theorem dX8_parts_27 : decode cX8_parts 27 = .ok (.if_icmp .ge 28, 3) := by decide +kernel
theorem dX8_parts_30 : decode cX8_parts 30 = .ok (.aload_n 0, 1) := by decide +kernel
theorem dX8_parts_31 : decode cX8_parts 31 = .ok (.iload_n 3, 1) := by decide +kernel
theorem dX8_parts_32 : decode cX8_parts 32 = .ok (.invokevirtual 216, 3) := by decide +kernel
theorem dX8_parts_35 : decode cX8_parts 35 = .ok (.aload_n 0, 1) := by decide +kernel
theorem dX8_parts_36 : decode cX8_parts 36 = .ok (.iload_n 2, 1) := by decide +kernel
theorem dX8_parts_37 : decode cX8_parts 37 = .ok (.invokevirtual 216, 3) := by decide +kernel
theorem dX8_parts_40 : decode cX8_parts 40 = .ok (.if_icmp .le 7, 3) := by decide +kernel
theorem dX8_parts_43 : decode cX8_parts 43 = .ok (.iload_n 3, 1) := by decide +kernel
theorem dX8_parts_44 : decode cX8_parts 44 = .ok (.goto 4, 3) := by decide +kernel
theorem dX8_parts_47 : decode cX8_parts 47 = .ok (.iload_n 2, 1) := by decide +kernel
theorem dX8_parts_48 : decode cX8_parts 48 = .ok (.istore_n 2, 1) := by decide +kernel
theorem dX8_parts_49 : decode cX8_parts 49 = .ok (.iinc 3 1, 3) := by decide +kernel
theorem dX8_parts_52 : decode cX8_parts 52 = .ok (.goto (-28), 3) := by decide +kernel
theorem dX8_parts_55 : decode cX8_parts 55 = .ok (.iload_n 1, 1) := by decide +kernel
theorem dX8_parts_56 : decode cX8_parts 56 = .ok (.ifCond .ne 7, 3) := by decide +kernel
theorem dX8_parts_59 : decode cX8_parts 59 = .ok (.iload_n 2, 1) := by decide +kernel
theorem dX8_parts_60 : decode cX8_parts 60 = .ok (.goto 8, 3) := by decide +kernel
theorem dX8_parts_63 : decode cX8_parts 63 = .ok (.aload_n 0, 1) := by decide +kernel
theorem dX8_parts_64 : decode cX8_parts 64 = .ok (.iload_n 2, 1) := by decide +kernel
theorem dX8_parts_65 : decode cX8_parts 65 = .ok (.invokevirtual 216, 3) := by decide +kernel
theorem dX8_parts_68 : decode cX8_parts 68 = .ok (.ireturn, 1) := by decide +kernel
theorem dX8_sure_0 : decode cX8_sure 0 = .ok (.iload_n 1, 1) := by decide +kernel
theorem dX8_sure_1 : decode cX8_sure 1 = .ok (.invokestatic 124, 3) := by decide +kernel
theorem dX8_sure_4 : decode cX8_sure 4 = .ok (.ifCond .ne 10, 3) := by decide +kernel
theorem dX8_sure_7 : decode cX8_sure 7 = .ok (.aload_n 0, 1) := by decide +kernel
theorem dX8_sure_8 : decode cX8_sure 8 = .ok (.ldc 106, 2) := by decide +kernel
theorem dX8_sure_10 : decode cX8_sure 10 = .ok (.invokevirtual 107, 3) := by decide +kernel
theorem dX8_sure_13 : decode cX8_sure 13 = .ok (.ireturn, 1) := by decide +kernel
theorem dX8_sure_14 : decode cX8_sure 14 = .ok (.aload_n 0, 1) := by decide +kernel
theorem dX8_sure_15 : decode cX8_sure 15 = .ok (.invokevirtual 78, 3) := by decide +kernel
theorem dX8_sure_18 : decode cX8_sure 18 = .ok (.iload_n 1, 1) := by decide +kernel
theorem dX8_sure_19 : decode cX8_sure 19 = .ok (.istore_n 2, 1) := by decide +kernel
theorem dX8_sure_20 : decode cX8_sure 20 = .ok (.iload_n 2, 1) := by decide +kernel
theorem dX8_sure_21 : decode cX8_sure 21 = .ok (.bipush 64, 2) := by decide +kernel
theorem dX8_sure_23 : decode cX8_sure 23 = .ok (.if_icmp .ge 27, 3) := by decide +kernel
theorem dX8_sure_26 : decode cX8_sure 26 = .ok (.iload_n 2, 1) := by decide +kernel
theorem dX8_sure_27 : decode cX8_sure 27 = .ok (.iload_n 1, 1) := by decide +kernel
theorem dX8_sure_28 : decode cX8_sure 28 = .ok (.iand, 1) := by decide +kernel
theorem dX8_sure_29 : decode cX8_sure 29 = .ok (.iload_n 1, 1) := by decide +kernel
theorem dX8_sure_30 : decode cX8_sure 30 = .ok (.if_icmp .ne 14, 3) := by decide +kernel
theorem dX8_sure_33 : decode cX8_sure 33 = .ok (.aload_n 0, 1) := by decide +kernel
theorem dX8_sure_34 : decode cX8_sure 34 = .ok (.getfield 36, 3) := by decide +kernel
theorem dX8_sure_37 : decode cX8_sure 37 = .ok (.iload_n 2, 1) := by decide +kernel
theorem dX8_sure_38 : decode cX8_sure 38 = .ok (.iaload, 1) := by decide +kernel
theorem dX8_sure_39 : decode cX8_sure 39 = .ok (.ifCond .ne 5, 3) := by decide +kernel
theorem dX8_sure_42 : decode cX8_sure 42 = .ok (.iload_n 2, 1) := by decide +kernel
theorem dX8_sure_43 : decode cX8_sure 43 = .ok (.ireturn, 1) := by decide +kernel
theorem dX8_sure_44 : decode cX8_sure 44 = .ok (.iinc 2 1, 3) := by decide +kernel
theorem dX8_sure_47 : decode cX8_sure 47 = .ok (.goto (-27), 3) := by decide +kernel
theorem dX8_sure_50 : decode cX8_sure 50 = .ok (.aload_n 0, 1) := by decide +kernel
theorem dX8_sure_51 : decode cX8_sure 51 = .ok (.ldc 215, 2) := by decide +kernel
theorem dX8_sure_53 : decode cX8_sure 53 = .ok (.invokevirtual 107, 3) := by decide +kernel
theorem dX8_sure_56 : decode cX8_sure 56 = .ok (.ireturn, 1) := by decide +kernel
theorem dX8_unsaid_0 : decode cX8_unsaid 0 = .ok (.iload_n 1, 1) := by decide +kernel
theorem dX8_unsaid_1 : decode cX8_unsaid 1 = .ok (.iconst 0, 1) := by decide +kernel
theorem dX8_unsaid_2 : decode cX8_unsaid 2 = .ok (.iconst 1, 1) := by decide +kernel
theorem dX8_unsaid_3 : decode cX8_unsaid 3 = .ok (.invokestatic 59, 3) := by decide +kernel
theorem dX8_unsaid_6 : decode cX8_unsaid 6 = .ok (.ifCond .ne 11, 3) := by decide +kernel
theorem dX8_unsaid_9 : decode cX8_unsaid 9 = .ok (.aload_n 0, 1) := by decide +kernel
theorem dX8_unsaid_10 : decode cX8_unsaid 10 = .ok (.ldc 106, 2) := by decide +kernel
theorem dX8_unsaid_12 : decode cX8_unsaid 12 = .ok (.invokevirtual 107, 3) := by decide +kernel
theorem dX8_unsaid_15 : decode cX8_unsaid 15 = .ok (.i2l, 1) := by decide +kernel
theorem dX8_unsaid_16 : decode cX8_unsaid 16 = .ok (.lreturn, 1) := by decide +kernel
theorem dX8_unsaid_17 : decode cX8_unsaid 17 = .ok (.lconst 0, 1) := by decide +kernel
theorem dX8_unsaid_18 : decode cX8_unsaid 18 = .ok (.lstore_n 2, 1) := by decide +kernel
theorem dX8_unsaid_19 : decode cX8_unsaid 19 = .ok (.iconst 0, 1) := by decide +kernel
theorem dX8_unsaid_20 : decode cX8_unsaid 20 = .ok (.istore 4, 2) := by decide +kernel
theorem dX8_unsaid_22 : decode cX8_unsaid 22 = .ok (.iload 4, 2) := by decide +kernel
theorem dX8_unsaid_24 : decode cX8_unsaid 24 = .ok (.bipush 64, 2) := by decide +kernel
theorem dX8_unsaid_26 : decode cX8_unsaid 26 = .ok (.if_icmp .ge 76, 3) := by decide +kernel
theorem dX8_unsaid_29 : decode cX8_unsaid 29 = .ok (.aload_n 0, 1) := by decide +kernel
theorem dX8_unsaid_30 : decode cX8_unsaid 30 = .ok (.getfield 9, 3) := by decide +kernel
theorem dX8_unsaid_33 : decode cX8_unsaid 33 = .ok (.iconst 2, 1) := by decide +kernel
theorem dX8_unsaid_34 : decode cX8_unsaid 34 = .ok (.iaload, 1) := by decide +kernel
theorem dX8_unsaid_35 : decode cX8_unsaid 35 = .ok (.ifCond .le 7, 3) := by decide +kernel
theorem dX8_unsaid_38 : decode cX8_unsaid 38 = .ok (.iconst 1, 1) := by decide +kernel
theorem dX8_unsaid_39 : decode cX8_unsaid 39 = .ok (.goto 4, 3) := by decide +kernel
theorem dX8_unsaid_42 : decode cX8_unsaid 42 = .ok (.iconst 0, 1) := by decide +kernel
theorem dX8_unsaid_43 : decode cX8_unsaid 43 = .ok (.istore 5, 2) := by decide +kernel
theorem dX8_unsaid_45 : decode cX8_unsaid 45 = .ok (.iconst 0, 1) := by decide +kernel
theorem dX8_unsaid_46 : decode cX8_unsaid 46 = .ok (.istore 6, 2) := by decide +kernel
theorem dX8_unsaid_48 : decode cX8_unsaid 48 = .ok (.iload 6, 2) := by decide +kernel
theorem dX8_unsaid_50 : decode cX8_unsaid 50 = .ok (.aload_n 0, 1) := by decide +kernel
theorem dX8_unsaid_51 : decode cX8_unsaid 51 = .ok (.getfield 9, 3) := by decide +kernel
theorem dX8_unsaid_54 : decode cX8_unsaid 54 = .ok (.iconst 2, 1) := by decide +kernel
theorem dX8_unsaid_55 : decode cX8_unsaid 55 = .ok (.iaload, 1) := by decide +kernel
theorem dX8_unsaid_56 : decode cX8_unsaid 56 = .ok (.if_icmp .ge 24, 3) := by decide +kernel
theorem dX8_unsaid_59 : decode cX8_unsaid 59 = .ok (.iload 5, 2) := by decide +kernel
theorem dX8_unsaid_61 : decode cX8_unsaid 61 = .ok (.ifCond .eq 19, 3) := by decide +kernel
theorem dX8_unsaid_64 : decode cX8_unsaid 64 = .ok (.aload_n 0, 1) := by decide +kernel
theorem dX8_unsaid_65 : decode cX8_unsaid 65 = .ok (.iload 6, 2) := by decide +kernel
theorem dX8_unsaid_67 : decode cX8_unsaid 67 = .ok (.iload 4, 2) := by decide +kernel
theorem dX8_unsaid_69 : decode cX8_unsaid 69 = .ok (.invokevirtual 111, 3) := by decide +kernel
theorem dX8_unsaid_72 : decode cX8_unsaid 72 = .ok (.istore 5, 2) := by decide +kernel
theorem dX8_unsaid_74 : decode cX8_unsaid 74 = .ok (.iinc 6 1, 3) := by decide +kernel
theorem dX8_unsaid_77 : decode cX8_unsaid 77 = .ok (.goto (-29), 3) := by decide +kernel
theorem dX8_unsaid_80 : decode cX8_unsaid 80 = .ok (.lload_n 2, 1) := by decide +kernel
theorem dX8_unsaid_81 : decode cX8_unsaid 81 = .ok (.iload 5, 2) := by decide +kernel
theorem dX8_unsaid_83 : decode cX8_unsaid 83 = .ok (.ifCond .eq 10, 3) := by decide +kernel
theorem dX8_unsaid_86 : decode cX8_unsaid 86 = .ok (.lconst 1, 1) := by decide +kernel
theorem dX8_unsaid_87 : decode cX8_unsaid 87 = .ok (.iload 4, 2) := by decide +kernel
theorem dX8_unsaid_89 : decode cX8_unsaid 89 = .ok (.lshl, 1) := by decide +kernel
theorem dX8_unsaid_90 : decode cX8_unsaid 90 = .ok (.goto 4, 3) := by decide +kernel
theorem dX8_unsaid_93 : decode cX8_unsaid 93 = .ok (.lconst 0, 1) := by decide +kernel
theorem dX8_unsaid_94 : decode cX8_unsaid 94 = .ok (.lor, 1) := by decide +kernel
theorem dX8_unsaid_95 : decode cX8_unsaid 95 = .ok (.lstore_n 2, 1) := by decide +kernel
theorem dX8_unsaid_96 : decode cX8_unsaid 96 = .ok (.iinc 4 1, 3) := by decide +kernel
theorem dX8_unsaid_99 : decode cX8_unsaid 99 = .ok (.goto (-77), 3) := by decide +kernel
theorem dX8_unsaid_102 : decode cX8_unsaid 102 = .ok (.iload_n 1, 1) := by decide +kernel
theorem dX8_unsaid_103 : decode cX8_unsaid 103 = .ok (.ifCond .ne 7, 3) := by decide +kernel
theorem dX8_unsaid_106 : decode cX8_unsaid 106 = .ok (.lload_n 2, 1) := by decide +kernel
theorem dX8_unsaid_107 : decode cX8_unsaid 107 = .ok (.goto 8, 3) := by decide +kernel
theorem dX8_unsaid_110 : decode cX8_unsaid 110 = .ok (.lload_n 2, 1) := by decide +kernel
theorem dX8_unsaid_111 : decode cX8_unsaid 111 = .ok (.invokestatic 89, 3) := by decide +kernel
theorem dX8_unsaid_114 : decode cX8_unsaid 114 = .ok (.i2l, 1) := by decide +kernel
theorem dX8_unsaid_115 : decode cX8_unsaid 115 = .ok (.lreturn, 1) := by decide +kernel
theorem dX8_freedomOf_0 : decode cX8_freedomOf 0 = .ok (.iconst 0, 1) := by decide +kernel
theorem dX8_freedomOf_1 : decode cX8_freedomOf 1 = .ok (.istore_n 2, 1) := by decide +kernel
theorem dX8_freedomOf_2 : decode cX8_freedomOf 2 = .ok (.iconst 0, 1) := by decide +kernel
theorem dX8_freedomOf_3 : decode cX8_freedomOf 3 = .ok (.istore_n 3, 1) := by decide +kernel
theorem dX8_freedomOf_4 : decode cX8_freedomOf 4 = .ok (.iload_n 3, 1) := by decide +kernel
theorem dX8_freedomOf_5 : decode cX8_freedomOf 5 = .ok (.bipush 64, 2) := by decide +kernel
theorem dX8_freedomOf_7 : decode cX8_freedomOf 7 = .ok (.if_icmp .ge 39, 3) := by decide +kernel
theorem dX8_freedomOf_10 : decode cX8_freedomOf 10 = .ok (.iload_n 2, 1) := by decide +kernel
theorem dX8_freedomOf_11 : decode cX8_freedomOf 11 = .ok (.aload_n 0, 1) := by decide +kernel
theorem dX8_freedomOf_12 : decode cX8_freedomOf 12 = .ok (.iload_n 3, 1) := by decide +kernel
theorem dX8_freedomOf_13 : decode cX8_freedomOf 13 = .ok (.invokevirtual 85, 3) := by decide +kernel
theorem dX8_freedomOf_16 : decode cX8_freedomOf 16 = .ok (.ifCond .ne 21, 3) := by decide +kernel
theorem dX8_freedomOf_19 : decode cX8_freedomOf 19 = .ok (.aload_n 0, 1) := by decide +kernel
theorem dX8_freedomOf_20 : decode cX8_freedomOf 20 = .ok (.iload_n 1, 1) := by decide +kernel
theorem dX8_freedomOf_21 : decode cX8_freedomOf 21 = .ok (.iload_n 3, 1) := by decide +kernel
theorem dX8_freedomOf_22 : decode cX8_freedomOf 22 = .ok (.invokevirtual 111, 3) := by decide +kernel
theorem dX8_freedomOf_25 : decode cX8_freedomOf 25 = .ok (.ifCond .ne 12, 3) := by decide +kernel
theorem dX8_freedomOf_28 : decode cX8_freedomOf 28 = .ok (.aload_n 0, 1) := by decide +kernel
theorem dX8_freedomOf_29 : decode cX8_freedomOf 29 = .ok (.iload_n 1, 1) := by decide +kernel
theorem dX8_freedomOf_30 : decode cX8_freedomOf 30 = .ok (.iload_n 3, 1) := by decide +kernel
theorem dX8_freedomOf_31 : decode cX8_freedomOf 31 = .ok (.invokevirtual 127, 3) := by decide +kernel
theorem dX8_freedomOf_34 : decode cX8_freedomOf 34 = .ok (.goto 4, 3) := by decide +kernel
theorem dX8_freedomOf_37 : decode cX8_freedomOf 37 = .ok (.iconst 0, 1) := by decide +kernel
theorem dX8_freedomOf_38 : decode cX8_freedomOf 38 = .ok (.iadd, 1) := by decide +kernel
theorem dX8_freedomOf_39 : decode cX8_freedomOf 39 = .ok (.istore_n 2, 1) := by decide +kernel
theorem dX8_freedomOf_40 : decode cX8_freedomOf 40 = .ok (.iinc 3 1, 3) := by decide +kernel
theorem dX8_freedomOf_43 : decode cX8_freedomOf 43 = .ok (.goto (-39), 3) := by decide +kernel
theorem dX8_freedomOf_46 : decode cX8_freedomOf 46 = .ok (.iload_n 2, 1) := by decide +kernel
theorem dX8_freedomOf_47 : decode cX8_freedomOf 47 = .ok (.ireturn, 1) := by decide +kernel
theorem dX8_freest_0 : decode cX8_freest 0 = .ok (.iload_n 1, 1) := by decide +kernel
theorem dX8_freest_1 : decode cX8_freest 1 = .ok (.iconst 0, 1) := by decide +kernel
theorem dX8_freest_2 : decode cX8_freest 2 = .ok (.iconst 1, 1) := by decide +kernel
theorem dX8_freest_3 : decode cX8_freest 3 = .ok (.invokestatic 59, 3) := by decide +kernel
theorem dX8_freest_6 : decode cX8_freest 6 = .ok (.ifCond .ne 10, 3) := by decide +kernel
theorem dX8_freest_9 : decode cX8_freest 9 = .ok (.aload_n 0, 1) := by decide +kernel
theorem dX8_freest_10 : decode cX8_freest 10 = .ok (.ldc 106, 2) := by decide +kernel
theorem dX8_freest_12 : decode cX8_freest 12 = .ok (.invokevirtual 107, 3) := by decide +kernel
theorem dX8_freest_15 : decode cX8_freest 15 = .ok (.ireturn, 1) := by decide +kernel
theorem dX8_freest_16 : decode cX8_freest 16 = .ok (.aload_n 0, 1) := by decide +kernel
theorem dX8_freest_17 : decode cX8_freest 17 = .ok (.getfield 9, 3) := by decide +kernel
theorem dX8_freest_20 : decode cX8_freest 20 = .ok (.iconst 2, 1) := by decide +kernel
theorem dX8_freest_21 : decode cX8_freest 21 = .ok (.iaload, 1) := by decide +kernel
theorem dX8_freest_22 : decode cX8_freest 22 = .ok (.ifCond .ne 10, 3) := by decide +kernel
theorem dX8_freest_25 : decode cX8_freest 25 = .ok (.aload_n 0, 1) := by decide +kernel
theorem dX8_freest_26 : decode cX8_freest 26 = .ok (.ldc 143, 2) := by decide +kernel
theorem dX8_freest_28 : decode cX8_freest 28 = .ok (.invokevirtual 107, 3) := by decide +kernel
theorem dX8_freest_31 : decode cX8_freest 31 = .ok (.ireturn, 1) := by decide +kernel
theorem dX8_freest_32 : decode cX8_freest 32 = .ok (.iconst 0, 1) := by decide +kernel
theorem dX8_freest_33 : decode cX8_freest 33 = .ok (.istore_n 2, 1) := by decide +kernel
theorem dX8_freest_34 : decode cX8_freest 34 = .ok (.iconst (-1), 1) := by decide +kernel
theorem dX8_freest_35 : decode cX8_freest 35 = .ok (.istore_n 3, 1) := by decide +kernel
theorem dX8_freest_36 : decode cX8_freest 36 = .ok (.iconst 0, 1) := by decide +kernel
theorem dX8_freest_37 : decode cX8_freest 37 = .ok (.istore 4, 2) := by decide +kernel
theorem dX8_freest_39 : decode cX8_freest 39 = .ok (.iload 4, 2) := by decide +kernel
theorem dX8_freest_41 : decode cX8_freest 41 = .ok (.aload_n 0, 1) := by decide +kernel
theorem dX8_freest_42 : decode cX8_freest 42 = .ok (.getfield 9, 3) := by decide +kernel
theorem dX8_freest_45 : decode cX8_freest 45 = .ok (.iconst 2, 1) := by decide +kernel
theorem dX8_freest_46 : decode cX8_freest 46 = .ok (.iaload, 1) := by decide +kernel
theorem dX8_freest_47 : decode cX8_freest 47 = .ok (.if_icmp .ge 43, 3) := by decide +kernel
theorem dX8_freest_50 : decode cX8_freest 50 = .ok (.aload_n 0, 1) := by decide +kernel
theorem dX8_freest_51 : decode cX8_freest 51 = .ok (.iload 4, 2) := by decide +kernel
theorem dX8_freest_53 : decode cX8_freest 53 = .ok (.invokevirtual 219, 3) := by decide +kernel
theorem dX8_freest_56 : decode cX8_freest 56 = .ok (.istore 5, 2) := by decide +kernel
theorem dX8_freest_58 : decode cX8_freest 58 = .ok (.iload 5, 2) := by decide +kernel
theorem dX8_freest_60 : decode cX8_freest 60 = .ok (.iload_n 3, 1) := by decide +kernel
theorem dX8_freest_61 : decode cX8_freest 61 = .ok (.if_icmp .le 8, 3) := by decide +kernel
theorem dX8_freest_64 : decode cX8_freest 64 = .ok (.iload 4, 2) := by decide +kernel
theorem dX8_freest_66 : decode cX8_freest 66 = .ok (.goto 4, 3) := by decide +kernel
theorem dX8_freest_69 : decode cX8_freest 69 = .ok (.iload_n 2, 1) := by decide +kernel
theorem dX8_freest_70 : decode cX8_freest 70 = .ok (.istore_n 2, 1) := by decide +kernel
theorem dX8_freest_71 : decode cX8_freest 71 = .ok (.iload 5, 2) := by decide +kernel
theorem dX8_freest_73 : decode cX8_freest 73 = .ok (.iload_n 3, 1) := by decide +kernel
theorem dX8_freest_74 : decode cX8_freest 74 = .ok (.if_icmp .le 8, 3) := by decide +kernel
theorem dX8_freest_77 : decode cX8_freest 77 = .ok (.iload 5, 2) := by decide +kernel
theorem dX8_freest_79 : decode cX8_freest 79 = .ok (.goto 4, 3) := by decide +kernel
theorem dX8_freest_82 : decode cX8_freest 82 = .ok (.iload_n 3, 1) := by decide +kernel
theorem dX8_freest_83 : decode cX8_freest 83 = .ok (.istore_n 3, 1) := by decide +kernel
theorem dX8_freest_84 : decode cX8_freest 84 = .ok (.iinc 4 1, 3) := by decide +kernel
theorem dX8_freest_87 : decode cX8_freest 87 = .ok (.goto (-48), 3) := by decide +kernel
theorem dX8_freest_90 : decode cX8_freest 90 = .ok (.iload_n 1, 1) := by decide +kernel
theorem dX8_freest_91 : decode cX8_freest 91 = .ok (.ifCond .ne 7, 3) := by decide +kernel
theorem dX8_freest_94 : decode cX8_freest 94 = .ok (.iload_n 2, 1) := by decide +kernel
theorem dX8_freest_95 : decode cX8_freest 95 = .ok (.goto 4, 3) := by decide +kernel
theorem dX8_freest_98 : decode cX8_freest 98 = .ok (.iload_n 3, 1) := by decide +kernel
theorem dX8_freest_99 : decode cX8_freest 99 = .ok (.ireturn, 1) := by decide +kernel
theorem dX8_odds_0 : decode cX8_odds 0 = .ok (.iload_n 1, 1) := by decide +kernel
theorem dX8_odds_1 : decode cX8_odds 1 = .ok (.invokestatic 124, 3) := by decide +kernel
theorem dX8_odds_4 : decode cX8_odds 4 = .ok (.ifCond .eq 12, 3) := by decide +kernel
theorem dX8_odds_7 : decode cX8_odds 7 = .ok (.iload_n 2, 1) := by decide +kernel
theorem dX8_odds_8 : decode cX8_odds 8 = .ok (.iconst 0, 1) := by decide +kernel
theorem dX8_odds_9 : decode cX8_odds 9 = .ok (.iconst 1, 1) := by decide +kernel
theorem dX8_odds_10 : decode cX8_odds 10 = .ok (.invokestatic 59, 3) := by decide +kernel
theorem dX8_odds_13 : decode cX8_odds 13 = .ok (.ifCond .ne 10, 3) := by decide +kernel
theorem dX8_odds_16 : decode cX8_odds 16 = .ok (.aload_n 0, 1) := by decide +kernel
theorem dX8_odds_17 : decode cX8_odds 17 = .ok (.ldc 106, 2) := by decide +kernel
theorem dX8_odds_19 : decode cX8_odds 19 = .ok (.invokevirtual 107, 3) := by decide +kernel
theorem dX8_odds_22 : decode cX8_odds 22 = .ok (.ireturn, 1) := by decide +kernel
theorem dX8_odds_23 : decode cX8_odds 23 = .ok (.aload_n 0, 1) := by decide +kernel
theorem dX8_odds_24 : decode cX8_odds 24 = .ok (.iload_n 1, 1) := by decide +kernel
theorem dX8_odds_25 : decode cX8_odds 25 = .ok (.invokevirtual 85, 3) := by decide +kernel
theorem dX8_odds_28 : decode cX8_odds 28 = .ok (.istore_n 3, 1) := by decide +kernel
theorem dX8_odds_29 : decode cX8_odds 29 = .ok (.aload_n 0, 1) := by decide +kernel
theorem dX8_odds_30 : decode cX8_odds 30 = .ok (.getfield 70, 3) := by decide +kernel
theorem dX8_odds_33 : decode cX8_odds 33 = .ok (.istore 4, 2) := by decide +kernel
theorem dX8_odds_35 : decode cX8_odds 35 = .ok (.iload 4, 2) := by decide +kernel
theorem dX8_odds_37 : decode cX8_odds 37 = .ok (.ifCond .ne 10, 3) := by decide +kernel
theorem dX8_odds_40 : decode cX8_odds 40 = .ok (.aload_n 0, 1) := by decide +kernel
theorem dX8_odds_41 : decode cX8_odds 41 = .ok (.ldc 143, 2) := by decide +kernel
theorem dX8_odds_43 : decode cX8_odds 43 = .ok (.invokevirtual 107, 3) := by decide +kernel
theorem dX8_odds_46 : decode cX8_odds 46 = .ok (.ireturn, 1) := by decide +kernel
theorem dX8_odds_47 : decode cX8_odds 47 = .ok (.iload_n 3, 1) := by decide +kernel
theorem dX8_odds_48 : decode cX8_odds 48 = .ok (.istore 5, 2) := by decide +kernel
theorem dX8_odds_50 : decode cX8_odds 50 = .ok (.iload 4, 2) := by decide +kernel
theorem dX8_odds_52 : decode cX8_odds 52 = .ok (.istore 6, 2) := by decide +kernel
theorem dX8_odds_54 : decode cX8_odds 54 = .ok (.iload 5, 2) := by decide +kernel
theorem dX8_odds_56 : decode cX8_odds 56 = .ok (.ifCond .eq 21, 3) := by decide +kernel
theorem dX8_odds_59 : decode cX8_odds 59 = .ok (.iload 6, 2) := by decide +kernel
theorem dX8_odds_61 : decode cX8_odds 61 = .ok (.iload 5, 2) := by decide +kernel
theorem dX8_odds_63 : decode cX8_odds 63 = .ok (.irem, 1) := by decide +kernel
theorem dX8_odds_64 : decode cX8_odds 64 = .ok (.istore 7, 2) := by decide +kernel
theorem dX8_odds_66 : decode cX8_odds 66 = .ok (.iload 5, 2) := by decide +kernel
theorem dX8_odds_68 : decode cX8_odds 68 = .ok (.istore 6, 2) := by decide +kernel
theorem dX8_odds_70 : decode cX8_odds 70 = .ok (.iload 7, 2) := by decide +kernel
theorem dX8_odds_72 : decode cX8_odds 72 = .ok (.istore 5, 2) := by decide +kernel
theorem dX8_odds_74 : decode cX8_odds 74 = .ok (.goto (-20), 3) := by decide +kernel
theorem dX8_odds_77 : decode cX8_odds 77 = .ok (.iload_n 2, 1) := by decide +kernel
theorem dX8_odds_78 : decode cX8_odds 78 = .ok (.ifCond .ne 10, 3) := by decide +kernel
theorem dX8_odds_81 : decode cX8_odds 81 = .ok (.iload_n 3, 1) := by decide +kernel
theorem dX8_odds_82 : decode cX8_odds 82 = .ok (.iload 6, 2) := by decide +kernel
theorem dX8_odds_84 : decode cX8_odds 84 = .ok (.idiv, 1) := by decide +kernel
theorem dX8_odds_85 : decode cX8_odds 85 = .ok (.goto 8, 3) := by decide +kernel
theorem dX8_odds_88 : decode cX8_odds 88 = .ok (.iload 4, 2) := by decide +kernel
theorem dX8_odds_90 : decode cX8_odds 90 = .ok (.iload 6, 2) := by decide +kernel
theorem dX8_odds_92 : decode cX8_odds 92 = .ok (.idiv, 1) := by decide +kernel
theorem dX8_odds_93 : decode cX8_odds 93 = .ok (.ireturn, 1) := by decide +kernel
theorem dX8_isSo_0 : decode cX8_isSo 0 = .ok (.aload_n 0, 1) := by decide +kernel
theorem dX8_isSo_1 : decode cX8_isSo 1 = .ok (.getfield 32, 3) := by decide +kernel
theorem dX8_isSo_4 : decode cX8_isSo 4 = .ok (.iload_n 2, 1) := by decide +kernel
theorem dX8_isSo_5 : decode cX8_isSo 5 = .ok (.baload, 1) := by decide +kernel
theorem dX8_isSo_6 : decode cX8_isSo 6 = .ok (.istore_n 3, 1) := by decide +kernel
theorem dX8_isSo_7 : decode cX8_isSo 7 = .ok (.iconst 0, 1) := by decide +kernel
theorem dX8_isSo_8 : decode cX8_isSo 8 = .ok (.istore 4, 2) := by decide +kernel
theorem dX8_isSo_10 : decode cX8_isSo 10 = .ok (.iload 4, 2) := by decide +kernel
theorem dX8_isSo_12 : decode cX8_isSo 12 = .ok (.aload_n 0, 1) := by decide +kernel
theorem dX8_isSo_13 : decode cX8_isSo 13 = .ok (.getfield 22, 3) := by decide +kernel
theorem dX8_isSo_16 : decode cX8_isSo 16 = .ok (.iload_n 1, 1) := by decide +kernel
theorem dX8_isSo_17 : decode cX8_isSo 17 = .ok (.iaload, 1) := by decide +kernel
theorem dX8_isSo_18 : decode cX8_isSo 18 = .ok (.if_icmp .ge 49, 3) := by decide +kernel
theorem dX8_isSo_21 : decode cX8_isSo 21 = .ok (.iload_n 3, 1) := by decide +kernel
theorem dX8_isSo_22 : decode cX8_isSo 22 = .ok (.ifCond .eq 45, 3) := by decide +kernel
theorem dX8_isSo_25 : decode cX8_isSo 25 = .ok (.aload_n 0, 1) := by decide +kernel
theorem dX8_isSo_26 : decode cX8_isSo 26 = .ok (.getfield 25, 3) := by decide +kernel
theorem dX8_isSo_29 : decode cX8_isSo 29 = .ok (.bipush 24, 2) := by decide +kernel
theorem dX8_isSo_31 : decode cX8_isSo 31 = .ok (.iload_n 1, 1) := by decide +kernel
theorem dX8_isSo_32 : decode cX8_isSo 32 = .ok (.imul, 1) := by decide +kernel
theorem dX8_isSo_33 : decode cX8_isSo 33 = .ok (.iload 4, 2) := by decide +kernel
theorem dX8_isSo_35 : decode cX8_isSo 35 = .ok (.iadd, 1) := by decide +kernel
theorem dX8_isSo_36 : decode cX8_isSo 36 = .ok (.iaload, 1) := by decide +kernel
theorem dX8_isSo_37 : decode cX8_isSo 37 = .ok (.aload_n 0, 1) := by decide +kernel
theorem dX8_isSo_38 : decode cX8_isSo 38 = .ok (.iload_n 2, 1) := by decide +kernel
theorem dX8_isSo_39 : decode cX8_isSo 39 = .ok (.iload 4, 2) := by decide +kernel
theorem dX8_isSo_41 : decode cX8_isSo 41 = .ok (.invokevirtual 63, 3) := by decide +kernel
theorem dX8_isSo_44 : decode cX8_isSo 44 = .ok (.ifCond .eq 7, 3) := by decide +kernel
theorem dX8_isSo_47 : decode cX8_isSo 47 = .ok (.iconst 1, 1) := by decide +kernel
theorem dX8_isSo_48 : decode cX8_isSo 48 = .ok (.goto 4, 3) := by decide +kernel
theorem dX8_isSo_51 : decode cX8_isSo 51 = .ok (.iconst 0, 1) := by decide +kernel
theorem dX8_isSo_52 : decode cX8_isSo 52 = .ok (.if_icmp .ne 7, 3) := by decide +kernel
theorem dX8_isSo_55 : decode cX8_isSo 55 = .ok (.iconst 1, 1) := by decide +kernel
theorem dX8_isSo_56 : decode cX8_isSo 56 = .ok (.goto 4, 3) := by decide +kernel
theorem dX8_isSo_59 : decode cX8_isSo 59 = .ok (.iconst 0, 1) := by decide +kernel
theorem dX8_isSo_60 : decode cX8_isSo 60 = .ok (.istore_n 3, 1) := by decide +kernel
theorem dX8_isSo_61 : decode cX8_isSo 61 = .ok (.iinc 4 1, 3) := by decide +kernel
theorem dX8_isSo_64 : decode cX8_isSo 64 = .ok (.goto (-54), 3) := by decide +kernel
theorem dX8_isSo_67 : decode cX8_isSo 67 = .ok (.iload_n 3, 1) := by decide +kernel
theorem dX8_isSo_68 : decode cX8_isSo 68 = .ok (.ireturn, 1) := by decide +kernel
theorem dX8_fits_0 : decode cX8_fits 0 = .ok (.iload_n 1, 1) := by decide +kernel
theorem dX8_fits_1 : decode cX8_fits 1 = .ok (.invokestatic 222, 3) := by decide +kernel
theorem dX8_fits_4 : decode cX8_fits 4 = .ok (.ifCond .eq 12, 3) := by decide +kernel
theorem dX8_fits_7 : decode cX8_fits 7 = .ok (.iload_n 2, 1) := by decide +kernel
theorem dX8_fits_8 : decode cX8_fits 8 = .ok (.iconst 0, 1) := by decide +kernel
theorem dX8_fits_9 : decode cX8_fits 9 = .ok (.iconst 1, 1) := by decide +kernel
theorem dX8_fits_10 : decode cX8_fits 10 = .ok (.invokestatic 59, 3) := by decide +kernel
theorem dX8_fits_13 : decode cX8_fits 13 = .ok (.ifCond .ne 10, 3) := by decide +kernel
theorem dX8_fits_16 : decode cX8_fits 16 = .ok (.aload_n 0, 1) := by decide +kernel
theorem dX8_fits_17 : decode cX8_fits 17 = .ok (.ldc 106, 2) := by decide +kernel
theorem dX8_fits_19 : decode cX8_fits 19 = .ok (.invokevirtual 107, 3) := by decide +kernel
theorem dX8_fits_22 : decode cX8_fits 22 = .ok (.ireturn, 1) := by decide +kernel
theorem dX8_fits_23 : decode cX8_fits 23 = .ok (.aload_n 0, 1) := by decide +kernel
theorem dX8_fits_24 : decode cX8_fits 24 = .ok (.getfield 19, 3) := by decide +kernel
theorem dX8_fits_27 : decode cX8_fits 27 = .ok (.iload_n 1, 1) := by decide +kernel
theorem dX8_fits_28 : decode cX8_fits 28 = .ok (.iaload, 1) := by decide +kernel
theorem dX8_fits_29 : decode cX8_fits 29 = .ok (.ifCond .ne 10, 3) := by decide +kernel
theorem dX8_fits_32 : decode cX8_fits 32 = .ok (.aload_n 0, 1) := by decide +kernel
theorem dX8_fits_33 : decode cX8_fits 33 = .ok (.ldc 215, 2) := by decide +kernel
theorem dX8_fits_35 : decode cX8_fits 35 = .ok (.invokevirtual 107, 3) := by decide +kernel
theorem dX8_fits_38 : decode cX8_fits 38 = .ok (.ireturn, 1) := by decide +kernel
theorem dX8_fits_39 : decode cX8_fits 39 = .ok (.aload_n 0, 1) := by decide +kernel
theorem dX8_fits_40 : decode cX8_fits 40 = .ok (.invokevirtual 78, 3) := by decide +kernel
theorem dX8_fits_43 : decode cX8_fits 43 = .ok (.iconst 0, 1) := by decide +kernel
theorem dX8_fits_44 : decode cX8_fits 44 = .ok (.istore_n 3, 1) := by decide +kernel
theorem dX8_fits_45 : decode cX8_fits 45 = .ok (.iconst (-1), 1) := by decide +kernel
theorem dX8_fits_46 : decode cX8_fits 46 = .ok (.istore 4, 2) := by decide +kernel
theorem dX8_fits_48 : decode cX8_fits 48 = .ok (.sipush 728, 3) := by decide +kernel
theorem dX8_fits_51 : decode cX8_fits 51 = .ok (.istore 5, 2) := by decide +kernel
theorem dX8_fits_53 : decode cX8_fits 53 = .ok (.iload 5, 2) := by decide +kernel
theorem dX8_fits_55 : decode cX8_fits 55 = .ok (.ifCond .lt 45, 3) := by decide +kernel
theorem dX8_fits_58 : decode cX8_fits 58 = .ok (.aload_n 0, 1) := by decide +kernel
theorem dX8_fits_59 : decode cX8_fits 59 = .ok (.iload_n 1, 1) := by decide +kernel
theorem dX8_fits_60 : decode cX8_fits 60 = .ok (.iload 5, 2) := by decide +kernel
theorem dX8_fits_62 : decode cX8_fits 62 = .ok (.invokevirtual 225, 3) := by decide +kernel
theorem dX8_fits_65 : decode cX8_fits 65 = .ok (.istore 6, 2) := by decide +kernel
theorem dX8_fits_67 : decode cX8_fits 67 = .ok (.iload_n 3, 1) := by decide +kernel
theorem dX8_fits_68 : decode cX8_fits 68 = .ok (.iload 6, 2) := by decide +kernel
theorem dX8_fits_70 : decode cX8_fits 70 = .ok (.ifCond .eq 7, 3) := by decide +kernel
theorem dX8_fits_73 : decode cX8_fits 73 = .ok (.iconst 1, 1) := by decide +kernel
theorem dX8_fits_74 : decode cX8_fits 74 = .ok (.goto 4, 3) := by decide +kernel
theorem dX8_fits_77 : decode cX8_fits 77 = .ok (.iconst 0, 1) := by decide +kernel
theorem dX8_fits_78 : decode cX8_fits 78 = .ok (.iadd, 1) := by decide +kernel
theorem dX8_fits_79 : decode cX8_fits 79 = .ok (.istore_n 3, 1) := by decide +kernel
theorem dX8_fits_80 : decode cX8_fits 80 = .ok (.iload 6, 2) := by decide +kernel
theorem dX8_fits_82 : decode cX8_fits 82 = .ok (.ifCond .eq 8, 3) := by decide +kernel
theorem dX8_fits_85 : decode cX8_fits 85 = .ok (.iload 5, 2) := by decide +kernel
theorem dX8_fits_87 : decode cX8_fits 87 = .ok (.goto 5, 3) := by decide +kernel
theorem dX8_fits_90 : decode cX8_fits 90 = .ok (.iload 4, 2) := by decide +kernel
theorem dX8_fits_92 : decode cX8_fits 92 = .ok (.istore 4, 2) := by decide +kernel
theorem dX8_fits_94 : decode cX8_fits 94 = .ok (.iinc 5 (-1), 3) := by decide +kernel
theorem dX8_fits_97 : decode cX8_fits 97 = .ok (.goto (-44), 3) := by decide +kernel
theorem dX8_fits_100 : decode cX8_fits 100 = .ok (.iload_n 2, 1) := by decide +kernel
theorem dX8_fits_101 : decode cX8_fits 101 = .ok (.ifCond .ne 7, 3) := by decide +kernel
theorem dX8_fits_104 : decode cX8_fits 104 = .ok (.iload_n 3, 1) := by decide +kernel
theorem dX8_fits_105 : decode cX8_fits 105 = .ok (.goto 19, 3) := by decide +kernel
theorem dX8_fits_108 : decode cX8_fits 108 = .ok (.iload 4, 2) := by decide +kernel
theorem dX8_fits_110 : decode cX8_fits 110 = .ok (.ifCond .ge 12, 3) := by decide +kernel
theorem dX8_fits_113 : decode cX8_fits 113 = .ok (.aload_n 0, 1) := by decide +kernel
theorem dX8_fits_114 : decode cX8_fits 114 = .ok (.ldc 215, 2) := by decide +kernel
theorem dX8_fits_116 : decode cX8_fits 116 = .ok (.invokevirtual 107, 3) := by decide +kernel
theorem dX8_fits_119 : decode cX8_fits 119 = .ok (.goto 5, 3) := by decide +kernel
theorem dX8_fits_122 : decode cX8_fits 122 = .ok (.iload 4, 2) := by decide +kernel
theorem dX8_fits_124 : decode cX8_fits 124 = .ok (.ireturn, 1) := by decide +kernel
theorem dX8_begins_0 : decode cX8_begins 0 = .ok (.aload_n 0, 1) := by decide +kernel
theorem dX8_begins_1 : decode cX8_begins 1 = .ok (.getfield 228, 3) := by decide +kernel
theorem dX8_begins_4 : decode cX8_begins 4 = .ok (.bipush 30, 2) := by decide +kernel
theorem dX8_begins_6 : decode cX8_begins 6 = .ok (.if_icmp .ge 23, 3) := by decide +kernel
theorem dX8_begins_9 : decode cX8_begins 9 = .ok (.aload_n 0, 1) := by decide +kernel
theorem dX8_begins_10 : decode cX8_begins 10 = .ok (.getfield 51, 3) := by decide +kernel
theorem dX8_begins_13 : decode cX8_begins 13 = .ok (.aload_n 0, 1) := by decide +kernel
theorem dX8_begins_14 : decode cX8_begins 14 = .ok (.getfield 228, 3) := by decide +kernel
theorem dX8_begins_17 : decode cX8_begins 17 = .ok (.iload_n 1, 1) := by decide +kernel
theorem dX8_begins_18 : decode cX8_begins 18 = .ok (.iastore, 1) := by decide +kernel
theorem dX8_begins_19 : decode cX8_begins 19 = .ok (.aload_n 0, 1) := by decide +kernel
theorem dX8_begins_20 : decode cX8_begins 20 = .ok (.dup, 1) := by decide +kernel
theorem dX8_begins_21 : decode cX8_begins 21 = .ok (.getfield 228, 3) := by decide +kernel
theorem dX8_begins_24 : decode cX8_begins 24 = .ok (.iconst 1, 1) := by decide +kernel
theorem dX8_begins_25 : decode cX8_begins 25 = .ok (.iadd, 1) := by decide +kernel
theorem dX8_begins_26 : decode cX8_begins 26 = .ok (.putfield 228, 3) := by decide +kernel
theorem dX8_begins_29 : decode cX8_begins 29 = .ok (.return_, 1) := by decide +kernel
theorem dX8_plainCoughs_0 : decode cX8_plainCoughs 0 = .ok (.aload_n 0, 1) := by decide +kernel
theorem dX8_plainCoughs_1 : decode cX8_plainCoughs 1 = .ok (.bipush 10, 2) := by decide +kernel
theorem dX8_plainCoughs_3 : decode cX8_plainCoughs 3 = .ok (.invokevirtual 231, 3) := by decide +kernel
theorem dX8_plainCoughs_6 : decode cX8_plainCoughs 6 = .ok (.iload_n 2, 1) := by decide +kernel
theorem dX8_plainCoughs_7 : decode cX8_plainCoughs 7 = .ok (.iload_n 1, 1) := by decide +kernel
theorem dX8_plainCoughs_8 : decode cX8_plainCoughs 8 = .ok (.iadd, 1) := by decide +kernel
theorem dX8_plainCoughs_9 : decode cX8_plainCoughs 9 = .ok (.ireturn, 1) := by decide +kernel
theorem dX8_carefulCoughs_0 : decode cX8_carefulCoughs 0 = .ok (.aload_n 0, 1) := by decide +kernel
theorem dX8_carefulCoughs_1 : decode cX8_carefulCoughs 1 = .ok (.bipush 20, 2) := by decide +kernel
theorem dX8_carefulCoughs_3 : decode cX8_carefulCoughs 3 = .ok (.invokevirtual 231, 3) := by decide +kernel
theorem dX8_carefulCoughs_6 : decode cX8_carefulCoughs 6 = .ok (.aload_n 0, 1) := by decide +kernel
theorem dX8_carefulCoughs_7 : decode cX8_carefulCoughs 7 = .ok (.iload_n 1, 1) := by decide +kernel
theorem dX8_carefulCoughs_8 : decode cX8_carefulCoughs 8 = .ok (.iload_n 2, 1) := by decide +kernel
theorem dX8_carefulCoughs_9 : decode cX8_carefulCoughs 9 = .ok (.invokevirtual 234, 3) := by decide +kernel
theorem dX8_carefulCoughs_12 : decode cX8_carefulCoughs 12 = .ok (.iconst 4, 1) := by decide +kernel
theorem dX8_carefulCoughs_13 : decode cX8_carefulCoughs 13 = .ok (.isub, 1) := by decide +kernel
theorem dX8_carefulCoughs_14 : decode cX8_carefulCoughs 14 = .ok (.ireturn, 1) := by decide +kernel
theorem dX8_coughs_0 : decode cX8_coughs 0 = .ok (.aload_n 0, 1) := by decide +kernel
theorem dX8_coughs_1 : decode cX8_coughs 1 = .ok (.iload_n 1, 1) := by decide +kernel
theorem dX8_coughs_2 : decode cX8_coughs 2 = .ok (.iconst 0, 1) := by decide +kernel
theorem dX8_coughs_3 : decode cX8_coughs 3 = .ok (.invokevirtual 81, 3) := by decide +kernel
theorem dX8_coughs_6 : decode cX8_coughs 6 = .ok (.lookupswitch 65 #[(1, 34), (4, 41), (6, 56)], 34) := by decide +kernel
theorem dX8_coughs_40 : decode cX8_coughs 40 = .ok (.aload_n 0, 1) := by decide +kernel
theorem dX8_coughs_41 : decode cX8_coughs 41 = .ok (.iload_n 1, 1) := by decide +kernel
theorem dX8_coughs_42 : decode cX8_coughs 42 = .ok (.iload_n 2, 1) := by decide +kernel
theorem dX8_coughs_43 : decode cX8_coughs 43 = .ok (.invokevirtual 237, 3) := by decide +kernel
theorem dX8_coughs_46 : decode cX8_coughs 46 = .ok (.ireturn, 1) := by decide +kernel
theorem dX8_coughs_47 : decode cX8_coughs 47 = .ok (.aload_n 0, 1) := by decide +kernel
theorem dX8_coughs_48 : decode cX8_coughs 48 = .ok (.bipush 50, 2) := by decide +kernel
theorem dX8_coughs_50 : decode cX8_coughs 50 = .ok (.invokevirtual 231, 3) := by decide +kernel
theorem dX8_coughs_53 : decode cX8_coughs 53 = .ok (.aload_n 0, 1) := by decide +kernel
theorem dX8_coughs_54 : decode cX8_coughs 54 = .ok (.iload_n 1, 1) := by decide +kernel
theorem dX8_coughs_55 : decode cX8_coughs 55 = .ok (.iload_n 2, 1) := by decide +kernel
theorem dX8_coughs_56 : decode cX8_coughs 56 = .ok (.invokevirtual 237, 3) := by decide +kernel
theorem dX8_coughs_59 : decode cX8_coughs 59 = .ok (.iconst 3, 1) := by decide +kernel
theorem dX8_coughs_60 : decode cX8_coughs 60 = .ok (.imul, 1) := by decide +kernel
theorem dX8_coughs_61 : decode cX8_coughs 61 = .ok (.ireturn, 1) := by decide +kernel
theorem dX8_coughs_62 : decode cX8_coughs 62 = .ok (.aload_n 0, 1) := by decide +kernel
theorem dX8_coughs_63 : decode cX8_coughs 63 = .ok (.bipush 70, 2) := by decide +kernel
theorem dX8_coughs_65 : decode cX8_coughs 65 = .ok (.invokevirtual 231, 3) := by decide +kernel
theorem dX8_coughs_68 : decode cX8_coughs 68 = .ok (.bipush 9, 2) := by decide +kernel
theorem dX8_coughs_70 : decode cX8_coughs 70 = .ok (.ireturn, 1) := by decide +kernel
theorem dX8_coughs_71 : decode cX8_coughs 71 = .ok (.aload_n 0, 1) := by decide +kernel
theorem dX8_coughs_72 : decode cX8_coughs 72 = .ok (.iload_n 1, 1) := by decide +kernel
theorem dX8_coughs_73 : decode cX8_coughs 73 = .ok (.iload_n 2, 1) := by decide +kernel
theorem dX8_coughs_74 : decode cX8_coughs 74 = .ok (.invokevirtual 234, 3) := by decide +kernel
theorem dX8_coughs_77 : decode cX8_coughs 77 = .ok (.ireturn, 1) := by decide +kernel
theorem dX8_plainTalks_0 : decode cX8_plainTalks 0 = .ok (.aload_n 0, 1) := by decide +kernel
theorem dX8_plainTalks_1 : decode cX8_plainTalks 1 = .ok (.bipush 11, 2) := by decide +kernel
theorem dX8_plainTalks_3 : decode cX8_plainTalks 3 = .ok (.invokevirtual 231, 3) := by decide +kernel
theorem dX8_plainTalks_6 : decode cX8_plainTalks 6 = .ok (.aload_n 0, 1) := by decide +kernel
theorem dX8_plainTalks_7 : decode cX8_plainTalks 7 = .ok (.iload_n 1, 1) := by decide +kernel
theorem dX8_plainTalks_8 : decode cX8_plainTalks 8 = .ok (.iload_n 2, 1) := by decide +kernel
theorem dX8_plainTalks_9 : decode cX8_plainTalks 9 = .ok (.invokevirtual 240, 3) := by decide +kernel
theorem dX8_plainTalks_12 : decode cX8_plainTalks 12 = .ok (.iconst 2, 1) := by decide +kernel
theorem dX8_plainTalks_13 : decode cX8_plainTalks 13 = .ok (.imul, 1) := by decide +kernel
theorem dX8_plainTalks_14 : decode cX8_plainTalks 14 = .ok (.ireturn, 1) := by decide +kernel
theorem dX8_boldTalks_0 : decode cX8_boldTalks 0 = .ok (.aload_n 0, 1) := by decide +kernel
theorem dX8_boldTalks_1 : decode cX8_boldTalks 1 = .ok (.bipush 30, 2) := by decide +kernel
theorem dX8_boldTalks_3 : decode cX8_boldTalks 3 = .ok (.invokevirtual 231, 3) := by decide +kernel
theorem dX8_boldTalks_6 : decode cX8_boldTalks 6 = .ok (.aload_n 0, 1) := by decide +kernel
theorem dX8_boldTalks_7 : decode cX8_boldTalks 7 = .ok (.iload_n 1, 1) := by decide +kernel
theorem dX8_boldTalks_8 : decode cX8_boldTalks 8 = .ok (.iload_n 2, 1) := by decide +kernel
theorem dX8_boldTalks_9 : decode cX8_boldTalks 9 = .ok (.invokevirtual 243, 3) := by decide +kernel
theorem dX8_boldTalks_12 : decode cX8_boldTalks 12 = .ok (.ineg, 1) := by decide +kernel
theorem dX8_boldTalks_13 : decode cX8_boldTalks 13 = .ok (.ireturn, 1) := by decide +kernel
theorem dX8_talks_0 : decode cX8_talks 0 = .ok (.aload_n 0, 1) := by decide +kernel
theorem dX8_talks_1 : decode cX8_talks 1 = .ok (.iload_n 1, 1) := by decide +kernel
theorem dX8_talks_2 : decode cX8_talks 2 = .ok (.iconst 0, 1) := by decide +kernel
theorem dX8_talks_3 : decode cX8_talks 3 = .ok (.invokevirtual 81, 3) := by decide +kernel
theorem dX8_talks_6 : decode cX8_talks 6 = .ok (.tableswitch 76 2 6 #[34, 76, 76, 41, 56], 34) := by decide +kernel
theorem dX8_talks_40 : decode cX8_talks 40 = .ok (.aload_n 0, 1) := by decide +kernel
theorem dX8_talks_41 : decode cX8_talks 41 = .ok (.iload_n 1, 1) := by decide +kernel
theorem dX8_talks_42 : decode cX8_talks 42 = .ok (.iload_n 2, 1) := by decide +kernel
theorem dX8_talks_43 : decode cX8_talks 43 = .ok (.invokevirtual 246, 3) := by decide +kernel
theorem dX8_talks_46 : decode cX8_talks 46 = .ok (.ireturn, 1) := by decide +kernel
theorem dX8_talks_47 : decode cX8_talks 47 = .ok (.aload_n 0, 1) := by decide +kernel
theorem dX8_talks_48 : decode cX8_talks 48 = .ok (.bipush 60, 2) := by decide +kernel
theorem dX8_talks_50 : decode cX8_talks 50 = .ok (.invokevirtual 231, 3) := by decide +kernel
theorem dX8_talks_53 : decode cX8_talks 53 = .ok (.aload_n 0, 1) := by decide +kernel
theorem dX8_talks_54 : decode cX8_talks 54 = .ok (.iload_n 1, 1) := by decide +kernel
theorem dX8_talks_55 : decode cX8_talks 55 = .ok (.iload_n 2, 1) := by decide +kernel
theorem dX8_talks_56 : decode cX8_talks 56 = .ok (.iconst 1, 1) := by decide +kernel
theorem dX8_talks_57 : decode cX8_talks 57 = .ok (.iadd, 1) := by decide +kernel
theorem dX8_talks_58 : decode cX8_talks 58 = .ok (.invokevirtual 246, 3) := by decide +kernel
theorem dX8_talks_61 : decode cX8_talks 61 = .ok (.ireturn, 1) := by decide +kernel
theorem dX8_talks_62 : decode cX8_talks 62 = .ok (.aload_n 0, 1) := by decide +kernel
theorem dX8_talks_63 : decode cX8_talks 63 = .ok (.bipush 71, 2) := by decide +kernel
theorem dX8_talks_65 : decode cX8_talks 65 = .ok (.invokevirtual 231, 3) := by decide +kernel
theorem dX8_talks_68 : decode cX8_talks 68 = .ok (.aload_n 0, 1) := by decide +kernel
theorem dX8_talks_69 : decode cX8_talks 69 = .ok (.iload_n 1, 1) := by decide +kernel
theorem dX8_talks_70 : decode cX8_talks 70 = .ok (.iload_n 2, 1) := by decide +kernel
theorem dX8_talks_71 : decode cX8_talks 71 = .ok (.invokevirtual 243, 3) := by decide +kernel
theorem dX8_talks_74 : decode cX8_talks 74 = .ok (.aload_n 0, 1) := by decide +kernel
theorem dX8_talks_75 : decode cX8_talks 75 = .ok (.iload_n 1, 1) := by decide +kernel
theorem dX8_talks_76 : decode cX8_talks 76 = .ok (.iconst 1, 1) := by decide +kernel
theorem dX8_talks_77 : decode cX8_talks 77 = .ok (.invokevirtual 81, 3) := by decide +kernel
theorem dX8_talks_80 : decode cX8_talks 80 = .ok (.iadd, 1) := by decide +kernel
theorem dX8_talks_81 : decode cX8_talks 81 = .ok (.ireturn, 1) := by decide +kernel
theorem dX8_talks_82 : decode cX8_talks 82 = .ok (.aload_n 0, 1) := by decide +kernel
theorem dX8_talks_83 : decode cX8_talks 83 = .ok (.iload_n 1, 1) := by decide +kernel
theorem dX8_talks_84 : decode cX8_talks 84 = .ok (.iload_n 2, 1) := by decide +kernel
theorem dX8_talks_85 : decode cX8_talks 85 = .ok (.invokevirtual 243, 3) := by decide +kernel
theorem dX8_talks_88 : decode cX8_talks 88 = .ok (.ireturn, 1) := by decide +kernel
theorem dX8_plainHushes_0 : decode cX8_plainHushes 0 = .ok (.aload_n 0, 1) := by decide +kernel
theorem dX8_plainHushes_1 : decode cX8_plainHushes 1 = .ok (.bipush 12, 2) := by decide +kernel
theorem dX8_plainHushes_3 : decode cX8_plainHushes 3 = .ok (.invokevirtual 231, 3) := by decide +kernel
theorem dX8_plainHushes_6 : decode cX8_plainHushes 6 = .ok (.aload_n 0, 1) := by decide +kernel
theorem dX8_plainHushes_7 : decode cX8_plainHushes 7 = .ok (.iload_n 1, 1) := by decide +kernel
theorem dX8_plainHushes_8 : decode cX8_plainHushes 8 = .ok (.iload_n 2, 1) := by decide +kernel
theorem dX8_plainHushes_9 : decode cX8_plainHushes 9 = .ok (.invokevirtual 249, 3) := by decide +kernel
theorem dX8_plainHushes_12 : decode cX8_plainHushes 12 = .ok (.aload_n 0, 1) := by decide +kernel
theorem dX8_plainHushes_13 : decode cX8_plainHushes 13 = .ok (.iload_n 1, 1) := by decide +kernel
theorem dX8_plainHushes_14 : decode cX8_plainHushes 14 = .ok (.iconst 1, 1) := by decide +kernel
theorem dX8_plainHushes_15 : decode cX8_plainHushes 15 = .ok (.invokevirtual 81, 3) := by decide +kernel
theorem dX8_plainHushes_18 : decode cX8_plainHushes 18 = .ok (.isub, 1) := by decide +kernel
theorem dX8_plainHushes_19 : decode cX8_plainHushes 19 = .ok (.ireturn, 1) := by decide +kernel
theorem dX8_hushes_0 : decode cX8_hushes 0 = .ok (.aload_n 0, 1) := by decide +kernel
theorem dX8_hushes_1 : decode cX8_hushes 1 = .ok (.iload_n 1, 1) := by decide +kernel
theorem dX8_hushes_2 : decode cX8_hushes 2 = .ok (.iconst 0, 1) := by decide +kernel
theorem dX8_hushes_3 : decode cX8_hushes 3 = .ok (.invokevirtual 81, 3) := by decide +kernel
theorem dX8_hushes_6 : decode cX8_hushes 6 = .ok (.lookupswitch 56 #[(3, 26), (4, 41)], 26) := by decide +kernel
theorem dX8_hushes_32 : decode cX8_hushes 32 = .ok (.aload_n 0, 1) := by decide +kernel
theorem dX8_hushes_33 : decode cX8_hushes 33 = .ok (.bipush 40, 2) := by decide +kernel
theorem dX8_hushes_35 : decode cX8_hushes 35 = .ok (.invokevirtual 231, 3) := by decide +kernel
theorem dX8_hushes_38 : decode cX8_hushes 38 = .ok (.aload_n 0, 1) := by decide +kernel
theorem dX8_hushes_39 : decode cX8_hushes 39 = .ok (.iload_n 1, 1) := by decide +kernel
theorem dX8_hushes_40 : decode cX8_hushes 40 = .ok (.iload_n 2, 1) := by decide +kernel
theorem dX8_hushes_41 : decode cX8_hushes 41 = .ok (.iconst 2, 1) := by decide +kernel
theorem dX8_hushes_42 : decode cX8_hushes 42 = .ok (.idiv, 1) := by decide +kernel
theorem dX8_hushes_43 : decode cX8_hushes 43 = .ok (.invokevirtual 252, 3) := by decide +kernel
theorem dX8_hushes_46 : decode cX8_hushes 46 = .ok (.ireturn, 1) := by decide +kernel
theorem dX8_hushes_47 : decode cX8_hushes 47 = .ok (.aload_n 0, 1) := by decide +kernel
theorem dX8_hushes_48 : decode cX8_hushes 48 = .ok (.bipush 51, 2) := by decide +kernel
theorem dX8_hushes_50 : decode cX8_hushes 50 = .ok (.invokevirtual 231, 3) := by decide +kernel
theorem dX8_hushes_53 : decode cX8_hushes 53 = .ok (.aload_n 0, 1) := by decide +kernel
theorem dX8_hushes_54 : decode cX8_hushes 54 = .ok (.iload_n 1, 1) := by decide +kernel
theorem dX8_hushes_55 : decode cX8_hushes 55 = .ok (.iload_n 2, 1) := by decide +kernel
theorem dX8_hushes_56 : decode cX8_hushes 56 = .ok (.invokevirtual 252, 3) := by decide +kernel
theorem dX8_hushes_59 : decode cX8_hushes 59 = .ok (.iload_n 1, 1) := by decide +kernel
theorem dX8_hushes_60 : decode cX8_hushes 60 = .ok (.ixor, 1) := by decide +kernel
theorem dX8_hushes_61 : decode cX8_hushes 61 = .ok (.ireturn, 1) := by decide +kernel
theorem dX8_hushes_62 : decode cX8_hushes 62 = .ok (.aload_n 0, 1) := by decide +kernel
theorem dX8_hushes_63 : decode cX8_hushes 63 = .ok (.iload_n 1, 1) := by decide +kernel
theorem dX8_hushes_64 : decode cX8_hushes 64 = .ok (.iload_n 2, 1) := by decide +kernel
theorem dX8_hushes_65 : decode cX8_hushes 65 = .ok (.invokevirtual 252, 3) := by decide +kernel
theorem dX8_hushes_68 : decode cX8_hushes 68 = .ok (.ireturn, 1) := by decide +kernel
theorem dX8_plainParts_0 : decode cX8_plainParts 0 = .ok (.aload_n 0, 1) := by decide +kernel
theorem dX8_plainParts_1 : decode cX8_plainParts 1 = .ok (.bipush 13, 2) := by decide +kernel
theorem dX8_plainParts_3 : decode cX8_plainParts 3 = .ok (.invokevirtual 231, 3) := by decide +kernel
theorem dX8_plainParts_6 : decode cX8_plainParts 6 = .ok (.aload_n 0, 1) := by decide +kernel
theorem dX8_plainParts_7 : decode cX8_plainParts 7 = .ok (.iload_n 1, 1) := by decide +kernel
theorem dX8_plainParts_8 : decode cX8_plainParts 8 = .ok (.iconst 1, 1) := by decide +kernel
theorem dX8_plainParts_9 : decode cX8_plainParts 9 = .ok (.invokevirtual 81, 3) := by decide +kernel
theorem dX8_plainParts_12 : decode cX8_plainParts 12 = .ok (.iload_n 1, 1) := by decide +kernel
theorem dX8_plainParts_13 : decode cX8_plainParts 13 = .ok (.isub, 1) := by decide +kernel
theorem dX8_plainParts_14 : decode cX8_plainParts 14 = .ok (.istore_n 3, 1) := by decide +kernel
theorem dX8_plainParts_15 : decode cX8_plainParts 15 = .ok (.aload_n 0, 1) := by decide +kernel
theorem dX8_plainParts_16 : decode cX8_plainParts 16 = .ok (.iload_n 3, 1) := by decide +kernel
theorem dX8_plainParts_17 : decode cX8_plainParts 17 = .ok (.ifCond .ne 7, 3) := by decide +kernel
theorem dX8_plainParts_20 : decode cX8_plainParts 20 = .ok (.iconst 1, 1) := by decide +kernel
theorem dX8_plainParts_21 : decode cX8_plainParts 21 = .ok (.goto 4, 3) := by decide +kernel
theorem dX8_plainParts_24 : decode cX8_plainParts 24 = .ok (.iconst 0, 1) := by decide +kernel
theorem dX8_plainParts_25 : decode cX8_plainParts 25 = .ok (.putfield 255, 3) := by decide +kernel
theorem dX8_plainParts_28 : decode cX8_plainParts 28 = .ok (.aload_n 0, 1) := by decide +kernel
theorem dX8_plainParts_29 : decode cX8_plainParts 29 = .ok (.getfield 255, 3) := by decide +kernel
theorem dX8_plainParts_32 : decode cX8_plainParts 32 = .ok (.ifCond .eq 7, 3) := by decide +kernel
theorem dX8_plainParts_35 : decode cX8_plainParts 35 = .ok (.iconst 0, 1) := by decide +kernel
theorem dX8_plainParts_36 : decode cX8_plainParts 36 = .ok (.goto 6, 3) := by decide +kernel
theorem dX8_plainParts_39 : decode cX8_plainParts 39 = .ok (.iload_n 2, 1) := by decide +kernel
theorem dX8_plainParts_40 : decode cX8_plainParts 40 = .ok (.iload_n 3, 1) := by decide +kernel
theorem dX8_plainParts_41 : decode cX8_plainParts 41 = .ok (.idiv, 1) := by decide +kernel
theorem dX8_plainParts_42 : decode cX8_plainParts 42 = .ok (.ireturn, 1) := by decide +kernel
theorem dX8_partsBy_0 : decode cX8_partsBy 0 = .ok (.aload_n 0, 1) := by decide +kernel
theorem dX8_partsBy_1 : decode cX8_partsBy 1 = .ok (.iload_n 1, 1) := by decide +kernel
theorem dX8_partsBy_2 : decode cX8_partsBy 2 = .ok (.iconst 0, 1) := by decide +kernel
theorem dX8_partsBy_3 : decode cX8_partsBy 3 = .ok (.invokevirtual 81, 3) := by decide +kernel
theorem dX8_partsBy_6 : decode cX8_partsBy 6 = .ok (.iconst 1, 1) := by decide +kernel
theorem dX8_partsBy_7 : decode cX8_partsBy 7 = .ok (.if_icmp .eq 13, 3) := by decide +kernel
theorem dX8_partsBy_10 : decode cX8_partsBy 10 = .ok (.aload_n 0, 1) := by decide +kernel
theorem dX8_partsBy_11 : decode cX8_partsBy 11 = .ok (.iload_n 1, 1) := by decide +kernel
theorem dX8_partsBy_12 : decode cX8_partsBy 12 = .ok (.iconst 0, 1) := by decide +kernel
theorem dX8_partsBy_13 : decode cX8_partsBy 13 = .ok (.invokevirtual 81, 3) := by decide +kernel
theorem dX8_partsBy_16 : decode cX8_partsBy 16 = .ok (.iconst 4, 1) := by decide +kernel
theorem dX8_partsBy_17 : decode cX8_partsBy 17 = .ok (.if_icmp .ne 36, 3) := by decide +kernel
theorem dX8_partsBy_20 : decode cX8_partsBy 20 = .ok (.aload_n 0, 1) := by decide +kernel
theorem dX8_partsBy_21 : decode cX8_partsBy 21 = .ok (.bipush 21, 2) := by decide +kernel
theorem dX8_partsBy_23 : decode cX8_partsBy 23 = .ok (.invokevirtual 231, 3) := by decide +kernel
theorem dX8_partsBy_26 : decode cX8_partsBy 26 = .ok (.aload_n 0, 1) := by decide +kernel
theorem dX8_partsBy_27 : decode cX8_partsBy 27 = .ok (.iload_n 1, 1) := by decide +kernel
theorem dX8_partsBy_28 : decode cX8_partsBy 28 = .ok (.iload_n 2, 1) := by decide +kernel
theorem dX8_partsBy_29 : decode cX8_partsBy 29 = .ok (.invokevirtual 258, 3) := by decide +kernel
theorem dX8_partsBy_32 : decode cX8_partsBy 32 = .ok (.istore_n 3, 1) := by decide +kernel
theorem dX8_partsBy_33 : decode cX8_partsBy 33 = .ok (.aload_n 0, 1) := by decide +kernel
theorem dX8_partsBy_34 : decode cX8_partsBy 34 = .ok (.getfield 255, 3) := by decide +kernel
theorem dX8_partsBy_37 : decode cX8_partsBy 37 = .ok (.ifCond .eq 7, 3) := by decide +kernel
theorem dX8_partsBy_40 : decode cX8_partsBy 40 = .ok (.iconst 0, 1) := by decide +kernel
theorem dX8_partsBy_41 : decode cX8_partsBy 41 = .ok (.goto 11, 3) := by decide +kernel
theorem dX8_partsBy_44 : decode cX8_partsBy 44 = .ok (.iload_n 3, 1) := by decide +kernel
theorem dX8_partsBy_45 : decode cX8_partsBy 45 = .ok (.aload_n 0, 1) := by decide +kernel
theorem dX8_partsBy_46 : decode cX8_partsBy 46 = .ok (.iload_n 1, 1) := by decide +kernel
theorem dX8_partsBy_47 : decode cX8_partsBy 47 = .ok (.iconst 1, 1) := by decide +kernel
theorem dX8_partsBy_48 : decode cX8_partsBy 48 = .ok (.invokevirtual 249, 3) := by decide +kernel
theorem dX8_partsBy_51 : decode cX8_partsBy 51 = .ok (.iadd, 1) := by decide +kernel
theorem dX8_partsBy_52 : decode cX8_partsBy 52 = .ok (.ireturn, 1) := by decide +kernel
theorem dX8_partsBy_53 : decode cX8_partsBy 53 = .ok (.aload_n 0, 1) := by decide +kernel
theorem dX8_partsBy_54 : decode cX8_partsBy 54 = .ok (.iload_n 1, 1) := by decide +kernel
theorem dX8_partsBy_55 : decode cX8_partsBy 55 = .ok (.iload_n 2, 1) := by decide +kernel
theorem dX8_partsBy_56 : decode cX8_partsBy 56 = .ok (.invokevirtual 258, 3) := by decide +kernel
theorem dX8_partsBy_59 : decode cX8_partsBy 59 = .ok (.ireturn, 1) := by decide +kernel
theorem dX8_voice_0 : decode cX8_voice 0 = .ok (.aload_n 0, 1) := by decide +kernel
theorem dX8_voice_1 : decode cX8_voice 1 = .ok (.iload_n 1, 1) := by decide +kernel
theorem dX8_voice_2 : decode cX8_voice 2 = .ok (.invokevirtual 114, 3) := by decide +kernel
theorem dX8_voice_5 : decode cX8_voice 5 = .ok (.ifCond .eq 12, 3) := by decide +kernel
theorem dX8_voice_8 : decode cX8_voice 8 = .ok (.iload_n 2, 1) := by decide +kernel
theorem dX8_voice_9 : decode cX8_voice 9 = .ok (.iconst 0, 1) := by decide +kernel
theorem dX8_voice_10 : decode cX8_voice 10 = .ok (.iconst 3, 1) := by decide +kernel
theorem dX8_voice_11 : decode cX8_voice 11 = .ok (.invokestatic 59, 3) := by decide +kernel
theorem dX8_voice_14 : decode cX8_voice 14 = .ok (.ifCond .ne 10, 3) := by decide +kernel
theorem dX8_voice_17 : decode cX8_voice 17 = .ok (.aload_n 0, 1) := by decide +kernel
theorem dX8_voice_18 : decode cX8_voice 18 = .ok (.ldc 106, 2) := by decide +kernel
theorem dX8_voice_20 : decode cX8_voice 20 = .ok (.invokevirtual 107, 3) := by decide +kernel
theorem dX8_voice_23 : decode cX8_voice 23 = .ok (.ireturn, 1) := by decide +kernel
theorem dX8_voice_24 : decode cX8_voice 24 = .ok (.aload_n 0, 1) := by decide +kernel
theorem dX8_voice_25 : decode cX8_voice 25 = .ok (.iconst 0, 1) := by decide +kernel
theorem dX8_voice_26 : decode cX8_voice 26 = .ok (.putfield 228, 3) := by decide +kernel
theorem dX8_voice_29 : decode cX8_voice 29 = .ok (.aload_n 0, 1) := by decide +kernel
theorem dX8_voice_30 : decode cX8_voice 30 = .ok (.iconst 0, 1) := by decide +kernel
theorem dX8_voice_31 : decode cX8_voice 31 = .ok (.putfield 255, 3) := by decide +kernel
theorem dX8_voice_34 : decode cX8_voice 34 = .ok (.iload_n 2, 1) := by decide +kernel
theorem dX8_voice_35 : decode cX8_voice 35 = .ok (.ifCond .ne 12, 3) := by decide +kernel
theorem dX8_voice_38 : decode cX8_voice 38 = .ok (.aload_n 0, 1) := by decide +kernel
theorem dX8_voice_39 : decode cX8_voice 39 = .ok (.iload_n 1, 1) := by decide +kernel
theorem dX8_voice_40 : decode cX8_voice 40 = .ok (.iload_n 3, 1) := by decide +kernel
theorem dX8_voice_41 : decode cX8_voice 41 = .ok (.invokevirtual 240, 3) := by decide +kernel
theorem dX8_voice_44 : decode cX8_voice 44 = .ok (.goto 37, 3) := by decide +kernel
theorem dX8_voice_47 : decode cX8_voice 47 = .ok (.iload_n 2, 1) := by decide +kernel
theorem dX8_voice_48 : decode cX8_voice 48 = .ok (.iconst 1, 1) := by decide +kernel
theorem dX8_voice_49 : decode cX8_voice 49 = .ok (.if_icmp .ne 12, 3) := by decide +kernel
theorem dX8_voice_52 : decode cX8_voice 52 = .ok (.aload_n 0, 1) := by decide +kernel
theorem dX8_voice_53 : decode cX8_voice 53 = .ok (.iload_n 1, 1) := by decide +kernel
theorem dX8_voice_54 : decode cX8_voice 54 = .ok (.iload_n 3, 1) := by decide +kernel
theorem dX8_voice_55 : decode cX8_voice 55 = .ok (.invokevirtual 249, 3) := by decide +kernel
theorem dX8_voice_58 : decode cX8_voice 58 = .ok (.goto 23, 3) := by decide +kernel
theorem dX8_voice_61 : decode cX8_voice 61 = .ok (.iload_n 2, 1) := by decide +kernel
theorem dX8_voice_62 : decode cX8_voice 62 = .ok (.iconst 2, 1) := by decide +kernel
theorem dX8_voice_63 : decode cX8_voice 63 = .ok (.if_icmp .ne 12, 3) := by decide +kernel
theorem dX8_voice_66 : decode cX8_voice 66 = .ok (.aload_n 0, 1) := by decide +kernel
theorem dX8_voice_67 : decode cX8_voice 67 = .ok (.iload_n 1, 1) := by decide +kernel
theorem dX8_voice_68 : decode cX8_voice 68 = .ok (.iload_n 3, 1) := by decide +kernel
theorem dX8_voice_69 : decode cX8_voice 69 = .ok (.invokevirtual 261, 3) := by decide +kernel
theorem dX8_voice_72 : decode cX8_voice 72 = .ok (.goto 9, 3) := by decide +kernel
theorem dX8_voice_75 : decode cX8_voice 75 = .ok (.aload_n 0, 1) := by decide +kernel
theorem dX8_voice_76 : decode cX8_voice 76 = .ok (.iload_n 1, 1) := by decide +kernel
theorem dX8_voice_77 : decode cX8_voice 77 = .ok (.iload_n 3, 1) := by decide +kernel
theorem dX8_voice_78 : decode cX8_voice 78 = .ok (.invokevirtual 264, 3) := by decide +kernel
theorem dX8_voice_81 : decode cX8_voice 81 = .ok (.istore 4, 2) := by decide +kernel
theorem dX8_voice_83 : decode cX8_voice 83 = .ok (.aload_n 0, 1) := by decide +kernel
theorem dX8_voice_84 : decode cX8_voice 84 = .ok (.getfield 255, 3) := by decide +kernel
theorem dX8_voice_87 : decode cX8_voice 87 = .ok (.ifCond .eq 13, 3) := by decide +kernel
theorem dX8_voice_90 : decode cX8_voice 90 = .ok (.aload_n 0, 1) := by decide +kernel
theorem dX8_voice_91 : decode cX8_voice 91 = .ok (.ldc_w 267, 3) := by decide +kernel
theorem dX8_voice_94 : decode cX8_voice 94 = .ok (.invokevirtual 107, 3) := by decide +kernel
theorem dX8_voice_97 : decode cX8_voice 97 = .ok (.goto 5, 3) := by decide +kernel
theorem dX8_voice_100 : decode cX8_voice 100 = .ok (.iload 4, 2) := by decide +kernel
theorem dX8_voice_102 : decode cX8_voice 102 = .ok (.ireturn, 1) := by decide +kernel
theorem dX8_body_0 : decode cX8_body 0 = .ok (.iload_n 1, 1) := by decide +kernel
theorem dX8_body_1 : decode cX8_body 1 = .ok (.iconst 0, 1) := by decide +kernel
theorem dX8_body_2 : decode cX8_body 2 = .ok (.aload_n 0, 1) := by decide +kernel
theorem dX8_body_3 : decode cX8_body 3 = .ok (.getfield 228, 3) := by decide +kernel
theorem dX8_body_6 : decode cX8_body 6 = .ok (.iconst 1, 1) := by decide +kernel
theorem dX8_body_7 : decode cX8_body 7 = .ok (.isub, 1) := by decide +kernel
theorem dX8_body_8 : decode cX8_body 8 = .ok (.invokestatic 59, 3) := by decide +kernel
theorem dX8_body_11 : decode cX8_body 11 = .ok (.ifCond .eq 12, 3) := by decide +kernel
theorem dX8_body_14 : decode cX8_body 14 = .ok (.aload_n 0, 1) := by decide +kernel
theorem dX8_body_15 : decode cX8_body 15 = .ok (.getfield 51, 3) := by decide +kernel
theorem dX8_body_18 : decode cX8_body 18 = .ok (.iload_n 1, 1) := by decide +kernel
theorem dX8_body_19 : decode cX8_body 19 = .ok (.iaload, 1) := by decide +kernel
theorem dX8_body_20 : decode cX8_body 20 = .ok (.goto 9, 3) := by decide +kernel
theorem dX8_body_23 : decode cX8_body 23 = .ok (.aload_n 0, 1) := by decide +kernel
theorem dX8_body_24 : decode cX8_body 24 = .ok (.ldc 215, 2) := by decide +kernel
theorem dX8_body_26 : decode cX8_body 26 = .ok (.invokevirtual 107, 3) := by decide +kernel
theorem dX8_body_29 : decode cX8_body 29 = .ok (.ireturn, 1) := by decide +kernel
theorem dX8_isSheet_0 : decode cX8_isSheet 0 = .ok (.iload_n 0, 1) := by decide +kernel
theorem dX8_isSheet_1 : decode cX8_isSheet 1 = .ok (.iconst 0, 1) := by decide +kernel
theorem dX8_isSheet_2 : decode cX8_isSheet 2 = .ok (.iconst 3, 1) := by decide +kernel
theorem dX8_isSheet_3 : decode cX8_isSheet 3 = .ok (.invokestatic 59, 3) := by decide +kernel
theorem dX8_isSheet_6 : decode cX8_isSheet 6 = .ok (.ireturn, 1) := by decide +kernel
theorem dX8_sheet_0 : decode cX8_sheet 0 = .ok (.iload_n 1, 1) := by decide +kernel
theorem dX8_sheet_1 : decode cX8_sheet 1 = .ok (.invokestatic 222, 3) := by decide +kernel
theorem dX8_sheet_4 : decode cX8_sheet 4 = .ok (.ifCond .eq 25, 3) := by decide +kernel
theorem dX8_sheet_7 : decode cX8_sheet 7 = .ok (.iload_n 2, 1) := by decide +kernel
theorem dX8_sheet_8 : decode cX8_sheet 8 = .ok (.ifCond .eq 28, 3) := by decide +kernel
theorem dX8_sheet_11 : decode cX8_sheet 11 = .ok (.iload_n 2, 1) := by decide +kernel
theorem dX8_sheet_12 : decode cX8_sheet 12 = .ok (.bipush 8, 2) := by decide +kernel
theorem dX8_sheet_14 : decode cX8_sheet 14 = .ok (.if_icmp .eq 22, 3) := by decide +kernel
theorem dX8_sheet_17 : decode cX8_sheet 17 = .ok (.iload_n 2, 1) := by decide +kernel
theorem dX8_sheet_18 : decode cX8_sheet 18 = .ok (.bipush 16, 2) := by decide +kernel
theorem dX8_sheet_20 : decode cX8_sheet 20 = .ok (.if_icmp .eq 16, 3) := by decide +kernel
theorem dX8_sheet_23 : decode cX8_sheet 23 = .ok (.iload_n 2, 1) := by decide +kernel
theorem dX8_sheet_24 : decode cX8_sheet 24 = .ok (.bipush 32, 2) := by decide +kernel
theorem dX8_sheet_26 : decode cX8_sheet 26 = .ok (.if_icmp .eq 10, 3) := by decide +kernel
theorem dX8_sheet_29 : decode cX8_sheet 29 = .ok (.aload_n 0, 1) := by decide +kernel
theorem dX8_sheet_30 : decode cX8_sheet 30 = .ok (.ldc 106, 2) := by decide +kernel
theorem dX8_sheet_32 : decode cX8_sheet 32 = .ok (.invokevirtual 107, 3) := by decide +kernel
theorem dX8_sheet_35 : decode cX8_sheet 35 = .ok (.ireturn, 1) := by decide +kernel
theorem dX8_sheet_36 : decode cX8_sheet 36 = .ok (.iload_n 2, 1) := by decide +kernel
theorem dX8_sheet_37 : decode cX8_sheet 37 = .ok (.ifCond .le 14, 3) := by decide +kernel
theorem dX8_sheet_40 : decode cX8_sheet 40 = .ok (.iload_n 3, 1) := by decide +kernel
theorem dX8_sheet_41 : decode cX8_sheet 41 = .ok (.ifCond .ge 10, 3) := by decide +kernel
theorem dX8_sheet_44 : decode cX8_sheet 44 = .ok (.aload_n 0, 1) := by decide +kernel
theorem dX8_sheet_45 : decode cX8_sheet 45 = .ok (.ldc 143, 2) := by decide +kernel
theorem dX8_sheet_47 : decode cX8_sheet 47 = .ok (.invokevirtual 107, 3) := by decide +kernel
theorem dX8_sheet_50 : decode cX8_sheet 50 = .ok (.ireturn, 1) := by decide +kernel
theorem dX8_sheet_51 : decode cX8_sheet 51 = .ok (.iload_n 2, 1) := by decide +kernel
theorem dX8_sheet_52 : decode cX8_sheet 52 = .ok (.ifCond .le 16, 3) := by decide +kernel
theorem dX8_sheet_55 : decode cX8_sheet 55 = .ok (.iload_n 3, 1) := by decide +kernel
theorem dX8_sheet_56 : decode cX8_sheet 56 = .ok (.bipush 24, 2) := by decide +kernel
theorem dX8_sheet_58 : decode cX8_sheet 58 = .ok (.if_icmp .le 10, 3) := by decide +kernel
theorem dX8_sheet_61 : decode cX8_sheet 61 = .ok (.aload_n 0, 1) := by decide +kernel
theorem dX8_sheet_62 : decode cX8_sheet 62 = .ok (.ldc 106, 2) := by decide +kernel
theorem dX8_sheet_64 : decode cX8_sheet 64 = .ok (.invokevirtual 107, 3) := by decide +kernel
theorem dX8_sheet_67 : decode cX8_sheet 67 = .ok (.ireturn, 1) := by decide +kernel
theorem dX8_sheet_68 : decode cX8_sheet 68 = .ok (.aload_n 0, 1) := by decide +kernel
theorem dX8_sheet_69 : decode cX8_sheet 69 = .ok (.getfield 19, 3) := by decide +kernel
theorem dX8_sheet_72 : decode cX8_sheet 72 = .ok (.iload_n 1, 1) := by decide +kernel
theorem dX8_sheet_73 : decode cX8_sheet 73 = .ok (.iload_n 2, 1) := by decide +kernel
theorem dX8_sheet_74 : decode cX8_sheet 74 = .ok (.iastore, 1) := by decide +kernel
theorem dX8_sheet_75 : decode cX8_sheet 75 = .ok (.aload_n 0, 1) := by decide +kernel
theorem dX8_sheet_76 : decode cX8_sheet 76 = .ok (.getfield 22, 3) := by decide +kernel
theorem dX8_sheet_79 : decode cX8_sheet 79 = .ok (.iload_n 1, 1) := by decide +kernel
theorem dX8_sheet_80 : decode cX8_sheet 80 = .ok (.iload_n 2, 1) := by decide +kernel
theorem dX8_sheet_81 : decode cX8_sheet 81 = .ok (.ifCond .ne 7, 3) := by decide +kernel
theorem dX8_sheet_84 : decode cX8_sheet 84 = .ok (.iconst 0, 1) := by decide +kernel
theorem dX8_sheet_85 : decode cX8_sheet 85 = .ok (.goto 4, 3) := by decide +kernel
theorem dX8_sheet_88 : decode cX8_sheet 88 = .ok (.iload_n 3, 1) := by decide +kernel
theorem dX8_sheet_89 : decode cX8_sheet 89 = .ok (.iastore, 1) := by decide +kernel
theorem dX8_sheet_90 : decode cX8_sheet 90 = .ok (.iconst 0, 1) := by decide +kernel
theorem dX8_sheet_91 : decode cX8_sheet 91 = .ok (.istore 4, 2) := by decide +kernel
theorem dX8_sheet_93 : decode cX8_sheet 93 = .ok (.iload 4, 2) := by decide +kernel
theorem dX8_sheet_95 : decode cX8_sheet 95 = .ok (.bipush 24, 2) := by decide +kernel
theorem dX8_sheet_97 : decode cX8_sheet 97 = .ok (.if_icmp .ge 22, 3) := by decide +kernel
theorem dX8_sheet_100 : decode cX8_sheet 100 = .ok (.aload_n 0, 1) := by decide +kernel
theorem dX8_sheet_101 : decode cX8_sheet 101 = .ok (.getfield 25, 3) := by decide +kernel
theorem dX8_sheet_104 : decode cX8_sheet 104 = .ok (.bipush 24, 2) := by decide +kernel
theorem dX8_sheet_106 : decode cX8_sheet 106 = .ok (.iload_n 1, 1) := by decide +kernel
theorem dX8_sheet_107 : decode cX8_sheet 107 = .ok (.imul, 1) := by decide +kernel
theorem dX8_sheet_108 : decode cX8_sheet 108 = .ok (.iload 4, 2) := by decide +kernel
theorem dX8_sheet_110 : decode cX8_sheet 110 = .ok (.iadd, 1) := by decide +kernel
theorem dX8_sheet_111 : decode cX8_sheet 111 = .ok (.iconst 0, 1) := by decide +kernel
theorem dX8_sheet_112 : decode cX8_sheet 112 = .ok (.iastore, 1) := by decide +kernel
theorem dX8_sheet_113 : decode cX8_sheet 113 = .ok (.iinc 4 1, 3) := by decide +kernel
theorem dX8_sheet_116 : decode cX8_sheet 116 = .ok (.goto (-23), 3) := by decide +kernel
theorem dX8_sheet_119 : decode cX8_sheet 119 = .ok (.iconst 1, 1) := by decide +kernel
theorem dX8_sheet_120 : decode cX8_sheet 120 = .ok (.ireturn, 1) := by decide +kernel
theorem dX8_notThere_0 : decode cX8_notThere 0 = .ok (.iload_n 1, 1) := by decide +kernel
theorem dX8_notThere_1 : decode cX8_notThere 1 = .ok (.invokestatic 222, 3) := by decide +kernel
theorem dX8_notThere_4 : decode cX8_notThere 4 = .ok (.ifCond .ne 8, 3) := by decide +kernel
theorem dX8_notThere_7 : decode cX8_notThere 7 = .ok (.ldc 106, 2) := by decide +kernel
theorem dX8_notThere_9 : decode cX8_notThere 9 = .ok (.goto 18, 3) := by decide +kernel
theorem dX8_notThere_12 : decode cX8_notThere 12 = .ok (.aload_n 0, 1) := by decide +kernel
theorem dX8_notThere_13 : decode cX8_notThere 13 = .ok (.getfield 19, 3) := by decide +kernel
theorem dX8_notThere_16 : decode cX8_notThere 16 = .ok (.iload_n 1, 1) := by decide +kernel
theorem dX8_notThere_17 : decode cX8_notThere 17 = .ok (.iaload, 1) := by decide +kernel
theorem dX8_notThere_18 : decode cX8_notThere 18 = .ok (.ifCond .ne 8, 3) := by decide +kernel
theorem dX8_notThere_21 : decode cX8_notThere 21 = .ok (.ldc 215, 2) := by decide +kernel
theorem dX8_notThere_23 : decode cX8_notThere 23 = .ok (.goto 4, 3) := by decide +kernel
theorem dX8_notThere_26 : decode cX8_notThere 26 = .ok (.iconst 0, 1) := by decide +kernel
theorem dX8_notThere_27 : decode cX8_notThere 27 = .ok (.ireturn, 1) := by decide +kernel
theorem dX8_put_0 : decode cX8_put 0 = .ok (.aload_n 0, 1) := by decide +kernel
theorem dX8_put_1 : decode cX8_put 1 = .ok (.iload_n 1, 1) := by decide +kernel
theorem dX8_put_2 : decode cX8_put 2 = .ok (.invokevirtual 268, 3) := by decide +kernel
theorem dX8_put_5 : decode cX8_put 5 = .ok (.istore 4, 2) := by decide +kernel
theorem dX8_put_7 : decode cX8_put 7 = .ok (.iload 4, 2) := by decide +kernel
theorem dX8_put_9 : decode cX8_put 9 = .ok (.ifCond .ne 24, 3) := by decide +kernel
theorem dX8_put_12 : decode cX8_put 12 = .ok (.iload_n 2, 1) := by decide +kernel
theorem dX8_put_13 : decode cX8_put 13 = .ok (.iconst 0, 1) := by decide +kernel
theorem dX8_put_14 : decode cX8_put 14 = .ok (.aload_n 0, 1) := by decide +kernel
theorem dX8_put_15 : decode cX8_put 15 = .ok (.getfield 22, 3) := by decide +kernel
theorem dX8_put_18 : decode cX8_put 18 = .ok (.iload_n 1, 1) := by decide +kernel
theorem dX8_put_19 : decode cX8_put 19 = .ok (.iaload, 1) := by decide +kernel
theorem dX8_put_20 : decode cX8_put 20 = .ok (.iconst 1, 1) := by decide +kernel
theorem dX8_put_21 : decode cX8_put 21 = .ok (.isub, 1) := by decide +kernel
theorem dX8_put_22 : decode cX8_put 22 = .ok (.invokestatic 59, 3) := by decide +kernel
theorem dX8_put_25 : decode cX8_put 25 = .ok (.ifCond .ne 8, 3) := by decide +kernel
theorem dX8_put_28 : decode cX8_put 28 = .ok (.ldc 106, 2) := by decide +kernel
theorem dX8_put_30 : decode cX8_put 30 = .ok (.goto 5, 3) := by decide +kernel
theorem dX8_put_33 : decode cX8_put 33 = .ok (.iload 4, 2) := by decide +kernel
theorem dX8_put_35 : decode cX8_put 35 = .ok (.istore 4, 2) := by decide +kernel
theorem dX8_put_37 : decode cX8_put 37 = .ok (.iload 4, 2) := by decide +kernel
theorem dX8_put_39 : decode cX8_put 39 = .ok (.ifCond .eq 10, 3) := by decide +kernel
theorem dX8_put_42 : decode cX8_put 42 = .ok (.aload_n 0, 1) := by decide +kernel
theorem dX8_put_43 : decode cX8_put 43 = .ok (.iload 4, 2) := by decide +kernel
theorem dX8_put_45 : decode cX8_put 45 = .ok (.invokevirtual 107, 3) := by decide +kernel
theorem dX8_put_48 : decode cX8_put 48 = .ok (.ireturn, 1) := by decide +kernel
theorem dX8_put_49 : decode cX8_put 49 = .ok (.aload_n 0, 1) := by decide +kernel
theorem dX8_put_50 : decode cX8_put 50 = .ok (.getfield 25, 3) := by decide +kernel
theorem dX8_put_53 : decode cX8_put 53 = .ok (.bipush 24, 2) := by decide +kernel
theorem dX8_put_55 : decode cX8_put 55 = .ok (.iload_n 1, 1) := by decide +kernel
theorem dX8_put_56 : decode cX8_put 56 = .ok (.imul, 1) := by decide +kernel
theorem dX8_put_57 : decode cX8_put 57 = .ok (.iload_n 2, 1) := by decide +kernel
theorem dX8_put_58 : decode cX8_put 58 = .ok (.iadd, 1) := by decide +kernel
theorem dX8_put_59 : decode cX8_put 59 = .ok (.aload_n 0, 1) := by decide +kernel
theorem dX8_put_60 : decode cX8_put 60 = .ok (.getfield 19, 3) := by decide +kernel
theorem dX8_put_63 : decode cX8_put 63 = .ok (.iload_n 1, 1) := by decide +kernel
theorem dX8_put_64 : decode cX8_put 64 = .ok (.iaload, 1) := by decide +kernel
theorem dX8_put_65 : decode cX8_put 65 = .ok (.bipush 8, 2) := by decide +kernel
theorem dX8_put_67 : decode cX8_put 67 = .ok (.if_icmp .ne 8, 3) := by decide +kernel
theorem dX8_put_70 : decode cX8_put 70 = .ok (.iload_n 3, 1) := by decide +kernel
theorem dX8_put_71 : decode cX8_put 71 = .ok (.i2b, 1) := by decide +kernel
theorem dX8_put_72 : decode cX8_put 72 = .ok (.goto 20, 3) := by decide +kernel
theorem dX8_put_75 : decode cX8_put 75 = .ok (.aload_n 0, 1) := by decide +kernel
theorem dX8_put_76 : decode cX8_put 76 = .ok (.getfield 19, 3) := by decide +kernel
theorem dX8_put_79 : decode cX8_put 79 = .ok (.iload_n 1, 1) := by decide +kernel
theorem dX8_put_80 : decode cX8_put 80 = .ok (.iaload, 1) := by decide +kernel
theorem dX8_put_81 : decode cX8_put 81 = .ok (.bipush 16, 2) := by decide +kernel
theorem dX8_put_83 : decode cX8_put 83 = .ok (.if_icmp .ne 8, 3) := by decide +kernel
theorem dX8_put_86 : decode cX8_put 86 = .ok (.iload_n 3, 1) := by decide +kernel
theorem dX8_put_87 : decode cX8_put 87 = .ok (.i2s, 1) := by decide +kernel
theorem dX8_put_88 : decode cX8_put 88 = .ok (.goto 4, 3) := by decide +kernel
theorem dX8_put_91 : decode cX8_put 91 = .ok (.iload_n 3, 1) := by decide +kernel
theorem dX8_put_92 : decode cX8_put 92 = .ok (.iastore, 1) := by decide +kernel
theorem dX8_put_93 : decode cX8_put 93 = .ok (.iconst 1, 1) := by decide +kernel
theorem dX8_put_94 : decode cX8_put 94 = .ok (.ireturn, 1) := by decide +kernel
theorem dX8_notMoved_0 : decode cX8_notMoved 0 = .ok (.iload_n 1, 1) := by decide +kernel
theorem dX8_notMoved_1 : decode cX8_notMoved 1 = .ok (.invokestatic 222, 3) := by decide +kernel
theorem dX8_notMoved_4 : decode cX8_notMoved 4 = .ok (.ifCond .eq 10, 3) := by decide +kernel
theorem dX8_notMoved_7 : decode cX8_notMoved 7 = .ok (.iload_n 3, 1) := by decide +kernel
theorem dX8_notMoved_8 : decode cX8_notMoved 8 = .ok (.invokestatic 222, 3) := by decide +kernel
theorem dX8_notMoved_11 : decode cX8_notMoved 11 = .ok (.ifCond .ne 6, 3) := by decide +kernel
theorem dX8_notMoved_14 : decode cX8_notMoved 14 = .ok (.ldc 106, 2) := by decide +kernel
theorem dX8_notMoved_16 : decode cX8_notMoved 16 = .ok (.ireturn, 1) := by decide +kernel
theorem dX8_notMoved_17 : decode cX8_notMoved 17 = .ok (.aload_n 0, 1) := by decide +kernel
theorem dX8_notMoved_18 : decode cX8_notMoved 18 = .ok (.getfield 19, 3) := by decide +kernel
theorem dX8_notMoved_21 : decode cX8_notMoved 21 = .ok (.iload_n 1, 1) := by decide +kernel
theorem dX8_notMoved_22 : decode cX8_notMoved 22 = .ok (.iaload, 1) := by decide +kernel
theorem dX8_notMoved_23 : decode cX8_notMoved 23 = .ok (.ifCond .eq 12, 3) := by decide +kernel
theorem dX8_notMoved_26 : decode cX8_notMoved 26 = .ok (.aload_n 0, 1) := by decide +kernel
theorem dX8_notMoved_27 : decode cX8_notMoved 27 = .ok (.getfield 19, 3) := by decide +kernel
theorem dX8_notMoved_30 : decode cX8_notMoved 30 = .ok (.iload_n 3, 1) := by decide +kernel
theorem dX8_notMoved_31 : decode cX8_notMoved 31 = .ok (.iaload, 1) := by decide +kernel
theorem dX8_notMoved_32 : decode cX8_notMoved 32 = .ok (.ifCond .ne 6, 3) := by decide +kernel
theorem dX8_notMoved_35 : decode cX8_notMoved 35 = .ok (.ldc 215, 2) := by decide +kernel
theorem dX8_notMoved_37 : decode cX8_notMoved 37 = .ok (.ireturn, 1) := by decide +kernel
theorem dX8_notMoved_38 : decode cX8_notMoved 38 = .ok (.aload_n 0, 1) := by decide +kernel
theorem dX8_notMoved_39 : decode cX8_notMoved 39 = .ok (.getfield 19, 3) := by decide +kernel
theorem dX8_notMoved_42 : decode cX8_notMoved 42 = .ok (.iload_n 1, 1) := by decide +kernel
theorem dX8_notMoved_43 : decode cX8_notMoved 43 = .ok (.iaload, 1) := by decide +kernel
theorem dX8_notMoved_44 : decode cX8_notMoved 44 = .ok (.aload_n 0, 1) := by decide +kernel
theorem dX8_notMoved_45 : decode cX8_notMoved 45 = .ok (.getfield 19, 3) := by decide +kernel
theorem dX8_notMoved_48 : decode cX8_notMoved 48 = .ok (.iload_n 3, 1) := by decide +kernel
theorem dX8_notMoved_49 : decode cX8_notMoved 49 = .ok (.iaload, 1) := by decide +kernel
theorem dX8_notMoved_50 : decode cX8_notMoved 50 = .ok (.if_icmp .eq 6, 3) := by decide +kernel
theorem dX8_notMoved_53 : decode cX8_notMoved 53 = .ok (.ldc 123, 2) := by decide +kernel
theorem dX8_notMoved_55 : decode cX8_notMoved 55 = .ok (.ireturn, 1) := by decide +kernel
theorem dX8_notMoved_56 : decode cX8_notMoved 56 = .ok (.iload 5, 2) := by decide +kernel
theorem dX8_notMoved_58 : decode cX8_notMoved 58 = .ok (.ifCond .lt 43, 3) := by decide +kernel
theorem dX8_notMoved_61 : decode cX8_notMoved 61 = .ok (.iload_n 2, 1) := by decide +kernel
theorem dX8_notMoved_62 : decode cX8_notMoved 62 = .ok (.ifCond .lt 39, 3) := by decide +kernel
theorem dX8_notMoved_65 : decode cX8_notMoved 65 = .ok (.iload 4, 2) := by decide +kernel
theorem dX8_notMoved_67 : decode cX8_notMoved 67 = .ok (.ifCond .lt 34, 3) := by decide +kernel
theorem dX8_notMoved_70 : decode cX8_notMoved 70 = .ok (.iload 5, 2) := by decide +kernel
theorem dX8_notMoved_72 : decode cX8_notMoved 72 = .ok (.aload_n 0, 1) := by decide +kernel
theorem dX8_notMoved_73 : decode cX8_notMoved 73 = .ok (.getfield 22, 3) := by decide +kernel
theorem dX8_notMoved_76 : decode cX8_notMoved 76 = .ok (.iload_n 1, 1) := by decide +kernel
theorem dX8_notMoved_77 : decode cX8_notMoved 77 = .ok (.iaload, 1) := by decide +kernel
theorem dX8_notMoved_78 : decode cX8_notMoved 78 = .ok (.iload_n 2, 1) := by decide +kernel
theorem dX8_notMoved_79 : decode cX8_notMoved 79 = .ok (.isub, 1) := by decide +kernel
theorem dX8_notMoved_80 : decode cX8_notMoved 80 = .ok (.if_icmp .gt 21, 3) := by decide +kernel
theorem dX8_notMoved_83 : decode cX8_notMoved 83 = .ok (.iload 5, 2) := by decide +kernel
theorem dX8_notMoved_85 : decode cX8_notMoved 85 = .ok (.aload_n 0, 1) := by decide +kernel
theorem dX8_notMoved_86 : decode cX8_notMoved 86 = .ok (.getfield 22, 3) := by decide +kernel
theorem dX8_notMoved_89 : decode cX8_notMoved 89 = .ok (.iload_n 3, 1) := by decide +kernel
theorem dX8_notMoved_90 : decode cX8_notMoved 90 = .ok (.iaload, 1) := by decide +kernel
theorem dX8_notMoved_91 : decode cX8_notMoved 91 = .ok (.iload 4, 2) := by decide +kernel
theorem dX8_notMoved_93 : decode cX8_notMoved 93 = .ok (.isub, 1) := by decide +kernel
theorem dX8_notMoved_94 : decode cX8_notMoved 94 = .ok (.if_icmp .gt 7, 3) := by decide +kernel
theorem dX8_notMoved_97 : decode cX8_notMoved 97 = .ok (.iconst 1, 1) := by decide +kernel
theorem dX8_notMoved_98 : decode cX8_notMoved 98 = .ok (.goto 4, 3) := by decide +kernel
theorem dX8_notMoved_101 : decode cX8_notMoved 101 = .ok (.iconst 0, 1) := by decide +kernel
theorem dX8_notMoved_102 : decode cX8_notMoved 102 = .ok (.istore 6, 2) := by decide +kernel
theorem dX8_notMoved_104 : decode cX8_notMoved 104 = .ok (.iload 6, 2) := by decide +kernel
theorem dX8_notMoved_106 : decode cX8_notMoved 106 = .ok (.ifCond .eq 7, 3) := by decide +kernel
theorem dX8_notMoved_109 : decode cX8_notMoved 109 = .ok (.iconst 0, 1) := by decide +kernel
theorem dX8_notMoved_110 : decode cX8_notMoved 110 = .ok (.goto 5, 3) := by decide +kernel
theorem dX8_notMoved_113 : decode cX8_notMoved 113 = .ok (.ldc 106, 2) := by decide +kernel
theorem dX8_notMoved_115 : decode cX8_notMoved 115 = .ok (.ireturn, 1) := by decide +kernel
theorem dX8_move_0 : decode cX8_move 0 = .ok (.aload_n 0, 1) := by decide +kernel
theorem dX8_move_1 : decode cX8_move 1 = .ok (.iload_n 1, 1) := by decide +kernel
theorem dX8_move_2 : decode cX8_move 2 = .ok (.iload_n 2, 1) := by decide +kernel
theorem dX8_move_3 : decode cX8_move 3 = .ok (.iload_n 3, 1) := by decide +kernel
theorem dX8_move_4 : decode cX8_move 4 = .ok (.iload 4, 2) := by decide +kernel
theorem dX8_move_6 : decode cX8_move 6 = .ok (.iload 5, 2) := by decide +kernel
theorem dX8_move_8 : decode cX8_move 8 = .ok (.invokevirtual 271, 3) := by decide +kernel
theorem dX8_move_11 : decode cX8_move 11 = .ok (.istore 6, 2) := by decide +kernel
theorem dX8_move_13 : decode cX8_move 13 = .ok (.iload 6, 2) := by decide +kernel
theorem dX8_move_15 : decode cX8_move 15 = .ok (.ifCond .eq 10, 3) := by decide +kernel
theorem dX8_move_18 : decode cX8_move 18 = .ok (.aload_n 0, 1) := by decide +kernel
theorem dX8_move_19 : decode cX8_move 19 = .ok (.iload 6, 2) := by decide +kernel
theorem dX8_move_21 : decode cX8_move 21 = .ok (.invokevirtual 107, 3) := by decide +kernel
theorem dX8_move_24 : decode cX8_move 24 = .ok (.ireturn, 1) := by decide +kernel
theorem dX8_move_25 : decode cX8_move 25 = .ok (.iconst 0, 1) := by decide +kernel
theorem dX8_move_26 : decode cX8_move 26 = .ok (.istore 7, 2) := by decide +kernel
theorem dX8_move_28 : decode cX8_move 28 = .ok (.iload 7, 2) := by decide +kernel
theorem dX8_move_30 : decode cX8_move 30 = .ok (.iload 5, 2) := by decide +kernel
theorem dX8_move_32 : decode cX8_move 32 = .ok (.if_icmp .ge 58, 3) := by decide +kernel
theorem dX8_move_35 : decode cX8_move 35 = .ok (.iload_n 2, 1) := by decide +kernel
theorem dX8_move_36 : decode cX8_move 36 = .ok (.iload 4, 2) := by decide +kernel
theorem dX8_move_38 : decode cX8_move 38 = .ok (.if_icmp .ge 13, 3) := by decide +kernel
theorem dX8_move_41 : decode cX8_move 41 = .ok (.iload 5, 2) := by decide +kernel
theorem dX8_move_43 : decode cX8_move 43 = .ok (.iconst 1, 1) := by decide +kernel
theorem dX8_move_44 : decode cX8_move 44 = .ok (.isub, 1) := by decide +kernel
theorem dX8_move_45 : decode cX8_move 45 = .ok (.iload 7, 2) := by decide +kernel
theorem dX8_move_47 : decode cX8_move 47 = .ok (.isub, 1) := by decide +kernel
theorem dX8_move_48 : decode cX8_move 48 = .ok (.goto 5, 3) := by decide +kernel
theorem dX8_move_51 : decode cX8_move 51 = .ok (.iload 7, 2) := by decide +kernel
theorem dX8_move_53 : decode cX8_move 53 = .ok (.istore 8, 2) := by decide +kernel
theorem dX8_move_55 : decode cX8_move 55 = .ok (.aload_n 0, 1) := by decide +kernel
theorem dX8_move_56 : decode cX8_move 56 = .ok (.getfield 25, 3) := by decide +kernel
theorem dX8_move_59 : decode cX8_move 59 = .ok (.bipush 24, 2) := by decide +kernel
theorem dX8_move_61 : decode cX8_move 61 = .ok (.iload_n 3, 1) := by decide +kernel
theorem dX8_move_62 : decode cX8_move 62 = .ok (.imul, 1) := by decide +kernel
theorem dX8_move_63 : decode cX8_move 63 = .ok (.iload 4, 2) := by decide +kernel
theorem dX8_move_65 : decode cX8_move 65 = .ok (.iadd, 1) := by decide +kernel
theorem dX8_move_66 : decode cX8_move 66 = .ok (.iload 8, 2) := by decide +kernel
theorem dX8_move_68 : decode cX8_move 68 = .ok (.iadd, 1) := by decide +kernel
theorem dX8_move_69 : decode cX8_move 69 = .ok (.aload_n 0, 1) := by decide +kernel
theorem dX8_move_70 : decode cX8_move 70 = .ok (.getfield 25, 3) := by decide +kernel
theorem dX8_move_73 : decode cX8_move 73 = .ok (.bipush 24, 2) := by decide +kernel
theorem dX8_move_75 : decode cX8_move 75 = .ok (.iload_n 1, 1) := by decide +kernel
theorem dX8_move_76 : decode cX8_move 76 = .ok (.imul, 1) := by decide +kernel
theorem dX8_move_77 : decode cX8_move 77 = .ok (.iload_n 2, 1) := by decide +kernel
theorem dX8_move_78 : decode cX8_move 78 = .ok (.iadd, 1) := by decide +kernel
theorem dX8_move_79 : decode cX8_move 79 = .ok (.iload 8, 2) := by decide +kernel
theorem dX8_move_81 : decode cX8_move 81 = .ok (.iadd, 1) := by decide +kernel
theorem dX8_move_82 : decode cX8_move 82 = .ok (.iaload, 1) := by decide +kernel
theorem dX8_move_83 : decode cX8_move 83 = .ok (.iastore, 1) := by decide +kernel
theorem dX8_move_84 : decode cX8_move 84 = .ok (.iinc 7 1, 3) := by decide +kernel
theorem dX8_move_87 : decode cX8_move 87 = .ok (.goto (-59), 3) := by decide +kernel
theorem dX8_move_90 : decode cX8_move 90 = .ok (.iload 5, 2) := by decide +kernel
theorem dX8_move_92 : decode cX8_move 92 = .ok (.ireturn, 1) := by decide +kernel
theorem dX8_signs_0 : decode cX8_signs 0 = .ok (.aload_n 0, 1) := by decide +kernel
theorem dX8_signs_1 : decode cX8_signs 1 = .ok (.iload_n 1, 1) := by decide +kernel
theorem dX8_signs_2 : decode cX8_signs 2 = .ok (.invokevirtual 268, 3) := by decide +kernel
theorem dX8_signs_5 : decode cX8_signs 5 = .ok (.istore_n 2, 1) := by decide +kernel
theorem dX8_signs_6 : decode cX8_signs 6 = .ok (.iload_n 2, 1) := by decide +kernel
theorem dX8_signs_7 : decode cX8_signs 7 = .ok (.ifCond .eq 9, 3) := by decide +kernel
theorem dX8_signs_10 : decode cX8_signs 10 = .ok (.aload_n 0, 1) := by decide +kernel
theorem dX8_signs_11 : decode cX8_signs 11 = .ok (.iload_n 2, 1) := by decide +kernel
theorem dX8_signs_12 : decode cX8_signs 12 = .ok (.invokevirtual 107, 3) := by decide +kernel
theorem dX8_signs_15 : decode cX8_signs 15 = .ok (.ireturn, 1) := by decide +kernel
theorem dX8_signs_16 : decode cX8_signs 16 = .ok (.iconst 0, 1) := by decide +kernel
theorem dX8_signs_17 : decode cX8_signs 17 = .ok (.istore_n 3, 1) := by decide +kernel
theorem dX8_signs_18 : decode cX8_signs 18 = .ok (.iload_n 3, 1) := by decide +kernel
theorem dX8_signs_19 : decode cX8_signs 19 = .ok (.aload_n 0, 1) := by decide +kernel
theorem dX8_signs_20 : decode cX8_signs 20 = .ok (.getfield 22, 3) := by decide +kernel
theorem dX8_signs_23 : decode cX8_signs 23 = .ok (.iload_n 1, 1) := by decide +kernel
theorem dX8_signs_24 : decode cX8_signs 24 = .ok (.iaload, 1) := by decide +kernel
theorem dX8_signs_25 : decode cX8_signs 25 = .ok (.if_icmp .ge 76, 3) := by decide +kernel
theorem dX8_signs_28 : decode cX8_signs 28 = .ok (.aload_n 0, 1) := by decide +kernel
theorem dX8_signs_29 : decode cX8_signs 29 = .ok (.getfield 9, 3) := by decide +kernel
theorem dX8_signs_32 : decode cX8_signs 32 = .ok (.iconst 3, 1) := by decide +kernel
theorem dX8_signs_33 : decode cX8_signs 33 = .ok (.iaload, 1) := by decide +kernel
theorem dX8_signs_34 : decode cX8_signs 34 = .ok (.bipush 24, 2) := by decide +kernel
theorem dX8_signs_36 : decode cX8_signs 36 = .ok (.if_icmp .ge 65, 3) := by decide +kernel
theorem dX8_signs_39 : decode cX8_signs 39 = .ok (.aload_n 0, 1) := by decide +kernel
theorem dX8_signs_40 : decode cX8_signs 40 = .ok (.getfield 25, 3) := by decide +kernel
theorem dX8_signs_43 : decode cX8_signs 43 = .ok (.bipush 24, 2) := by decide +kernel
theorem dX8_signs_45 : decode cX8_signs 45 = .ok (.iload_n 1, 1) := by decide +kernel
theorem dX8_signs_46 : decode cX8_signs 46 = .ok (.imul, 1) := by decide +kernel
theorem dX8_signs_47 : decode cX8_signs 47 = .ok (.iload_n 3, 1) := by decide +kernel
theorem dX8_signs_48 : decode cX8_signs 48 = .ok (.iadd, 1) := by decide +kernel
theorem dX8_signs_49 : decode cX8_signs 49 = .ok (.iaload, 1) := by decide +kernel
theorem dX8_signs_50 : decode cX8_signs 50 = .ok (.invokestatic 124, 3) := by decide +kernel
theorem dX8_signs_53 : decode cX8_signs 53 = .ok (.ifCond .eq 48, 3) := by decide +kernel
theorem dX8_signs_56 : decode cX8_signs 56 = .ok (.aload_n 0, 1) := by decide +kernel
theorem dX8_signs_57 : decode cX8_signs 57 = .ok (.getfield 25, 3) := by decide +kernel
theorem dX8_signs_60 : decode cX8_signs 60 = .ok (.bipush 24, 2) := by decide +kernel
theorem dX8_signs_62 : decode cX8_signs 62 = .ok (.iload_n 1, 1) := by decide +kernel
theorem dX8_signs_63 : decode cX8_signs 63 = .ok (.imul, 1) := by decide +kernel
theorem dX8_signs_64 : decode cX8_signs 64 = .ok (.iload_n 3, 1) := by decide +kernel
theorem dX8_signs_65 : decode cX8_signs 65 = .ok (.iadd, 1) := by decide +kernel
theorem dX8_signs_66 : decode cX8_signs 66 = .ok (.iaload, 1) := by decide +kernel
theorem dX8_signs_67 : decode cX8_signs 67 = .ok (.istore 4, 2) := by decide +kernel
theorem dX8_signs_69 : decode cX8_signs 69 = .ok (.aload_n 0, 1) := by decide +kernel
theorem dX8_signs_70 : decode cX8_signs 70 = .ok (.iload 4, 2) := by decide +kernel
theorem dX8_signs_72 : decode cX8_signs 72 = .ok (.aload_n 0, 1) := by decide +kernel
theorem dX8_signs_73 : decode cX8_signs 73 = .ok (.aload_n 0, 1) := by decide +kernel
theorem dX8_signs_74 : decode cX8_signs 74 = .ok (.getfield 9, 3) := by decide +kernel
theorem dX8_signs_77 : decode cX8_signs 77 = .ok (.iconst 5, 1) := by decide +kernel
theorem dX8_signs_78 : decode cX8_signs 78 = .ok (.iaload, 1) := by decide +kernel
theorem dX8_signs_79 : decode cX8_signs 79 = .ok (.iload 4, 2) := by decide +kernel
theorem dX8_signs_81 : decode cX8_signs 81 = .ok (.invokevirtual 63, 3) := by decide +kernel
theorem dX8_signs_84 : decode cX8_signs 84 = .ok (.ifCond .eq 7, 3) := by decide +kernel
theorem dX8_signs_87 : decode cX8_signs 87 = .ok (.iconst 1, 1) := by decide +kernel
theorem dX8_signs_88 : decode cX8_signs 88 = .ok (.goto 4, 3) := by decide +kernel
theorem dX8_signs_91 : decode cX8_signs 91 = .ok (.iconst 0, 1) := by decide +kernel
theorem dX8_signs_92 : decode cX8_signs 92 = .ok (.invokevirtual 130, 3) := by decide +kernel
theorem dX8_signs_95 : decode cX8_signs 95 = .ok (.iinc 3 1, 3) := by decide +kernel
theorem dX8_signs_98 : decode cX8_signs 98 = .ok (.goto (-80), 3) := by decide +kernel
theorem dX8_signs_101 : decode cX8_signs 101 = .ok (.iload_n 3, 1) := by decide +kernel
theorem dX8_signs_102 : decode cX8_signs 102 = .ok (.ireturn, 1) := by decide +kernel
theorem dX8_judge_0 : decode cX8_judge 0 = .ok (.aload_n 0, 1) := by decide +kernel
theorem dX8_judge_1 : decode cX8_judge 1 = .ok (.iload_n 1, 1) := by decide +kernel
theorem dX8_judge_2 : decode cX8_judge 2 = .ok (.invokevirtual 268, 3) := by decide +kernel
theorem dX8_judge_5 : decode cX8_judge 5 = .ok (.istore_n 2, 1) := by decide +kernel
theorem dX8_judge_6 : decode cX8_judge 6 = .ok (.iload_n 2, 1) := by decide +kernel
theorem dX8_judge_7 : decode cX8_judge 7 = .ok (.ifCond .eq 9, 3) := by decide +kernel
theorem dX8_judge_10 : decode cX8_judge 10 = .ok (.aload_n 0, 1) := by decide +kernel
theorem dX8_judge_11 : decode cX8_judge 11 = .ok (.iload_n 2, 1) := by decide +kernel
theorem dX8_judge_12 : decode cX8_judge 12 = .ok (.invokevirtual 107, 3) := by decide +kernel
theorem dX8_judge_15 : decode cX8_judge 15 = .ok (.ireturn, 1) := by decide +kernel
theorem dX8_judge_16 : decode cX8_judge 16 = .ok (.iconst 0, 1) := by decide +kernel
theorem dX8_judge_17 : decode cX8_judge 17 = .ok (.istore_n 3, 1) := by decide +kernel
theorem dX8_judge_18 : decode cX8_judge 18 = .ok (.iload_n 3, 1) := by decide +kernel
theorem dX8_judge_19 : decode cX8_judge 19 = .ok (.aload_n 0, 1) := by decide +kernel
theorem dX8_judge_20 : decode cX8_judge 20 = .ok (.getfield 22, 3) := by decide +kernel
theorem dX8_judge_23 : decode cX8_judge 23 = .ok (.iload_n 1, 1) := by decide +kernel
theorem dX8_judge_24 : decode cX8_judge 24 = .ok (.iaload, 1) := by decide +kernel
theorem dX8_judge_25 : decode cX8_judge 25 = .ok (.if_icmp .ge 28, 3) := by decide +kernel
theorem dX8_judge_28 : decode cX8_judge 28 = .ok (.aload_n 0, 1) := by decide +kernel
theorem dX8_judge_29 : decode cX8_judge 29 = .ok (.getfield 25, 3) := by decide +kernel
theorem dX8_judge_32 : decode cX8_judge 32 = .ok (.bipush 24, 2) := by decide +kernel
theorem dX8_judge_34 : decode cX8_judge 34 = .ok (.iload_n 1, 1) := by decide +kernel
theorem dX8_judge_35 : decode cX8_judge 35 = .ok (.imul, 1) := by decide +kernel
theorem dX8_judge_36 : decode cX8_judge 36 = .ok (.iload_n 3, 1) := by decide +kernel
theorem dX8_judge_37 : decode cX8_judge 37 = .ok (.iadd, 1) := by decide +kernel
theorem dX8_judge_38 : decode cX8_judge 38 = .ok (.iaload, 1) := by decide +kernel
theorem dX8_judge_39 : decode cX8_judge 39 = .ok (.aload_n 0, 1) := by decide +kernel
theorem dX8_judge_40 : decode cX8_judge 40 = .ok (.iload_n 3, 1) := by decide +kernel
theorem dX8_judge_41 : decode cX8_judge 41 = .ok (.invokevirtual 85, 3) := by decide +kernel
theorem dX8_judge_44 : decode cX8_judge 44 = .ok (.if_icmp .ne 9, 3) := by decide +kernel
theorem dX8_judge_47 : decode cX8_judge 47 = .ok (.iinc 3 1, 3) := by decide +kernel
theorem dX8_judge_50 : decode cX8_judge 50 = .ok (.goto (-32), 3) := by decide +kernel
theorem dX8_judge_53 : decode cX8_judge 53 = .ok (.iload_n 3, 1) := by decide +kernel
theorem dX8_judge_54 : decode cX8_judge 54 = .ok (.ireturn, 1) := by decide +kernel
theorem dX8_image_0 : decode cX8_image 0 = .ok (.aload_n 0, 1) := by decide +kernel
theorem dX8_image_1 : decode cX8_image 1 = .ok (.getfield 9, 3) := by decide +kernel
theorem dX8_image_4 : decode cX8_image 4 = .ok (.aload_n 0, 1) := by decide +kernel
theorem dX8_image_5 : decode cX8_image 5 = .ok (.getfield 13, 3) := by decide +kernel
theorem dX8_image_8 : decode cX8_image 8 = .ok (.invokestatic 275, 3) := by decide +kernel
theorem dX8_image_11 : decode cX8_image 11 = .ok (.aload_n 0, 1) := by decide +kernel
theorem dX8_image_12 : decode cX8_image 12 = .ok (.dup, 1) := by decide +kernel
theorem dX8_image_13 : decode cX8_image 13 = .ok (.getfield 279, 3) := by decide +kernel
theorem dX8_image_16 : decode cX8_image 16 = .ok (.iconst 1, 1) := by decide +kernel
theorem dX8_image_17 : decode cX8_image 17 = .ok (.iadd, 1) := by decide +kernel
theorem dX8_image_18 : decode cX8_image 18 = .ok (.putfield 279, 3) := by decide +kernel
theorem dX8_image_21 : decode cX8_image 21 = .ok (.aload_n 0, 1) := by decide +kernel
theorem dX8_image_22 : decode cX8_image 22 = .ok (.getfield 279, 3) := by decide +kernel
theorem dX8_image_25 : decode cX8_image 25 = .ok (.ireturn, 1) := by decide +kernel
theorem dX8_restore_0 : decode cX8_restore 0 = .ok (.aload_n 0, 1) := by decide +kernel
theorem dX8_restore_1 : decode cX8_restore 1 = .ok (.getfield 279, 3) := by decide +kernel
theorem dX8_restore_4 : decode cX8_restore 4 = .ok (.ifCond .ne 10, 3) := by decide +kernel
theorem dX8_restore_7 : decode cX8_restore 7 = .ok (.aload_n 0, 1) := by decide +kernel
theorem dX8_restore_8 : decode cX8_restore 8 = .ok (.ldc 215, 2) := by decide +kernel
theorem dX8_restore_10 : decode cX8_restore 10 = .ok (.invokevirtual 107, 3) := by decide +kernel
theorem dX8_restore_13 : decode cX8_restore 13 = .ok (.ireturn, 1) := by decide +kernel
theorem dX8_restore_14 : decode cX8_restore 14 = .ok (.aload_n 0, 1) := by decide +kernel
theorem dX8_restore_15 : decode cX8_restore 15 = .ok (.getfield 13, 3) := by decide +kernel
theorem dX8_restore_18 : decode cX8_restore 18 = .ok (.aload_n 0, 1) := by decide +kernel
theorem dX8_restore_19 : decode cX8_restore 19 = .ok (.getfield 9, 3) := by decide +kernel
theorem dX8_restore_22 : decode cX8_restore 22 = .ok (.invokestatic 275, 3) := by decide +kernel
theorem dX8_restore_25 : decode cX8_restore 25 = .ok (.aload_n 0, 1) := by decide +kernel
theorem dX8_restore_26 : decode cX8_restore 26 = .ok (.iconst 0, 1) := by decide +kernel
theorem dX8_restore_27 : decode cX8_restore 27 = .ok (.putfield 66, 3) := by decide +kernel
theorem dX8_restore_30 : decode cX8_restore 30 = .ok (.aload_n 0, 1) := by decide +kernel
theorem dX8_restore_31 : decode cX8_restore 31 = .ok (.getfield 9, 3) := by decide +kernel
theorem dX8_restore_34 : decode cX8_restore 34 = .ok (.iconst 0, 1) := by decide +kernel
theorem dX8_restore_35 : decode cX8_restore 35 = .ok (.iaload, 1) := by decide +kernel
theorem dX8_restore_36 : decode cX8_restore 36 = .ok (.ireturn, 1) := by decide +kernel
theorem dX8_tell_0 : decode cX8_tell 0 = .ok (.aload_n 0, 1) := by decide +kernel
theorem dX8_tell_1 : decode cX8_tell 1 = .ok (.getfield 9, 3) := by decide +kernel
theorem dX8_tell_4 : decode cX8_tell 4 = .ok (.bipush 7, 2) := by decide +kernel
theorem dX8_tell_6 : decode cX8_tell 6 = .ok (.iaload, 1) := by decide +kernel
theorem dX8_tell_7 : decode cX8_tell 7 = .ok (.bipush 24, 2) := by decide +kernel
theorem dX8_tell_9 : decode cX8_tell 9 = .ok (.if_icmp .ne 10, 3) := by decide +kernel
theorem dX8_tell_12 : decode cX8_tell 12 = .ok (.aload_n 0, 1) := by decide +kernel
theorem dX8_tell_13 : decode cX8_tell 13 = .ok (.ldc 110, 2) := by decide +kernel
theorem dX8_tell_15 : decode cX8_tell 15 = .ok (.invokevirtual 107, 3) := by decide +kernel
theorem dX8_tell_18 : decode cX8_tell 18 = .ok (.ireturn, 1) := by decide +kernel
theorem dX8_tell_19 : decode cX8_tell 19 = .ok (.aload_n 0, 1) := by decide +kernel
theorem dX8_tell_20 : decode cX8_tell 20 = .ok (.getfield 9, 3) := by decide +kernel
theorem dX8_tell_23 : decode cX8_tell 23 = .ok (.sipush 134, 3) := by decide +kernel
theorem dX8_tell_26 : decode cX8_tell 26 = .ok (.aload_n 0, 1) := by decide +kernel
