theorem dX5_simplest_0 : decode cX5_simplest 0 = .ok (.iconst (-1), 1) := by decide +kernel
theorem dX5_simplest_1 : decode cX5_simplest 1 = .ok (.istore_n 1, 1) := by decide +kernel
theorem dX5_simplest_2 : decode cX5_simplest 2 = .ok (.bipush 7, 2) := by decide +kernel
theorem dX5_simplest_4 : decode cX5_simplest 4 = .ok (.istore_n 2, 1) := by decide +kernel
theorem dX5_simplest_5 : decode cX5_simplest 5 = .ok (.iconst 0, 1) := by decide +kernel
theorem dX5_simplest_6 : decode cX5_simplest 6 = .ok (.istore_n 3, 1) := by decide +kernel
theorem dX5_simplest_7 : decode cX5_simplest 7 = .ok (.iload_n 3, 1) := by decide +kernel
theorem dX5_simplest_8 : decode cX5_simplest 8 = .ok (.sipush 729, 3) := by decide +kernel
theorem dX5_simplest_11 : decode cX5_simplest 11 = .ok (.if_icmp .ge 35, 3) := by decide +kernel
theorem dX5_simplest_14 : decode cX5_simplest 14 = .ok (.aload_n 0, 1) := by decide +kernel
theorem dX5_simplest_15 : decode cX5_simplest 15 = .ok (.getfield 19, 3) := by decide +kernel
theorem dX5_simplest_18 : decode cX5_simplest 18 = .ok (.iload_n 3, 1) := by decide +kernel
theorem dX5_simplest_19 : decode cX5_simplest 19 = .ok (.baload, 1) := by decide +kernel
theorem dX5_simplest_20 : decode cX5_simplest 20 = .ok (.ifCond .eq 20, 3) := by decide +kernel
theorem dX5_simplest_23 : decode cX5_simplest 23 = .ok (.aload_n 0, 1) := by decide +kernel
theorem dX5_simplest_24 : decode cX5_simplest 24 = .ok (.iload_n 3, 1) := by decide +kernel
theorem dX5_simplest_25 : decode cX5_simplest 25 = .ok (.invokevirtual 55, 3) := by decide +kernel
theorem dX5_simplest_28 : decode cX5_simplest 28 = .ok (.iload_n 2, 1) := by decide +kernel
theorem dX5_simplest_29 : decode cX5_simplest 29 = .ok (.if_icmp .ge 11, 3) := by decide +kernel
theorem dX5_simplest_32 : decode cX5_simplest 32 = .ok (.iload_n 3, 1) := by decide +kernel
theorem dX5_simplest_33 : decode cX5_simplest 33 = .ok (.istore_n 1, 1) := by decide +kernel
theorem dX5_simplest_34 : decode cX5_simplest 34 = .ok (.aload_n 0, 1) := by decide +kernel
theorem dX5_simplest_35 : decode cX5_simplest 35 = .ok (.iload_n 3, 1) := by decide +kernel
theorem dX5_simplest_36 : decode cX5_simplest 36 = .ok (.invokevirtual 55, 3) := by decide +kernel
theorem dX5_simplest_39 : decode cX5_simplest 39 = .ok (.istore_n 2, 1) := by decide +kernel
theorem dX5_simplest_40 : decode cX5_simplest 40 = .ok (.iinc 3 1, 3) := by decide +kernel
theorem dX5_simplest_43 : decode cX5_simplest 43 = .ok (.goto (-36), 3) := by decide +kernel
theorem dX5_simplest_46 : decode cX5_simplest 46 = .ok (.iload_n 1, 1) := by decide +kernel
theorem dX5_simplest_47 : decode cX5_simplest 47 = .ok (.ireturn, 1) := by decide +kernel
theorem dX5_toldBy_0 : decode cX5_toldBy 0 = .ok (.lconst 0, 1) := by decide +kernel
theorem dX5_toldBy_1 : decode cX5_toldBy 1 = .ok (.lstore_n 2, 1) := by decide +kernel
theorem dX5_toldBy_2 : decode cX5_toldBy 2 = .ok (.iconst 0, 1) := by decide +kernel
theorem dX5_toldBy_3 : decode cX5_toldBy 3 = .ok (.istore 4, 2) := by decide +kernel
theorem dX5_toldBy_5 : decode cX5_toldBy 5 = .ok (.iload 4, 2) := by decide +kernel
theorem dX5_toldBy_7 : decode cX5_toldBy 7 = .ok (.aload_n 1, 1) := by decide +kernel
theorem dX5_toldBy_8 : decode cX5_toldBy 8 = .ok (.invokevirtual 42, 3) := by decide +kernel
theorem dX5_toldBy_11 : decode cX5_toldBy 11 = .ok (.if_icmp .ge 40, 3) := by decide +kernel
theorem dX5_toldBy_14 : decode cX5_toldBy 14 = .ok (.aload_n 1, 1) := by decide +kernel
theorem dX5_toldBy_15 : decode cX5_toldBy 15 = .ok (.iload 4, 2) := by decide +kernel
theorem dX5_toldBy_17 : decode cX5_toldBy 17 = .ok (.invokevirtual 48, 3) := by decide +kernel
theorem dX5_toldBy_20 : decode cX5_toldBy 20 = .ok (.iconst 0, 1) := by decide +kernel
theorem dX5_toldBy_21 : decode cX5_toldBy 21 = .ok (.iconst 1, 1) := by decide +kernel
theorem dX5_toldBy_22 : decode cX5_toldBy 22 = .ok (.invokestatic 38, 3) := by decide +kernel
theorem dX5_toldBy_25 : decode cX5_toldBy 25 = .ok (.ifCond .ne 7, 3) := by decide +kernel
theorem dX5_toldBy_28 : decode cX5_toldBy 28 = .ok (.ldc2_w 58, 3) := by decide +kernel
theorem dX5_toldBy_31 : decode cX5_toldBy 31 = .ok (.lreturn, 1) := by decide +kernel
theorem dX5_toldBy_32 : decode cX5_toldBy 32 = .ok (.lload_n 2, 1) := by decide +kernel
theorem dX5_toldBy_33 : decode cX5_toldBy 33 = .ok (.aload_n 1, 1) := by decide +kernel
theorem dX5_toldBy_34 : decode cX5_toldBy 34 = .ok (.iload 4, 2) := by decide +kernel
theorem dX5_toldBy_36 : decode cX5_toldBy 36 = .ok (.invokevirtual 48, 3) := by decide +kernel
theorem dX5_toldBy_39 : decode cX5_toldBy 39 = .ok (.i2l, 1) := by decide +kernel
theorem dX5_toldBy_40 : decode cX5_toldBy 40 = .ok (.iload 4, 2) := by decide +kernel
theorem dX5_toldBy_42 : decode cX5_toldBy 42 = .ok (.lshl, 1) := by decide +kernel
theorem dX5_toldBy_43 : decode cX5_toldBy 43 = .ok (.lor, 1) := by decide +kernel
theorem dX5_toldBy_44 : decode cX5_toldBy 44 = .ok (.lstore_n 2, 1) := by decide +kernel
theorem dX5_toldBy_45 : decode cX5_toldBy 45 = .ok (.iinc 4 1, 3) := by decide +kernel
theorem dX5_toldBy_48 : decode cX5_toldBy 48 = .ok (.goto (-43), 3) := by decide +kernel
theorem dX5_toldBy_51 : decode cX5_toldBy 51 = .ok (.lload_n 2, 1) := by decide +kernel
theorem dX5_toldBy_52 : decode cX5_toldBy 52 = .ok (.lreturn, 1) := by decide +kernel
theorem dX5_fittingAs_0 : decode cX5_fittingAs 0 = .ok (.lconst 1, 1) := by decide +kernel
theorem dX5_fittingAs_1 : decode cX5_fittingAs 1 = .ok (.aload_n 1, 1) := by decide +kernel
theorem dX5_fittingAs_2 : decode cX5_fittingAs 2 = .ok (.invokevirtual 42, 3) := by decide +kernel
theorem dX5_fittingAs_5 : decode cX5_fittingAs 5 = .ok (.lshl, 1) := by decide +kernel
theorem dX5_fittingAs_6 : decode cX5_fittingAs 6 = .ok (.lconst 1, 1) := by decide +kernel
theorem dX5_fittingAs_7 : decode cX5_fittingAs 7 = .ok (.lsub, 1) := by decide +kernel
theorem dX5_fittingAs_8 : decode cX5_fittingAs 8 = .ok (.lstore_n 2, 1) := by decide +kernel
theorem dX5_fittingAs_9 : decode cX5_fittingAs 9 = .ok (.aload_n 0, 1) := by decide +kernel
theorem dX5_fittingAs_10 : decode cX5_fittingAs 10 = .ok (.aload_n 1, 1) := by decide +kernel
theorem dX5_fittingAs_11 : decode cX5_fittingAs 11 = .ok (.invokevirtual 60, 3) := by decide +kernel
theorem dX5_fittingAs_14 : decode cX5_fittingAs 14 = .ok (.lstore 4, 2) := by decide +kernel
theorem dX5_fittingAs_16 : decode cX5_fittingAs 16 = .ok (.iconst 0, 1) := by decide +kernel
theorem dX5_fittingAs_17 : decode cX5_fittingAs 17 = .ok (.istore 6, 2) := by decide +kernel
theorem dX5_fittingAs_19 : decode cX5_fittingAs 19 = .ok (.iconst 0, 1) := by decide +kernel
theorem dX5_fittingAs_20 : decode cX5_fittingAs 20 = .ok (.istore 7, 2) := by decide +kernel
theorem dX5_fittingAs_22 : decode cX5_fittingAs 22 = .ok (.iload 7, 2) := by decide +kernel
theorem dX5_fittingAs_24 : decode cX5_fittingAs 24 = .ok (.sipush 729, 3) := by decide +kernel
theorem dX5_fittingAs_27 : decode cX5_fittingAs 27 = .ok (.if_icmp .ge 44, 3) := by decide +kernel
theorem dX5_fittingAs_30 : decode cX5_fittingAs 30 = .ok (.iload 6, 2) := by decide +kernel
theorem dX5_fittingAs_32 : decode cX5_fittingAs 32 = .ok (.aload_n 0, 1) := by decide +kernel
theorem dX5_fittingAs_33 : decode cX5_fittingAs 33 = .ok (.getfield 19, 3) := by decide +kernel
theorem dX5_fittingAs_36 : decode cX5_fittingAs 36 = .ok (.iload 7, 2) := by decide +kernel
theorem dX5_fittingAs_38 : decode cX5_fittingAs 38 = .ok (.baload, 1) := by decide +kernel
theorem dX5_fittingAs_39 : decode cX5_fittingAs 39 = .ok (.ifCond .eq 22, 3) := by decide +kernel
theorem dX5_fittingAs_42 : decode cX5_fittingAs 42 = .ok (.aload_n 0, 1) := by decide +kernel
theorem dX5_fittingAs_43 : decode cX5_fittingAs 43 = .ok (.getfield 15, 3) := by decide +kernel
theorem dX5_fittingAs_46 : decode cX5_fittingAs 46 = .ok (.iload 7, 2) := by decide +kernel
theorem dX5_fittingAs_48 : decode cX5_fittingAs 48 = .ok (.laload, 1) := by decide +kernel
theorem dX5_fittingAs_49 : decode cX5_fittingAs 49 = .ok (.lload_n 2, 1) := by decide +kernel
theorem dX5_fittingAs_50 : decode cX5_fittingAs 50 = .ok (.land, 1) := by decide +kernel
theorem dX5_fittingAs_51 : decode cX5_fittingAs 51 = .ok (.lload 4, 2) := by decide +kernel
theorem dX5_fittingAs_53 : decode cX5_fittingAs 53 = .ok (.lcmp, 1) := by decide +kernel
theorem dX5_fittingAs_54 : decode cX5_fittingAs 54 = .ok (.ifCond .ne 7, 3) := by decide +kernel
theorem dX5_fittingAs_57 : decode cX5_fittingAs 57 = .ok (.iconst 1, 1) := by decide +kernel
theorem dX5_fittingAs_58 : decode cX5_fittingAs 58 = .ok (.goto 4, 3) := by decide +kernel
theorem dX5_fittingAs_61 : decode cX5_fittingAs 61 = .ok (.iconst 0, 1) := by decide +kernel
theorem dX5_fittingAs_62 : decode cX5_fittingAs 62 = .ok (.iadd, 1) := by decide +kernel
theorem dX5_fittingAs_63 : decode cX5_fittingAs 63 = .ok (.istore 6, 2) := by decide +kernel
theorem dX5_fittingAs_65 : decode cX5_fittingAs 65 = .ok (.iinc 7 1, 3) := by decide +kernel
theorem dX5_fittingAs_68 : decode cX5_fittingAs 68 = .ok (.goto (-46), 3) := by decide +kernel
theorem dX5_fittingAs_71 : decode cX5_fittingAs 71 = .ok (.iload 6, 2) := by decide +kernel
theorem dX5_fittingAs_73 : decode cX5_fittingAs 73 = .ok (.ireturn, 1) := by decide +kernel
theorem dX5_leastAs_0 : decode cX5_leastAs 0 = .ok (.lconst 1, 1) := by decide +kernel
theorem dX5_leastAs_1 : decode cX5_leastAs 1 = .ok (.aload_n 1, 1) := by decide +kernel
theorem dX5_leastAs_2 : decode cX5_leastAs 2 = .ok (.invokevirtual 42, 3) := by decide +kernel
theorem dX5_leastAs_5 : decode cX5_leastAs 5 = .ok (.lshl, 1) := by decide +kernel
theorem dX5_leastAs_6 : decode cX5_leastAs 6 = .ok (.lconst 1, 1) := by decide +kernel
theorem dX5_leastAs_7 : decode cX5_leastAs 7 = .ok (.lsub, 1) := by decide +kernel
theorem dX5_leastAs_8 : decode cX5_leastAs 8 = .ok (.lstore_n 2, 1) := by decide +kernel
theorem dX5_leastAs_9 : decode cX5_leastAs 9 = .ok (.aload_n 0, 1) := by decide +kernel
theorem dX5_leastAs_10 : decode cX5_leastAs 10 = .ok (.aload_n 1, 1) := by decide +kernel
theorem dX5_leastAs_11 : decode cX5_leastAs 11 = .ok (.invokevirtual 60, 3) := by decide +kernel
theorem dX5_leastAs_14 : decode cX5_leastAs 14 = .ok (.lstore 4, 2) := by decide +kernel
theorem dX5_leastAs_16 : decode cX5_leastAs 16 = .ok (.iconst 0, 1) := by decide +kernel
theorem dX5_leastAs_17 : decode cX5_leastAs 17 = .ok (.istore 6, 2) := by decide +kernel
theorem dX5_leastAs_19 : decode cX5_leastAs 19 = .ok (.iload 6, 2) := by decide +kernel
theorem dX5_leastAs_21 : decode cX5_leastAs 21 = .ok (.sipush 729, 3) := by decide +kernel
theorem dX5_leastAs_24 : decode cX5_leastAs 24 = .ok (.if_icmp .ge 37, 3) := by decide +kernel
theorem dX5_leastAs_27 : decode cX5_leastAs 27 = .ok (.aload_n 0, 1) := by decide +kernel
theorem dX5_leastAs_28 : decode cX5_leastAs 28 = .ok (.getfield 19, 3) := by decide +kernel
theorem dX5_leastAs_31 : decode cX5_leastAs 31 = .ok (.iload 6, 2) := by decide +kernel
theorem dX5_leastAs_33 : decode cX5_leastAs 33 = .ok (.baload, 1) := by decide +kernel
theorem dX5_leastAs_34 : decode cX5_leastAs 34 = .ok (.ifCond .eq 21, 3) := by decide +kernel
theorem dX5_leastAs_37 : decode cX5_leastAs 37 = .ok (.aload_n 0, 1) := by decide +kernel
theorem dX5_leastAs_38 : decode cX5_leastAs 38 = .ok (.getfield 15, 3) := by decide +kernel
theorem dX5_leastAs_41 : decode cX5_leastAs 41 = .ok (.iload 6, 2) := by decide +kernel
theorem dX5_leastAs_43 : decode cX5_leastAs 43 = .ok (.laload, 1) := by decide +kernel
theorem dX5_leastAs_44 : decode cX5_leastAs 44 = .ok (.lload_n 2, 1) := by decide +kernel
theorem dX5_leastAs_45 : decode cX5_leastAs 45 = .ok (.land, 1) := by decide +kernel
theorem dX5_leastAs_46 : decode cX5_leastAs 46 = .ok (.lload 4, 2) := by decide +kernel
theorem dX5_leastAs_48 : decode cX5_leastAs 48 = .ok (.lcmp, 1) := by decide +kernel
theorem dX5_leastAs_49 : decode cX5_leastAs 49 = .ok (.ifCond .ne 6, 3) := by decide +kernel
theorem dX5_leastAs_52 : decode cX5_leastAs 52 = .ok (.iload 6, 2) := by decide +kernel
theorem dX5_leastAs_54 : decode cX5_leastAs 54 = .ok (.ireturn, 1) := by decide +kernel
theorem dX5_leastAs_55 : decode cX5_leastAs 55 = .ok (.iinc 6 1, 3) := by decide +kernel
theorem dX5_leastAs_58 : decode cX5_leastAs 58 = .ok (.goto (-39), 3) := by decide +kernel
theorem dX5_leastAs_61 : decode cX5_leastAs 61 = .ok (.iconst (-1), 1) := by decide +kernel
theorem dX5_leastAs_62 : decode cX5_leastAs 62 = .ok (.ireturn, 1) := by decide +kernel
theorem dX6_init_0 : decode cX6_init 0 = .ok (.aload_n 0, 1) := by decide +kernel
theorem dX6_init_1 : decode cX6_init 1 = .ok (.invokespecial 3, 3) := by decide +kernel
theorem dX6_init_4 : decode cX6_init 4 = .ok (.aload_n 0, 1) := by decide +kernel
theorem dX6_init_5 : decode cX6_init 5 = .ok (.new 9, 3) := by decide +kernel
theorem dX6_init_8 : decode cX6_init 8 = .ok (.dup, 1) := by decide +kernel
theorem dX6_init_9 : decode cX6_init 9 = .ok (.bipush 60, 2) := by decide +kernel
theorem dX6_init_11 : decode cX6_init 11 = .ok (.invokespecial 11, 3) := by decide +kernel
theorem dX6_init_14 : decode cX6_init 14 = .ok (.putfield 14, 3) := by decide +kernel
theorem dX6_init_17 : decode cX6_init 17 = .ok (.return_, 1) := by decide +kernel
theorem dX6_work_0 : decode cX6_work 0 = .ok (.aload_n 0, 1) := by decide +kernel
theorem dX6_work_1 : decode cX6_work 1 = .ok (.getfield 14, 3) := by decide +kernel
theorem dX6_work_4 : decode cX6_work 4 = .ok (.invokevirtual 20, 3) := by decide +kernel
theorem dX6_work_7 : decode cX6_work 7 = .ok (.iconst 0, 1) := by decide +kernel
theorem dX6_work_8 : decode cX6_work 8 = .ok (.istore 5, 2) := by decide +kernel
theorem dX6_work_10 : decode cX6_work 10 = .ok (.iload 5, 2) := by decide +kernel
theorem dX6_work_12 : decode cX6_work 12 = .ok (.aload_n 1, 1) := by decide +kernel
theorem dX6_work_13 : decode cX6_work 13 = .ok (.invokevirtual 23, 3) := by decide +kernel
theorem dX6_work_16 : decode cX6_work 16 = .ok (.if_icmp .ge 155, 3) := by decide +kernel
theorem dX6_work_19 : decode cX6_work 19 = .ok (.aload_n 1, 1) := by decide +kernel
theorem dX6_work_20 : decode cX6_work 20 = .ok (.iload 5, 2) := by decide +kernel
theorem dX6_work_22 : decode cX6_work 22 = .ok (.invokevirtual 27, 3) := by decide +kernel
theorem dX6_work_25 : decode cX6_work 25 = .ok (.istore 6, 2) := by decide +kernel
theorem dX6_work_27 : decode cX6_work 27 = .ok (.iload 6, 2) := by decide +kernel
theorem dX6_work_29 : decode cX6_work 29 = .ok (.ifCond .lt 15, 3) := by decide +kernel
theorem dX6_work_32 : decode cX6_work 32 = .ok (.aload_n 0, 1) := by decide +kernel
theorem dX6_work_33 : decode cX6_work 33 = .ok (.getfield 14, 3) := by decide +kernel
theorem dX6_work_36 : decode cX6_work 36 = .ok (.iload 6, 2) := by decide +kernel
theorem dX6_work_38 : decode cX6_work 38 = .ok (.invokevirtual 31, 3) := by decide +kernel
theorem dX6_work_41 : decode cX6_work 41 = .ok (.goto 124, 3) := by decide +kernel
theorem dX6_work_44 : decode cX6_work 44 = .ok (.iload 6, 2) := by decide +kernel
theorem dX6_work_46 : decode cX6_work 46 = .ok (.iconst (-1), 1) := by decide +kernel
theorem dX6_work_47 : decode cX6_work 47 = .ok (.if_icmp .ne 14, 3) := by decide +kernel
theorem dX6_work_50 : decode cX6_work 50 = .ok (.aload_n 0, 1) := by decide +kernel
theorem dX6_work_51 : decode cX6_work 51 = .ok (.getfield 14, 3) := by decide +kernel
theorem dX6_work_54 : decode cX6_work 54 = .ok (.iload_n 2, 1) := by decide +kernel
theorem dX6_work_55 : decode cX6_work 55 = .ok (.invokevirtual 31, 3) := by decide +kernel
theorem dX6_work_58 : decode cX6_work 58 = .ok (.goto 107, 3) := by decide +kernel
theorem dX6_work_61 : decode cX6_work 61 = .ok (.iload 6, 2) := by decide +kernel
theorem dX6_work_63 : decode cX6_work 63 = .ok (.bipush (-2), 2) := by decide +kernel
theorem dX6_work_65 : decode cX6_work 65 = .ok (.if_icmp .ne 14, 3) := by decide +kernel
theorem dX6_work_68 : decode cX6_work 68 = .ok (.aload_n 0, 1) := by decide +kernel
theorem dX6_work_69 : decode cX6_work 69 = .ok (.getfield 14, 3) := by decide +kernel
theorem dX6_work_72 : decode cX6_work 72 = .ok (.iload_n 3, 1) := by decide +kernel
theorem dX6_work_73 : decode cX6_work 73 = .ok (.invokevirtual 31, 3) := by decide +kernel
theorem dX6_work_76 : decode cX6_work 76 = .ok (.goto 89, 3) := by decide +kernel
theorem dX6_work_79 : decode cX6_work 79 = .ok (.iload 6, 2) := by decide +kernel
theorem dX6_work_81 : decode cX6_work 81 = .ok (.bipush (-3), 2) := by decide +kernel
theorem dX6_work_83 : decode cX6_work 83 = .ok (.if_icmp .ne 15, 3) := by decide +kernel
theorem dX6_work_86 : decode cX6_work 86 = .ok (.aload_n 0, 1) := by decide +kernel
theorem dX6_work_87 : decode cX6_work 87 = .ok (.getfield 14, 3) := by decide +kernel
theorem dX6_work_90 : decode cX6_work 90 = .ok (.iload 4, 2) := by decide +kernel
theorem dX6_work_92 : decode cX6_work 92 = .ok (.invokevirtual 31, 3) := by decide +kernel
theorem dX6_work_95 : decode cX6_work 95 = .ok (.goto 70, 3) := by decide +kernel
theorem dX6_work_98 : decode cX6_work 98 = .ok (.iload 6, 2) := by decide +kernel
theorem dX6_work_100 : decode cX6_work 100 = .ok (.bipush (-33), 2) := by decide +kernel
theorem dX6_work_102 : decode cX6_work 102 = .ok (.if_icmp .ne 28, 3) := by decide +kernel
theorem dX6_work_105 : decode cX6_work 105 = .ok (.aload_n 0, 1) := by decide +kernel
theorem dX6_work_106 : decode cX6_work 106 = .ok (.getfield 14, 3) := by decide +kernel
theorem dX6_work_109 : decode cX6_work 109 = .ok (.aload_n 0, 1) := by decide +kernel
theorem dX6_work_110 : decode cX6_work 110 = .ok (.getfield 14, 3) := by decide +kernel
theorem dX6_work_113 : decode cX6_work 113 = .ok (.invokevirtual 34, 3) := by decide +kernel
theorem dX6_work_116 : decode cX6_work 116 = .ok (.ifCond .ne 7, 3) := by decide +kernel
theorem dX6_work_119 : decode cX6_work 119 = .ok (.iconst 1, 1) := by decide +kernel
theorem dX6_work_120 : decode cX6_work 120 = .ok (.goto 4, 3) := by decide +kernel
theorem dX6_work_123 : decode cX6_work 123 = .ok (.iconst 0, 1) := by decide +kernel
theorem dX6_work_124 : decode cX6_work 124 = .ok (.invokevirtual 31, 3) := by decide +kernel
theorem dX6_work_127 : decode cX6_work 127 = .ok (.goto 38, 3) := by decide +kernel
theorem dX6_work_130 : decode cX6_work 130 = .ok (.aload_n 0, 1) := by decide +kernel
theorem dX6_work_131 : decode cX6_work 131 = .ok (.getfield 14, 3) := by decide +kernel
theorem dX6_work_134 : decode cX6_work 134 = .ok (.invokevirtual 34, 3) := by decide +kernel
theorem dX6_work_137 : decode cX6_work 137 = .ok (.istore 7, 2) := by decide +kernel
theorem dX6_work_139 : decode cX6_work 139 = .ok (.aload_n 0, 1) := by decide +kernel
theorem dX6_work_140 : decode cX6_work 140 = .ok (.getfield 14, 3) := by decide +kernel
theorem dX6_work_143 : decode cX6_work 143 = .ok (.invokevirtual 34, 3) := by decide +kernel
theorem dX6_work_146 : decode cX6_work 146 = .ok (.istore 8, 2) := by decide +kernel
theorem dX6_work_148 : decode cX6_work 148 = .ok (.aload_n 0, 1) := by decide +kernel
theorem dX6_work_149 : decode cX6_work 149 = .ok (.getfield 14, 3) := by decide +kernel
theorem dX6_work_152 : decode cX6_work 152 = .ok (.iload 6, 2) := by decide +kernel
theorem dX6_work_154 : decode cX6_work 154 = .ok (.ineg, 1) := by decide +kernel
theorem dX6_work_155 : decode cX6_work 155 = .ok (.iload 8, 2) := by decide +kernel
theorem dX6_work_157 : decode cX6_work 157 = .ok (.iload 7, 2) := by decide +kernel
theorem dX6_work_159 : decode cX6_work 159 = .ok (.invokestatic 37, 3) := by decide +kernel
theorem dX6_work_162 : decode cX6_work 162 = .ok (.invokevirtual 31, 3) := by decide +kernel
theorem dX6_work_165 : decode cX6_work 165 = .ok (.iinc 5 1, 3) := by decide +kernel
theorem dX6_work_168 : decode cX6_work 168 = .ok (.goto (-158), 3) := by decide +kernel
theorem dX6_work_171 : decode cX6_work 171 = .ok (.aload_n 0, 1) := by decide +kernel
theorem dX6_work_172 : decode cX6_work 172 = .ok (.getfield 14, 3) := by decide +kernel
theorem dX6_work_175 : decode cX6_work 175 = .ok (.invokevirtual 34, 3) := by decide +kernel
theorem dX6_work_178 : decode cX6_work 178 = .ok (.ireturn, 1) := by decide +kernel
theorem dX6_joined_0 : decode cX6_joined 0 = .ok (.iload_n 0, 1) := by decide +kernel
theorem dX6_joined_1 : decode cX6_joined 1 = .ok (.tableswitch 95 37 47 #[83, 95, 95, 95, 95, 67, 59, 95, 63, 95, 71], 59) := by decide +kernel
theorem dX6_joined_60 : decode cX6_joined 60 = .ok (.iload_n 1, 1) := by decide +kernel
theorem dX6_joined_61 : decode cX6_joined 61 = .ok (.iload_n 2, 1) := by decide +kernel
theorem dX6_joined_62 : decode cX6_joined 62 = .ok (.iadd, 1) := by decide +kernel
theorem dX6_joined_63 : decode cX6_joined 63 = .ok (.ireturn, 1) := by decide +kernel
theorem dX6_joined_64 : decode cX6_joined 64 = .ok (.iload_n 1, 1) := by decide +kernel
theorem dX6_joined_65 : decode cX6_joined 65 = .ok (.iload_n 2, 1) := by decide +kernel
theorem dX6_joined_66 : decode cX6_joined 66 = .ok (.isub, 1) := by decide +kernel
theorem dX6_joined_67 : decode cX6_joined 67 = .ok (.ireturn, 1) := by decide +kernel
theorem dX6_joined_68 : decode cX6_joined 68 = .ok (.iload_n 1, 1) := by decide +kernel
theorem dX6_joined_69 : decode cX6_joined 69 = .ok (.iload_n 2, 1) := by decide +kernel
theorem dX6_joined_70 : decode cX6_joined 70 = .ok (.imul, 1) := by decide +kernel
theorem dX6_joined_71 : decode cX6_joined 71 = .ok (.ireturn, 1) := by decide +kernel
theorem dX6_joined_72 : decode cX6_joined 72 = .ok (.iload_n 2, 1) := by decide +kernel
theorem dX6_joined_73 : decode cX6_joined 73 = .ok (.ifCond .ne 7, 3) := by decide +kernel
theorem dX6_joined_76 : decode cX6_joined 76 = .ok (.iconst 0, 1) := by decide +kernel
theorem dX6_joined_77 : decode cX6_joined 77 = .ok (.goto 6, 3) := by decide +kernel
theorem dX6_joined_80 : decode cX6_joined 80 = .ok (.iload_n 1, 1) := by decide +kernel
theorem dX6_joined_81 : decode cX6_joined 81 = .ok (.iload_n 2, 1) := by decide +kernel
theorem dX6_joined_82 : decode cX6_joined 82 = .ok (.idiv, 1) := by decide +kernel
theorem dX6_joined_83 : decode cX6_joined 83 = .ok (.ireturn, 1) := by decide +kernel
theorem dX6_joined_84 : decode cX6_joined 84 = .ok (.iload_n 2, 1) := by decide +kernel
theorem dX6_joined_85 : decode cX6_joined 85 = .ok (.ifCond .ne 7, 3) := by decide +kernel
theorem dX6_joined_88 : decode cX6_joined 88 = .ok (.iconst 0, 1) := by decide +kernel
theorem dX6_joined_89 : decode cX6_joined 89 = .ok (.goto 6, 3) := by decide +kernel
theorem dX6_joined_92 : decode cX6_joined 92 = .ok (.iload_n 1, 1) := by decide +kernel
theorem dX6_joined_93 : decode cX6_joined 93 = .ok (.iload_n 2, 1) := by decide +kernel
theorem dX6_joined_94 : decode cX6_joined 94 = .ok (.irem, 1) := by decide +kernel
theorem dX6_joined_95 : decode cX6_joined 95 = .ok (.ireturn, 1) := by decide +kernel
theorem dX6_joined_96 : decode cX6_joined 96 = .ok (.iload_n 0, 1) := by decide +kernel
theorem dX6_joined_97 : decode cX6_joined 97 = .ok (.iload_n 1, 1) := by decide +kernel
theorem dX6_joined_98 : decode cX6_joined 98 = .ok (.iload_n 2, 1) := by decide +kernel
theorem dX6_joined_99 : decode cX6_joined 99 = .ok (.invokestatic 41, 3) := by decide +kernel
theorem dX6_joined_102 : decode cX6_joined 102 = .ok (.ifCond .eq 7, 3) := by decide +kernel
theorem dX6_joined_105 : decode cX6_joined 105 = .ok (.iconst 1, 1) := by decide +kernel
theorem dX6_joined_106 : decode cX6_joined 106 = .ok (.goto 4, 3) := by decide +kernel
theorem dX6_joined_109 : decode cX6_joined 109 = .ok (.iconst 0, 1) := by decide +kernel
theorem dX6_joined_110 : decode cX6_joined 110 = .ok (.ireturn, 1) := by decide +kernel
theorem dX6_isTrue_0 : decode cX6_isTrue 0 = .ok (.iload_n 0, 1) := by decide +kernel
theorem dX6_isTrue_1 : decode cX6_isTrue 1 = .ok (.lookupswitch 90 #[(38, 76), (60, 43), (61, 54), (62, 65)], 43) := by decide +kernel
theorem dX6_isTrue_44 : decode cX6_isTrue 44 = .ok (.iload_n 1, 1) := by decide +kernel
theorem dX6_isTrue_45 : decode cX6_isTrue 45 = .ok (.iload_n 2, 1) := by decide +kernel
theorem dX6_isTrue_46 : decode cX6_isTrue 46 = .ok (.if_icmp .ge 7, 3) := by decide +kernel
theorem dX6_isTrue_49 : decode cX6_isTrue 49 = .ok (.iconst 1, 1) := by decide +kernel
theorem dX6_isTrue_50 : decode cX6_isTrue 50 = .ok (.goto 4, 3) := by decide +kernel
theorem dX6_isTrue_53 : decode cX6_isTrue 53 = .ok (.iconst 0, 1) := by decide +kernel
theorem dX6_isTrue_54 : decode cX6_isTrue 54 = .ok (.ireturn, 1) := by decide +kernel
theorem dX6_isTrue_55 : decode cX6_isTrue 55 = .ok (.iload_n 1, 1) := by decide +kernel
theorem dX6_isTrue_56 : decode cX6_isTrue 56 = .ok (.iload_n 2, 1) := by decide +kernel
theorem dX6_isTrue_57 : decode cX6_isTrue 57 = .ok (.if_icmp .ne 7, 3) := by decide +kernel
theorem dX6_isTrue_60 : decode cX6_isTrue 60 = .ok (.iconst 1, 1) := by decide +kernel
theorem dX6_isTrue_61 : decode cX6_isTrue 61 = .ok (.goto 4, 3) := by decide +kernel
theorem dX6_isTrue_64 : decode cX6_isTrue 64 = .ok (.iconst 0, 1) := by decide +kernel
theorem dX6_isTrue_65 : decode cX6_isTrue 65 = .ok (.ireturn, 1) := by decide +kernel
theorem dX6_isTrue_66 : decode cX6_isTrue 66 = .ok (.iload_n 1, 1) := by decide +kernel
theorem dX6_isTrue_67 : decode cX6_isTrue 67 = .ok (.iload_n 2, 1) := by decide +kernel
theorem dX6_isTrue_68 : decode cX6_isTrue 68 = .ok (.if_icmp .le 7, 3) := by decide +kernel
theorem dX6_isTrue_71 : decode cX6_isTrue 71 = .ok (.iconst 1, 1) := by decide +kernel
theorem dX6_isTrue_72 : decode cX6_isTrue 72 = .ok (.goto 4, 3) := by decide +kernel
theorem dX6_isTrue_75 : decode cX6_isTrue 75 = .ok (.iconst 0, 1) := by decide +kernel
theorem dX6_isTrue_76 : decode cX6_isTrue 76 = .ok (.ireturn, 1) := by decide +kernel
theorem dX6_isTrue_77 : decode cX6_isTrue 77 = .ok (.iload_n 1, 1) := by decide +kernel
theorem dX6_isTrue_78 : decode cX6_isTrue 78 = .ok (.ifCond .eq 11, 3) := by decide +kernel
theorem dX6_isTrue_81 : decode cX6_isTrue 81 = .ok (.iload_n 2, 1) := by decide +kernel
theorem dX6_isTrue_82 : decode cX6_isTrue 82 = .ok (.ifCond .eq 7, 3) := by decide +kernel
theorem dX6_isTrue_85 : decode cX6_isTrue 85 = .ok (.iconst 1, 1) := by decide +kernel
theorem dX6_isTrue_86 : decode cX6_isTrue 86 = .ok (.goto 4, 3) := by decide +kernel
theorem dX6_isTrue_89 : decode cX6_isTrue 89 = .ok (.iconst 0, 1) := by decide +kernel
theorem dX6_isTrue_90 : decode cX6_isTrue 90 = .ok (.ireturn, 1) := by decide +kernel
theorem dX6_isTrue_91 : decode cX6_isTrue 91 = .ok (.iload_n 1, 1) := by decide +kernel
theorem dX6_isTrue_92 : decode cX6_isTrue 92 = .ok (.ifCond .ne 7, 3) := by decide +kernel
theorem dX6_isTrue_95 : decode cX6_isTrue 95 = .ok (.iload_n 2, 1) := by decide +kernel
theorem dX6_isTrue_96 : decode cX6_isTrue 96 = .ok (.ifCond .eq 7, 3) := by decide +kernel
theorem dX6_isTrue_99 : decode cX6_isTrue 99 = .ok (.iconst 1, 1) := by decide +kernel
theorem dX6_isTrue_100 : decode cX6_isTrue 100 = .ok (.goto 4, 3) := by decide +kernel
theorem dX6_isTrue_103 : decode cX6_isTrue 103 = .ok (.iconst 0, 1) := by decide +kernel
theorem dX6_isTrue_104 : decode cX6_isTrue 104 = .ok (.ireturn, 1) := by decide +kernel
theorem dX7_init_0 : decode cX7_init 0 = .ok (.aload_n 0, 1) := by decide +kernel
theorem dX7_init_1 : decode cX7_init 1 = .ok (.invokespecial 1, 3) := by decide +kernel
theorem dX7_init_4 : decode cX7_init 4 = .ok (.aload_n 0, 1) := by decide +kernel
theorem dX7_init_5 : decode cX7_init 5 = .ok (.new 7, 3) := by decide +kernel
theorem dX7_init_8 : decode cX7_init 8 = .ok (.dup, 1) := by decide +kernel
theorem dX7_init_9 : decode cX7_init 9 = .ok (.invokespecial 9, 3) := by decide +kernel
theorem dX7_init_12 : decode cX7_init 12 = .ok (.putfield 10, 3) := by decide +kernel
theorem dX7_init_15 : decode cX7_init 15 = .ok (.aload_n 0, 1) := by decide +kernel
theorem dX7_init_16 : decode cX7_init 16 = .ok (.new 7, 3) := by decide +kernel
theorem dX7_init_19 : decode cX7_init 19 = .ok (.dup, 1) := by decide +kernel
theorem dX7_init_20 : decode cX7_init 20 = .ok (.invokespecial 9, 3) := by decide +kernel
theorem dX7_init_23 : decode cX7_init 23 = .ok (.putfield 16, 3) := by decide +kernel
theorem dX7_init_26 : decode cX7_init 26 = .ok (.aload_n 0, 1) := by decide +kernel
theorem dX7_init_27 : decode cX7_init 27 = .ok (.iconst 0, 1) := by decide +kernel
theorem dX7_init_28 : decode cX7_init 28 = .ok (.putfield 19, 3) := by decide +kernel
theorem dX7_init_31 : decode cX7_init 31 = .ok (.aload_n 0, 1) := by decide +kernel
theorem dX7_init_32 : decode cX7_init 32 = .ok (.iconst 0, 1) := by decide +kernel
theorem dX7_init_33 : decode cX7_init 33 = .ok (.putfield 23, 3) := by decide +kernel
theorem dX7_init_36 : decode cX7_init 36 = .ok (.aload_n 0, 1) := by decide +kernel
theorem dX7_init_37 : decode cX7_init 37 = .ok (.new 27, 3) := by decide +kernel
theorem dX7_init_40 : decode cX7_init 40 = .ok (.dup, 1) := by decide +kernel
theorem dX7_init_41 : decode cX7_init 41 = .ok (.invokespecial 29, 3) := by decide +kernel
theorem dX7_init_44 : decode cX7_init 44 = .ok (.putfield 30, 3) := by decide +kernel
theorem dX7_init_47 : decode cX7_init 47 = .ok (.aload_n 0, 1) := by decide +kernel
theorem dX7_init_48 : decode cX7_init 48 = .ok (.new 34, 3) := by decide +kernel
theorem dX7_init_51 : decode cX7_init 51 = .ok (.dup, 1) := by decide +kernel
theorem dX7_init_52 : decode cX7_init 52 = .ok (.aload_n 0, 1) := by decide +kernel
theorem dX7_init_53 : decode cX7_init 53 = .ok (.getfield 10, 3) := by decide +kernel
theorem dX7_init_56 : decode cX7_init 56 = .ok (.getfield 36, 3) := by decide +kernel
theorem dX7_init_59 : decode cX7_init 59 = .ok (.invokespecial 40, 3) := by decide +kernel
theorem dX7_init_62 : decode cX7_init 62 = .ok (.putfield 43, 3) := by decide +kernel
theorem dX7_init_65 : decode cX7_init 65 = .ok (.aload_n 0, 1) := by decide +kernel
theorem dX7_init_66 : decode cX7_init 66 = .ok (.new 47, 3) := by decide +kernel
theorem dX7_init_69 : decode cX7_init 69 = .ok (.dup, 1) := by decide +kernel
theorem dX7_init_70 : decode cX7_init 70 = .ok (.invokespecial 49, 3) := by decide +kernel
theorem dX7_init_73 : decode cX7_init 73 = .ok (.putfield 50, 3) := by decide +kernel
theorem dX7_init_76 : decode cX7_init 76 = .ok (.aload_n 0, 1) := by decide +kernel
theorem dX7_init_77 : decode cX7_init 77 = .ok (.new 54, 3) := by decide +kernel
theorem dX7_init_80 : decode cX7_init 80 = .ok (.dup, 1) := by decide +kernel
theorem dX7_init_81 : decode cX7_init 81 = .ok (.invokespecial 56, 3) := by decide +kernel
theorem dX7_init_84 : decode cX7_init 84 = .ok (.putfield 57, 3) := by decide +kernel
theorem dX7_init_87 : decode cX7_init 87 = .ok (.aload_n 0, 1) := by decide +kernel
theorem dX7_init_88 : decode cX7_init 88 = .ok (.iconst 4, 1) := by decide +kernel
theorem dX7_init_89 : decode cX7_init 89 = .ok (.anewarray 61, 3) := by decide +kernel
theorem dX7_init_92 : decode cX7_init 92 = .ok (.putfield 63, 3) := by decide +kernel
theorem dX7_init_95 : decode cX7_init 95 = .ok (.aload_n 0, 1) := by decide +kernel
theorem dX7_init_96 : decode cX7_init 96 = .ok (.bipush 7, 2) := by decide +kernel
theorem dX7_init_98 : decode cX7_init 98 = .ok (.newarray .int, 2) := by decide +kernel
theorem dX7_init_100 : decode cX7_init 100 = .ok (.putfield 67, 3) := by decide +kernel
theorem dX7_init_103 : decode cX7_init 103 = .ok (.iconst 0, 1) := by decide +kernel
theorem dX7_init_104 : decode cX7_init 104 = .ok (.istore_n 1, 1) := by decide +kernel
theorem dX7_init_105 : decode cX7_init 105 = .ok (.iload_n 1, 1) := by decide +kernel
theorem dX7_init_106 : decode cX7_init 106 = .ok (.iconst 4, 1) := by decide +kernel
theorem dX7_init_107 : decode cX7_init 107 = .ok (.if_icmp .ge 22, 3) := by decide +kernel
theorem dX7_init_110 : decode cX7_init 110 = .ok (.aload_n 0, 1) := by decide +kernel
theorem dX7_init_111 : decode cX7_init 111 = .ok (.getfield 63, 3) := by decide +kernel
theorem dX7_init_114 : decode cX7_init 114 = .ok (.iload_n 1, 1) := by decide +kernel
theorem dX7_init_115 : decode cX7_init 115 = .ok (.new 61, 3) := by decide +kernel
theorem dX7_init_118 : decode cX7_init 118 = .ok (.dup, 1) := by decide +kernel
theorem dX7_init_119 : decode cX7_init 119 = .ok (.invokespecial 71, 3) := by decide +kernel
theorem dX7_init_122 : decode cX7_init 122 = .ok (.aastore, 1) := by decide +kernel
theorem dX7_init_123 : decode cX7_init 123 = .ok (.iinc 1 1, 3) := by decide +kernel
theorem dX7_init_126 : decode cX7_init 126 = .ok (.goto (-21), 3) := by decide +kernel
theorem dX7_init_129 : decode cX7_init 129 = .ok (.aload_n 0, 1) := by decide +kernel
theorem dX7_init_130 : decode cX7_init 130 = .ok (.getfield 30, 3) := by decide +kernel
theorem dX7_init_133 : decode cX7_init 133 = .ok (.aload_n 0, 1) := by decide +kernel
theorem dX7_init_134 : decode cX7_init 134 = .ok (.getfield 10, 3) := by decide +kernel
theorem dX7_init_137 : decode cX7_init 137 = .ok (.getfield 72, 3) := by decide +kernel
theorem dX7_init_140 : decode cX7_init 140 = .ok (.invokevirtual 75, 3) := by decide +kernel
theorem dX7_init_143 : decode cX7_init 143 = .ok (.return_, 1) := by decide +kernel
theorem dX7_brother_0 : decode cX7_brother 0 = .ok (.iload_n 1, 1) := by decide +kernel
theorem dX7_brother_1 : decode cX7_brother 1 = .ok (.invokestatic 78, 3) := by decide +kernel
theorem dX7_brother_4 : decode cX7_brother 4 = .ok (.ifCond .ne 9, 3) := by decide +kernel
theorem dX7_brother_7 : decode cX7_brother 7 = .ok (.aload_n 0, 1) := by decide +kernel
theorem dX7_brother_8 : decode cX7_brother 8 = .ok (.iconst 1, 1) := by decide +kernel
theorem dX7_brother_9 : decode cX7_brother 9 = .ok (.invokevirtual 82, 3) := by decide +kernel
theorem dX7_brother_12 : decode cX7_brother 12 = .ok (.ireturn, 1) := by decide +kernel
theorem dX7_brother_13 : decode cX7_brother 13 = .ok (.aload_n 0, 1) := by decide +kernel
theorem dX7_brother_14 : decode cX7_brother 14 = .ok (.getfield 10, 3) := by decide +kernel
theorem dX7_brother_17 : decode cX7_brother 17 = .ok (.invokevirtual 86, 3) := by decide +kernel
theorem dX7_brother_20 : decode cX7_brother 20 = .ok (.bipush 6, 2) := by decide +kernel
theorem dX7_brother_22 : decode cX7_brother 22 = .ok (.if_icmp .lt 9, 3) := by decide +kernel
theorem dX7_brother_25 : decode cX7_brother 25 = .ok (.aload_n 0, 1) := by decide +kernel
theorem dX7_brother_26 : decode cX7_brother 26 = .ok (.iconst 4, 1) := by decide +kernel
theorem dX7_brother_27 : decode cX7_brother 27 = .ok (.invokevirtual 82, 3) := by decide +kernel
theorem dX7_brother_30 : decode cX7_brother 30 = .ok (.ireturn, 1) := by decide +kernel
theorem dX7_brother_31 : decode cX7_brother 31 = .ok (.aload_n 0, 1) := by decide +kernel
theorem dX7_brother_32 : decode cX7_brother 32 = .ok (.getfield 10, 3) := by decide +kernel
theorem dX7_brother_35 : decode cX7_brother 35 = .ok (.getfield 90, 3) := by decide +kernel
theorem dX7_brother_38 : decode cX7_brother 38 = .ok (.iload_n 1, 1) := by decide +kernel
theorem dX7_brother_39 : decode cX7_brother 39 = .ok (.bipush 10, 2) := by decide +kernel
theorem dX7_brother_41 : decode cX7_brother 41 = .ok (.idiv, 1) := by decide +kernel
theorem dX7_brother_42 : decode cX7_brother 42 = .ok (.invokevirtual 93, 3) := by decide +kernel
theorem dX7_brother_45 : decode cX7_brother 45 = .ok (.aload_n 0, 1) := by decide +kernel
theorem dX7_brother_46 : decode cX7_brother 46 = .ok (.getfield 10, 3) := by decide +kernel
theorem dX7_brother_49 : decode cX7_brother 49 = .ok (.getfield 99, 3) := by decide +kernel
theorem dX7_brother_52 : decode cX7_brother 52 = .ok (.iload_n 1, 1) := by decide +kernel
theorem dX7_brother_53 : decode cX7_brother 53 = .ok (.bipush 10, 2) := by decide +kernel
theorem dX7_brother_55 : decode cX7_brother 55 = .ok (.irem, 1) := by decide +kernel
theorem dX7_brother_56 : decode cX7_brother 56 = .ok (.invokevirtual 93, 3) := by decide +kernel
theorem dX7_brother_59 : decode cX7_brother 59 = .ok (.aload_n 0, 1) := by decide +kernel
theorem dX7_brother_60 : decode cX7_brother 60 = .ok (.getfield 10, 3) := by decide +kernel
theorem dX7_brother_63 : decode cX7_brother 63 = .ok (.getfield 102, 3) := by decide +kernel
theorem dX7_brother_66 : decode cX7_brother 66 = .ok (.iconst 0, 1) := by decide +kernel
theorem dX7_brother_67 : decode cX7_brother 67 = .ok (.invokevirtual 93, 3) := by decide +kernel
theorem dX7_brother_70 : decode cX7_brother 70 = .ok (.aload_n 0, 1) := by decide +kernel
theorem dX7_brother_71 : decode cX7_brother 71 = .ok (.getfield 10, 3) := by decide +kernel
theorem dX7_brother_74 : decode cX7_brother 74 = .ok (.invokevirtual 86, 3) := by decide +kernel
theorem dX7_brother_77 : decode cX7_brother 77 = .ok (.iconst 1, 1) := by decide +kernel
theorem dX7_brother_78 : decode cX7_brother 78 = .ok (.isub, 1) := by decide +kernel
theorem dX7_brother_79 : decode cX7_brother 79 = .ok (.ireturn, 1) := by decide +kernel
theorem dX7_brotherIs_0 : decode cX7_brotherIs 0 = .ok (.aload_n 0, 1) := by decide +kernel
theorem dX7_brotherIs_1 : decode cX7_brotherIs 1 = .ok (.iload_n 1, 1) := by decide +kernel
theorem dX7_brotherIs_2 : decode cX7_brotherIs 2 = .ok (.invokevirtual 105, 3) := by decide +kernel
theorem dX7_brotherIs_5 : decode cX7_brotherIs 5 = .ok (.ifCond .eq 12, 3) := by decide +kernel
theorem dX7_brotherIs_8 : decode cX7_brotherIs 8 = .ok (.iload_n 2, 1) := by decide +kernel
theorem dX7_brotherIs_9 : decode cX7_brotherIs 9 = .ok (.iconst 0, 1) := by decide +kernel
theorem dX7_brotherIs_10 : decode cX7_brotherIs 10 = .ok (.iconst 3, 1) := by decide +kernel
theorem dX7_brotherIs_11 : decode cX7_brotherIs 11 = .ok (.invokestatic 108, 3) := by decide +kernel
theorem dX7_brotherIs_14 : decode cX7_brotherIs 14 = .ok (.ifCond .ne 9, 3) := by decide +kernel
theorem dX7_brotherIs_17 : decode cX7_brotherIs 17 = .ok (.aload_n 0, 1) := by decide +kernel
theorem dX7_brotherIs_18 : decode cX7_brotherIs 18 = .ok (.iconst 1, 1) := by decide +kernel
theorem dX7_brotherIs_19 : decode cX7_brotherIs 19 = .ok (.invokevirtual 82, 3) := by decide +kernel
theorem dX7_brotherIs_22 : decode cX7_brotherIs 22 = .ok (.ireturn, 1) := by decide +kernel
theorem dX7_brotherIs_23 : decode cX7_brotherIs 23 = .ok (.iload_n 2, 1) := by decide +kernel
theorem dX7_brotherIs_24 : decode cX7_brotherIs 24 = .ok (.tableswitch 64 0 2 #[28, 40, 52], 28) := by decide +kernel
theorem dX7_brotherIs_52 : decode cX7_brotherIs 52 = .ok (.aload_n 0, 1) := by decide +kernel
theorem dX7_brotherIs_53 : decode cX7_brotherIs 53 = .ok (.getfield 10, 3) := by decide +kernel
theorem dX7_brotherIs_56 : decode cX7_brotherIs 56 = .ok (.getfield 90, 3) := by decide +kernel
theorem dX7_brotherIs_59 : decode cX7_brotherIs 59 = .ok (.iload_n 1, 1) := by decide +kernel
theorem dX7_brotherIs_60 : decode cX7_brotherIs 60 = .ok (.invokevirtual 112, 3) := by decide +kernel
theorem dX7_brotherIs_63 : decode cX7_brotherIs 63 = .ok (.ireturn, 1) := by decide +kernel
theorem dX7_brotherIs_64 : decode cX7_brotherIs 64 = .ok (.aload_n 0, 1) := by decide +kernel
theorem dX7_brotherIs_65 : decode cX7_brotherIs 65 = .ok (.getfield 10, 3) := by decide +kernel
theorem dX7_brotherIs_68 : decode cX7_brotherIs 68 = .ok (.getfield 99, 3) := by decide +kernel
theorem dX7_brotherIs_71 : decode cX7_brotherIs 71 = .ok (.iload_n 1, 1) := by decide +kernel
theorem dX7_brotherIs_72 : decode cX7_brotherIs 72 = .ok (.invokevirtual 112, 3) := by decide +kernel
theorem dX7_brotherIs_75 : decode cX7_brotherIs 75 = .ok (.ireturn, 1) := by decide +kernel
theorem dX7_brotherIs_76 : decode cX7_brotherIs 76 = .ok (.aload_n 0, 1) := by decide +kernel
theorem dX7_brotherIs_77 : decode cX7_brotherIs 77 = .ok (.getfield 10, 3) := by decide +kernel
theorem dX7_brotherIs_80 : decode cX7_brotherIs 80 = .ok (.getfield 102, 3) := by decide +kernel
theorem dX7_brotherIs_83 : decode cX7_brotherIs 83 = .ok (.iload_n 1, 1) := by decide +kernel
theorem dX7_brotherIs_84 : decode cX7_brotherIs 84 = .ok (.invokevirtual 112, 3) := by decide +kernel
theorem dX7_brotherIs_87 : decode cX7_brotherIs 87 = .ok (.ireturn, 1) := by decide +kernel
theorem dX7_brotherIs_88 : decode cX7_brotherIs 88 = .ok (.aload_n 0, 1) := by decide +kernel
theorem dX7_brotherIs_89 : decode cX7_brotherIs 89 = .ok (.iload_n 1, 1) := by decide +kernel
theorem dX7_brotherIs_90 : decode cX7_brotherIs 90 = .ok (.invokevirtual 115, 3) := by decide +kernel
theorem dX7_brotherIs_93 : decode cX7_brotherIs 93 = .ok (.invokestatic 119, 3) := by decide +kernel
theorem dX7_brotherIs_96 : decode cX7_brotherIs 96 = .ok (.ireturn, 1) := by decide +kernel
theorem dX7_become_0 : decode cX7_become 0 = .ok (.aload_n 0, 1) := by decide +kernel
theorem dX7_become_1 : decode cX7_become 1 = .ok (.iload_n 1, 1) := by decide +kernel
theorem dX7_become_2 : decode cX7_become 2 = .ok (.invokevirtual 105, 3) := by decide +kernel
theorem dX7_become_5 : decode cX7_become 5 = .ok (.ifCond .eq 10, 3) := by decide +kernel
theorem dX7_become_8 : decode cX7_become 8 = .ok (.iload_n 2, 1) := by decide +kernel
theorem dX7_become_9 : decode cX7_become 9 = .ok (.invokestatic 78, 3) := by decide +kernel
theorem dX7_become_12 : decode cX7_become 12 = .ok (.ifCond .ne 9, 3) := by decide +kernel
theorem dX7_become_15 : decode cX7_become 15 = .ok (.aload_n 0, 1) := by decide +kernel
theorem dX7_become_16 : decode cX7_become 16 = .ok (.iconst 1, 1) := by decide +kernel
theorem dX7_become_17 : decode cX7_become 17 = .ok (.invokevirtual 82, 3) := by decide +kernel
theorem dX7_become_20 : decode cX7_become 20 = .ok (.ireturn, 1) := by decide +kernel
theorem dX7_become_21 : decode cX7_become 21 = .ok (.aload_n 0, 1) := by decide +kernel
theorem dX7_become_22 : decode cX7_become 22 = .ok (.getfield 10, 3) := by decide +kernel
theorem dX7_become_25 : decode cX7_become 25 = .ok (.getfield 90, 3) := by decide +kernel
theorem dX7_become_28 : decode cX7_become 28 = .ok (.iload_n 1, 1) := by decide +kernel
theorem dX7_become_29 : decode cX7_become 29 = .ok (.invokevirtual 112, 3) := by decide +kernel
theorem dX7_become_32 : decode cX7_become 32 = .ok (.istore_n 3, 1) := by decide +kernel
theorem dX7_become_33 : decode cX7_become 33 = .ok (.aload_n 0, 1) := by decide +kernel
theorem dX7_become_34 : decode cX7_become 34 = .ok (.getfield 10, 3) := by decide +kernel
theorem dX7_become_37 : decode cX7_become 37 = .ok (.getfield 90, 3) := by decide +kernel
theorem dX7_become_40 : decode cX7_become 40 = .ok (.iload_n 1, 1) := by decide +kernel
theorem dX7_become_41 : decode cX7_become 41 = .ok (.iload_n 2, 1) := by decide +kernel
theorem dX7_become_42 : decode cX7_become 42 = .ok (.bipush 10, 2) := by decide +kernel
theorem dX7_become_44 : decode cX7_become 44 = .ok (.idiv, 1) := by decide +kernel
theorem dX7_become_45 : decode cX7_become 45 = .ok (.invokevirtual 125, 3) := by decide +kernel
theorem dX7_become_48 : decode cX7_become 48 = .ok (.aload_n 0, 1) := by decide +kernel
theorem dX7_become_49 : decode cX7_become 49 = .ok (.getfield 10, 3) := by decide +kernel
theorem dX7_become_52 : decode cX7_become 52 = .ok (.getfield 99, 3) := by decide +kernel
theorem dX7_become_55 : decode cX7_become 55 = .ok (.iload_n 1, 1) := by decide +kernel
theorem dX7_become_56 : decode cX7_become 56 = .ok (.iload_n 2, 1) := by decide +kernel
theorem dX7_become_57 : decode cX7_become 57 = .ok (.bipush 10, 2) := by decide +kernel
theorem dX7_become_59 : decode cX7_become 59 = .ok (.irem, 1) := by decide +kernel
theorem dX7_become_60 : decode cX7_become 60 = .ok (.invokevirtual 125, 3) := by decide +kernel
theorem dX7_become_63 : decode cX7_become 63 = .ok (.iload_n 3, 1) := by decide +kernel
theorem dX7_become_64 : decode cX7_become 64 = .ok (.ireturn, 1) := by decide +kernel
theorem dX7_as_0 : decode cX7_as 0 = .ok (.aload_n 0, 1) := by decide +kernel
theorem dX7_as_1 : decode cX7_as 1 = .ok (.iload_n 1, 1) := by decide +kernel
theorem dX7_as_2 : decode cX7_as 2 = .ok (.invokevirtual 105, 3) := by decide +kernel
theorem dX7_as_5 : decode cX7_as 5 = .ok (.ifCond .eq 13, 3) := by decide +kernel
theorem dX7_as_8 : decode cX7_as 8 = .ok (.iload_n 2, 1) := by decide +kernel
theorem dX7_as_9 : decode cX7_as 9 = .ok (.iconst 0, 1) := by decide +kernel
theorem dX7_as_10 : decode cX7_as 10 = .ok (.bipush 6, 2) := by decide +kernel
theorem dX7_as_12 : decode cX7_as 12 = .ok (.invokestatic 108, 3) := by decide +kernel
theorem dX7_as_15 : decode cX7_as 15 = .ok (.ifCond .ne 9, 3) := by decide +kernel
theorem dX7_as_18 : decode cX7_as 18 = .ok (.aload_n 0, 1) := by decide +kernel
theorem dX7_as_19 : decode cX7_as 19 = .ok (.iconst 1, 1) := by decide +kernel
theorem dX7_as_20 : decode cX7_as 20 = .ok (.invokevirtual 82, 3) := by decide +kernel
theorem dX7_as_23 : decode cX7_as 23 = .ok (.ireturn, 1) := by decide +kernel
theorem dX7_as_24 : decode cX7_as 24 = .ok (.aload_n 0, 1) := by decide +kernel
theorem dX7_as_25 : decode cX7_as 25 = .ok (.getfield 10, 3) := by decide +kernel
theorem dX7_as_28 : decode cX7_as 28 = .ok (.getfield 90, 3) := by decide +kernel
theorem dX7_as_31 : decode cX7_as 31 = .ok (.iload_n 1, 1) := by decide +kernel
theorem dX7_as_32 : decode cX7_as 32 = .ok (.invokevirtual 112, 3) := by decide +kernel
theorem dX7_as_35 : decode cX7_as 35 = .ok (.iload_n 2, 1) := by decide +kernel
theorem dX7_as_36 : decode cX7_as 36 = .ok (.invokestatic 129, 3) := by decide +kernel
theorem dX7_as_39 : decode cX7_as 39 = .ok (.ifCond .ne 9, 3) := by decide +kernel
theorem dX7_as_42 : decode cX7_as 42 = .ok (.aload_n 0, 1) := by decide +kernel
theorem dX7_as_43 : decode cX7_as 43 = .ok (.iconst 5, 1) := by decide +kernel
theorem dX7_as_44 : decode cX7_as 44 = .ok (.invokevirtual 82, 3) := by decide +kernel
theorem dX7_as_47 : decode cX7_as 47 = .ok (.ireturn, 1) := by decide +kernel
theorem dX7_as_48 : decode cX7_as 48 = .ok (.aload_n 0, 1) := by decide +kernel
theorem dX7_as_49 : decode cX7_as 49 = .ok (.getfield 10, 3) := by decide +kernel
theorem dX7_as_52 : decode cX7_as 52 = .ok (.getfield 99, 3) := by decide +kernel
theorem dX7_as_55 : decode cX7_as 55 = .ok (.iload_n 1, 1) := by decide +kernel
theorem dX7_as_56 : decode cX7_as 56 = .ok (.invokevirtual 112, 3) := by decide +kernel
theorem dX7_as_59 : decode cX7_as 59 = .ok (.ireturn, 1) := by decide +kernel
theorem dX7_avoids_0 : decode cX7_avoids 0 = .ok (.aload_n 0, 1) := by decide +kernel
theorem dX7_avoids_1 : decode cX7_avoids 1 = .ok (.iload_n 1, 1) := by decide +kernel
theorem dX7_avoids_2 : decode cX7_avoids 2 = .ok (.invokevirtual 105, 3) := by decide +kernel
theorem dX7_avoids_5 : decode cX7_avoids 5 = .ok (.ifCond .eq 10, 3) := by decide +kernel
theorem dX7_avoids_8 : decode cX7_avoids 8 = .ok (.iload_n 2, 1) := by decide +kernel
theorem dX7_avoids_9 : decode cX7_avoids 9 = .ok (.invokestatic 133, 3) := by decide +kernel
theorem dX7_avoids_12 : decode cX7_avoids 12 = .ok (.ifCond .ne 9, 3) := by decide +kernel
theorem dX7_avoids_15 : decode cX7_avoids 15 = .ok (.aload_n 0, 1) := by decide +kernel
theorem dX7_avoids_16 : decode cX7_avoids 16 = .ok (.iconst 1, 1) := by decide +kernel
theorem dX7_avoids_17 : decode cX7_avoids 17 = .ok (.invokevirtual 82, 3) := by decide +kernel
theorem dX7_avoids_20 : decode cX7_avoids 20 = .ok (.ireturn, 1) := by decide +kernel
theorem dX7_avoids_21 : decode cX7_avoids 21 = .ok (.aload_n 0, 1) := by decide +kernel
theorem dX7_avoids_22 : decode cX7_avoids 22 = .ok (.iload_n 1, 1) := by decide +kernel
theorem dX7_avoids_23 : decode cX7_avoids 23 = .ok (.iload_n 2, 1) := by decide +kernel
theorem dX7_avoids_24 : decode cX7_avoids 24 = .ok (.invokevirtual 136, 3) := by decide +kernel
theorem dX7_avoids_27 : decode cX7_avoids 27 = .ok (.ifCond .eq 7, 3) := by decide +kernel
theorem dX7_avoids_30 : decode cX7_avoids 30 = .ok (.iconst 1, 1) := by decide +kernel
theorem dX7_avoids_31 : decode cX7_avoids 31 = .ok (.goto 4, 3) := by decide +kernel
theorem dX7_avoids_34 : decode cX7_avoids 34 = .ok (.iconst 0, 1) := by decide +kernel
theorem dX7_avoids_35 : decode cX7_avoids 35 = .ok (.ireturn, 1) := by decide +kernel
theorem dX7_talk_0 : decode cX7_talk 0 = .ok (.aload_n 0, 1) := by decide +kernel
theorem dX7_talk_1 : decode cX7_talk 1 = .ok (.iload_n 1, 1) := by decide +kernel
theorem dX7_talk_2 : decode cX7_talk 2 = .ok (.invokevirtual 105, 3) := by decide +kernel
theorem dX7_talk_5 : decode cX7_talk 5 = .ok (.ifCond .eq 10, 3) := by decide +kernel
theorem dX7_talk_8 : decode cX7_talk 8 = .ok (.iload_n 2, 1) := by decide +kernel
theorem dX7_talk_9 : decode cX7_talk 9 = .ok (.invokestatic 133, 3) := by decide +kernel
theorem dX7_talk_12 : decode cX7_talk 12 = .ok (.ifCond .ne 9, 3) := by decide +kernel
theorem dX7_talk_15 : decode cX7_talk 15 = .ok (.aload_n 0, 1) := by decide +kernel
theorem dX7_talk_16 : decode cX7_talk 16 = .ok (.iconst 1, 1) := by decide +kernel
theorem dX7_talk_17 : decode cX7_talk 17 = .ok (.invokevirtual 82, 3) := by decide +kernel
theorem dX7_talk_20 : decode cX7_talk 20 = .ok (.ireturn, 1) := by decide +kernel
theorem dX7_talk_21 : decode cX7_talk 21 = .ok (.aload_n 0, 1) := by decide +kernel
theorem dX7_talk_22 : decode cX7_talk 22 = .ok (.iload_n 1, 1) := by decide +kernel
theorem dX7_talk_23 : decode cX7_talk 23 = .ok (.iload_n 2, 1) := by decide +kernel
theorem dX7_talk_24 : decode cX7_talk 24 = .ok (.invokevirtual 139, 3) := by decide +kernel
theorem dX7_talk_27 : decode cX7_talk 27 = .ok (.ireturn, 1) := by decide +kernel
theorem dX7_vow_0 : decode cX7_vow 0 = .ok (.iload_n 1, 1) := by decide +kernel
theorem dX7_vow_1 : decode cX7_vow 1 = .ok (.iconst 0, 1) := by decide +kernel
theorem dX7_vow_2 : decode cX7_vow 2 = .ok (.sipush 728, 3) := by decide +kernel
theorem dX7_vow_5 : decode cX7_vow 5 = .ok (.invokestatic 108, 3) := by decide +kernel
theorem dX7_vow_8 : decode cX7_vow 8 = .ok (.ifCond .ne 9, 3) := by decide +kernel
theorem dX7_vow_11 : decode cX7_vow 11 = .ok (.aload_n 0, 1) := by decide +kernel
theorem dX7_vow_12 : decode cX7_vow 12 = .ok (.iconst 1, 1) := by decide +kernel
theorem dX7_vow_13 : decode cX7_vow 13 = .ok (.invokevirtual 82, 3) := by decide +kernel
theorem dX7_vow_16 : decode cX7_vow 16 = .ok (.ireturn, 1) := by decide +kernel
theorem dX7_vow_17 : decode cX7_vow 17 = .ok (.aload_n 0, 1) := by decide +kernel
theorem dX7_vow_18 : decode cX7_vow 18 = .ok (.getfield 10, 3) := by decide +kernel
theorem dX7_vow_21 : decode cX7_vow 21 = .ok (.getfield 143, 3) := by decide +kernel
theorem dX7_vow_24 : decode cX7_vow 24 = .ok (.istore_n 2, 1) := by decide +kernel
theorem dX7_vow_25 : decode cX7_vow 25 = .ok (.aload_n 0, 1) := by decide +kernel
theorem dX7_vow_26 : decode cX7_vow 26 = .ok (.getfield 10, 3) := by decide +kernel
theorem dX7_vow_29 : decode cX7_vow 29 = .ok (.iload_n 1, 1) := by decide +kernel
theorem dX7_vow_30 : decode cX7_vow 30 = .ok (.putfield 143, 3) := by decide +kernel
theorem dX7_vow_33 : decode cX7_vow 33 = .ok (.iload_n 2, 1) := by decide +kernel
theorem dX7_vow_34 : decode cX7_vow 34 = .ok (.ireturn, 1) := by decide +kernel
theorem dX7_sign_0 : decode cX7_sign 0 = .ok (.iload_n 1, 1) := by decide +kernel
theorem dX7_sign_1 : decode cX7_sign 1 = .ok (.invokestatic 133, 3) := by decide +kernel
theorem dX7_sign_4 : decode cX7_sign 4 = .ok (.ifCond .eq 12, 3) := by decide +kernel
theorem dX7_sign_7 : decode cX7_sign 7 = .ok (.iload_n 2, 1) := by decide +kernel
theorem dX7_sign_8 : decode cX7_sign 8 = .ok (.iconst 0, 1) := by decide +kernel
theorem dX7_sign_9 : decode cX7_sign 9 = .ok (.iconst 1, 1) := by decide +kernel
theorem dX7_sign_10 : decode cX7_sign 10 = .ok (.invokestatic 108, 3) := by decide +kernel
theorem dX7_sign_13 : decode cX7_sign 13 = .ok (.ifCond .ne 9, 3) := by decide +kernel
theorem dX7_sign_16 : decode cX7_sign 16 = .ok (.aload_n 0, 1) := by decide +kernel
theorem dX7_sign_17 : decode cX7_sign 17 = .ok (.iconst 1, 1) := by decide +kernel
theorem dX7_sign_18 : decode cX7_sign 18 = .ok (.invokevirtual 82, 3) := by decide +kernel
theorem dX7_sign_21 : decode cX7_sign 21 = .ok (.ireturn, 1) := by decide +kernel
theorem dX7_sign_22 : decode cX7_sign 22 = .ok (.aload_n 0, 1) := by decide +kernel
theorem dX7_sign_23 : decode cX7_sign 23 = .ok (.getfield 10, 3) := by decide +kernel
theorem dX7_sign_26 : decode cX7_sign 26 = .ok (.getfield 72, 3) := by decide +kernel
theorem dX7_sign_29 : decode cX7_sign 29 = .ok (.invokevirtual 146, 3) := by decide +kernel
theorem dX7_sign_32 : decode cX7_sign 32 = .ok (.bipush 24, 2) := by decide +kernel
theorem dX7_sign_34 : decode cX7_sign 34 = .ok (.if_icmp .lt 9, 3) := by decide +kernel
theorem dX7_sign_37 : decode cX7_sign 37 = .ok (.aload_n 0, 1) := by decide +kernel
theorem dX7_sign_38 : decode cX7_sign 38 = .ok (.iconst 4, 1) := by decide +kernel
theorem dX7_sign_39 : decode cX7_sign 39 = .ok (.invokevirtual 82, 3) := by decide +kernel
theorem dX7_sign_42 : decode cX7_sign 42 = .ok (.ireturn, 1) := by decide +kernel
theorem dX7_sign_43 : decode cX7_sign 43 = .ok (.aload_n 0, 1) := by decide +kernel
theorem dX7_sign_44 : decode cX7_sign 44 = .ok (.getfield 10, 3) := by decide +kernel
theorem dX7_sign_47 : decode cX7_sign 47 = .ok (.iload_n 1, 1) := by decide +kernel
theorem dX7_sign_48 : decode cX7_sign 48 = .ok (.iload_n 2, 1) := by decide +kernel
theorem dX7_sign_49 : decode cX7_sign 49 = .ok (.invokevirtual 149, 3) := by decide +kernel
theorem dX7_sign_52 : decode cX7_sign 52 = .ok (.aload_n 0, 1) := by decide +kernel
theorem dX7_sign_53 : decode cX7_sign 53 = .ok (.getfield 30, 3) := by decide +kernel
theorem dX7_sign_56 : decode cX7_sign 56 = .ok (.aload_n 0, 1) := by decide +kernel
theorem dX7_sign_57 : decode cX7_sign 57 = .ok (.getfield 10, 3) := by decide +kernel
theorem dX7_sign_60 : decode cX7_sign 60 = .ok (.getfield 72, 3) := by decide +kernel
theorem dX7_sign_63 : decode cX7_sign 63 = .ok (.invokevirtual 75, 3) := by decide +kernel
theorem dX7_sign_66 : decode cX7_sign 66 = .ok (.aload_n 0, 1) := by decide +kernel
theorem dX7_sign_67 : decode cX7_sign 67 = .ok (.getfield 30, 3) := by decide +kernel
theorem dX7_sign_70 : decode cX7_sign 70 = .ok (.invokevirtual 152, 3) := by decide +kernel
theorem dX7_sign_73 : decode cX7_sign 73 = .ok (.ireturn, 1) := by decide +kernel
theorem dX7_forget_0 : decode cX7_forget 0 = .ok (.iload_n 1, 1) := by decide +kernel
theorem dX7_forget_1 : decode cX7_forget 1 = .ok (.iconst 0, 1) := by decide +kernel
theorem dX7_forget_2 : decode cX7_forget 2 = .ok (.aload_n 0, 1) := by decide +kernel
theorem dX7_forget_3 : decode cX7_forget 3 = .ok (.getfield 10, 3) := by decide +kernel
theorem dX7_forget_6 : decode cX7_forget 6 = .ok (.getfield 72, 3) := by decide +kernel
theorem dX7_forget_9 : decode cX7_forget 9 = .ok (.invokevirtual 146, 3) := by decide +kernel
theorem dX7_forget_12 : decode cX7_forget 12 = .ok (.invokestatic 108, 3) := by decide +kernel
theorem dX7_forget_15 : decode cX7_forget 15 = .ok (.ifCond .ne 9, 3) := by decide +kernel
theorem dX7_forget_18 : decode cX7_forget 18 = .ok (.aload_n 0, 1) := by decide +kernel
theorem dX7_forget_19 : decode cX7_forget 19 = .ok (.iconst 1, 1) := by decide +kernel
theorem dX7_forget_20 : decode cX7_forget 20 = .ok (.invokevirtual 82, 3) := by decide +kernel
theorem dX7_forget_23 : decode cX7_forget 23 = .ok (.ireturn, 1) := by decide +kernel
theorem dX7_forget_24 : decode cX7_forget 24 = .ok (.aload_n 0, 1) := by decide +kernel
theorem dX7_forget_25 : decode cX7_forget 25 = .ok (.getfield 10, 3) := by decide +kernel
theorem dX7_forget_28 : decode cX7_forget 28 = .ok (.getfield 72, 3) := by decide +kernel
theorem dX7_forget_31 : decode cX7_forget 31 = .ok (.iload_n 1, 1) := by decide +kernel
theorem dX7_forget_32 : decode cX7_forget 32 = .ok (.invokevirtual 155, 3) := by decide +kernel
theorem dX7_forget_35 : decode cX7_forget 35 = .ok (.aload_n 0, 1) := by decide +kernel
theorem dX7_forget_36 : decode cX7_forget 36 = .ok (.getfield 30, 3) := by decide +kernel
theorem dX7_forget_39 : decode cX7_forget 39 = .ok (.aload_n 0, 1) := by decide +kernel
theorem dX7_forget_40 : decode cX7_forget 40 = .ok (.getfield 10, 3) := by decide +kernel
theorem dX7_forget_43 : decode cX7_forget 43 = .ok (.getfield 72, 3) := by decide +kernel
theorem dX7_forget_46 : decode cX7_forget 46 = .ok (.invokevirtual 75, 3) := by decide +kernel
theorem dX7_forget_49 : decode cX7_forget 49 = .ok (.aload_n 0, 1) := by decide +kernel
theorem dX7_forget_50 : decode cX7_forget 50 = .ok (.getfield 30, 3) := by decide +kernel
theorem dX7_forget_53 : decode cX7_forget 53 = .ok (.invokevirtual 152, 3) := by decide +kernel
theorem dX7_forget_56 : decode cX7_forget 56 = .ok (.ireturn, 1) := by decide +kernel
theorem dX7_say_0 : decode cX7_say 0 = .ok (.aload_n 0, 1) := by decide +kernel
theorem dX7_say_1 : decode cX7_say 1 = .ok (.iload_n 1, 1) := by decide +kernel
theorem dX7_say_2 : decode cX7_say 2 = .ok (.invokevirtual 105, 3) := by decide +kernel
theorem dX7_say_5 : decode cX7_say 5 = .ok (.ifCond .eq 10, 3) := by decide +kernel
theorem dX7_say_8 : decode cX7_say 8 = .ok (.iload_n 2, 1) := by decide +kernel
theorem dX7_say_9 : decode cX7_say 9 = .ok (.invokestatic 133, 3) := by decide +kernel
theorem dX7_say_12 : decode cX7_say 12 = .ok (.ifCond .ne 9, 3) := by decide +kernel
theorem dX7_say_15 : decode cX7_say 15 = .ok (.aload_n 0, 1) := by decide +kernel
theorem dX7_say_16 : decode cX7_say 16 = .ok (.iconst 1, 1) := by decide +kernel
theorem dX7_say_17 : decode cX7_say 17 = .ok (.invokevirtual 82, 3) := by decide +kernel
theorem dX7_say_20 : decode cX7_say 20 = .ok (.ireturn, 1) := by decide +kernel
theorem dX7_say_21 : decode cX7_say 21 = .ok (.aload_n 0, 1) := by decide +kernel
theorem dX7_say_22 : decode cX7_say 22 = .ok (.iload_n 1, 1) := by decide +kernel
theorem dX7_say_23 : decode cX7_say 23 = .ok (.iload_n 2, 1) := by decide +kernel
theorem dX7_say_24 : decode cX7_say 24 = .ok (.invokevirtual 136, 3) := by decide +kernel
theorem dX7_say_27 : decode cX7_say 27 = .ok (.ifCond .eq 9, 3) := by decide +kernel
theorem dX7_say_30 : decode cX7_say 30 = .ok (.aload_n 0, 1) := by decide +kernel
theorem dX7_say_31 : decode cX7_say 31 = .ok (.iconst 3, 1) := by decide +kernel
theorem dX7_say_32 : decode cX7_say 32 = .ok (.invokevirtual 82, 3) := by decide +kernel
theorem dX7_say_35 : decode cX7_say 35 = .ok (.ireturn, 1) := by decide +kernel
theorem dX7_say_36 : decode cX7_say 36 = .ok (.aload_n 0, 1) := by decide +kernel
theorem dX7_say_37 : decode cX7_say 37 = .ok (.iload_n 1, 1) := by decide +kernel
theorem dX7_say_38 : decode cX7_say 38 = .ok (.iload_n 2, 1) := by decide +kernel
theorem dX7_say_39 : decode cX7_say 39 = .ok (.iconst 0, 1) := by decide +kernel
theorem dX7_say_40 : decode cX7_say 40 = .ok (.invokevirtual 158, 3) := by decide +kernel
theorem dX7_say_43 : decode cX7_say 43 = .ok (.ireturn, 1) := by decide +kernel
theorem dX7_feed_0 : decode cX7_feed 0 = .ok (.iload_n 3, 1) := by decide +kernel
theorem dX7_feed_1 : decode cX7_feed 1 = .ok (.iconst 1, 1) := by decide +kernel
theorem dX7_feed_2 : decode cX7_feed 2 = .ok (.bipush 8, 2) := by decide +kernel
theorem dX7_feed_4 : decode cX7_feed 4 = .ok (.invokestatic 108, 3) := by decide +kernel
theorem dX7_feed_7 : decode cX7_feed 7 = .ok (.ifCond .ne 9, 3) := by decide +kernel
theorem dX7_feed_10 : decode cX7_feed 10 = .ok (.aload_n 0, 1) := by decide +kernel
theorem dX7_feed_11 : decode cX7_feed 11 = .ok (.iconst 1, 1) := by decide +kernel
theorem dX7_feed_12 : decode cX7_feed 12 = .ok (.invokevirtual 82, 3) := by decide +kernel
theorem dX7_feed_15 : decode cX7_feed 15 = .ok (.ireturn, 1) := by decide +kernel
theorem dX7_feed_16 : decode cX7_feed 16 = .ok (.aload_n 0, 1) := by decide +kernel
theorem dX7_feed_17 : decode cX7_feed 17 = .ok (.getfield 10, 3) := by decide +kernel
theorem dX7_feed_20 : decode cX7_feed 20 = .ok (.getfield 36, 3) := by decide +kernel
theorem dX7_feed_23 : decode cX7_feed 23 = .ok (.invokevirtual 146, 3) := by decide +kernel
theorem dX7_feed_26 : decode cX7_feed 26 = .ok (.iload_n 3, 1) := by decide +kernel
theorem dX7_feed_27 : decode cX7_feed 27 = .ok (.iadd, 1) := by decide +kernel
theorem dX7_feed_28 : decode cX7_feed 28 = .ok (.bipush 60, 2) := by decide +kernel
theorem dX7_feed_30 : decode cX7_feed 30 = .ok (.if_icmp .le 9, 3) := by decide +kernel
theorem dX7_feed_33 : decode cX7_feed 33 = .ok (.aload_n 0, 1) := by decide +kernel
theorem dX7_feed_34 : decode cX7_feed 34 = .ok (.iconst 4, 1) := by decide +kernel
theorem dX7_feed_35 : decode cX7_feed 35 = .ok (.invokevirtual 82, 3) := by decide +kernel
theorem dX7_feed_38 : decode cX7_feed 38 = .ok (.ireturn, 1) := by decide +kernel
theorem dX7_feed_39 : decode cX7_feed 39 = .ok (.iconst 0, 1) := by decide +kernel
theorem dX7_feed_40 : decode cX7_feed 40 = .ok (.istore 4, 2) := by decide +kernel
theorem dX7_feed_42 : decode cX7_feed 42 = .ok (.iload 4, 2) := by decide +kernel
theorem dX7_feed_44 : decode cX7_feed 44 = .ok (.iload_n 3, 1) := by decide +kernel
theorem dX7_feed_45 : decode cX7_feed 45 = .ok (.if_icmp .ge 31, 3) := by decide +kernel
theorem dX7_feed_48 : decode cX7_feed 48 = .ok (.aload_n 0, 1) := by decide +kernel
theorem dX7_feed_49 : decode cX7_feed 49 = .ok (.getfield 10, 3) := by decide +kernel
theorem dX7_feed_52 : decode cX7_feed 52 = .ok (.getfield 36, 3) := by decide +kernel
theorem dX7_feed_55 : decode cX7_feed 55 = .ok (.lload_n 1, 1) := by decide +kernel
theorem dX7_feed_56 : decode cX7_feed 56 = .ok (.bipush 8, 2) := by decide +kernel
theorem dX7_feed_58 : decode cX7_feed 58 = .ok (.iload 4, 2) := by decide +kernel
theorem dX7_feed_60 : decode cX7_feed 60 = .ok (.imul, 1) := by decide +kernel
theorem dX7_feed_61 : decode cX7_feed 61 = .ok (.lushr, 1) := by decide +kernel
theorem dX7_feed_62 : decode cX7_feed 62 = .ok (.l2i, 1) := by decide +kernel
theorem dX7_feed_63 : decode cX7_feed 63 = .ok (.sipush 255, 3) := by decide +kernel
theorem dX7_feed_66 : decode cX7_feed 66 = .ok (.iand, 1) := by decide +kernel
theorem dX7_feed_67 : decode cX7_feed 67 = .ok (.invokevirtual 93, 3) := by decide +kernel
theorem dX7_feed_70 : decode cX7_feed 70 = .ok (.iinc 4 1, 3) := by decide +kernel
theorem dX7_feed_73 : decode cX7_feed 73 = .ok (.goto (-31), 3) := by decide +kernel
theorem dX7_feed_76 : decode cX7_feed 76 = .ok (.aload_n 0, 1) := by decide +kernel
theorem dX7_feed_77 : decode cX7_feed 77 = .ok (.getfield 10, 3) := by decide +kernel
theorem dX7_feed_80 : decode cX7_feed 80 = .ok (.getfield 36, 3) := by decide +kernel
theorem dX7_feed_83 : decode cX7_feed 83 = .ok (.invokevirtual 146, 3) := by decide +kernel
theorem dX7_feed_86 : decode cX7_feed 86 = .ok (.ireturn, 1) := by decide +kernel
theorem dX7_text_0 : decode cX7_text 0 = .ok (.aload_n 0, 1) := by decide +kernel
theorem dX7_text_1 : decode cX7_text 1 = .ok (.getfield 10, 3) := by decide +kernel
theorem dX7_text_4 : decode cX7_text 4 = .ok (.iload_n 1, 1) := by decide +kernel
theorem dX7_text_5 : decode cX7_text 5 = .ok (.invokevirtual 162, 3) := by decide +kernel
theorem dX7_text_8 : decode cX7_text 8 = .ok (.astore_n 2, 1) := by decide +kernel
theorem dX7_text_9 : decode cX7_text 9 = .ok (.aload_n 2, 1) := by decide +kernel
theorem dX7_text_10 : decode cX7_text 10 = .ok (.ifnonnull 9, 3) := by decide +kernel
theorem dX7_text_13 : decode cX7_text 13 = .ok (.aload_n 0, 1) := by decide +kernel
theorem dX7_text_14 : decode cX7_text 14 = .ok (.iconst 1, 1) := by decide +kernel
theorem dX7_text_15 : decode cX7_text 15 = .ok (.invokevirtual 82, 3) := by decide +kernel
theorem dX7_text_18 : decode cX7_text 18 = .ok (.ireturn, 1) := by decide +kernel
theorem dX7_text_19 : decode cX7_text 19 = .ok (.aload_n 0, 1) := by decide +kernel
theorem dX7_text_20 : decode cX7_text 20 = .ok (.getfield 43, 3) := by decide +kernel
theorem dX7_text_23 : decode cX7_text 23 = .ok (.iload_n 1, 1) := by decide +kernel
theorem dX7_text_24 : decode cX7_text 24 = .ok (.ifCond .ne 8, 3) := by decide +kernel
theorem dX7_text_27 : decode cX7_text 27 = .ok (.ldc 166, 2) := by decide +kernel
theorem dX7_text_29 : decode cX7_text 29 = .ok (.goto 5, 3) := by decide +kernel
theorem dX7_text_32 : decode cX7_text 32 = .ok (.ldc 168, 2) := by decide +kernel
theorem dX7_text_34 : decode cX7_text 34 = .ok (.invokevirtual 170, 3) := by decide +kernel
theorem dX7_text_37 : decode cX7_text 37 = .ok (.istore_n 3, 1) := by decide +kernel
theorem dX7_text_38 : decode cX7_text 38 = .ok (.aload_n 0, 1) := by decide +kernel
theorem dX7_text_39 : decode cX7_text 39 = .ok (.getfield 10, 3) := by decide +kernel
theorem dX7_text_42 : decode cX7_text 42 = .ok (.getfield 36, 3) := by decide +kernel
theorem dX7_text_45 : decode cX7_text 45 = .ok (.invokevirtual 174, 3) := by decide +kernel
theorem dX7_text_48 : decode cX7_text 48 = .ok (.iload_n 3, 1) := by decide +kernel
theorem dX7_text_49 : decode cX7_text 49 = .ok (.ifCond .lt 8, 3) := by decide +kernel
theorem dX7_text_52 : decode cX7_text 52 = .ok (.bipush (-10), 2) := by decide +kernel
theorem dX7_text_54 : decode cX7_text 54 = .ok (.iload_n 3, 1) := by decide +kernel
theorem dX7_text_55 : decode cX7_text 55 = .ok (.isub, 1) := by decide +kernel
theorem dX7_text_56 : decode cX7_text 56 = .ok (.ireturn, 1) := by decide +kernel
theorem dX7_text_57 : decode cX7_text 57 = .ok (.aload_n 2, 1) := by decide +kernel
theorem dX7_text_58 : decode cX7_text 58 = .ok (.aload_n 0, 1) := by decide +kernel
theorem dX7_text_59 : decode cX7_text 59 = .ok (.getfield 43, 3) := by decide +kernel
theorem dX7_text_62 : decode cX7_text 62 = .ok (.getfield 177, 3) := by decide +kernel
theorem dX7_text_65 : decode cX7_text 65 = .ok (.invokevirtual 180, 3) := by decide +kernel
theorem dX7_text_68 : decode cX7_text 68 = .ok (.iconst 1, 1) := by decide +kernel
theorem dX7_text_69 : decode cX7_text 69 = .ok (.ireturn, 1) := by decide +kernel
theorem dX7_untell_0 : decode cX7_untell 0 = .ok (.aload_n 0, 1) := by decide +kernel
theorem dX7_untell_1 : decode cX7_untell 1 = .ok (.getfield 10, 3) := by decide +kernel
theorem dX7_untell_4 : decode cX7_untell 4 = .ok (.iload_n 1, 1) := by decide +kernel
theorem dX7_untell_5 : decode cX7_untell 5 = .ok (.invokevirtual 162, 3) := by decide +kernel
theorem dX7_untell_8 : decode cX7_untell 8 = .ok (.astore_n 2, 1) := by decide +kernel
theorem dX7_untell_9 : decode cX7_untell 9 = .ok (.aload_n 2, 1) := by decide +kernel
theorem dX7_untell_10 : decode cX7_untell 10 = .ok (.ifnonnull 9, 3) := by decide +kernel
theorem dX7_untell_13 : decode cX7_untell 13 = .ok (.aload_n 0, 1) := by decide +kernel
theorem dX7_untell_14 : decode cX7_untell 14 = .ok (.iconst 1, 1) := by decide +kernel
theorem dX7_untell_15 : decode cX7_untell 15 = .ok (.invokevirtual 82, 3) := by decide +kernel
theorem dX7_untell_18 : decode cX7_untell 18 = .ok (.ireturn, 1) := by decide +kernel
theorem dX7_untell_19 : decode cX7_untell 19 = .ok (.aload_n 2, 1) := by decide +kernel
theorem dX7_untell_20 : decode cX7_untell 20 = .ok (.invokevirtual 146, 3) := by decide +kernel
theorem dX7_untell_23 : decode cX7_untell 23 = .ok (.ifCond .le 7, 3) := by decide +kernel
theorem dX7_untell_26 : decode cX7_untell 26 = .ok (.iconst 1, 1) := by decide +kernel
theorem dX7_untell_27 : decode cX7_untell 27 = .ok (.goto 4, 3) := by decide +kernel
theorem dX7_untell_30 : decode cX7_untell 30 = .ok (.iconst 0, 1) := by decide +kernel
theorem dX7_untell_31 : decode cX7_untell 31 = .ok (.istore_n 3, 1) := by decide +kernel
theorem dX7_untell_32 : decode cX7_untell 32 = .ok (.aload_n 2, 1) := by decide +kernel
theorem dX7_untell_33 : decode cX7_untell 33 = .ok (.invokevirtual 174, 3) := by decide +kernel
theorem dX7_untell_36 : decode cX7_untell 36 = .ok (.iload_n 3, 1) := by decide +kernel
theorem dX7_untell_37 : decode cX7_untell 37 = .ok (.ireturn, 1) := by decide +kernel
theorem dX7_law_0 : decode cX7_law 0 = .ok (.aload_n 0, 1) := by decide +kernel
theorem dX7_law_1 : decode cX7_law 1 = .ok (.getfield 10, 3) := by decide +kernel
theorem dX7_law_4 : decode cX7_law 4 = .ok (.iload_n 1, 1) := by decide +kernel
theorem dX7_law_5 : decode cX7_law 5 = .ok (.invokevirtual 162, 3) := by decide +kernel
theorem dX7_law_8 : decode cX7_law 8 = .ok (.ifnonnull 9, 3) := by decide +kernel
theorem dX7_law_11 : decode cX7_law 11 = .ok (.aload_n 0, 1) := by decide +kernel
theorem dX7_law_12 : decode cX7_law 12 = .ok (.iconst 1, 1) := by decide +kernel
theorem dX7_law_13 : decode cX7_law 13 = .ok (.invokevirtual 82, 3) := by decide +kernel
theorem dX7_law_16 : decode cX7_law 16 = .ok (.ireturn, 1) := by decide +kernel
theorem dX7_law_17 : decode cX7_law 17 = .ok (.aload_n 0, 1) := by decide +kernel
theorem dX7_law_18 : decode cX7_law 18 = .ok (.iload_n 1, 1) := by decide +kernel
theorem dX7_law_19 : decode cX7_law 19 = .ok (.iload_n 2, 1) := by decide +kernel
theorem dX7_law_20 : decode cX7_law 20 = .ok (.iload_n 3, 1) := by decide +kernel
theorem dX7_law_21 : decode cX7_law 21 = .ok (.iload 4, 2) := by decide +kernel
theorem dX7_law_23 : decode cX7_law 23 = .ok (.invokevirtual 183, 3) := by decide +kernel
theorem dX7_law_26 : decode cX7_law 26 = .ok (.ireturn, 1) := by decide +kernel
theorem dX7_loose_0 : decode cX7_loose 0 = .ok (.iload_n 1, 1) := by decide +kernel
theorem dX7_loose_1 : decode cX7_loose 1 = .ok (.iconst 1, 1) := by decide +kernel
theorem dX7_loose_2 : decode cX7_loose 2 = .ok (.bipush 20, 2) := by decide +kernel
theorem dX7_loose_4 : decode cX7_loose 4 = .ok (.invokestatic 108, 3) := by decide +kernel
theorem dX7_loose_7 : decode cX7_loose 7 = .ok (.ifCond .ne 9, 3) := by decide +kernel
theorem dX7_loose_10 : decode cX7_loose 10 = .ok (.aload_n 0, 1) := by decide +kernel
theorem dX7_loose_11 : decode cX7_loose 11 = .ok (.iconst 1, 1) := by decide +kernel
theorem dX7_loose_12 : decode cX7_loose 12 = .ok (.invokevirtual 82, 3) := by decide +kernel
theorem dX7_loose_15 : decode cX7_loose 15 = .ok (.ireturn, 1) := by decide +kernel
theorem dX7_loose_16 : decode cX7_loose 16 = .ok (.aload_n 0, 1) := by decide +kernel
theorem dX7_loose_17 : decode cX7_loose 17 = .ok (.getfield 10, 3) := by decide +kernel
theorem dX7_loose_20 : decode cX7_loose 20 = .ok (.getfield 187, 3) := by decide +kernel
theorem dX7_loose_23 : decode cX7_loose 23 = .ok (.iload_n 1, 1) := by decide +kernel
theorem dX7_loose_24 : decode cX7_loose 24 = .ok (.iadd, 1) := by decide +kernel
theorem dX7_loose_25 : decode cX7_loose 25 = .ok (.sipush 9999, 3) := by decide +kernel
theorem dX7_loose_28 : decode cX7_loose 28 = .ok (.if_icmp .le 9, 3) := by decide +kernel
theorem dX7_loose_31 : decode cX7_loose 31 = .ok (.aload_n 0, 1) := by decide +kernel
theorem dX7_loose_32 : decode cX7_loose 32 = .ok (.iconst 3, 1) := by decide +kernel
theorem dX7_loose_33 : decode cX7_loose 33 = .ok (.invokevirtual 82, 3) := by decide +kernel
theorem dX7_loose_36 : decode cX7_loose 36 = .ok (.ireturn, 1) := by decide +kernel
theorem dX7_loose_37 : decode cX7_loose 37 = .ok (.iconst 0, 1) := by decide +kernel
theorem dX7_loose_38 : decode cX7_loose 38 = .ok (.istore_n 2, 1) := by decide +kernel
theorem dX7_loose_39 : decode cX7_loose 39 = .ok (.iconst 0, 1) := by decide +kernel
theorem dX7_loose_40 : decode cX7_loose 40 = .ok (.istore_n 3, 1) := by decide +kernel
theorem dX7_loose_41 : decode cX7_loose 41 = .ok (.iload_n 3, 1) := by decide +kernel
theorem dX7_loose_42 : decode cX7_loose 42 = .ok (.iload_n 1, 1) := by decide +kernel
theorem dX7_loose_43 : decode cX7_loose 43 = .ok (.if_icmp .ge 16, 3) := by decide +kernel
theorem dX7_loose_46 : decode cX7_loose 46 = .ok (.iload_n 2, 1) := by decide +kernel
theorem dX7_loose_47 : decode cX7_loose 47 = .ok (.aload_n 0, 1) := by decide +kernel
theorem dX7_loose_48 : decode cX7_loose 48 = .ok (.invokevirtual 190, 3) := by decide +kernel
theorem dX7_loose_51 : decode cX7_loose 51 = .ok (.iadd, 1) := by decide +kernel
theorem dX7_loose_52 : decode cX7_loose 52 = .ok (.istore_n 2, 1) := by decide +kernel
theorem dX7_loose_53 : decode cX7_loose 53 = .ok (.iinc 3 1, 3) := by decide +kernel
theorem dX7_loose_56 : decode cX7_loose 56 = .ok (.goto (-15), 3) := by decide +kernel
theorem dX7_loose_59 : decode cX7_loose 59 = .ok (.iload_n 2, 1) := by decide +kernel
theorem dX7_loose_60 : decode cX7_loose 60 = .ok (.ireturn, 1) := by decide +kernel
theorem dX7_day_0 : decode cX7_day 0 = .ok (.iload_n 1, 1) := by decide +kernel
theorem dX7_day_1 : decode cX7_day 1 = .ok (.iconst 0, 1) := by decide +kernel
theorem dX7_day_2 : decode cX7_day 2 = .ok (.sipush 9999, 3) := by decide +kernel
theorem dX7_day_5 : decode cX7_day 5 = .ok (.invokestatic 108, 3) := by decide +kernel
theorem dX7_day_8 : decode cX7_day 8 = .ok (.ifCond .ne 9, 3) := by decide +kernel
theorem dX7_day_11 : decode cX7_day 11 = .ok (.aload_n 0, 1) := by decide +kernel
theorem dX7_day_12 : decode cX7_day 12 = .ok (.iconst 1, 1) := by decide +kernel
theorem dX7_day_13 : decode cX7_day 13 = .ok (.invokevirtual 82, 3) := by decide +kernel
theorem dX7_day_16 : decode cX7_day 16 = .ok (.ireturn, 1) := by decide +kernel
theorem dX7_day_17 : decode cX7_day 17 = .ok (.aload_n 0, 1) := by decide +kernel
theorem dX7_day_18 : decode cX7_day 18 = .ok (.getfield 10, 3) := by decide +kernel
theorem dX7_day_21 : decode cX7_day 21 = .ok (.getfield 187, 3) := by decide +kernel
theorem dX7_day_24 : decode cX7_day 24 = .ok (.istore_n 2, 1) := by decide +kernel
theorem dX7_day_25 : decode cX7_day 25 = .ok (.aload_n 0, 1) := by decide +kernel
theorem dX7_day_26 : decode cX7_day 26 = .ok (.getfield 10, 3) := by decide +kernel
theorem dX7_day_29 : decode cX7_day 29 = .ok (.iload_n 1, 1) := by decide +kernel
theorem dX7_day_30 : decode cX7_day 30 = .ok (.putfield 187, 3) := by decide +kernel
theorem dX7_day_33 : decode cX7_day 33 = .ok (.iload_n 2, 1) := by decide +kernel
theorem dX7_day_34 : decode cX7_day 34 = .ok (.ireturn, 1) := by decide +kernel
theorem dX7_seed_0 : decode cX7_seed 0 = .ok (.aload_n 0, 1) := by decide +kernel
theorem dX7_seed_1 : decode cX7_seed 1 = .ok (.getfield 10, 3) := by decide +kernel
theorem dX7_seed_4 : decode cX7_seed 4 = .ok (.getfield 193, 3) := by decide +kernel
theorem dX7_seed_7 : decode cX7_seed 7 = .ok (.istore_n 2, 1) := by decide +kernel
theorem dX7_seed_8 : decode cX7_seed 8 = .ok (.aload_n 0, 1) := by decide +kernel
theorem dX7_seed_9 : decode cX7_seed 9 = .ok (.getfield 10, 3) := by decide +kernel
theorem dX7_seed_12 : decode cX7_seed 12 = .ok (.iload_n 1, 1) := by decide +kernel
theorem dX7_seed_13 : decode cX7_seed 13 = .ok (.putfield 193, 3) := by decide +kernel
theorem dX7_seed_16 : decode cX7_seed 16 = .ok (.iload_n 2, 1) := by decide +kernel
theorem dX7_seed_17 : decode cX7_seed 17 = .ok (.ireturn, 1) := by decide +kernel
theorem dX7_vows_0 : decode cX7_vows 0 = .ok (.iload_n 1, 1) := by decide +kernel
theorem dX7_vows_1 : decode cX7_vows 1 = .ok (.iconst 0, 1) := by decide +kernel
theorem dX7_vows_2 : decode cX7_vows 2 = .ok (.iconst 3, 1) := by decide +kernel
theorem dX7_vows_3 : decode cX7_vows 3 = .ok (.invokestatic 108, 3) := by decide +kernel
theorem dX7_vows_6 : decode cX7_vows 6 = .ok (.ifCond .ne 9, 3) := by decide +kernel
theorem dX7_vows_9 : decode cX7_vows 9 = .ok (.aload_n 0, 1) := by decide +kernel
theorem dX7_vows_10 : decode cX7_vows 10 = .ok (.iconst 1, 1) := by decide +kernel
theorem dX7_vows_11 : decode cX7_vows 11 = .ok (.invokevirtual 82, 3) := by decide +kernel
theorem dX7_vows_14 : decode cX7_vows 14 = .ok (.ireturn, 1) := by decide +kernel
theorem dX7_vows_15 : decode cX7_vows 15 = .ok (.iload_n 1, 1) := by decide +kernel
theorem dX7_vows_16 : decode cX7_vows 16 = .ok (.ifCond .ne 11, 3) := by decide +kernel
theorem dX7_vows_19 : decode cX7_vows 19 = .ok (.aload_n 0, 1) := by decide +kernel
theorem dX7_vows_20 : decode cX7_vows 20 = .ok (.getfield 30, 3) := by decide +kernel
theorem dX7_vows_23 : decode cX7_vows 23 = .ok (.invokevirtual 152, 3) := by decide +kernel
theorem dX7_vows_26 : decode cX7_vows 26 = .ok (.ireturn, 1) := by decide +kernel
theorem dX7_vows_27 : decode cX7_vows 27 = .ok (.aload_n 0, 1) := by decide +kernel
theorem dX7_vows_28 : decode cX7_vows 28 = .ok (.getfield 30, 3) := by decide +kernel
theorem dX7_vows_31 : decode cX7_vows 31 = .ok (.invokevirtual 152, 3) := by decide +kernel
theorem dX7_vows_34 : decode cX7_vows 34 = .ok (.ifCond .ne 9, 3) := by decide +kernel
theorem dX7_vows_37 : decode cX7_vows 37 = .ok (.aload_n 0, 1) := by decide +kernel
theorem dX7_vows_38 : decode cX7_vows 38 = .ok (.iconst 2, 1) := by decide +kernel
theorem dX7_vows_39 : decode cX7_vows 39 = .ok (.invokevirtual 82, 3) := by decide +kernel
theorem dX7_vows_42 : decode cX7_vows 42 = .ok (.ireturn, 1) := by decide +kernel
theorem dX7_vows_43 : decode cX7_vows 43 = .ok (.iload_n 1, 1) := by decide +kernel
theorem dX7_vows_44 : decode cX7_vows 44 = .ok (.iconst 1, 1) := by decide +kernel
theorem dX7_vows_45 : decode cX7_vows 45 = .ok (.if_icmp .ne 11, 3) := by decide +kernel
theorem dX7_vows_48 : decode cX7_vows 48 = .ok (.aload_n 0, 1) := by decide +kernel
theorem dX7_vows_49 : decode cX7_vows 49 = .ok (.getfield 30, 3) := by decide +kernel
theorem dX7_vows_52 : decode cX7_vows 52 = .ok (.invokevirtual 196, 3) := by decide +kernel
theorem dX7_vows_55 : decode cX7_vows 55 = .ok (.ireturn, 1) := by decide +kernel
theorem dX7_vows_56 : decode cX7_vows 56 = .ok (.aload_n 0, 1) := by decide +kernel
theorem dX7_vows_57 : decode cX7_vows 57 = .ok (.getfield 30, 3) := by decide +kernel
theorem dX7_vows_60 : decode cX7_vows 60 = .ok (.invokevirtual 199, 3) := by decide +kernel
theorem dX7_vows_63 : decode cX7_vows 63 = .ok (.istore_n 2, 1) := by decide +kernel
theorem dX7_vows_64 : decode cX7_vows 64 = .ok (.iload_n 1, 1) := by decide +kernel
theorem dX7_vows_65 : decode cX7_vows 65 = .ok (.iconst 2, 1) := by decide +kernel
theorem dX7_vows_66 : decode cX7_vows 66 = .ok (.if_icmp .ne 7, 3) := by decide +kernel
theorem dX7_vows_69 : decode cX7_vows 69 = .ok (.iload_n 2, 1) := by decide +kernel
theorem dX7_vows_70 : decode cX7_vows 70 = .ok (.goto 11, 3) := by decide +kernel
theorem dX7_vows_73 : decode cX7_vows 73 = .ok (.aload_n 0, 1) := by decide +kernel
theorem dX7_vows_74 : decode cX7_vows 74 = .ok (.getfield 30, 3) := by decide +kernel
theorem dX7_vows_77 : decode cX7_vows 77 = .ok (.iload_n 2, 1) := by decide +kernel
theorem dX7_vows_78 : decode cX7_vows 78 = .ok (.invokevirtual 202, 3) := by decide +kernel
theorem dX7_vows_81 : decode cX7_vows 81 = .ok (.ireturn, 1) := by decide +kernel
theorem dX7_parts_0 : decode cX7_parts 0 = .ok (.iload_n 1, 1) := by decide +kernel
theorem dX7_parts_1 : decode cX7_parts 1 = .ok (.iconst 0, 1) := by decide +kernel
theorem dX7_parts_2 : decode cX7_parts 2 = .ok (.iconst 1, 1) := by decide +kernel
theorem dX7_parts_3 : decode cX7_parts 3 = .ok (.invokestatic 108, 3) := by decide +kernel
theorem dX7_parts_6 : decode cX7_parts 6 = .ok (.ifCond .ne 9, 3) := by decide +kernel
theorem dX7_parts_9 : decode cX7_parts 9 = .ok (.aload_n 0, 1) := by decide +kernel
theorem dX7_parts_10 : decode cX7_parts 10 = .ok (.iconst 1, 1) := by decide +kernel
theorem dX7_parts_11 : decode cX7_parts 11 = .ok (.invokevirtual 82, 3) := by decide +kernel
theorem dX7_parts_14 : decode cX7_parts 14 = .ok (.ireturn, 1) := by decide +kernel
theorem dX7_parts_15 : decode cX7_parts 15 = .ok (.iconst 0, 1) := by decide +kernel
theorem dX7_parts_16 : decode cX7_parts 16 = .ok (.istore_n 2, 1) := by decide +kernel
theorem dX7_parts_17 : decode cX7_parts 17 = .ok (.iconst 1, 1) := by decide +kernel
theorem dX7_parts_18 : decode cX7_parts 18 = .ok (.istore_n 3, 1) := by decide +kernel
theorem dX7_parts_19 : decode cX7_parts 19 = .ok (.iload_n 3, 1) := by decide +kernel
theorem dX7_parts_20 : decode cX7_parts 20 = .ok (.bipush 64, 2) := by decide +kernel
theorem dX7_parts_22 : decode cX7_parts 22 = .ok (.if_icmp .ge 24, 3) := by decide +kernel
theorem dX7_parts_25 : decode cX7_parts 25 = .ok (.aload_n 0, 1) := by decide +kernel
theorem dX7_parts_26 : decode cX7_parts 26 = .ok (.iload_n 3, 1) := by decide +kernel
theorem dX7_parts_27 : decode cX7_parts 27 = .ok (.invokevirtual 205, 3) := by decide +kernel
theorem dX7_parts_30 : decode cX7_parts 30 = .ok (.aload_n 0, 1) := by decide +kernel
theorem dX7_parts_31 : decode cX7_parts 31 = .ok (.iload_n 2, 1) := by decide +kernel
theorem dX7_parts_32 : decode cX7_parts 32 = .ok (.invokevirtual 205, 3) := by decide +kernel
theorem dX7_parts_35 : decode cX7_parts 35 = .ok (.if_icmp .le 5, 3) := by decide +kernel
theorem dX7_parts_38 : decode cX7_parts 38 = .ok (.iload_n 3, 1) := by decide +kernel
theorem dX7_parts_39 : decode cX7_parts 39 = .ok (.istore_n 2, 1) := by decide +kernel
theorem dX7_parts_40 : decode cX7_parts 40 = .ok (.iinc 3 1, 3) := by decide +kernel
theorem dX7_parts_43 : decode cX7_parts 43 = .ok (.goto (-24), 3) := by decide +kernel
theorem dX7_parts_46 : decode cX7_parts 46 = .ok (.iload_n 1, 1) := by decide +kernel
theorem dX7_parts_47 : decode cX7_parts 47 = .ok (.ifCond .ne 7, 3) := by decide +kernel
theorem dX7_parts_50 : decode cX7_parts 50 = .ok (.iload_n 2, 1) := by decide +kernel
theorem dX7_parts_51 : decode cX7_parts 51 = .ok (.goto 8, 3) := by decide +kernel
theorem dX7_parts_54 : decode cX7_parts 54 = .ok (.aload_n 0, 1) := by decide +kernel
theorem dX7_parts_55 : decode cX7_parts 55 = .ok (.iload_n 2, 1) := by decide +kernel
theorem dX7_parts_56 : decode cX7_parts 56 = .ok (.invokevirtual 205, 3) := by decide +kernel
theorem dX7_parts_59 : decode cX7_parts 59 = .ok (.ireturn, 1) := by decide +kernel
theorem dX7_sure_0 : decode cX7_sure 0 = .ok (.iload_n 1, 1) := by decide +kernel
theorem dX7_sure_1 : decode cX7_sure 1 = .ok (.invokestatic 133, 3) := by decide +kernel
theorem dX7_sure_4 : decode cX7_sure 4 = .ok (.ifCond .ne 9, 3) := by decide +kernel
theorem dX7_sure_7 : decode cX7_sure 7 = .ok (.aload_n 0, 1) := by decide +kernel
theorem dX7_sure_8 : decode cX7_sure 8 = .ok (.iconst 1, 1) := by decide +kernel
theorem dX7_sure_9 : decode cX7_sure 9 = .ok (.invokevirtual 82, 3) := by decide +kernel
theorem dX7_sure_12 : decode cX7_sure 12 = .ok (.ireturn, 1) := by decide +kernel
theorem dX7_sure_13 : decode cX7_sure 13 = .ok (.iload_n 1, 1) := by decide +kernel
theorem dX7_sure_14 : decode cX7_sure 14 = .ok (.istore_n 2, 1) := by decide +kernel
theorem dX7_sure_15 : decode cX7_sure 15 = .ok (.iload_n 2, 1) := by decide +kernel
theorem dX7_sure_16 : decode cX7_sure 16 = .ok (.bipush 64, 2) := by decide +kernel
theorem dX7_sure_18 : decode cX7_sure 18 = .ok (.if_icmp .ge 29, 3) := by decide +kernel
theorem dX7_sure_21 : decode cX7_sure 21 = .ok (.iload_n 2, 1) := by decide +kernel
theorem dX7_sure_22 : decode cX7_sure 22 = .ok (.iload_n 1, 1) := by decide +kernel
theorem dX7_sure_23 : decode cX7_sure 23 = .ok (.iand, 1) := by decide +kernel
theorem dX7_sure_24 : decode cX7_sure 24 = .ok (.iload_n 1, 1) := by decide +kernel
theorem dX7_sure_25 : decode cX7_sure 25 = .ok (.if_icmp .ne 16, 3) := by decide +kernel
theorem dX7_sure_28 : decode cX7_sure 28 = .ok (.aload_n 0, 1) := by decide +kernel
theorem dX7_sure_29 : decode cX7_sure 29 = .ok (.getfield 30, 3) := by decide +kernel
theorem dX7_sure_32 : decode cX7_sure 32 = .ok (.iload_n 2, 1) := by decide +kernel
theorem dX7_sure_33 : decode cX7_sure 33 = .ok (.invokevirtual 208, 3) := by decide +kernel
theorem dX7_sure_36 : decode cX7_sure 36 = .ok (.ifCond .ne 5, 3) := by decide +kernel
theorem dX7_sure_39 : decode cX7_sure 39 = .ok (.iload_n 2, 1) := by decide +kernel
theorem dX7_sure_40 : decode cX7_sure 40 = .ok (.ireturn, 1) := by decide +kernel
theorem dX7_sure_41 : decode cX7_sure 41 = .ok (.iinc 2 1, 3) := by decide +kernel
theorem dX7_sure_44 : decode cX7_sure 44 = .ok (.goto (-29), 3) := by decide +kernel
theorem dX7_sure_47 : decode cX7_sure 47 = .ok (.aload_n 0, 1) := by decide +kernel
theorem dX7_sure_48 : decode cX7_sure 48 = .ok (.iconst 2, 1) := by decide +kernel
theorem dX7_sure_49 : decode cX7_sure 49 = .ok (.invokevirtual 82, 3) := by decide +kernel
theorem dX7_sure_52 : decode cX7_sure 52 = .ok (.ireturn, 1) := by decide +kernel
theorem dX7_unsaid_0 : decode cX7_unsaid 0 = .ok (.iload_n 1, 1) := by decide +kernel
theorem dX7_unsaid_1 : decode cX7_unsaid 1 = .ok (.iconst 0, 1) := by decide +kernel
theorem dX7_unsaid_2 : decode cX7_unsaid 2 = .ok (.iconst 1, 1) := by decide +kernel
theorem dX7_unsaid_3 : decode cX7_unsaid 3 = .ok (.invokestatic 108, 3) := by decide +kernel
theorem dX7_unsaid_6 : decode cX7_unsaid 6 = .ok (.ifCond .ne 10, 3) := by decide +kernel
theorem dX7_unsaid_9 : decode cX7_unsaid 9 = .ok (.aload_n 0, 1) := by decide +kernel
theorem dX7_unsaid_10 : decode cX7_unsaid 10 = .ok (.iconst 1, 1) := by decide +kernel
theorem dX7_unsaid_11 : decode cX7_unsaid 11 = .ok (.invokevirtual 82, 3) := by decide +kernel
theorem dX7_unsaid_14 : decode cX7_unsaid 14 = .ok (.i2l, 1) := by decide +kernel
theorem dX7_unsaid_15 : decode cX7_unsaid 15 = .ok (.lreturn, 1) := by decide +kernel
theorem dX7_unsaid_16 : decode cX7_unsaid 16 = .ok (.aload_n 0, 1) := by decide +kernel
theorem dX7_unsaid_17 : decode cX7_unsaid 17 = .ok (.getfield 10, 3) := by decide +kernel
theorem dX7_unsaid_20 : decode cX7_unsaid 20 = .ok (.invokevirtual 86, 3) := by decide +kernel
theorem dX7_unsaid_23 : decode cX7_unsaid 23 = .ok (.ifCond .le 9, 3) := by decide +kernel
theorem dX7_unsaid_26 : decode cX7_unsaid 26 = .ok (.ldc2_w 211, 3) := by decide +kernel
theorem dX7_unsaid_29 : decode cX7_unsaid 29 = .ok (.goto 4, 3) := by decide +kernel
theorem dX7_unsaid_32 : decode cX7_unsaid 32 = .ok (.lconst 0, 1) := by decide +kernel
theorem dX7_unsaid_33 : decode cX7_unsaid 33 = .ok (.lstore_n 2, 1) := by decide +kernel
theorem dX7_unsaid_34 : decode cX7_unsaid 34 = .ok (.iconst 0, 1) := by decide +kernel
theorem dX7_unsaid_35 : decode cX7_unsaid 35 = .ok (.istore 4, 2) := by decide +kernel
theorem dX7_unsaid_37 : decode cX7_unsaid 37 = .ok (.iload 4, 2) := by decide +kernel
theorem dX7_unsaid_39 : decode cX7_unsaid 39 = .ok (.aload_n 0, 1) := by decide +kernel
theorem dX7_unsaid_40 : decode cX7_unsaid 40 = .ok (.getfield 10, 3) := by decide +kernel
theorem dX7_unsaid_43 : decode cX7_unsaid 43 = .ok (.invokevirtual 86, 3) := by decide +kernel
theorem dX7_unsaid_46 : decode cX7_unsaid 46 = .ok (.if_icmp .ge 18, 3) := by decide +kernel
theorem dX7_unsaid_49 : decode cX7_unsaid 49 = .ok (.lload_n 2, 1) := by decide +kernel
theorem dX7_unsaid_50 : decode cX7_unsaid 50 = .ok (.aload_n 0, 1) := by decide +kernel
theorem dX7_unsaid_51 : decode cX7_unsaid 51 = .ok (.iload 4, 2) := by decide +kernel
theorem dX7_unsaid_53 : decode cX7_unsaid 53 = .ok (.invokevirtual 115, 3) := by decide +kernel
theorem dX7_unsaid_56 : decode cX7_unsaid 56 = .ok (.land, 1) := by decide +kernel
theorem dX7_unsaid_57 : decode cX7_unsaid 57 = .ok (.lstore_n 2, 1) := by decide +kernel
theorem dX7_unsaid_58 : decode cX7_unsaid 58 = .ok (.iinc 4 1, 3) := by decide +kernel
theorem dX7_unsaid_61 : decode cX7_unsaid 61 = .ok (.goto (-24), 3) := by decide +kernel
theorem dX7_unsaid_64 : decode cX7_unsaid 64 = .ok (.iload_n 1, 1) := by decide +kernel
theorem dX7_unsaid_65 : decode cX7_unsaid 65 = .ok (.ifCond .ne 7, 3) := by decide +kernel
theorem dX7_unsaid_68 : decode cX7_unsaid 68 = .ok (.lload_n 2, 1) := by decide +kernel
theorem dX7_unsaid_69 : decode cX7_unsaid 69 = .ok (.goto 8, 3) := by decide +kernel
theorem dX7_unsaid_72 : decode cX7_unsaid 72 = .ok (.lload_n 2, 1) := by decide +kernel
theorem dX7_unsaid_73 : decode cX7_unsaid 73 = .ok (.invokestatic 119, 3) := by decide +kernel
theorem dX7_unsaid_76 : decode cX7_unsaid 76 = .ok (.i2l, 1) := by decide +kernel
theorem dX7_unsaid_77 : decode cX7_unsaid 77 = .ok (.lreturn, 1) := by decide +kernel
theorem dX7_freest_0 : decode cX7_freest 0 = .ok (.iload_n 1, 1) := by decide +kernel
theorem dX7_freest_1 : decode cX7_freest 1 = .ok (.iconst 0, 1) := by decide +kernel
theorem dX7_freest_2 : decode cX7_freest 2 = .ok (.iconst 1, 1) := by decide +kernel
theorem dX7_freest_3 : decode cX7_freest 3 = .ok (.invokestatic 108, 3) := by decide +kernel
theorem dX7_freest_6 : decode cX7_freest 6 = .ok (.ifCond .ne 9, 3) := by decide +kernel
theorem dX7_freest_9 : decode cX7_freest 9 = .ok (.aload_n 0, 1) := by decide +kernel
theorem dX7_freest_10 : decode cX7_freest 10 = .ok (.iconst 1, 1) := by decide +kernel
theorem dX7_freest_11 : decode cX7_freest 11 = .ok (.invokevirtual 82, 3) := by decide +kernel
theorem dX7_freest_14 : decode cX7_freest 14 = .ok (.ireturn, 1) := by decide +kernel
theorem dX7_freest_15 : decode cX7_freest 15 = .ok (.aload_n 0, 1) := by decide +kernel
theorem dX7_freest_16 : decode cX7_freest 16 = .ok (.getfield 10, 3) := by decide +kernel
theorem dX7_freest_19 : decode cX7_freest 19 = .ok (.invokevirtual 86, 3) := by decide +kernel
theorem dX7_freest_22 : decode cX7_freest 22 = .ok (.ifCond .ne 9, 3) := by decide +kernel
theorem dX7_freest_25 : decode cX7_freest 25 = .ok (.aload_n 0, 1) := by decide +kernel
theorem dX7_freest_26 : decode cX7_freest 26 = .ok (.iconst 3, 1) := by decide +kernel
theorem dX7_freest_27 : decode cX7_freest 27 = .ok (.invokevirtual 82, 3) := by decide +kernel
theorem dX7_freest_30 : decode cX7_freest 30 = .ok (.ireturn, 1) := by decide +kernel
theorem dX7_freest_31 : decode cX7_freest 31 = .ok (.iconst 0, 1) := by decide +kernel
theorem dX7_freest_32 : decode cX7_freest 32 = .ok (.istore_n 2, 1) := by decide +kernel
theorem dX7_freest_33 : decode cX7_freest 33 = .ok (.aload_n 0, 1) := by decide +kernel
theorem dX7_freest_34 : decode cX7_freest 34 = .ok (.iconst 0, 1) := by decide +kernel
theorem dX7_freest_35 : decode cX7_freest 35 = .ok (.invokevirtual 213, 3) := by decide +kernel
theorem dX7_freest_38 : decode cX7_freest 38 = .ok (.istore_n 3, 1) := by decide +kernel
theorem dX7_freest_39 : decode cX7_freest 39 = .ok (.iconst 1, 1) := by decide +kernel
theorem dX7_freest_40 : decode cX7_freest 40 = .ok (.istore 4, 2) := by decide +kernel
theorem dX7_freest_42 : decode cX7_freest 42 = .ok (.iload 4, 2) := by decide +kernel
theorem dX7_freest_44 : decode cX7_freest 44 = .ok (.aload_n 0, 1) := by decide +kernel
theorem dX7_freest_45 : decode cX7_freest 45 = .ok (.getfield 10, 3) := by decide +kernel
theorem dX7_freest_48 : decode cX7_freest 48 = .ok (.invokevirtual 86, 3) := by decide +kernel
theorem dX7_freest_51 : decode cX7_freest 51 = .ok (.if_icmp .ge 29, 3) := by decide +kernel
theorem dX7_freest_54 : decode cX7_freest 54 = .ok (.aload_n 0, 1) := by decide +kernel
theorem dX7_freest_55 : decode cX7_freest 55 = .ok (.iload 4, 2) := by decide +kernel
theorem dX7_freest_57 : decode cX7_freest 57 = .ok (.invokevirtual 213, 3) := by decide +kernel
theorem dX7_freest_60 : decode cX7_freest 60 = .ok (.istore 5, 2) := by decide +kernel
theorem dX7_freest_62 : decode cX7_freest 62 = .ok (.iload 5, 2) := by decide +kernel
theorem dX7_freest_64 : decode cX7_freest 64 = .ok (.iload_n 3, 1) := by decide +kernel
theorem dX7_freest_65 : decode cX7_freest 65 = .ok (.if_icmp .le 9, 3) := by decide +kernel
theorem dX7_freest_68 : decode cX7_freest 68 = .ok (.iload 4, 2) := by decide +kernel
theorem dX7_freest_70 : decode cX7_freest 70 = .ok (.istore_n 2, 1) := by decide +kernel
theorem dX7_freest_71 : decode cX7_freest 71 = .ok (.iload 5, 2) := by decide +kernel
theorem dX7_freest_73 : decode cX7_freest 73 = .ok (.istore_n 3, 1) := by decide +kernel
theorem dX7_freest_74 : decode cX7_freest 74 = .ok (.iinc 4 1, 3) := by decide +kernel
theorem dX7_freest_77 : decode cX7_freest 77 = .ok (.goto (-35), 3) := by decide +kernel
theorem dX7_freest_80 : decode cX7_freest 80 = .ok (.iload_n 1, 1) := by decide +kernel
theorem dX7_freest_81 : decode cX7_freest 81 = .ok (.ifCond .ne 7, 3) := by decide +kernel
theorem dX7_freest_84 : decode cX7_freest 84 = .ok (.iload_n 2, 1) := by decide +kernel
theorem dX7_freest_85 : decode cX7_freest 85 = .ok (.goto 4, 3) := by decide +kernel
theorem dX7_freest_88 : decode cX7_freest 88 = .ok (.iload_n 3, 1) := by decide +kernel
theorem dX7_freest_89 : decode cX7_freest 89 = .ok (.ireturn, 1) := by decide +kernel
theorem dX7_odds_0 : decode cX7_odds 0 = .ok (.iload_n 1, 1) := by decide +kernel
theorem dX7_odds_1 : decode cX7_odds 1 = .ok (.invokestatic 133, 3) := by decide +kernel
theorem dX7_odds_4 : decode cX7_odds 4 = .ok (.ifCond .eq 12, 3) := by decide +kernel
theorem dX7_odds_7 : decode cX7_odds 7 = .ok (.iload_n 2, 1) := by decide +kernel
theorem dX7_odds_8 : decode cX7_odds 8 = .ok (.iconst 0, 1) := by decide +kernel
theorem dX7_odds_9 : decode cX7_odds 9 = .ok (.iconst 1, 1) := by decide +kernel
theorem dX7_odds_10 : decode cX7_odds 10 = .ok (.invokestatic 108, 3) := by decide +kernel
theorem dX7_odds_13 : decode cX7_odds 13 = .ok (.ifCond .ne 9, 3) := by decide +kernel
theorem dX7_odds_16 : decode cX7_odds 16 = .ok (.aload_n 0, 1) := by decide +kernel
theorem dX7_odds_17 : decode cX7_odds 17 = .ok (.iconst 1, 1) := by decide +kernel
theorem dX7_odds_18 : decode cX7_odds 18 = .ok (.invokevirtual 82, 3) := by decide +kernel
theorem dX7_odds_21 : decode cX7_odds 21 = .ok (.ireturn, 1) := by decide +kernel
theorem dX7_odds_22 : decode cX7_odds 22 = .ok (.aload_n 0, 1) := by decide +kernel
theorem dX7_odds_23 : decode cX7_odds 23 = .ok (.getfield 30, 3) := by decide +kernel
theorem dX7_odds_26 : decode cX7_odds 26 = .ok (.invokevirtual 152, 3) := by decide +kernel
theorem dX7_odds_29 : decode cX7_odds 29 = .ok (.ifCond .ne 9, 3) := by decide +kernel
theorem dX7_odds_32 : decode cX7_odds 32 = .ok (.aload_n 0, 1) := by decide +kernel
theorem dX7_odds_33 : decode cX7_odds 33 = .ok (.iconst 3, 1) := by decide +kernel
theorem dX7_odds_34 : decode cX7_odds 34 = .ok (.invokevirtual 82, 3) := by decide +kernel
theorem dX7_odds_37 : decode cX7_odds 37 = .ok (.ireturn, 1) := by decide +kernel
theorem dX7_odds_38 : decode cX7_odds 38 = .ok (.aload_n 0, 1) := by decide +kernel
theorem dX7_odds_39 : decode cX7_odds 39 = .ok (.getfield 30, 3) := by decide +kernel
theorem dX7_odds_42 : decode cX7_odds 42 = .ok (.iload_n 1, 1) := by decide +kernel
theorem dX7_odds_43 : decode cX7_odds 43 = .ok (.invokevirtual 208, 3) := by decide +kernel
theorem dX7_odds_46 : decode cX7_odds 46 = .ok (.istore_n 3, 1) := by decide +kernel
theorem dX7_odds_47 : decode cX7_odds 47 = .ok (.aload_n 0, 1) := by decide +kernel
theorem dX7_odds_48 : decode cX7_odds 48 = .ok (.getfield 30, 3) := by decide +kernel
theorem dX7_odds_51 : decode cX7_odds 51 = .ok (.invokevirtual 152, 3) := by decide +kernel
theorem dX7_odds_54 : decode cX7_odds 54 = .ok (.istore 4, 2) := by decide +kernel
theorem dX7_odds_56 : decode cX7_odds 56 = .ok (.iload_n 3, 1) := by decide +kernel
theorem dX7_odds_57 : decode cX7_odds 57 = .ok (.iload 4, 2) := by decide +kernel
theorem dX7_odds_59 : decode cX7_odds 59 = .ok (.invokestatic 216, 3) := by decide +kernel
theorem dX7_odds_62 : decode cX7_odds 62 = .ok (.istore 5, 2) := by decide +kernel
theorem dX7_odds_64 : decode cX7_odds 64 = .ok (.iload 5, 2) := by decide +kernel
theorem dX7_odds_66 : decode cX7_odds 66 = .ok (.ifCond .ne 5, 3) := by decide +kernel
theorem dX7_odds_69 : decode cX7_odds 69 = .ok (.iconst 0, 1) := by decide +kernel
theorem dX7_odds_70 : decode cX7_odds 70 = .ok (.ireturn, 1) := by decide +kernel
theorem dX7_odds_71 : decode cX7_odds 71 = .ok (.iload_n 2, 1) := by decide +kernel
theorem dX7_odds_72 : decode cX7_odds 72 = .ok (.ifCond .ne 10, 3) := by decide +kernel
theorem dX7_odds_75 : decode cX7_odds 75 = .ok (.iload_n 3, 1) := by decide +kernel
theorem dX7_odds_76 : decode cX7_odds 76 = .ok (.iload 5, 2) := by decide +kernel
theorem dX7_odds_78 : decode cX7_odds 78 = .ok (.idiv, 1) := by decide +kernel
theorem dX7_odds_79 : decode cX7_odds 79 = .ok (.goto 8, 3) := by decide +kernel
theorem dX7_odds_82 : decode cX7_odds 82 = .ok (.iload 4, 2) := by decide +kernel
theorem dX7_odds_84 : decode cX7_odds 84 = .ok (.iload 5, 2) := by decide +kernel
theorem dX7_odds_86 : decode cX7_odds 86 = .ok (.idiv, 1) := by decide +kernel
theorem dX7_odds_87 : decode cX7_odds 87 = .ok (.ireturn, 1) := by decide +kernel
theorem dX7_fits_0 : decode cX7_fits 0 = .ok (.aload_n 0, 1) := by decide +kernel
theorem dX7_fits_1 : decode cX7_fits 1 = .ok (.iload_n 1, 1) := by decide +kernel
theorem dX7_fits_2 : decode cX7_fits 2 = .ok (.invokevirtual 219, 3) := by decide +kernel
theorem dX7_fits_5 : decode cX7_fits 5 = .ok (.astore_n 3, 1) := by decide +kernel
theorem dX7_fits_6 : decode cX7_fits 6 = .ok (.aload_n 3, 1) := by decide +kernel
theorem dX7_fits_7 : decode cX7_fits 7 = .ok (.ifnull 12, 3) := by decide +kernel
theorem dX7_fits_10 : decode cX7_fits 10 = .ok (.iload_n 2, 1) := by decide +kernel
theorem dX7_fits_11 : decode cX7_fits 11 = .ok (.iconst 0, 1) := by decide +kernel
theorem dX7_fits_12 : decode cX7_fits 12 = .ok (.iconst 1, 1) := by decide +kernel
theorem dX7_fits_13 : decode cX7_fits 13 = .ok (.invokestatic 108, 3) := by decide +kernel
theorem dX7_fits_16 : decode cX7_fits 16 = .ok (.ifCond .ne 9, 3) := by decide +kernel
theorem dX7_fits_19 : decode cX7_fits 19 = .ok (.aload_n 0, 1) := by decide +kernel
theorem dX7_fits_20 : decode cX7_fits 20 = .ok (.iconst 1, 1) := by decide +kernel
theorem dX7_fits_21 : decode cX7_fits 21 = .ok (.invokevirtual 82, 3) := by decide +kernel
theorem dX7_fits_24 : decode cX7_fits 24 = .ok (.ireturn, 1) := by decide +kernel
theorem dX7_fits_25 : decode cX7_fits 25 = .ok (.aload_n 3, 1) := by decide +kernel
theorem dX7_fits_26 : decode cX7_fits 26 = .ok (.invokevirtual 223, 3) := by decide +kernel
theorem dX7_fits_29 : decode cX7_fits 29 = .ok (.ifCond .eq 9, 3) := by decide +kernel
theorem dX7_fits_32 : decode cX7_fits 32 = .ok (.aload_n 0, 1) := by decide +kernel
theorem dX7_fits_33 : decode cX7_fits 33 = .ok (.iconst 2, 1) := by decide +kernel
theorem dX7_fits_34 : decode cX7_fits 34 = .ok (.invokevirtual 82, 3) := by decide +kernel
theorem dX7_fits_37 : decode cX7_fits 37 = .ok (.ireturn, 1) := by decide +kernel
theorem dX7_fits_38 : decode cX7_fits 38 = .ok (.aload_n 0, 1) := by decide +kernel
theorem dX7_fits_39 : decode cX7_fits 39 = .ok (.getfield 30, 3) := by decide +kernel
theorem dX7_fits_42 : decode cX7_fits 42 = .ok (.aload_n 3, 1) := by decide +kernel
theorem dX7_fits_43 : decode cX7_fits 43 = .ok (.getfield 227, 3) := by decide +kernel
theorem dX7_fits_46 : decode cX7_fits 46 = .ok (.invokevirtual 230, 3) := by decide +kernel
theorem dX7_fits_49 : decode cX7_fits 49 = .ok (.istore 4, 2) := by decide +kernel
theorem dX7_fits_51 : decode cX7_fits 51 = .ok (.iload_n 2, 1) := by decide +kernel
theorem dX7_fits_52 : decode cX7_fits 52 = .ok (.ifCond .ne 6, 3) := by decide +kernel
theorem dX7_fits_55 : decode cX7_fits 55 = .ok (.iload 4, 2) := by decide +kernel
theorem dX7_fits_57 : decode cX7_fits 57 = .ok (.ireturn, 1) := by decide +kernel
theorem dX7_fits_58 : decode cX7_fits 58 = .ok (.iload 4, 2) := by decide +kernel
theorem dX7_fits_60 : decode cX7_fits 60 = .ok (.ifCond .ne 11, 3) := by decide +kernel
theorem dX7_fits_63 : decode cX7_fits 63 = .ok (.aload_n 0, 1) := by decide +kernel
theorem dX7_fits_64 : decode cX7_fits 64 = .ok (.iconst 2, 1) := by decide +kernel
theorem dX7_fits_65 : decode cX7_fits 65 = .ok (.invokevirtual 82, 3) := by decide +kernel
theorem dX7_fits_68 : decode cX7_fits 68 = .ok (.goto 14, 3) := by decide +kernel
theorem dX7_fits_71 : decode cX7_fits 71 = .ok (.aload_n 0, 1) := by decide +kernel
theorem dX7_fits_72 : decode cX7_fits 72 = .ok (.getfield 30, 3) := by decide +kernel
theorem dX7_fits_75 : decode cX7_fits 75 = .ok (.aload_n 3, 1) := by decide +kernel
theorem dX7_fits_76 : decode cX7_fits 76 = .ok (.getfield 227, 3) := by decide +kernel
theorem dX7_fits_79 : decode cX7_fits 79 = .ok (.invokevirtual 234, 3) := by decide +kernel
theorem dX7_fits_82 : decode cX7_fits 82 = .ok (.ireturn, 1) := by decide +kernel
theorem dX7_voice_0 : decode cX7_voice 0 = .ok (.aload_n 0, 1) := by decide +kernel
theorem dX7_voice_1 : decode cX7_voice 1 = .ok (.iload_n 1, 1) := by decide +kernel
theorem dX7_voice_2 : decode cX7_voice 2 = .ok (.invokevirtual 105, 3) := by decide +kernel
theorem dX7_voice_5 : decode cX7_voice 5 = .ok (.ifCond .eq 12, 3) := by decide +kernel
theorem dX7_voice_8 : decode cX7_voice 8 = .ok (.iload_n 2, 1) := by decide +kernel
theorem dX7_voice_9 : decode cX7_voice 9 = .ok (.iconst 0, 1) := by decide +kernel
theorem dX7_voice_10 : decode cX7_voice 10 = .ok (.iconst 3, 1) := by decide +kernel
theorem dX7_voice_11 : decode cX7_voice 11 = .ok (.invokestatic 108, 3) := by decide +kernel
theorem dX7_voice_14 : decode cX7_voice 14 = .ok (.ifCond .ne 9, 3) := by decide +kernel
theorem dX7_voice_17 : decode cX7_voice 17 = .ok (.aload_n 0, 1) := by decide +kernel
theorem dX7_voice_18 : decode cX7_voice 18 = .ok (.iconst 1, 1) := by decide +kernel
theorem dX7_voice_19 : decode cX7_voice 19 = .ok (.invokevirtual 82, 3) := by decide +kernel
theorem dX7_voice_22 : decode cX7_voice 22 = .ok (.ireturn, 1) := by decide +kernel
theorem dX7_voice_23 : decode cX7_voice 23 = .ok (.aload_n 0, 1) := by decide +kernel
theorem dX7_voice_24 : decode cX7_voice 24 = .ok (.getfield 57, 3) := by decide +kernel
theorem dX7_voice_27 : decode cX7_voice 27 = .ok (.iload_n 1, 1) := by decide +kernel
theorem dX7_voice_28 : decode cX7_voice 28 = .ok (.aload_n 0, 1) := by decide +kernel
theorem dX7_voice_29 : decode cX7_voice 29 = .ok (.getfield 10, 3) := by decide +kernel
theorem dX7_voice_32 : decode cX7_voice 32 = .ok (.getfield 90, 3) := by decide +kernel
theorem dX7_voice_35 : decode cX7_voice 35 = .ok (.iload_n 1, 1) := by decide +kernel
theorem dX7_voice_36 : decode cX7_voice 36 = .ok (.invokevirtual 112, 3) := by decide +kernel
theorem dX7_voice_39 : decode cX7_voice 39 = .ok (.aload_n 0, 1) := by decide +kernel
theorem dX7_voice_40 : decode cX7_voice 40 = .ok (.getfield 10, 3) := by decide +kernel
theorem dX7_voice_43 : decode cX7_voice 43 = .ok (.getfield 99, 3) := by decide +kernel
theorem dX7_voice_46 : decode cX7_voice 46 = .ok (.iload_n 1, 1) := by decide +kernel
theorem dX7_voice_47 : decode cX7_voice 47 = .ok (.invokevirtual 112, 3) := by decide +kernel
theorem dX7_voice_50 : decode cX7_voice 50 = .ok (.iload_n 2, 1) := by decide +kernel
theorem dX7_voice_51 : decode cX7_voice 51 = .ok (.iload_n 3, 1) := by decide +kernel
theorem dX7_voice_52 : decode cX7_voice 52 = .ok (.invokevirtual 237, 3) := by decide +kernel
theorem dX7_voice_55 : decode cX7_voice 55 = .ok (.istore 4, 2) := by decide +kernel
theorem dX7_voice_57 : decode cX7_voice 57 = .ok (.aload_n 0, 1) := by decide +kernel
theorem dX7_voice_58 : decode cX7_voice 58 = .ok (.getfield 57, 3) := by decide +kernel
theorem dX7_voice_61 : decode cX7_voice 61 = .ok (.getfield 241, 3) := by decide +kernel
theorem dX7_voice_64 : decode cX7_voice 64 = .ok (.ifCond .eq 12, 3) := by decide +kernel
theorem dX7_voice_67 : decode cX7_voice 67 = .ok (.aload_n 0, 1) := by decide +kernel
theorem dX7_voice_68 : decode cX7_voice 68 = .ok (.bipush 6, 2) := by decide +kernel
theorem dX7_voice_70 : decode cX7_voice 70 = .ok (.invokevirtual 82, 3) := by decide +kernel
theorem dX7_voice_73 : decode cX7_voice 73 = .ok (.goto 5, 3) := by decide +kernel
theorem dX7_voice_76 : decode cX7_voice 76 = .ok (.iload 4, 2) := by decide +kernel
theorem dX7_voice_78 : decode cX7_voice 78 = .ok (.ireturn, 1) := by decide +kernel
theorem dX7_body_0 : decode cX7_body 0 = .ok (.aload_n 0, 1) := by decide +kernel
theorem dX7_body_1 : decode cX7_body 1 = .ok (.getfield 57, 3) := by decide +kernel
theorem dX7_body_4 : decode cX7_body 4 = .ok (.getfield 244, 3) := by decide +kernel
theorem dX7_body_7 : decode cX7_body 7 = .ok (.iload_n 1, 1) := by decide +kernel
theorem dX7_body_8 : decode cX7_body 8 = .ok (.invokevirtual 247, 3) := by decide +kernel
theorem dX7_body_11 : decode cX7_body 11 = .ok (.ifCond .eq 17, 3) := by decide +kernel
theorem dX7_body_14 : decode cX7_body 14 = .ok (.aload_n 0, 1) := by decide +kernel
theorem dX7_body_15 : decode cX7_body 15 = .ok (.getfield 57, 3) := by decide +kernel
theorem dX7_body_18 : decode cX7_body 18 = .ok (.getfield 244, 3) := by decide +kernel
theorem dX7_body_21 : decode cX7_body 21 = .ok (.iload_n 1, 1) := by decide +kernel
theorem dX7_body_22 : decode cX7_body 22 = .ok (.invokevirtual 112, 3) := by decide +kernel
theorem dX7_body_25 : decode cX7_body 25 = .ok (.goto 8, 3) := by decide +kernel
theorem dX7_body_28 : decode cX7_body 28 = .ok (.aload_n 0, 1) := by decide +kernel
theorem dX7_body_29 : decode cX7_body 29 = .ok (.iconst 2, 1) := by decide +kernel
theorem dX7_body_30 : decode cX7_body 30 = .ok (.invokevirtual 82, 3) := by decide +kernel
theorem dX7_body_33 : decode cX7_body 33 = .ok (.ireturn, 1) := by decide +kernel
theorem dX7_sheet_0 : decode cX7_sheet 0 = .ok (.aload_n 0, 1) := by decide +kernel
theorem dX7_sheet_1 : decode cX7_sheet 1 = .ok (.iload_n 1, 1) := by decide +kernel
theorem dX7_sheet_2 : decode cX7_sheet 2 = .ok (.invokevirtual 219, 3) := by decide +kernel
theorem dX7_sheet_5 : decode cX7_sheet 5 = .ok (.astore 4, 2) := by decide +kernel
theorem dX7_sheet_7 : decode cX7_sheet 7 = .ok (.aload 4, 2) := by decide +kernel
theorem dX7_sheet_9 : decode cX7_sheet 9 = .ok (.ifnull 10, 3) := by decide +kernel
theorem dX7_sheet_12 : decode cX7_sheet 12 = .ok (.iload_n 2, 1) := by decide +kernel
theorem dX7_sheet_13 : decode cX7_sheet 13 = .ok (.invokestatic 250, 3) := by decide +kernel
theorem dX7_sheet_16 : decode cX7_sheet 16 = .ok (.ifCond .ne 9, 3) := by decide +kernel
theorem dX7_sheet_19 : decode cX7_sheet 19 = .ok (.aload_n 0, 1) := by decide +kernel
theorem dX7_sheet_20 : decode cX7_sheet 20 = .ok (.iconst 1, 1) := by decide +kernel
theorem dX7_sheet_21 : decode cX7_sheet 21 = .ok (.invokevirtual 82, 3) := by decide +kernel
theorem dX7_sheet_24 : decode cX7_sheet 24 = .ok (.ireturn, 1) := by decide +kernel
theorem dX7_sheet_25 : decode cX7_sheet 25 = .ok (.iload_n 2, 1) := by decide +kernel
theorem dX7_sheet_26 : decode cX7_sheet 26 = .ok (.ifCond .ne 12, 3) := by decide +kernel
theorem dX7_sheet_29 : decode cX7_sheet 29 = .ok (.aload 4, 2) := by decide +kernel
theorem dX7_sheet_31 : decode cX7_sheet 31 = .ok (.iconst 0, 1) := by decide +kernel
theorem dX7_sheet_32 : decode cX7_sheet 32 = .ok (.iconst 0, 1) := by decide +kernel
theorem dX7_sheet_33 : decode cX7_sheet 33 = .ok (.invokevirtual 253, 3) := by decide +kernel
theorem dX7_sheet_36 : decode cX7_sheet 36 = .ok (.iconst 1, 1) := by decide +kernel
theorem dX7_sheet_37 : decode cX7_sheet 37 = .ok (.ireturn, 1) := by decide +kernel
theorem dX7_sheet_38 : decode cX7_sheet 38 = .ok (.iload_n 3, 1) := by decide +kernel
theorem dX7_sheet_39 : decode cX7_sheet 39 = .ok (.ifCond .ge 9, 3) := by decide +kernel
theorem dX7_sheet_42 : decode cX7_sheet 42 = .ok (.aload_n 0, 1) := by decide +kernel
theorem dX7_sheet_43 : decode cX7_sheet 43 = .ok (.iconst 3, 1) := by decide +kernel
theorem dX7_sheet_44 : decode cX7_sheet 44 = .ok (.invokevirtual 82, 3) := by decide +kernel
theorem dX7_sheet_47 : decode cX7_sheet 47 = .ok (.ireturn, 1) := by decide +kernel
theorem dX7_sheet_48 : decode cX7_sheet 48 = .ok (.iload_n 3, 1) := by decide +kernel
theorem dX7_sheet_49 : decode cX7_sheet 49 = .ok (.bipush 24, 2) := by decide +kernel
theorem dX7_sheet_51 : decode cX7_sheet 51 = .ok (.if_icmp .le 9, 3) := by decide +kernel
theorem dX7_sheet_54 : decode cX7_sheet 54 = .ok (.aload_n 0, 1) := by decide +kernel
theorem dX7_sheet_55 : decode cX7_sheet 55 = .ok (.iconst 1, 1) := by decide +kernel
theorem dX7_sheet_56 : decode cX7_sheet 56 = .ok (.invokevirtual 82, 3) := by decide +kernel
theorem dX7_sheet_59 : decode cX7_sheet 59 = .ok (.ireturn, 1) := by decide +kernel
theorem dX7_sheet_60 : decode cX7_sheet 60 = .ok (.aload 4, 2) := by decide +kernel
theorem dX7_sheet_62 : decode cX7_sheet 62 = .ok (.iload_n 2, 1) := by decide +kernel
theorem dX7_sheet_63 : decode cX7_sheet 63 = .ok (.iload_n 3, 1) := by decide +kernel
theorem dX7_sheet_64 : decode cX7_sheet 64 = .ok (.invokevirtual 253, 3) := by decide +kernel
theorem dX7_sheet_67 : decode cX7_sheet 67 = .ok (.iconst 1, 1) := by decide +kernel
theorem dX7_sheet_68 : decode cX7_sheet 68 = .ok (.ireturn, 1) := by decide +kernel
theorem dX7_put_0 : decode cX7_put 0 = .ok (.aload_n 0, 1) := by decide +kernel
theorem dX7_put_1 : decode cX7_put 1 = .ok (.iload_n 1, 1) := by decide +kernel
theorem dX7_put_2 : decode cX7_put 2 = .ok (.invokevirtual 219, 3) := by decide +kernel
theorem dX7_put_5 : decode cX7_put 5 = .ok (.astore 4, 2) := by decide +kernel
theorem dX7_put_7 : decode cX7_put 7 = .ok (.aload 4, 2) := by decide +kernel
theorem dX7_put_9 : decode cX7_put 9 = .ok (.ifnonnull 9, 3) := by decide +kernel
theorem dX7_put_12 : decode cX7_put 12 = .ok (.aload_n 0, 1) := by decide +kernel
theorem dX7_put_13 : decode cX7_put 13 = .ok (.iconst 1, 1) := by decide +kernel
theorem dX7_put_14 : decode cX7_put 14 = .ok (.invokevirtual 82, 3) := by decide +kernel
theorem dX7_put_17 : decode cX7_put 17 = .ok (.ireturn, 1) := by decide +kernel
theorem dX7_put_18 : decode cX7_put 18 = .ok (.aload 4, 2) := by decide +kernel
theorem dX7_put_20 : decode cX7_put 20 = .ok (.invokevirtual 223, 3) := by decide +kernel
theorem dX7_put_23 : decode cX7_put 23 = .ok (.ifCond .eq 9, 3) := by decide +kernel
theorem dX7_put_26 : decode cX7_put 26 = .ok (.aload_n 0, 1) := by decide +kernel
theorem dX7_put_27 : decode cX7_put 27 = .ok (.iconst 2, 1) := by decide +kernel
theorem dX7_put_28 : decode cX7_put 28 = .ok (.invokevirtual 82, 3) := by decide +kernel
theorem dX7_put_31 : decode cX7_put 31 = .ok (.ireturn, 1) := by decide +kernel
theorem dX7_put_32 : decode cX7_put 32 = .ok (.aload 4, 2) := by decide +kernel
theorem dX7_put_34 : decode cX7_put 34 = .ok (.getfield 227, 3) := by decide +kernel
theorem dX7_put_37 : decode cX7_put 37 = .ok (.iload_n 2, 1) := by decide +kernel
theorem dX7_put_38 : decode cX7_put 38 = .ok (.invokevirtual 247, 3) := by decide +kernel
theorem dX7_put_41 : decode cX7_put 41 = .ok (.ifCond .ne 9, 3) := by decide +kernel
theorem dX7_put_44 : decode cX7_put 44 = .ok (.aload_n 0, 1) := by decide +kernel
theorem dX7_put_45 : decode cX7_put 45 = .ok (.iconst 1, 1) := by decide +kernel
theorem dX7_put_46 : decode cX7_put 46 = .ok (.invokevirtual 82, 3) := by decide +kernel
theorem dX7_put_49 : decode cX7_put 49 = .ok (.ireturn, 1) := by decide +kernel
theorem dX7_put_50 : decode cX7_put 50 = .ok (.aload 4, 2) := by decide +kernel
theorem dX7_put_52 : decode cX7_put 52 = .ok (.getfield 227, 3) := by decide +kernel
theorem dX7_put_55 : decode cX7_put 55 = .ok (.iload_n 2, 1) := by decide +kernel
theorem dX7_put_56 : decode cX7_put 56 = .ok (.aload 4, 2) := by decide +kernel
theorem dX7_put_58 : decode cX7_put 58 = .ok (.iload_n 3, 1) := by decide +kernel
theorem dX7_put_59 : decode cX7_put 59 = .ok (.invokevirtual 256, 3) := by decide +kernel
theorem dX7_put_62 : decode cX7_put 62 = .ok (.invokevirtual 125, 3) := by decide +kernel
theorem dX7_put_65 : decode cX7_put 65 = .ok (.iconst 1, 1) := by decide +kernel
theorem dX7_put_66 : decode cX7_put 66 = .ok (.ireturn, 1) := by decide +kernel
theorem dX7_move_0 : decode cX7_move 0 = .ok (.aload_n 0, 1) := by decide +kernel
theorem dX7_move_1 : decode cX7_move 1 = .ok (.iload_n 1, 1) := by decide +kernel
theorem dX7_move_2 : decode cX7_move 2 = .ok (.invokevirtual 219, 3) := by decide +kernel
theorem dX7_move_5 : decode cX7_move 5 = .ok (.astore 6, 2) := by decide +kernel
theorem dX7_move_7 : decode cX7_move 7 = .ok (.aload_n 0, 1) := by decide +kernel
theorem dX7_move_8 : decode cX7_move 8 = .ok (.iload_n 3, 1) := by decide +kernel
theorem dX7_move_9 : decode cX7_move 9 = .ok (.invokevirtual 219, 3) := by decide +kernel
theorem dX7_move_12 : decode cX7_move 12 = .ok (.astore 7, 2) := by decide +kernel
theorem dX7_move_14 : decode cX7_move 14 = .ok (.aload 6, 2) := by decide +kernel
theorem dX7_move_16 : decode cX7_move 16 = .ok (.ifnull 8, 3) := by decide +kernel
theorem dX7_move_19 : decode cX7_move 19 = .ok (.aload 7, 2) := by decide +kernel
theorem dX7_move_21 : decode cX7_move 21 = .ok (.ifnonnull 9, 3) := by decide +kernel
theorem dX7_move_24 : decode cX7_move 24 = .ok (.aload_n 0, 1) := by decide +kernel
theorem dX7_move_25 : decode cX7_move 25 = .ok (.iconst 1, 1) := by decide +kernel
theorem dX7_move_26 : decode cX7_move 26 = .ok (.invokevirtual 82, 3) := by decide +kernel
theorem dX7_move_29 : decode cX7_move 29 = .ok (.ireturn, 1) := by decide +kernel
theorem dX7_move_30 : decode cX7_move 30 = .ok (.aload 6, 2) := by decide +kernel
theorem dX7_move_32 : decode cX7_move 32 = .ok (.invokevirtual 223, 3) := by decide +kernel
theorem dX7_move_35 : decode cX7_move 35 = .ok (.ifCond .ne 11, 3) := by decide +kernel
theorem dX7_move_38 : decode cX7_move 38 = .ok (.aload 7, 2) := by decide +kernel
theorem dX7_move_40 : decode cX7_move 40 = .ok (.invokevirtual 223, 3) := by decide +kernel
theorem dX7_move_43 : decode cX7_move 43 = .ok (.ifCond .eq 9, 3) := by decide +kernel
theorem dX7_move_46 : decode cX7_move 46 = .ok (.aload_n 0, 1) := by decide +kernel
theorem dX7_move_47 : decode cX7_move 47 = .ok (.iconst 2, 1) := by decide +kernel
theorem dX7_move_48 : decode cX7_move 48 = .ok (.invokevirtual 82, 3) := by decide +kernel
theorem dX7_move_51 : decode cX7_move 51 = .ok (.ireturn, 1) := by decide +kernel
theorem dX7_move_52 : decode cX7_move 52 = .ok (.aload 6, 2) := by decide +kernel
theorem dX7_move_54 : decode cX7_move 54 = .ok (.getfield 259, 3) := by decide +kernel
theorem dX7_move_57 : decode cX7_move 57 = .ok (.aload 7, 2) := by decide +kernel
theorem dX7_move_59 : decode cX7_move 59 = .ok (.getfield 259, 3) := by decide +kernel
