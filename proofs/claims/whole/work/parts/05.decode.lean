theorem dX7_move_62 : decode cX7_move 62 = .ok (.if_icmp .eq 9, 3) := by decide +kernel
theorem dX7_move_65 : decode cX7_move 65 = .ok (.aload_n 0, 1) := by decide +kernel
theorem dX7_move_66 : decode cX7_move 66 = .ok (.iconst 5, 1) := by decide +kernel
theorem dX7_move_67 : decode cX7_move 67 = .ok (.invokevirtual 82, 3) := by decide +kernel
theorem dX7_move_70 : decode cX7_move 70 = .ok (.ireturn, 1) := by decide +kernel
theorem dX7_move_71 : decode cX7_move 71 = .ok (.aload 6, 2) := by decide +kernel
theorem dX7_move_73 : decode cX7_move 73 = .ok (.getfield 227, 3) := by decide +kernel
theorem dX7_move_76 : decode cX7_move 76 = .ok (.iload_n 2, 1) := by decide +kernel
theorem dX7_move_77 : decode cX7_move 77 = .ok (.iload 5, 2) := by decide +kernel
theorem dX7_move_79 : decode cX7_move 79 = .ok (.invokevirtual 262, 3) := by decide +kernel
theorem dX7_move_82 : decode cX7_move 82 = .ok (.ifCond .eq 18, 3) := by decide +kernel
theorem dX7_move_85 : decode cX7_move 85 = .ok (.aload 7, 2) := by decide +kernel
theorem dX7_move_87 : decode cX7_move 87 = .ok (.getfield 227, 3) := by decide +kernel
theorem dX7_move_90 : decode cX7_move 90 = .ok (.iload 4, 2) := by decide +kernel
theorem dX7_move_92 : decode cX7_move 92 = .ok (.iload 5, 2) := by decide +kernel
theorem dX7_move_94 : decode cX7_move 94 = .ok (.invokevirtual 262, 3) := by decide +kernel
theorem dX7_move_97 : decode cX7_move 97 = .ok (.ifCond .ne 9, 3) := by decide +kernel
theorem dX7_move_100 : decode cX7_move 100 = .ok (.aload_n 0, 1) := by decide +kernel
theorem dX7_move_101 : decode cX7_move 101 = .ok (.iconst 1, 1) := by decide +kernel
theorem dX7_move_102 : decode cX7_move 102 = .ok (.invokevirtual 82, 3) := by decide +kernel
theorem dX7_move_105 : decode cX7_move 105 = .ok (.ireturn, 1) := by decide +kernel
theorem dX7_move_106 : decode cX7_move 106 = .ok (.aload 7, 2) := by decide +kernel
theorem dX7_move_108 : decode cX7_move 108 = .ok (.getfield 227, 3) := by decide +kernel
theorem dX7_move_111 : decode cX7_move 111 = .ok (.aload 6, 2) := by decide +kernel
theorem dX7_move_113 : decode cX7_move 113 = .ok (.getfield 227, 3) := by decide +kernel
theorem dX7_move_116 : decode cX7_move 116 = .ok (.iload_n 2, 1) := by decide +kernel
theorem dX7_move_117 : decode cX7_move 117 = .ok (.iload 4, 2) := by decide +kernel
theorem dX7_move_119 : decode cX7_move 119 = .ok (.iload 5, 2) := by decide +kernel
theorem dX7_move_121 : decode cX7_move 121 = .ok (.invokevirtual 265, 3) := by decide +kernel
theorem dX7_move_124 : decode cX7_move 124 = .ok (.iload 5, 2) := by decide +kernel
theorem dX7_move_126 : decode cX7_move 126 = .ok (.ireturn, 1) := by decide +kernel
theorem dX7_signs_0 : decode cX7_signs 0 = .ok (.aload_n 0, 1) := by decide +kernel
theorem dX7_signs_1 : decode cX7_signs 1 = .ok (.iload_n 1, 1) := by decide +kernel
theorem dX7_signs_2 : decode cX7_signs 2 = .ok (.invokevirtual 219, 3) := by decide +kernel
theorem dX7_signs_5 : decode cX7_signs 5 = .ok (.astore_n 2, 1) := by decide +kernel
theorem dX7_signs_6 : decode cX7_signs 6 = .ok (.aload_n 2, 1) := by decide +kernel
theorem dX7_signs_7 : decode cX7_signs 7 = .ok (.ifnonnull 9, 3) := by decide +kernel
theorem dX7_signs_10 : decode cX7_signs 10 = .ok (.aload_n 0, 1) := by decide +kernel
theorem dX7_signs_11 : decode cX7_signs 11 = .ok (.iconst 1, 1) := by decide +kernel
theorem dX7_signs_12 : decode cX7_signs 12 = .ok (.invokevirtual 82, 3) := by decide +kernel
theorem dX7_signs_15 : decode cX7_signs 15 = .ok (.ireturn, 1) := by decide +kernel
theorem dX7_signs_16 : decode cX7_signs 16 = .ok (.aload_n 2, 1) := by decide +kernel
theorem dX7_signs_17 : decode cX7_signs 17 = .ok (.invokevirtual 223, 3) := by decide +kernel
theorem dX7_signs_20 : decode cX7_signs 20 = .ok (.ifCond .eq 9, 3) := by decide +kernel
theorem dX7_signs_23 : decode cX7_signs 23 = .ok (.aload_n 0, 1) := by decide +kernel
theorem dX7_signs_24 : decode cX7_signs 24 = .ok (.iconst 2, 1) := by decide +kernel
theorem dX7_signs_25 : decode cX7_signs 25 = .ok (.invokevirtual 82, 3) := by decide +kernel
theorem dX7_signs_28 : decode cX7_signs 28 = .ok (.ireturn, 1) := by decide +kernel
theorem dX7_signs_29 : decode cX7_signs 29 = .ok (.iconst 0, 1) := by decide +kernel
theorem dX7_signs_30 : decode cX7_signs 30 = .ok (.istore_n 3, 1) := by decide +kernel
theorem dX7_signs_31 : decode cX7_signs 31 = .ok (.iload_n 3, 1) := by decide +kernel
theorem dX7_signs_32 : decode cX7_signs 32 = .ok (.aload_n 2, 1) := by decide +kernel
theorem dX7_signs_33 : decode cX7_signs 33 = .ok (.getfield 227, 3) := by decide +kernel
theorem dX7_signs_36 : decode cX7_signs 36 = .ok (.invokevirtual 146, 3) := by decide +kernel
theorem dX7_signs_39 : decode cX7_signs 39 = .ok (.if_icmp .ge 81, 3) := by decide +kernel
theorem dX7_signs_42 : decode cX7_signs 42 = .ok (.aload_n 2, 1) := by decide +kernel
theorem dX7_signs_43 : decode cX7_signs 43 = .ok (.getfield 227, 3) := by decide +kernel
theorem dX7_signs_46 : decode cX7_signs 46 = .ok (.iload_n 3, 1) := by decide +kernel
theorem dX7_signs_47 : decode cX7_signs 47 = .ok (.invokevirtual 112, 3) := by decide +kernel
theorem dX7_signs_50 : decode cX7_signs 50 = .ok (.invokestatic 133, 3) := by decide +kernel
theorem dX7_signs_53 : decode cX7_signs 53 = .ok (.ifCond .eq 67, 3) := by decide +kernel
theorem dX7_signs_56 : decode cX7_signs 56 = .ok (.aload_n 0, 1) := by decide +kernel
theorem dX7_signs_57 : decode cX7_signs 57 = .ok (.getfield 10, 3) := by decide +kernel
theorem dX7_signs_60 : decode cX7_signs 60 = .ok (.getfield 72, 3) := by decide +kernel
theorem dX7_signs_63 : decode cX7_signs 63 = .ok (.invokevirtual 146, 3) := by decide +kernel
theorem dX7_signs_66 : decode cX7_signs 66 = .ok (.bipush 24, 2) := by decide +kernel
theorem dX7_signs_68 : decode cX7_signs 68 = .ok (.if_icmp .ge 52, 3) := by decide +kernel
theorem dX7_signs_71 : decode cX7_signs 71 = .ok (.aload_n 2, 1) := by decide +kernel
theorem dX7_signs_72 : decode cX7_signs 72 = .ok (.getfield 227, 3) := by decide +kernel
theorem dX7_signs_75 : decode cX7_signs 75 = .ok (.iload_n 3, 1) := by decide +kernel
theorem dX7_signs_76 : decode cX7_signs 76 = .ok (.invokevirtual 112, 3) := by decide +kernel
theorem dX7_signs_79 : decode cX7_signs 79 = .ok (.istore 4, 2) := by decide +kernel
theorem dX7_signs_81 : decode cX7_signs 81 = .ok (.aload_n 0, 1) := by decide +kernel
theorem dX7_signs_82 : decode cX7_signs 82 = .ok (.getfield 10, 3) := by decide +kernel
theorem dX7_signs_85 : decode cX7_signs 85 = .ok (.iload 4, 2) := by decide +kernel
theorem dX7_signs_87 : decode cX7_signs 87 = .ok (.aload_n 0, 1) := by decide +kernel
theorem dX7_signs_88 : decode cX7_signs 88 = .ok (.getfield 30, 3) := by decide +kernel
theorem dX7_signs_91 : decode cX7_signs 91 = .ok (.iload 4, 2) := by decide +kernel
theorem dX7_signs_93 : decode cX7_signs 93 = .ok (.aload_n 0, 1) := by decide +kernel
theorem dX7_signs_94 : decode cX7_signs 94 = .ok (.getfield 10, 3) := by decide +kernel
theorem dX7_signs_97 : decode cX7_signs 97 = .ok (.getfield 143, 3) := by decide +kernel
theorem dX7_signs_100 : decode cX7_signs 100 = .ok (.invokevirtual 269, 3) := by decide +kernel
theorem dX7_signs_103 : decode cX7_signs 103 = .ok (.ifCond .eq 7, 3) := by decide +kernel
theorem dX7_signs_106 : decode cX7_signs 106 = .ok (.iconst 1, 1) := by decide +kernel
theorem dX7_signs_107 : decode cX7_signs 107 = .ok (.goto 4, 3) := by decide +kernel
theorem dX7_signs_110 : decode cX7_signs 110 = .ok (.iconst 0, 1) := by decide +kernel
theorem dX7_signs_111 : decode cX7_signs 111 = .ok (.invokevirtual 149, 3) := by decide +kernel
theorem dX7_signs_114 : decode cX7_signs 114 = .ok (.iinc 3 1, 3) := by decide +kernel
theorem dX7_signs_117 : decode cX7_signs 117 = .ok (.goto (-86), 3) := by decide +kernel
theorem dX7_signs_120 : decode cX7_signs 120 = .ok (.aload_n 0, 1) := by decide +kernel
theorem dX7_signs_121 : decode cX7_signs 121 = .ok (.getfield 30, 3) := by decide +kernel
theorem dX7_signs_124 : decode cX7_signs 124 = .ok (.aload_n 0, 1) := by decide +kernel
theorem dX7_signs_125 : decode cX7_signs 125 = .ok (.getfield 10, 3) := by decide +kernel
theorem dX7_signs_128 : decode cX7_signs 128 = .ok (.getfield 72, 3) := by decide +kernel
theorem dX7_signs_131 : decode cX7_signs 131 = .ok (.invokevirtual 75, 3) := by decide +kernel
theorem dX7_signs_134 : decode cX7_signs 134 = .ok (.iload_n 3, 1) := by decide +kernel
theorem dX7_signs_135 : decode cX7_signs 135 = .ok (.ireturn, 1) := by decide +kernel
theorem dX7_judge_0 : decode cX7_judge 0 = .ok (.aload_n 0, 1) := by decide +kernel
theorem dX7_judge_1 : decode cX7_judge 1 = .ok (.iload_n 1, 1) := by decide +kernel
theorem dX7_judge_2 : decode cX7_judge 2 = .ok (.invokevirtual 219, 3) := by decide +kernel
theorem dX7_judge_5 : decode cX7_judge 5 = .ok (.astore_n 2, 1) := by decide +kernel
theorem dX7_judge_6 : decode cX7_judge 6 = .ok (.aload_n 2, 1) := by decide +kernel
theorem dX7_judge_7 : decode cX7_judge 7 = .ok (.ifnonnull 9, 3) := by decide +kernel
theorem dX7_judge_10 : decode cX7_judge 10 = .ok (.aload_n 0, 1) := by decide +kernel
theorem dX7_judge_11 : decode cX7_judge 11 = .ok (.iconst 1, 1) := by decide +kernel
theorem dX7_judge_12 : decode cX7_judge 12 = .ok (.invokevirtual 82, 3) := by decide +kernel
theorem dX7_judge_15 : decode cX7_judge 15 = .ok (.ireturn, 1) := by decide +kernel
theorem dX7_judge_16 : decode cX7_judge 16 = .ok (.aload_n 2, 1) := by decide +kernel
theorem dX7_judge_17 : decode cX7_judge 17 = .ok (.invokevirtual 223, 3) := by decide +kernel
theorem dX7_judge_20 : decode cX7_judge 20 = .ok (.ifCond .eq 9, 3) := by decide +kernel
theorem dX7_judge_23 : decode cX7_judge 23 = .ok (.aload_n 0, 1) := by decide +kernel
theorem dX7_judge_24 : decode cX7_judge 24 = .ok (.iconst 2, 1) := by decide +kernel
theorem dX7_judge_25 : decode cX7_judge 25 = .ok (.invokevirtual 82, 3) := by decide +kernel
theorem dX7_judge_28 : decode cX7_judge 28 = .ok (.ireturn, 1) := by decide +kernel
theorem dX7_judge_29 : decode cX7_judge 29 = .ok (.iconst 0, 1) := by decide +kernel
theorem dX7_judge_30 : decode cX7_judge 30 = .ok (.istore_n 3, 1) := by decide +kernel
theorem dX7_judge_31 : decode cX7_judge 31 = .ok (.iload_n 3, 1) := by decide +kernel
theorem dX7_judge_32 : decode cX7_judge 32 = .ok (.aload_n 2, 1) := by decide +kernel
theorem dX7_judge_33 : decode cX7_judge 33 = .ok (.getfield 227, 3) := by decide +kernel
theorem dX7_judge_36 : decode cX7_judge 36 = .ok (.invokevirtual 146, 3) := by decide +kernel
theorem dX7_judge_39 : decode cX7_judge 39 = .ok (.if_icmp .ge 28, 3) := by decide +kernel
theorem dX7_judge_42 : decode cX7_judge 42 = .ok (.aload_n 2, 1) := by decide +kernel
theorem dX7_judge_43 : decode cX7_judge 43 = .ok (.getfield 227, 3) := by decide +kernel
theorem dX7_judge_46 : decode cX7_judge 46 = .ok (.iload_n 3, 1) := by decide +kernel
theorem dX7_judge_47 : decode cX7_judge 47 = .ok (.invokevirtual 112, 3) := by decide +kernel
theorem dX7_judge_50 : decode cX7_judge 50 = .ok (.aload_n 0, 1) := by decide +kernel
theorem dX7_judge_51 : decode cX7_judge 51 = .ok (.getfield 30, 3) := by decide +kernel
theorem dX7_judge_54 : decode cX7_judge 54 = .ok (.iload_n 3, 1) := by decide +kernel
theorem dX7_judge_55 : decode cX7_judge 55 = .ok (.invokevirtual 208, 3) := by decide +kernel
theorem dX7_judge_58 : decode cX7_judge 58 = .ok (.if_icmp .ne 9, 3) := by decide +kernel
theorem dX7_judge_61 : decode cX7_judge 61 = .ok (.iinc 3 1, 3) := by decide +kernel
theorem dX7_judge_64 : decode cX7_judge 64 = .ok (.goto (-33), 3) := by decide +kernel
theorem dX7_judge_67 : decode cX7_judge 67 = .ok (.iload_n 3, 1) := by decide +kernel
theorem dX7_judge_68 : decode cX7_judge 68 = .ok (.ireturn, 1) := by decide +kernel
theorem dX7_image_0 : decode cX7_image 0 = .ok (.aload_n 0, 1) := by decide +kernel
theorem dX7_image_1 : decode cX7_image 1 = .ok (.getfield 16, 3) := by decide +kernel
theorem dX7_image_4 : decode cX7_image 4 = .ok (.aload_n 0, 1) := by decide +kernel
theorem dX7_image_5 : decode cX7_image 5 = .ok (.getfield 10, 3) := by decide +kernel
theorem dX7_image_8 : decode cX7_image 8 = .ok (.invokevirtual 272, 3) := by decide +kernel
theorem dX7_image_11 : decode cX7_image 11 = .ok (.aload_n 0, 1) := by decide +kernel
theorem dX7_image_12 : decode cX7_image 12 = .ok (.iconst 1, 1) := by decide +kernel
theorem dX7_image_13 : decode cX7_image 13 = .ok (.putfield 19, 3) := by decide +kernel
theorem dX7_image_16 : decode cX7_image 16 = .ok (.aload_n 0, 1) := by decide +kernel
theorem dX7_image_17 : decode cX7_image 17 = .ok (.dup, 1) := by decide +kernel
theorem dX7_image_18 : decode cX7_image 18 = .ok (.getfield 23, 3) := by decide +kernel
theorem dX7_image_21 : decode cX7_image 21 = .ok (.iconst 1, 1) := by decide +kernel
theorem dX7_image_22 : decode cX7_image 22 = .ok (.iadd, 1) := by decide +kernel
theorem dX7_image_23 : decode cX7_image 23 = .ok (.putfield 23, 3) := by decide +kernel
theorem dX7_image_26 : decode cX7_image 26 = .ok (.aload_n 0, 1) := by decide +kernel
theorem dX7_image_27 : decode cX7_image 27 = .ok (.getfield 23, 3) := by decide +kernel
theorem dX7_image_30 : decode cX7_image 30 = .ok (.ireturn, 1) := by decide +kernel
theorem dX7_restore_0 : decode cX7_restore 0 = .ok (.aload_n 0, 1) := by decide +kernel
theorem dX7_restore_1 : decode cX7_restore 1 = .ok (.getfield 19, 3) := by decide +kernel
theorem dX7_restore_4 : decode cX7_restore 4 = .ok (.ifCond .ne 9, 3) := by decide +kernel
theorem dX7_restore_7 : decode cX7_restore 7 = .ok (.aload_n 0, 1) := by decide +kernel
theorem dX7_restore_8 : decode cX7_restore 8 = .ok (.iconst 2, 1) := by decide +kernel
theorem dX7_restore_9 : decode cX7_restore 9 = .ok (.invokevirtual 82, 3) := by decide +kernel
theorem dX7_restore_12 : decode cX7_restore 12 = .ok (.ireturn, 1) := by decide +kernel
theorem dX7_restore_13 : decode cX7_restore 13 = .ok (.aload_n 0, 1) := by decide +kernel
theorem dX7_restore_14 : decode cX7_restore 14 = .ok (.getfield 10, 3) := by decide +kernel
theorem dX7_restore_17 : decode cX7_restore 17 = .ok (.aload_n 0, 1) := by decide +kernel
theorem dX7_restore_18 : decode cX7_restore 18 = .ok (.getfield 16, 3) := by decide +kernel
theorem dX7_restore_21 : decode cX7_restore 21 = .ok (.invokevirtual 272, 3) := by decide +kernel
theorem dX7_restore_24 : decode cX7_restore 24 = .ok (.aload_n 0, 1) := by decide +kernel
theorem dX7_restore_25 : decode cX7_restore 25 = .ok (.getfield 30, 3) := by decide +kernel
theorem dX7_restore_28 : decode cX7_restore 28 = .ok (.aload_n 0, 1) := by decide +kernel
theorem dX7_restore_29 : decode cX7_restore 29 = .ok (.getfield 10, 3) := by decide +kernel
theorem dX7_restore_32 : decode cX7_restore 32 = .ok (.getfield 72, 3) := by decide +kernel
theorem dX7_restore_35 : decode cX7_restore 35 = .ok (.invokevirtual 75, 3) := by decide +kernel
theorem dX7_restore_38 : decode cX7_restore 38 = .ok (.aload_n 0, 1) := by decide +kernel
theorem dX7_restore_39 : decode cX7_restore 39 = .ok (.getfield 10, 3) := by decide +kernel
theorem dX7_restore_42 : decode cX7_restore 42 = .ok (.getfield 187, 3) := by decide +kernel
theorem dX7_restore_45 : decode cX7_restore 45 = .ok (.ireturn, 1) := by decide +kernel
theorem dX7_tell_0 : decode cX7_tell 0 = .ok (.aload_n 0, 1) := by decide +kernel
theorem dX7_tell_1 : decode cX7_tell 1 = .ok (.getfield 10, 3) := by decide +kernel
theorem dX7_tell_4 : decode cX7_tell 4 = .ok (.getfield 275, 3) := by decide +kernel
theorem dX7_tell_7 : decode cX7_tell 7 = .ok (.invokevirtual 146, 3) := by decide +kernel
theorem dX7_tell_10 : decode cX7_tell 10 = .ok (.bipush 24, 2) := by decide +kernel
theorem dX7_tell_12 : decode cX7_tell 12 = .ok (.if_icmp .lt 9, 3) := by decide +kernel
theorem dX7_tell_15 : decode cX7_tell 15 = .ok (.aload_n 0, 1) := by decide +kernel
theorem dX7_tell_16 : decode cX7_tell 16 = .ok (.iconst 4, 1) := by decide +kernel
theorem dX7_tell_17 : decode cX7_tell 17 = .ok (.invokevirtual 82, 3) := by decide +kernel
theorem dX7_tell_20 : decode cX7_tell 20 = .ok (.ireturn, 1) := by decide +kernel
theorem dX7_tell_21 : decode cX7_tell 21 = .ok (.aload_n 0, 1) := by decide +kernel
theorem dX7_tell_22 : decode cX7_tell 22 = .ok (.getfield 10, 3) := by decide +kernel
theorem dX7_tell_25 : decode cX7_tell 25 = .ok (.getfield 275, 3) := by decide +kernel
theorem dX7_tell_28 : decode cX7_tell 28 = .ok (.iload_n 1, 1) := by decide +kernel
theorem dX7_tell_29 : decode cX7_tell 29 = .ok (.invokevirtual 93, 3) := by decide +kernel
theorem dX7_tell_32 : decode cX7_tell 32 = .ok (.aload_n 0, 1) := by decide +kernel
theorem dX7_tell_33 : decode cX7_tell 33 = .ok (.getfield 10, 3) := by decide +kernel
theorem dX7_tell_36 : decode cX7_tell 36 = .ok (.getfield 275, 3) := by decide +kernel
theorem dX7_tell_39 : decode cX7_tell 39 = .ok (.invokevirtual 146, 3) := by decide +kernel
theorem dX7_tell_42 : decode cX7_tell 42 = .ok (.ireturn, 1) := by decide +kernel
theorem dX7_check_0 : decode cX7_check 0 = .ok (.aload_n 0, 1) := by decide +kernel
theorem dX7_check_1 : decode cX7_check 1 = .ok (.getfield 10, 3) := by decide +kernel
theorem dX7_check_4 : decode cX7_check 4 = .ok (.getfield 275, 3) := by decide +kernel
theorem dX7_check_7 : decode cX7_check 7 = .ok (.invokevirtual 146, 3) := by decide +kernel
theorem dX7_check_10 : decode cX7_check 10 = .ok (.istore_n 1, 1) := by decide +kernel
theorem dX7_check_11 : decode cX7_check 11 = .ok (.iload_n 1, 1) := by decide +kernel
theorem dX7_check_12 : decode cX7_check 12 = .ok (.iconst 1, 1) := by decide +kernel
theorem dX7_check_13 : decode cX7_check 13 = .ok (.isub, 1) := by decide +kernel
theorem dX7_check_14 : decode cX7_check 14 = .ok (.istore_n 2, 1) := by decide +kernel
theorem dX7_check_15 : decode cX7_check 15 = .ok (.iload_n 2, 1) := by decide +kernel
theorem dX7_check_16 : decode cX7_check 16 = .ok (.ifCond .lt 44, 3) := by decide +kernel
theorem dX7_check_19 : decode cX7_check 19 = .ok (.aload_n 0, 1) := by decide +kernel
theorem dX7_check_20 : decode cX7_check 20 = .ok (.iload_n 2, 1) := by decide +kernel
theorem dX7_check_21 : decode cX7_check 21 = .ok (.invokevirtual 105, 3) := by decide +kernel
theorem dX7_check_24 : decode cX7_check 24 = .ok (.ifCond .eq 28, 3) := by decide +kernel
theorem dX7_check_27 : decode cX7_check 27 = .ok (.aload_n 0, 1) := by decide +kernel
theorem dX7_check_28 : decode cX7_check 28 = .ok (.getfield 10, 3) := by decide +kernel
theorem dX7_check_31 : decode cX7_check 31 = .ok (.getfield 102, 3) := by decide +kernel
theorem dX7_check_34 : decode cX7_check 34 = .ok (.iload_n 2, 1) := by decide +kernel
theorem dX7_check_35 : decode cX7_check 35 = .ok (.invokevirtual 112, 3) := by decide +kernel
theorem dX7_check_38 : decode cX7_check 38 = .ok (.aload_n 0, 1) := by decide +kernel
theorem dX7_check_39 : decode cX7_check 39 = .ok (.getfield 10, 3) := by decide +kernel
theorem dX7_check_42 : decode cX7_check 42 = .ok (.getfield 275, 3) := by decide +kernel
theorem dX7_check_45 : decode cX7_check 45 = .ok (.iload_n 2, 1) := by decide +kernel
theorem dX7_check_46 : decode cX7_check 46 = .ok (.invokevirtual 112, 3) := by decide +kernel
theorem dX7_check_49 : decode cX7_check 49 = .ok (.if_icmp .eq 5, 3) := by decide +kernel
theorem dX7_check_52 : decode cX7_check 52 = .ok (.iload_n 2, 1) := by decide +kernel
theorem dX7_check_53 : decode cX7_check 53 = .ok (.istore_n 1, 1) := by decide +kernel
theorem dX7_check_54 : decode cX7_check 54 = .ok (.iinc 2 (-1), 3) := by decide +kernel
theorem dX7_check_57 : decode cX7_check 57 = .ok (.goto (-42), 3) := by decide +kernel
theorem dX7_check_60 : decode cX7_check 60 = .ok (.iload_n 1, 1) := by decide +kernel
theorem dX7_check_61 : decode cX7_check 61 = .ok (.aload_n 0, 1) := by decide +kernel
theorem dX7_check_62 : decode cX7_check 62 = .ok (.getfield 10, 3) := by decide +kernel
theorem dX7_check_65 : decode cX7_check 65 = .ok (.getfield 275, 3) := by decide +kernel
theorem dX7_check_68 : decode cX7_check 68 = .ok (.invokevirtual 146, 3) := by decide +kernel
theorem dX7_check_71 : decode cX7_check 71 = .ok (.if_icmp .ge 9, 3) := by decide +kernel
theorem dX7_check_74 : decode cX7_check 74 = .ok (.iconst 1, 1) := by decide +kernel
theorem dX7_check_75 : decode cX7_check 75 = .ok (.iload_n 1, 1) := by decide +kernel
theorem dX7_check_76 : decode cX7_check 76 = .ok (.iadd, 1) := by decide +kernel
theorem dX7_check_77 : decode cX7_check 77 = .ok (.goto 4, 3) := by decide +kernel
theorem dX7_check_80 : decode cX7_check 80 = .ok (.iconst 0, 1) := by decide +kernel
theorem dX7_check_81 : decode cX7_check 81 = .ok (.istore_n 2, 1) := by decide +kernel
theorem dX7_check_82 : decode cX7_check 82 = .ok (.aload_n 0, 1) := by decide +kernel
theorem dX7_check_83 : decode cX7_check 83 = .ok (.getfield 10, 3) := by decide +kernel
theorem dX7_check_86 : decode cX7_check 86 = .ok (.getfield 275, 3) := by decide +kernel
theorem dX7_check_89 : decode cX7_check 89 = .ok (.invokevirtual 174, 3) := by decide +kernel
theorem dX7_check_92 : decode cX7_check 92 = .ok (.iload_n 2, 1) := by decide +kernel
theorem dX7_check_93 : decode cX7_check 93 = .ok (.ireturn, 1) := by decide +kernel
theorem dX7_count_0 : decode cX7_count 0 = .ok (.iload_n 1, 1) := by decide +kernel
theorem dX7_count_1 : decode cX7_count 1 = .ok (.tableswitch 135 0 8 #[51, 59, 70, 78, 86, 94, 105, 116, 127], 51) := by decide +kernel
theorem dX7_count_52 : decode cX7_count 52 = .ok (.aload_n 0, 1) := by decide +kernel
theorem dX7_count_53 : decode cX7_count 53 = .ok (.getfield 10, 3) := by decide +kernel
theorem dX7_count_56 : decode cX7_count 56 = .ok (.invokevirtual 86, 3) := by decide +kernel
theorem dX7_count_59 : decode cX7_count 59 = .ok (.ireturn, 1) := by decide +kernel
theorem dX7_count_60 : decode cX7_count 60 = .ok (.aload_n 0, 1) := by decide +kernel
theorem dX7_count_61 : decode cX7_count 61 = .ok (.getfield 10, 3) := by decide +kernel
theorem dX7_count_64 : decode cX7_count 64 = .ok (.getfield 72, 3) := by decide +kernel
theorem dX7_count_67 : decode cX7_count 67 = .ok (.invokevirtual 146, 3) := by decide +kernel
theorem dX7_count_70 : decode cX7_count 70 = .ok (.ireturn, 1) := by decide +kernel
theorem dX7_count_71 : decode cX7_count 71 = .ok (.aload_n 0, 1) := by decide +kernel
theorem dX7_count_72 : decode cX7_count 72 = .ok (.getfield 10, 3) := by decide +kernel
theorem dX7_count_75 : decode cX7_count 75 = .ok (.getfield 187, 3) := by decide +kernel
theorem dX7_count_78 : decode cX7_count 78 = .ok (.ireturn, 1) := by decide +kernel
theorem dX7_count_79 : decode cX7_count 79 = .ok (.aload_n 0, 1) := by decide +kernel
theorem dX7_count_80 : decode cX7_count 80 = .ok (.getfield 10, 3) := by decide +kernel
theorem dX7_count_83 : decode cX7_count 83 = .ok (.getfield 278, 3) := by decide +kernel
theorem dX7_count_86 : decode cX7_count 86 = .ok (.ireturn, 1) := by decide +kernel
theorem dX7_count_87 : decode cX7_count 87 = .ok (.aload_n 0, 1) := by decide +kernel
theorem dX7_count_88 : decode cX7_count 88 = .ok (.getfield 10, 3) := by decide +kernel
theorem dX7_count_91 : decode cX7_count 91 = .ok (.getfield 143, 3) := by decide +kernel
theorem dX7_count_94 : decode cX7_count 94 = .ok (.ireturn, 1) := by decide +kernel
theorem dX7_count_95 : decode cX7_count 95 = .ok (.aload_n 0, 1) := by decide +kernel
theorem dX7_count_96 : decode cX7_count 96 = .ok (.getfield 10, 3) := by decide +kernel
theorem dX7_count_99 : decode cX7_count 99 = .ok (.getfield 36, 3) := by decide +kernel
theorem dX7_count_102 : decode cX7_count 102 = .ok (.invokevirtual 146, 3) := by decide +kernel
theorem dX7_count_105 : decode cX7_count 105 = .ok (.ireturn, 1) := by decide +kernel
theorem dX7_count_106 : decode cX7_count 106 = .ok (.aload_n 0, 1) := by decide +kernel
theorem dX7_count_107 : decode cX7_count 107 = .ok (.getfield 10, 3) := by decide +kernel
theorem dX7_count_110 : decode cX7_count 110 = .ok (.getfield 275, 3) := by decide +kernel
theorem dX7_count_113 : decode cX7_count 113 = .ok (.invokevirtual 146, 3) := by decide +kernel
theorem dX7_count_116 : decode cX7_count 116 = .ok (.ireturn, 1) := by decide +kernel
theorem dX7_count_117 : decode cX7_count 117 = .ok (.aload_n 0, 1) := by decide +kernel
theorem dX7_count_118 : decode cX7_count 118 = .ok (.getfield 57, 3) := by decide +kernel
theorem dX7_count_121 : decode cX7_count 121 = .ok (.getfield 244, 3) := by decide +kernel
theorem dX7_count_124 : decode cX7_count 124 = .ok (.invokevirtual 146, 3) := by decide +kernel
theorem dX7_count_127 : decode cX7_count 127 = .ok (.ireturn, 1) := by decide +kernel
theorem dX7_count_128 : decode cX7_count 128 = .ok (.aload_n 0, 1) := by decide +kernel
theorem dX7_count_129 : decode cX7_count 129 = .ok (.getfield 10, 3) := by decide +kernel
theorem dX7_count_132 : decode cX7_count 132 = .ok (.getfield 193, 3) := by decide +kernel
theorem dX7_count_135 : decode cX7_count 135 = .ok (.ireturn, 1) := by decide +kernel
theorem dX7_count_136 : decode cX7_count 136 = .ok (.aload_n 0, 1) := by decide +kernel
theorem dX7_count_137 : decode cX7_count 137 = .ok (.iconst 1, 1) := by decide +kernel
theorem dX7_count_138 : decode cX7_count 138 = .ok (.invokevirtual 82, 3) := by decide +kernel
theorem dX7_count_141 : decode cX7_count 141 = .ok (.ireturn, 1) := by decide +kernel
theorem dX7_told_0 : decode cX7_told 0 = .ok (.iload_n 1, 1) := by decide +kernel
theorem dX7_told_1 : decode cX7_told 1 = .ok (.iconst 1, 1) := by decide +kernel
theorem dX7_told_2 : decode cX7_told 2 = .ok (.bipush 6, 2) := by decide +kernel
theorem dX7_told_4 : decode cX7_told 4 = .ok (.invokestatic 108, 3) := by decide +kernel
theorem dX7_told_7 : decode cX7_told 7 = .ok (.ifCond .eq 12, 3) := by decide +kernel
theorem dX7_told_10 : decode cX7_told 10 = .ok (.aload_n 0, 1) := by decide +kernel
theorem dX7_told_11 : decode cX7_told 11 = .ok (.getfield 67, 3) := by decide +kernel
theorem dX7_told_14 : decode cX7_told 14 = .ok (.iload_n 1, 1) := by decide +kernel
theorem dX7_told_15 : decode cX7_told 15 = .ok (.iaload, 1) := by decide +kernel
theorem dX7_told_16 : decode cX7_told 16 = .ok (.goto 8, 3) := by decide +kernel
theorem dX7_told_19 : decode cX7_told 19 = .ok (.aload_n 0, 1) := by decide +kernel
theorem dX7_told_20 : decode cX7_told 20 = .ok (.iconst 1, 1) := by decide +kernel
theorem dX7_told_21 : decode cX7_told 21 = .ok (.invokevirtual 82, 3) := by decide +kernel
theorem dX7_told_24 : decode cX7_told 24 = .ok (.ireturn, 1) := by decide +kernel
theorem dX7_error_0 : decode cX7_error 0 = .ok (.iload_n 1, 1) := by decide +kernel
theorem dX7_error_1 : decode cX7_error 1 = .ok (.iconst 1, 1) := by decide +kernel
theorem dX7_error_2 : decode cX7_error 2 = .ok (.bipush 6, 2) := by decide +kernel
theorem dX7_error_4 : decode cX7_error 4 = .ok (.invokestatic 108, 3) := by decide +kernel
theorem dX7_error_7 : decode cX7_error 7 = .ok (.ifCond .eq 13, 3) := by decide +kernel
theorem dX7_error_10 : decode cX7_error 10 = .ok (.aload_n 0, 1) := by decide +kernel
theorem dX7_error_11 : decode cX7_error 11 = .ok (.getfield 67, 3) := by decide +kernel
theorem dX7_error_14 : decode cX7_error 14 = .ok (.iload_n 1, 1) := by decide +kernel
theorem dX7_error_15 : decode cX7_error 15 = .ok (.dup2, 1) := by decide +kernel
theorem dX7_error_16 : decode cX7_error 16 = .ok (.iaload, 1) := by decide +kernel
theorem dX7_error_17 : decode cX7_error 17 = .ok (.iconst 1, 1) := by decide +kernel
theorem dX7_error_18 : decode cX7_error 18 = .ok (.iadd, 1) := by decide +kernel
theorem dX7_error_19 : decode cX7_error 19 = .ok (.iastore, 1) := by decide +kernel
theorem dX7_error_20 : decode cX7_error 20 = .ok (.ldc_w 281, 3) := by decide +kernel
theorem dX7_error_23 : decode cX7_error 23 = .ok (.iload_n 1, 1) := by decide +kernel
theorem dX7_error_24 : decode cX7_error 24 = .ok (.isub, 1) := by decide +kernel
theorem dX7_error_25 : decode cX7_error 25 = .ok (.ireturn, 1) := by decide +kernel
theorem dX7_within_0 : decode cX7_within 0 = .ok (.iload_n 0, 1) := by decide +kernel
theorem dX7_within_1 : decode cX7_within 1 = .ok (.iload_n 1, 1) := by decide +kernel
theorem dX7_within_2 : decode cX7_within 2 = .ok (.if_icmp .lt 12, 3) := by decide +kernel
theorem dX7_within_5 : decode cX7_within 5 = .ok (.iload_n 0, 1) := by decide +kernel
theorem dX7_within_6 : decode cX7_within 6 = .ok (.iload_n 2, 1) := by decide +kernel
theorem dX7_within_7 : decode cX7_within 7 = .ok (.if_icmp .gt 7, 3) := by decide +kernel
theorem dX7_within_10 : decode cX7_within 10 = .ok (.iconst 1, 1) := by decide +kernel
theorem dX7_within_11 : decode cX7_within 11 = .ok (.goto 4, 3) := by decide +kernel
theorem dX7_within_14 : decode cX7_within 14 = .ok (.iconst 0, 1) := by decide +kernel
theorem dX7_within_15 : decode cX7_within 15 = .ok (.ireturn, 1) := by decide +kernel
theorem dX7_held_0 : decode cX7_held 0 = .ok (.iload_n 1, 1) := by decide +kernel
theorem dX7_held_1 : decode cX7_held 1 = .ok (.iload_n 2, 1) := by decide +kernel
theorem dX7_held_2 : decode cX7_held 2 = .ok (.iload_n 0, 1) := by decide +kernel
theorem dX7_held_3 : decode cX7_held 3 = .ok (.invokestatic 282, 3) := by decide +kernel
theorem dX7_held_6 : decode cX7_held 6 = .ok (.invokestatic 287, 3) := by decide +kernel
theorem dX7_held_9 : decode cX7_held 9 = .ok (.ireturn, 1) := by decide +kernel
theorem dX7_isSaying_0 : decode cX7_isSaying 0 = .ok (.iload_n 0, 1) := by decide +kernel
theorem dX7_isSaying_1 : decode cX7_isSaying 1 = .ok (.iconst 0, 1) := by decide +kernel
theorem dX7_isSaying_2 : decode cX7_isSaying 2 = .ok (.bipush 63, 2) := by decide +kernel
theorem dX7_isSaying_4 : decode cX7_isSaying 4 = .ok (.invokestatic 108, 3) := by decide +kernel
theorem dX7_isSaying_7 : decode cX7_isSaying 7 = .ok (.ireturn, 1) := by decide +kernel
theorem dX7_isKindAndNumber_0 : decode cX7_isKindAndNumber 0 = .ok (.iload_n 0, 1) := by decide +kernel
theorem dX7_isKindAndNumber_1 : decode cX7_isKindAndNumber 1 = .ok (.iconst 0, 1) := by decide +kernel
theorem dX7_isKindAndNumber_2 : decode cX7_isKindAndNumber 2 = .ok (.bipush 69, 2) := by decide +kernel
theorem dX7_isKindAndNumber_4 : decode cX7_isKindAndNumber 4 = .ok (.invokestatic 108, 3) := by decide +kernel
theorem dX7_isKindAndNumber_7 : decode cX7_isKindAndNumber 7 = .ok (.ireturn, 1) := by decide +kernel
theorem dX7_isWidth_0 : decode cX7_isWidth 0 = .ok (.iload_n 0, 1) := by decide +kernel
theorem dX7_isWidth_1 : decode cX7_isWidth 1 = .ok (.ifCond .eq 21, 3) := by decide +kernel
theorem dX7_isWidth_4 : decode cX7_isWidth 4 = .ok (.iload_n 0, 1) := by decide +kernel
theorem dX7_isWidth_5 : decode cX7_isWidth 5 = .ok (.bipush 8, 2) := by decide +kernel
theorem dX7_isWidth_7 : decode cX7_isWidth 7 = .ok (.if_icmp .eq 15, 3) := by decide +kernel
theorem dX7_isWidth_10 : decode cX7_isWidth 10 = .ok (.iload_n 0, 1) := by decide +kernel
theorem dX7_isWidth_11 : decode cX7_isWidth 11 = .ok (.bipush 16, 2) := by decide +kernel
theorem dX7_isWidth_13 : decode cX7_isWidth 13 = .ok (.if_icmp .eq 9, 3) := by decide +kernel
theorem dX7_isWidth_16 : decode cX7_isWidth 16 = .ok (.iload_n 0, 1) := by decide +kernel
theorem dX7_isWidth_17 : decode cX7_isWidth 17 = .ok (.bipush 32, 2) := by decide +kernel
theorem dX7_isWidth_19 : decode cX7_isWidth 19 = .ok (.if_icmp .ne 7, 3) := by decide +kernel
theorem dX7_isWidth_22 : decode cX7_isWidth 22 = .ok (.iconst 1, 1) := by decide +kernel
theorem dX7_isWidth_23 : decode cX7_isWidth 23 = .ok (.goto 4, 3) := by decide +kernel
theorem dX7_isWidth_26 : decode cX7_isWidth 26 = .ok (.iconst 0, 1) := by decide +kernel
theorem dX7_isWidth_27 : decode cX7_isWidth 27 = .ok (.ireturn, 1) := by decide +kernel
theorem dX7_isBrother_0 : decode cX7_isBrother 0 = .ok (.aload_n 0, 1) := by decide +kernel
theorem dX7_isBrother_1 : decode cX7_isBrother 1 = .ok (.getfield 10, 3) := by decide +kernel
theorem dX7_isBrother_4 : decode cX7_isBrother 4 = .ok (.getfield 90, 3) := by decide +kernel
theorem dX7_isBrother_7 : decode cX7_isBrother 7 = .ok (.iload_n 1, 1) := by decide +kernel
theorem dX7_isBrother_8 : decode cX7_isBrother 8 = .ok (.invokevirtual 247, 3) := by decide +kernel
theorem dX7_isBrother_11 : decode cX7_isBrother 11 = .ok (.ireturn, 1) := by decide +kernel
theorem dX7_sheetOf_0 : decode cX7_sheetOf 0 = .ok (.iload_n 1, 1) := by decide +kernel
theorem dX7_sheetOf_1 : decode cX7_sheetOf 1 = .ok (.iconst 0, 1) := by decide +kernel
theorem dX7_sheetOf_2 : decode cX7_sheetOf 2 = .ok (.iconst 3, 1) := by decide +kernel
theorem dX7_sheetOf_3 : decode cX7_sheetOf 3 = .ok (.invokestatic 108, 3) := by decide +kernel
theorem dX7_sheetOf_6 : decode cX7_sheetOf 6 = .ok (.ifCond .eq 12, 3) := by decide +kernel
theorem dX7_sheetOf_9 : decode cX7_sheetOf 9 = .ok (.aload_n 0, 1) := by decide +kernel
theorem dX7_sheetOf_10 : decode cX7_sheetOf 10 = .ok (.getfield 63, 3) := by decide +kernel
theorem dX7_sheetOf_13 : decode cX7_sheetOf 13 = .ok (.iload_n 1, 1) := by decide +kernel
theorem dX7_sheetOf_14 : decode cX7_sheetOf 14 = .ok (.aaload, 1) := by decide +kernel
theorem dX7_sheetOf_15 : decode cX7_sheetOf 15 = .ok (.goto 4, 3) := by decide +kernel
theorem dX7_sheetOf_18 : decode cX7_sheetOf 18 = .ok (.aconst_null, 1) := by decide +kernel
theorem dX7_sheetOf_19 : decode cX7_sheetOf 19 = .ok (.areturn, 1) := by decide +kernel
theorem dX7_kindAbove_0 : decode cX7_kindAbove 0 = .ok (.iload_n 0, 1) := by decide +kernel
theorem dX7_kindAbove_1 : decode cX7_kindAbove 1 = .ok (.iconst 0, 1) := by decide +kernel
theorem dX7_kindAbove_2 : decode cX7_kindAbove 2 = .ok (.bipush 6, 2) := by decide +kernel
theorem dX7_kindAbove_4 : decode cX7_kindAbove 4 = .ok (.invokestatic 108, 3) := by decide +kernel
theorem dX7_kindAbove_7 : decode cX7_kindAbove 7 = .ok (.ifCond .eq 11, 3) := by decide +kernel
theorem dX7_kindAbove_10 : decode cX7_kindAbove 10 = .ok (.getstatic 290, 3) := by decide +kernel
theorem dX7_kindAbove_13 : decode cX7_kindAbove 13 = .ok (.iload_n 0, 1) := by decide +kernel
theorem dX7_kindAbove_14 : decode cX7_kindAbove 14 = .ok (.iaload, 1) := by decide +kernel
theorem dX7_kindAbove_15 : decode cX7_kindAbove 15 = .ok (.goto 4, 3) := by decide +kernel
theorem dX7_kindAbove_18 : decode cX7_kindAbove 18 = .ok (.iconst (-1), 1) := by decide +kernel
theorem dX7_kindAbove_19 : decode cX7_kindAbove 19 = .ok (.ireturn, 1) := by decide +kernel
theorem dX7_isUnder_0 : decode cX7_isUnder 0 = .ok (.iload_n 0, 1) := by decide +kernel
theorem dX7_isUnder_1 : decode cX7_isUnder 1 = .ok (.istore_n 2, 1) := by decide +kernel
theorem dX7_isUnder_2 : decode cX7_isUnder 2 = .ok (.iconst 0, 1) := by decide +kernel
theorem dX7_isUnder_3 : decode cX7_isUnder 3 = .ok (.istore_n 3, 1) := by decide +kernel
theorem dX7_isUnder_4 : decode cX7_isUnder 4 = .ok (.iload_n 3, 1) := by decide +kernel
theorem dX7_isUnder_5 : decode cX7_isUnder 5 = .ok (.bipush 7, 2) := by decide +kernel
theorem dX7_isUnder_7 : decode cX7_isUnder 7 = .ok (.if_icmp .ge 25, 3) := by decide +kernel
theorem dX7_isUnder_10 : decode cX7_isUnder 10 = .ok (.iload_n 2, 1) := by decide +kernel
theorem dX7_isUnder_11 : decode cX7_isUnder 11 = .ok (.ifCond .lt 21, 3) := by decide +kernel
theorem dX7_isUnder_14 : decode cX7_isUnder 14 = .ok (.iload_n 2, 1) := by decide +kernel
theorem dX7_isUnder_15 : decode cX7_isUnder 15 = .ok (.iload_n 1, 1) := by decide +kernel
theorem dX7_isUnder_16 : decode cX7_isUnder 16 = .ok (.if_icmp .ne 5, 3) := by decide +kernel
theorem dX7_isUnder_19 : decode cX7_isUnder 19 = .ok (.iconst 1, 1) := by decide +kernel
theorem dX7_isUnder_20 : decode cX7_isUnder 20 = .ok (.ireturn, 1) := by decide +kernel
theorem dX7_isUnder_21 : decode cX7_isUnder 21 = .ok (.iload_n 2, 1) := by decide +kernel
theorem dX7_isUnder_22 : decode cX7_isUnder 22 = .ok (.invokestatic 293, 3) := by decide +kernel
theorem dX7_isUnder_25 : decode cX7_isUnder 25 = .ok (.istore_n 2, 1) := by decide +kernel
theorem dX7_isUnder_26 : decode cX7_isUnder 26 = .ok (.iinc 3 1, 3) := by decide +kernel
theorem dX7_isUnder_29 : decode cX7_isUnder 29 = .ok (.goto (-25), 3) := by decide +kernel
theorem dX7_isUnder_32 : decode cX7_isUnder 32 = .ok (.iconst 0, 1) := by decide +kernel
theorem dX7_isUnder_33 : decode cX7_isUnder 33 = .ok (.ireturn, 1) := by decide +kernel
theorem dX7_commonDivisor_0 : decode cX7_commonDivisor 0 = .ok (.iload_n 0, 1) := by decide +kernel
theorem dX7_commonDivisor_1 : decode cX7_commonDivisor 1 = .ok (.istore_n 2, 1) := by decide +kernel
theorem dX7_commonDivisor_2 : decode cX7_commonDivisor 2 = .ok (.iload_n 1, 1) := by decide +kernel
theorem dX7_commonDivisor_3 : decode cX7_commonDivisor 3 = .ok (.istore_n 3, 1) := by decide +kernel
theorem dX7_commonDivisor_4 : decode cX7_commonDivisor 4 = .ok (.iconst 0, 1) := by decide +kernel
theorem dX7_commonDivisor_5 : decode cX7_commonDivisor 5 = .ok (.istore 4, 2) := by decide +kernel
theorem dX7_commonDivisor_7 : decode cX7_commonDivisor 7 = .ok (.iload 4, 2) := by decide +kernel
theorem dX7_commonDivisor_9 : decode cX7_commonDivisor 9 = .ok (.bipush 100, 2) := by decide +kernel
theorem dX7_commonDivisor_11 : decode cX7_commonDivisor 11 = .ok (.if_icmp .ge 23, 3) := by decide +kernel
theorem dX7_commonDivisor_14 : decode cX7_commonDivisor 14 = .ok (.iload_n 3, 1) := by decide +kernel
theorem dX7_commonDivisor_15 : decode cX7_commonDivisor 15 = .ok (.ifCond .eq 19, 3) := by decide +kernel
theorem dX7_commonDivisor_18 : decode cX7_commonDivisor 18 = .ok (.iload_n 2, 1) := by decide +kernel
theorem dX7_commonDivisor_19 : decode cX7_commonDivisor 19 = .ok (.iload_n 3, 1) := by decide +kernel
theorem dX7_commonDivisor_20 : decode cX7_commonDivisor 20 = .ok (.irem, 1) := by decide +kernel
theorem dX7_commonDivisor_21 : decode cX7_commonDivisor 21 = .ok (.istore 5, 2) := by decide +kernel
theorem dX7_commonDivisor_23 : decode cX7_commonDivisor 23 = .ok (.iload_n 3, 1) := by decide +kernel
theorem dX7_commonDivisor_24 : decode cX7_commonDivisor 24 = .ok (.istore_n 2, 1) := by decide +kernel
theorem dX7_commonDivisor_25 : decode cX7_commonDivisor 25 = .ok (.iload 5, 2) := by decide +kernel
theorem dX7_commonDivisor_27 : decode cX7_commonDivisor 27 = .ok (.istore_n 3, 1) := by decide +kernel
theorem dX7_commonDivisor_28 : decode cX7_commonDivisor 28 = .ok (.iinc 4 1, 3) := by decide +kernel
theorem dX7_commonDivisor_31 : decode cX7_commonDivisor 31 = .ok (.goto (-24), 3) := by decide +kernel
theorem dX7_commonDivisor_34 : decode cX7_commonDivisor 34 = .ok (.iload_n 2, 1) := by decide +kernel
theorem dX7_commonDivisor_35 : decode cX7_commonDivisor 35 = .ok (.ireturn, 1) := by decide +kernel
theorem dX7_shuns_0 : decode cX7_shuns 0 = .ok (.aload_n 0, 1) := by decide +kernel
theorem dX7_shuns_1 : decode cX7_shuns 1 = .ok (.getfield 10, 3) := by decide +kernel
theorem dX7_shuns_4 : decode cX7_shuns 4 = .ok (.getfield 99, 3) := by decide +kernel
theorem dX7_shuns_7 : decode cX7_shuns 7 = .ok (.iload_n 1, 1) := by decide +kernel
theorem dX7_shuns_8 : decode cX7_shuns 8 = .ok (.invokevirtual 112, 3) := by decide +kernel
theorem dX7_shuns_11 : decode cX7_shuns 11 = .ok (.istore_n 3, 1) := by decide +kernel
theorem dX7_shuns_12 : decode cX7_shuns 12 = .ok (.aload_n 0, 1) := by decide +kernel
theorem dX7_shuns_13 : decode cX7_shuns 13 = .ok (.getfield 30, 3) := by decide +kernel
theorem dX7_shuns_16 : decode cX7_shuns 16 = .ok (.iload_n 2, 1) := by decide +kernel
theorem dX7_shuns_17 : decode cX7_shuns 17 = .ok (.invokevirtual 208, 3) := by decide +kernel
theorem dX7_shuns_20 : decode cX7_shuns 20 = .ok (.istore 4, 2) := by decide +kernel
theorem dX7_shuns_22 : decode cX7_shuns 22 = .ok (.aload_n 0, 1) := by decide +kernel
theorem dX7_shuns_23 : decode cX7_shuns 23 = .ok (.getfield 30, 3) := by decide +kernel
theorem dX7_shuns_26 : decode cX7_shuns 26 = .ok (.invokevirtual 152, 3) := by decide +kernel
theorem dX7_shuns_29 : decode cX7_shuns 29 = .ok (.istore 5, 2) := by decide +kernel
theorem dX7_shuns_31 : decode cX7_shuns 31 = .ok (.aload_n 0, 1) := by decide +kernel
theorem dX7_shuns_32 : decode cX7_shuns 32 = .ok (.getfield 10, 3) := by decide +kernel
theorem dX7_shuns_35 : decode cX7_shuns 35 = .ok (.getfield 90, 3) := by decide +kernel
theorem dX7_shuns_38 : decode cX7_shuns 38 = .ok (.iload_n 1, 1) := by decide +kernel
theorem dX7_shuns_39 : decode cX7_shuns 39 = .ok (.invokevirtual 112, 3) := by decide +kernel
theorem dX7_shuns_42 : decode cX7_shuns 42 = .ok (.tableswitch 156 0 5 #[38, 56, 67, 82, 114, 134], 38) := by decide +kernel
theorem dX7_shuns_80 : decode cX7_shuns 80 = .ok (.bipush 10, 2) := by decide +kernel
theorem dX7_shuns_82 : decode cX7_shuns 82 = .ok (.iload 4, 2) := by decide +kernel
theorem dX7_shuns_84 : decode cX7_shuns 84 = .ok (.imul, 1) := by decide +kernel
theorem dX7_shuns_85 : decode cX7_shuns 85 = .ok (.iload_n 3, 1) := by decide +kernel
theorem dX7_shuns_86 : decode cX7_shuns 86 = .ok (.iload 5, 2) := by decide +kernel
theorem dX7_shuns_88 : decode cX7_shuns 88 = .ok (.imul, 1) := by decide +kernel
theorem dX7_shuns_89 : decode cX7_shuns 89 = .ok (.if_icmp .le 7, 3) := by decide +kernel
theorem dX7_shuns_92 : decode cX7_shuns 92 = .ok (.iconst 1, 1) := by decide +kernel
theorem dX7_shuns_93 : decode cX7_shuns 93 = .ok (.goto 4, 3) := by decide +kernel
theorem dX7_shuns_96 : decode cX7_shuns 96 = .ok (.iconst 0, 1) := by decide +kernel
theorem dX7_shuns_97 : decode cX7_shuns 97 = .ok (.ireturn, 1) := by decide +kernel
theorem dX7_shuns_98 : decode cX7_shuns 98 = .ok (.iload 4, 2) := by decide +kernel
theorem dX7_shuns_100 : decode cX7_shuns 100 = .ok (.ifCond .le 7, 3) := by decide +kernel
theorem dX7_shuns_103 : decode cX7_shuns 103 = .ok (.iconst 1, 1) := by decide +kernel
theorem dX7_shuns_104 : decode cX7_shuns 104 = .ok (.goto 4, 3) := by decide +kernel
theorem dX7_shuns_107 : decode cX7_shuns 107 = .ok (.iconst 0, 1) := by decide +kernel
theorem dX7_shuns_108 : decode cX7_shuns 108 = .ok (.ireturn, 1) := by decide +kernel
theorem dX7_shuns_109 : decode cX7_shuns 109 = .ok (.iconst 2, 1) := by decide +kernel
theorem dX7_shuns_110 : decode cX7_shuns 110 = .ok (.iload 4, 2) := by decide +kernel
theorem dX7_shuns_112 : decode cX7_shuns 112 = .ok (.imul, 1) := by decide +kernel
theorem dX7_shuns_113 : decode cX7_shuns 113 = .ok (.iload 5, 2) := by decide +kernel
theorem dX7_shuns_115 : decode cX7_shuns 115 = .ok (.if_icmp .le 7, 3) := by decide +kernel
theorem dX7_shuns_118 : decode cX7_shuns 118 = .ok (.iconst 1, 1) := by decide +kernel
theorem dX7_shuns_119 : decode cX7_shuns 119 = .ok (.goto 4, 3) := by decide +kernel
theorem dX7_shuns_122 : decode cX7_shuns 122 = .ok (.iconst 0, 1) := by decide +kernel
theorem dX7_shuns_123 : decode cX7_shuns 123 = .ok (.ireturn, 1) := by decide +kernel
theorem dX7_shuns_124 : decode cX7_shuns 124 = .ok (.bipush 10, 2) := by decide +kernel
theorem dX7_shuns_126 : decode cX7_shuns 126 = .ok (.iload 4, 2) := by decide +kernel
theorem dX7_shuns_128 : decode cX7_shuns 128 = .ok (.imul, 1) := by decide +kernel
theorem dX7_shuns_129 : decode cX7_shuns 129 = .ok (.iload_n 3, 1) := by decide +kernel
theorem dX7_shuns_130 : decode cX7_shuns 130 = .ok (.iload 5, 2) := by decide +kernel
theorem dX7_shuns_132 : decode cX7_shuns 132 = .ok (.imul, 1) := by decide +kernel
theorem dX7_shuns_133 : decode cX7_shuns 133 = .ok (.if_icmp .le 21, 3) := by decide +kernel
theorem dX7_shuns_136 : decode cX7_shuns 136 = .ok (.aload_n 0, 1) := by decide +kernel
theorem dX7_shuns_137 : decode cX7_shuns 137 = .ok (.getfield 10, 3) := by decide +kernel
theorem dX7_shuns_140 : decode cX7_shuns 140 = .ok (.getfield 187, 3) := by decide +kernel
theorem dX7_shuns_143 : decode cX7_shuns 143 = .ok (.bipush 7, 2) := by decide +kernel
theorem dX7_shuns_145 : decode cX7_shuns 145 = .ok (.irem, 1) := by decide +kernel
theorem dX7_shuns_146 : decode cX7_shuns 146 = .ok (.iconst 2, 1) := by decide +kernel
theorem dX7_shuns_147 : decode cX7_shuns 147 = .ok (.if_icmp .ne 7, 3) := by decide +kernel
theorem dX7_shuns_150 : decode cX7_shuns 150 = .ok (.iconst 1, 1) := by decide +kernel
theorem dX7_shuns_151 : decode cX7_shuns 151 = .ok (.goto 4, 3) := by decide +kernel
theorem dX7_shuns_154 : decode cX7_shuns 154 = .ok (.iconst 0, 1) := by decide +kernel
theorem dX7_shuns_155 : decode cX7_shuns 155 = .ok (.ireturn, 1) := by decide +kernel
theorem dX7_shuns_156 : decode cX7_shuns 156 = .ok (.iload 4, 2) := by decide +kernel
theorem dX7_shuns_158 : decode cX7_shuns 158 = .ok (.ifCond .gt 12, 3) := by decide +kernel
theorem dX7_shuns_161 : decode cX7_shuns 161 = .ok (.iload_n 2, 1) := by decide +kernel
theorem dX7_shuns_162 : decode cX7_shuns 162 = .ok (.iconst 2, 1) := by decide +kernel
theorem dX7_shuns_163 : decode cX7_shuns 163 = .ok (.irem, 1) := by decide +kernel
theorem dX7_shuns_164 : decode cX7_shuns 164 = .ok (.iload_n 3, 1) := by decide +kernel
theorem dX7_shuns_165 : decode cX7_shuns 165 = .ok (.iconst 2, 1) := by decide +kernel
theorem dX7_shuns_166 : decode cX7_shuns 166 = .ok (.irem, 1) := by decide +kernel
theorem dX7_shuns_167 : decode cX7_shuns 167 = .ok (.if_icmp .ne 7, 3) := by decide +kernel
theorem dX7_shuns_170 : decode cX7_shuns 170 = .ok (.iconst 1, 1) := by decide +kernel
theorem dX7_shuns_171 : decode cX7_shuns 171 = .ok (.goto 4, 3) := by decide +kernel
theorem dX7_shuns_174 : decode cX7_shuns 174 = .ok (.iconst 0, 1) := by decide +kernel
theorem dX7_shuns_175 : decode cX7_shuns 175 = .ok (.ireturn, 1) := by decide +kernel
theorem dX7_shuns_176 : decode cX7_shuns 176 = .ok (.iconst 2, 1) := by decide +kernel
theorem dX7_shuns_177 : decode cX7_shuns 177 = .ok (.iload 4, 2) := by decide +kernel
theorem dX7_shuns_179 : decode cX7_shuns 179 = .ok (.imul, 1) := by decide +kernel
theorem dX7_shuns_180 : decode cX7_shuns 180 = .ok (.iload 5, 2) := by decide +kernel
theorem dX7_shuns_182 : decode cX7_shuns 182 = .ok (.if_icmp .le 14, 3) := by decide +kernel
theorem dX7_shuns_185 : decode cX7_shuns 185 = .ok (.iload 4, 2) := by decide +kernel
theorem dX7_shuns_187 : decode cX7_shuns 187 = .ok (.iload 5, 2) := by decide +kernel
theorem dX7_shuns_189 : decode cX7_shuns 189 = .ok (.if_icmp .ne 7, 3) := by decide +kernel
theorem dX7_shuns_192 : decode cX7_shuns 192 = .ok (.iconst 1, 1) := by decide +kernel
theorem dX7_shuns_193 : decode cX7_shuns 193 = .ok (.goto 4, 3) := by decide +kernel
theorem dX7_shuns_196 : decode cX7_shuns 196 = .ok (.iconst 0, 1) := by decide +kernel
theorem dX7_shuns_197 : decode cX7_shuns 197 = .ok (.ireturn, 1) := by decide +kernel
theorem dX7_shuns_198 : decode cX7_shuns 198 = .ok (.iload_n 2, 1) := by decide +kernel
theorem dX7_shuns_199 : decode cX7_shuns 199 = .ok (.iload_n 3, 1) := by decide +kernel
theorem dX7_shuns_200 : decode cX7_shuns 200 = .ok (.if_icmp .ne 7, 3) := by decide +kernel
theorem dX7_shuns_203 : decode cX7_shuns 203 = .ok (.iconst 1, 1) := by decide +kernel
theorem dX7_shuns_204 : decode cX7_shuns 204 = .ok (.goto 4, 3) := by decide +kernel
theorem dX7_shuns_207 : decode cX7_shuns 207 = .ok (.iconst 0, 1) := by decide +kernel
theorem dX7_shuns_208 : decode cX7_shuns 208 = .ok (.ireturn, 1) := by decide +kernel
theorem dX7_tells_0 : decode cX7_tells 0 = .ok (.iload_n 2, 1) := by decide +kernel
theorem dX7_tells_1 : decode cX7_tells 1 = .ok (.invokestatic 296, 3) := by decide +kernel
theorem dX7_tells_4 : decode cX7_tells 4 = .ok (.aload_n 0, 1) := by decide +kernel
theorem dX7_tells_5 : decode cX7_tells 5 = .ok (.getfield 10, 3) := by decide +kernel
theorem dX7_tells_8 : decode cX7_tells 8 = .ok (.getfield 99, 3) := by decide +kernel
theorem dX7_tells_11 : decode cX7_tells 11 = .ok (.iload_n 1, 1) := by decide +kernel
theorem dX7_tells_12 : decode cX7_tells 12 = .ok (.invokevirtual 112, 3) := by decide +kernel
theorem dX7_tells_15 : decode cX7_tells 15 = .ok (.iadd, 1) := by decide +kernel
theorem dX7_tells_16 : decode cX7_tells 16 = .ok (.istore_n 3, 1) := by decide +kernel
theorem dX7_tells_17 : decode cX7_tells 17 = .ok (.aload_n 0, 1) := by decide +kernel
theorem dX7_tells_18 : decode cX7_tells 18 = .ok (.getfield 10, 3) := by decide +kernel
theorem dX7_tells_21 : decode cX7_tells 21 = .ok (.getfield 90, 3) := by decide +kernel
theorem dX7_tells_24 : decode cX7_tells 24 = .ok (.iload_n 1, 1) := by decide +kernel
theorem dX7_tells_25 : decode cX7_tells 25 = .ok (.invokevirtual 112, 3) := by decide +kernel
theorem dX7_tells_28 : decode cX7_tells 28 = .ok (.tableswitch 62 0 5 #[40, 42, 46, 40, 52, 54], 40) := by decide +kernel
theorem dX7_tells_68 : decode cX7_tells 68 = .ok (.iload_n 3, 1) := by decide +kernel
theorem dX7_tells_69 : decode cX7_tells 69 = .ok (.ireturn, 1) := by decide +kernel
theorem dX7_tells_70 : decode cX7_tells 70 = .ok (.iload_n 3, 1) := by decide +kernel
theorem dX7_tells_71 : decode cX7_tells 71 = .ok (.iconst 2, 1) := by decide +kernel
theorem dX7_tells_72 : decode cX7_tells 72 = .ok (.idiv, 1) := by decide +kernel
theorem dX7_tells_73 : decode cX7_tells 73 = .ok (.ireturn, 1) := by decide +kernel
theorem dX7_tells_74 : decode cX7_tells 74 = .ok (.iload_n 3, 1) := by decide +kernel
theorem dX7_tells_75 : decode cX7_tells 75 = .ok (.iload_n 2, 1) := by decide +kernel
theorem dX7_tells_76 : decode cX7_tells 76 = .ok (.iconst 5, 1) := by decide +kernel
theorem dX7_tells_77 : decode cX7_tells 77 = .ok (.irem, 1) := by decide +kernel
theorem dX7_tells_78 : decode cX7_tells 78 = .ok (.iadd, 1) := by decide +kernel
theorem dX7_tells_79 : decode cX7_tells 79 = .ok (.ireturn, 1) := by decide +kernel
theorem dX7_tells_80 : decode cX7_tells 80 = .ok (.iconst 0, 1) := by decide +kernel
theorem dX7_tells_81 : decode cX7_tells 81 = .ok (.ireturn, 1) := by decide +kernel
theorem dX7_tells_82 : decode cX7_tells 82 = .ok (.iload_n 3, 1) := by decide +kernel
theorem dX7_tells_83 : decode cX7_tells 83 = .ok (.iload_n 2, 1) := by decide +kernel
theorem dX7_tells_84 : decode cX7_tells 84 = .ok (.iconst 5, 1) := by decide +kernel
theorem dX7_tells_85 : decode cX7_tells 85 = .ok (.irem, 1) := by decide +kernel
theorem dX7_tells_86 : decode cX7_tells 86 = .ok (.iadd, 1) := by decide +kernel
theorem dX7_tells_87 : decode cX7_tells 87 = .ok (.iconst 1, 1) := by decide +kernel
theorem dX7_tells_88 : decode cX7_tells 88 = .ok (.isub, 1) := by decide +kernel
theorem dX7_tells_89 : decode cX7_tells 89 = .ok (.ireturn, 1) := by decide +kernel
theorem dX7_tells_90 : decode cX7_tells 90 = .ok (.iload_n 3, 1) := by decide +kernel
theorem dX7_tells_91 : decode cX7_tells 91 = .ok (.aload_n 0, 1) := by decide +kernel
theorem dX7_tells_92 : decode cX7_tells 92 = .ok (.getfield 10, 3) := by decide +kernel
theorem dX7_tells_95 : decode cX7_tells 95 = .ok (.getfield 187, 3) := by decide +kernel
theorem dX7_tells_98 : decode cX7_tells 98 = .ok (.iconst 3, 1) := by decide +kernel
theorem dX7_tells_99 : decode cX7_tells 99 = .ok (.irem, 1) := by decide +kernel
theorem dX7_tells_100 : decode cX7_tells 100 = .ok (.iadd, 1) := by decide +kernel
theorem dX7_tells_101 : decode cX7_tells 101 = .ok (.ireturn, 1) := by decide +kernel
theorem dX7_isAvoided_0 : decode cX7_isAvoided 0 = .ok (.aload_n 0, 1) := by decide +kernel
theorem dX7_isAvoided_1 : decode cX7_isAvoided 1 = .ok (.iconst 0, 1) := by decide +kernel
theorem dX7_isAvoided_2 : decode cX7_isAvoided 2 = .ok (.aload_n 0, 1) := by decide +kernel
theorem dX7_isAvoided_3 : decode cX7_isAvoided 3 = .ok (.iload_n 1, 1) := by decide +kernel
theorem dX7_isAvoided_4 : decode cX7_isAvoided 4 = .ok (.iload_n 2, 1) := by decide +kernel
theorem dX7_isAvoided_5 : decode cX7_isAvoided 5 = .ok (.invokevirtual 300, 3) := by decide +kernel
theorem dX7_isAvoided_8 : decode cX7_isAvoided 8 = .ok (.ifCond .eq 7, 3) := by decide +kernel
theorem dX7_isAvoided_11 : decode cX7_isAvoided 11 = .ok (.iconst 1, 1) := by decide +kernel
theorem dX7_isAvoided_12 : decode cX7_isAvoided 12 = .ok (.goto 4, 3) := by decide +kernel
theorem dX7_isAvoided_15 : decode cX7_isAvoided 15 = .ok (.iconst 0, 1) := by decide +kernel
theorem dX7_isAvoided_16 : decode cX7_isAvoided 16 = .ok (.aload_n 0, 1) := by decide +kernel
theorem dX7_isAvoided_17 : decode cX7_isAvoided 17 = .ok (.getfield 30, 3) := by decide +kernel
theorem dX7_isAvoided_20 : decode cX7_isAvoided 20 = .ok (.iload_n 2, 1) := by decide +kernel
theorem dX7_isAvoided_21 : decode cX7_isAvoided 21 = .ok (.invokevirtual 208, 3) := by decide +kernel
theorem dX7_isAvoided_24 : decode cX7_isAvoided 24 = .ok (.aload_n 0, 1) := by decide +kernel
theorem dX7_isAvoided_25 : decode cX7_isAvoided 25 = .ok (.getfield 30, 3) := by decide +kernel
theorem dX7_isAvoided_28 : decode cX7_isAvoided 28 = .ok (.invokevirtual 152, 3) := by decide +kernel
theorem dX7_isAvoided_31 : decode cX7_isAvoided 31 = .ok (.invokevirtual 183, 3) := by decide +kernel
theorem dX7_isAvoided_34 : decode cX7_isAvoided 34 = .ok (.iconst 1, 1) := by decide +kernel
theorem dX7_isAvoided_35 : decode cX7_isAvoided 35 = .ok (.if_icmp .ne 7, 3) := by decide +kernel
theorem dX7_isAvoided_38 : decode cX7_isAvoided 38 = .ok (.iconst 1, 1) := by decide +kernel
theorem dX7_isAvoided_39 : decode cX7_isAvoided 39 = .ok (.goto 4, 3) := by decide +kernel
theorem dX7_isAvoided_42 : decode cX7_isAvoided 42 = .ok (.iconst 0, 1) := by decide +kernel
theorem dX7_isAvoided_43 : decode cX7_isAvoided 43 = .ok (.ireturn, 1) := by decide +kernel
theorem dX7_talkOf_0 : decode cX7_talkOf 0 = .ok (.aload_n 0, 1) := by decide +kernel
theorem dX7_talkOf_1 : decode cX7_talkOf 1 = .ok (.iconst 1, 1) := by decide +kernel
theorem dX7_talkOf_2 : decode cX7_talkOf 2 = .ok (.aload_n 0, 1) := by decide +kernel
theorem dX7_talkOf_3 : decode cX7_talkOf 3 = .ok (.iload_n 1, 1) := by decide +kernel
theorem dX7_talkOf_4 : decode cX7_talkOf 4 = .ok (.iload_n 2, 1) := by decide +kernel
theorem dX7_talkOf_5 : decode cX7_talkOf 5 = .ok (.invokevirtual 303, 3) := by decide +kernel
theorem dX7_talkOf_8 : decode cX7_talkOf 8 = .ok (.iload_n 2, 1) := by decide +kernel
theorem dX7_talkOf_9 : decode cX7_talkOf 9 = .ok (.aload_n 0, 1) := by decide +kernel
theorem dX7_talkOf_10 : decode cX7_talkOf 10 = .ok (.getfield 10, 3) := by decide +kernel
theorem dX7_talkOf_13 : decode cX7_talkOf 13 = .ok (.getfield 187, 3) := by decide +kernel
theorem dX7_talkOf_16 : decode cX7_talkOf 16 = .ok (.bipush 7, 2) := by decide +kernel
theorem dX7_talkOf_18 : decode cX7_talkOf 18 = .ok (.irem, 1) := by decide +kernel
theorem dX7_talkOf_19 : decode cX7_talkOf 19 = .ok (.invokevirtual 183, 3) := by decide +kernel
theorem dX7_talkOf_22 : decode cX7_talkOf 22 = .ok (.ireturn, 1) := by decide +kernel
theorem dX7_given_0 : decode cX7_given 0 = .ok (.aload_n 0, 1) := by decide +kernel
theorem dX7_given_1 : decode cX7_given 1 = .ok (.getfield 10, 3) := by decide +kernel
theorem dX7_given_4 : decode cX7_given 4 = .ok (.iload_n 1, 1) := by decide +kernel
theorem dX7_given_5 : decode cX7_given 5 = .ok (.invokevirtual 162, 3) := by decide +kernel
theorem dX7_given_8 : decode cX7_given 8 = .ok (.astore 5, 2) := by decide +kernel
theorem dX7_given_10 : decode cX7_given 10 = .ok (.aload 5, 2) := by decide +kernel
theorem dX7_given_12 : decode cX7_given 12 = .ok (.ifnull 11, 3) := by decide +kernel
theorem dX7_given_15 : decode cX7_given 15 = .ok (.aload 5, 2) := by decide +kernel
theorem dX7_given_17 : decode cX7_given 17 = .ok (.invokevirtual 146, 3) := by decide +kernel
theorem dX7_given_20 : decode cX7_given 20 = .ok (.ifCond .ne 7, 3) := by decide +kernel
theorem dX7_given_23 : decode cX7_given 23 = .ok (.iload_n 2, 1) := by decide +kernel
theorem dX7_given_24 : decode cX7_given 24 = .ok (.goto 16, 3) := by decide +kernel
theorem dX7_given_27 : decode cX7_given 27 = .ok (.aload_n 0, 1) := by decide +kernel
theorem dX7_given_28 : decode cX7_given 28 = .ok (.getfield 50, 3) := by decide +kernel
theorem dX7_given_31 : decode cX7_given 31 = .ok (.aload 5, 2) := by decide +kernel
theorem dX7_given_33 : decode cX7_given 33 = .ok (.iload_n 2, 1) := by decide +kernel
theorem dX7_given_34 : decode cX7_given 34 = .ok (.iload_n 3, 1) := by decide +kernel
theorem dX7_given_35 : decode cX7_given 35 = .ok (.iload 4, 2) := by decide +kernel
theorem dX7_given_37 : decode cX7_given 37 = .ok (.invokevirtual 306, 3) := by decide +kernel
theorem dX7_given_40 : decode cX7_given 40 = .ok (.istore 6, 2) := by decide +kernel
theorem dX7_given_42 : decode cX7_given 42 = .ok (.iload 6, 2) := by decide +kernel
theorem dX7_given_44 : decode cX7_given 44 = .ok (.iconst 0, 1) := by decide +kernel
theorem dX7_given_45 : decode cX7_given 45 = .ok (.iload_n 1, 1) := by decide +kernel
theorem dX7_given_46 : decode cX7_given 46 = .ok (.ifCond .ne 7, 3) := by decide +kernel
theorem dX7_given_49 : decode cX7_given 49 = .ok (.iconst 1, 1) := by decide +kernel
theorem dX7_given_50 : decode cX7_given 50 = .ok (.goto 5, 3) := by decide +kernel
theorem dX7_given_53 : decode cX7_given 53 = .ok (.bipush 99, 2) := by decide +kernel
theorem dX7_given_55 : decode cX7_given 55 = .ok (.invokestatic 310, 3) := by decide +kernel
theorem dX7_given_58 : decode cX7_given 58 = .ok (.ireturn, 1) := by decide +kernel
theorem dX7_avoided_0 : decode cX7_avoided 0 = .ok (.lconst 0, 1) := by decide +kernel
theorem dX7_avoided_1 : decode cX7_avoided 1 = .ok (.lstore_n 2, 1) := by decide +kernel
theorem dX7_avoided_2 : decode cX7_avoided 2 = .ok (.iconst 0, 1) := by decide +kernel
theorem dX7_avoided_3 : decode cX7_avoided 3 = .ok (.istore 4, 2) := by decide +kernel
theorem dX7_avoided_5 : decode cX7_avoided 5 = .ok (.iload 4, 2) := by decide +kernel
theorem dX7_avoided_7 : decode cX7_avoided 7 = .ok (.bipush 64, 2) := by decide +kernel
theorem dX7_avoided_9 : decode cX7_avoided 9 = .ok (.if_icmp .ge 26, 3) := by decide +kernel
theorem dX7_avoided_12 : decode cX7_avoided 12 = .ok (.aload_n 0, 1) := by decide +kernel
theorem dX7_avoided_13 : decode cX7_avoided 13 = .ok (.iload_n 1, 1) := by decide +kernel
theorem dX7_avoided_14 : decode cX7_avoided 14 = .ok (.iload 4, 2) := by decide +kernel
theorem dX7_avoided_16 : decode cX7_avoided 16 = .ok (.invokevirtual 136, 3) := by decide +kernel
theorem dX7_avoided_19 : decode cX7_avoided 19 = .ok (.ifCond .eq 10, 3) := by decide +kernel
theorem dX7_avoided_22 : decode cX7_avoided 22 = .ok (.lload_n 2, 1) := by decide +kernel
theorem dX7_avoided_23 : decode cX7_avoided 23 = .ok (.lconst 1, 1) := by decide +kernel
theorem dX7_avoided_24 : decode cX7_avoided 24 = .ok (.iload 4, 2) := by decide +kernel
theorem dX7_avoided_26 : decode cX7_avoided 26 = .ok (.lshl, 1) := by decide +kernel
theorem dX7_avoided_27 : decode cX7_avoided 27 = .ok (.lor, 1) := by decide +kernel
theorem dX7_avoided_28 : decode cX7_avoided 28 = .ok (.lstore_n 2, 1) := by decide +kernel
theorem dX7_avoided_29 : decode cX7_avoided 29 = .ok (.iinc 4 1, 3) := by decide +kernel
theorem dX7_avoided_32 : decode cX7_avoided 32 = .ok (.goto (-27), 3) := by decide +kernel
theorem dX7_avoided_35 : decode cX7_avoided 35 = .ok (.lload_n 2, 1) := by decide +kernel
theorem dX7_avoided_36 : decode cX7_avoided 36 = .ok (.lreturn, 1) := by decide +kernel
theorem dX7_freedom_0 : decode cX7_freedom 0 = .ok (.iconst 0, 1) := by decide +kernel
theorem dX7_freedom_1 : decode cX7_freedom 1 = .ok (.istore_n 2, 1) := by decide +kernel
theorem dX7_freedom_2 : decode cX7_freedom 2 = .ok (.iconst 0, 1) := by decide +kernel
theorem dX7_freedom_3 : decode cX7_freedom 3 = .ok (.istore_n 3, 1) := by decide +kernel
theorem dX7_freedom_4 : decode cX7_freedom 4 = .ok (.iload_n 3, 1) := by decide +kernel
theorem dX7_freedom_5 : decode cX7_freedom 5 = .ok (.bipush 64, 2) := by decide +kernel
theorem dX7_freedom_7 : decode cX7_freedom 7 = .ok (.if_icmp .ge 38, 3) := by decide +kernel
theorem dX7_freedom_10 : decode cX7_freedom 10 = .ok (.aload_n 0, 1) := by decide +kernel
theorem dX7_freedom_11 : decode cX7_freedom 11 = .ok (.getfield 30, 3) := by decide +kernel
theorem dX7_freedom_14 : decode cX7_freedom 14 = .ok (.iload_n 3, 1) := by decide +kernel
theorem dX7_freedom_15 : decode cX7_freedom 15 = .ok (.invokevirtual 208, 3) := by decide +kernel
theorem dX7_freedom_18 : decode cX7_freedom 18 = .ok (.ifCond .ne 21, 3) := by decide +kernel
theorem dX7_freedom_21 : decode cX7_freedom 21 = .ok (.aload_n 0, 1) := by decide +kernel
theorem dX7_freedom_22 : decode cX7_freedom 22 = .ok (.iload_n 1, 1) := by decide +kernel
theorem dX7_freedom_23 : decode cX7_freedom 23 = .ok (.iload_n 3, 1) := by decide +kernel
theorem dX7_freedom_24 : decode cX7_freedom 24 = .ok (.invokevirtual 136, 3) := by decide +kernel
theorem dX7_freedom_27 : decode cX7_freedom 27 = .ok (.ifCond .ne 12, 3) := by decide +kernel
theorem dX7_freedom_30 : decode cX7_freedom 30 = .ok (.iload_n 2, 1) := by decide +kernel
theorem dX7_freedom_31 : decode cX7_freedom 31 = .ok (.aload_n 0, 1) := by decide +kernel
theorem dX7_freedom_32 : decode cX7_freedom 32 = .ok (.iload_n 1, 1) := by decide +kernel
theorem dX7_freedom_33 : decode cX7_freedom 33 = .ok (.iload_n 3, 1) := by decide +kernel
theorem dX7_freedom_34 : decode cX7_freedom 34 = .ok (.invokevirtual 139, 3) := by decide +kernel
theorem dX7_freedom_37 : decode cX7_freedom 37 = .ok (.iadd, 1) := by decide +kernel
theorem dX7_freedom_38 : decode cX7_freedom 38 = .ok (.istore_n 2, 1) := by decide +kernel
theorem dX7_freedom_39 : decode cX7_freedom 39 = .ok (.iinc 3 1, 3) := by decide +kernel
theorem dX7_freedom_42 : decode cX7_freedom 42 = .ok (.goto (-38), 3) := by decide +kernel
theorem dX7_freedom_45 : decode cX7_freedom 45 = .ok (.iload_n 2, 1) := by decide +kernel
theorem dX7_freedom_46 : decode cX7_freedom 46 = .ok (.ireturn, 1) := by decide +kernel
theorem dX7_lesserPart_0 : decode cX7_lesserPart 0 = .ok (.aload_n 0, 1) := by decide +kernel
theorem dX7_lesserPart_1 : decode cX7_lesserPart 1 = .ok (.getfield 30, 3) := by decide +kernel
theorem dX7_lesserPart_4 : decode cX7_lesserPart 4 = .ok (.iload_n 1, 1) := by decide +kernel
theorem dX7_lesserPart_5 : decode cX7_lesserPart 5 = .ok (.invokevirtual 208, 3) := by decide +kernel
theorem dX7_lesserPart_8 : decode cX7_lesserPart 8 = .ok (.istore_n 2, 1) := by decide +kernel
theorem dX7_lesserPart_9 : decode cX7_lesserPart 9 = .ok (.iload_n 2, 1) := by decide +kernel
theorem dX7_lesserPart_10 : decode cX7_lesserPart 10 = .ok (.aload_n 0, 1) := by decide +kernel
theorem dX7_lesserPart_11 : decode cX7_lesserPart 11 = .ok (.getfield 30, 3) := by decide +kernel
theorem dX7_lesserPart_14 : decode cX7_lesserPart 14 = .ok (.invokevirtual 152, 3) := by decide +kernel
theorem dX7_lesserPart_17 : decode cX7_lesserPart 17 = .ok (.iload_n 2, 1) := by decide +kernel
theorem dX7_lesserPart_18 : decode cX7_lesserPart 18 = .ok (.isub, 1) := by decide +kernel
theorem dX7_lesserPart_19 : decode cX7_lesserPart 19 = .ok (.invokestatic 282, 3) := by decide +kernel
theorem dX7_lesserPart_22 : decode cX7_lesserPart 22 = .ok (.ireturn, 1) := by decide +kernel
theorem dX7_says_0 : decode cX7_says 0 = .ok (.aload_n 0, 1) := by decide +kernel
theorem dX7_says_1 : decode cX7_says 1 = .ok (.iload_n 1, 1) := by decide +kernel
theorem dX7_says_2 : decode cX7_says 2 = .ok (.iload_n 2, 1) := by decide +kernel
theorem dX7_says_3 : decode cX7_says 3 = .ok (.invokevirtual 139, 3) := by decide +kernel
theorem dX7_says_6 : decode cX7_says 6 = .ok (.istore 4, 2) := by decide +kernel
theorem dX7_says_8 : decode cX7_says 8 = .ok (.aload_n 0, 1) := by decide +kernel
theorem dX7_says_9 : decode cX7_says 9 = .ok (.getfield 10, 3) := by decide +kernel
theorem dX7_says_12 : decode cX7_says 12 = .ok (.getfield 102, 3) := by decide +kernel
theorem dX7_says_15 : decode cX7_says 15 = .ok (.iload_n 1, 1) := by decide +kernel
theorem dX7_says_16 : decode cX7_says 16 = .ok (.ldc_w 314, 3) := by decide +kernel
theorem dX7_says_19 : decode cX7_says 19 = .ok (.aload_n 0, 1) := by decide +kernel
theorem dX7_says_20 : decode cX7_says 20 = .ok (.getfield 10, 3) := by decide +kernel
theorem dX7_says_23 : decode cX7_says 23 = .ok (.getfield 102, 3) := by decide +kernel
theorem dX7_says_26 : decode cX7_says 26 = .ok (.iload_n 1, 1) := by decide +kernel
theorem dX7_says_27 : decode cX7_says 27 = .ok (.invokevirtual 112, 3) := by decide +kernel
theorem dX7_says_30 : decode cX7_says 30 = .ok (.iconst 1, 1) := by decide +kernel
theorem dX7_says_31 : decode cX7_says 31 = .ok (.iadd, 1) := by decide +kernel
theorem dX7_says_32 : decode cX7_says 32 = .ok (.invokestatic 282, 3) := by decide +kernel
theorem dX7_says_35 : decode cX7_says 35 = .ok (.invokevirtual 125, 3) := by decide +kernel
theorem dX7_says_38 : decode cX7_says 38 = .ok (.aload_n 0, 1) := by decide +kernel
theorem dX7_says_39 : decode cX7_says 39 = .ok (.getfield 10, 3) := by decide +kernel
theorem dX7_says_42 : decode cX7_says 42 = .ok (.ldc_w 314, 3) := by decide +kernel
theorem dX7_says_45 : decode cX7_says 45 = .ok (.aload_n 0, 1) := by decide +kernel
theorem dX7_says_46 : decode cX7_says 46 = .ok (.getfield 10, 3) := by decide +kernel
theorem dX7_says_49 : decode cX7_says 49 = .ok (.getfield 278, 3) := by decide +kernel
theorem dX7_says_52 : decode cX7_says 52 = .ok (.iload 4, 2) := by decide +kernel
theorem dX7_says_54 : decode cX7_says 54 = .ok (.iadd, 1) := by decide +kernel
theorem dX7_says_55 : decode cX7_says 55 = .ok (.invokestatic 282, 3) := by decide +kernel
theorem dX7_says_58 : decode cX7_says 58 = .ok (.putfield 278, 3) := by decide +kernel
theorem dX7_says_61 : decode cX7_says 61 = .ok (.aload_n 0, 1) := by decide +kernel
theorem dX7_says_62 : decode cX7_says 62 = .ok (.getfield 30, 3) := by decide +kernel
theorem dX7_says_65 : decode cX7_says 65 = .ok (.iload_n 2, 1) := by decide +kernel
theorem dX7_says_66 : decode cX7_says 66 = .ok (.aload_n 0, 1) := by decide +kernel
theorem dX7_says_67 : decode cX7_says 67 = .ok (.getfield 10, 3) := by decide +kernel
theorem dX7_says_70 : decode cX7_says 70 = .ok (.getfield 143, 3) := by decide +kernel
theorem dX7_says_73 : decode cX7_says 73 = .ok (.invokevirtual 269, 3) := by decide +kernel
theorem dX7_says_76 : decode cX7_says 76 = .ok (.iload_n 3, 1) := by decide +kernel
theorem dX7_says_77 : decode cX7_says 77 = .ok (.if_icmp .eq 7, 3) := by decide +kernel
theorem dX7_says_80 : decode cX7_says 80 = .ok (.iconst 1, 1) := by decide +kernel
theorem dX7_says_81 : decode cX7_says 81 = .ok (.goto 4, 3) := by decide +kernel
theorem dX7_says_84 : decode cX7_says 84 = .ok (.iconst 0, 1) := by decide +kernel
theorem dX7_says_85 : decode cX7_says 85 = .ok (.istore 5, 2) := by decide +kernel
theorem dX7_says_87 : decode cX7_says 87 = .ok (.aload_n 0, 1) := by decide +kernel
theorem dX7_says_88 : decode cX7_says 88 = .ok (.getfield 10, 3) := by decide +kernel
theorem dX7_says_91 : decode cX7_says 91 = .ok (.getfield 72, 3) := by decide +kernel
theorem dX7_says_94 : decode cX7_says 94 = .ok (.invokevirtual 146, 3) := by decide +kernel
theorem dX7_says_97 : decode cX7_says 97 = .ok (.bipush 24, 2) := by decide +kernel
theorem dX7_says_99 : decode cX7_says 99 = .ok (.if_icmp .ge 27, 3) := by decide +kernel
theorem dX7_says_102 : decode cX7_says 102 = .ok (.aload_n 0, 1) := by decide +kernel
theorem dX7_says_103 : decode cX7_says 103 = .ok (.getfield 10, 3) := by decide +kernel
theorem dX7_says_106 : decode cX7_says 106 = .ok (.iload_n 2, 1) := by decide +kernel
theorem dX7_says_107 : decode cX7_says 107 = .ok (.iload 5, 2) := by decide +kernel
theorem dX7_says_109 : decode cX7_says 109 = .ok (.invokevirtual 149, 3) := by decide +kernel
theorem dX7_says_112 : decode cX7_says 112 = .ok (.aload_n 0, 1) := by decide +kernel
theorem dX7_says_113 : decode cX7_says 113 = .ok (.getfield 30, 3) := by decide +kernel
theorem dX7_says_116 : decode cX7_says 116 = .ok (.aload_n 0, 1) := by decide +kernel
theorem dX7_says_117 : decode cX7_says 117 = .ok (.getfield 10, 3) := by decide +kernel
theorem dX7_says_120 : decode cX7_says 120 = .ok (.getfield 72, 3) := by decide +kernel
theorem dX7_says_123 : decode cX7_says 123 = .ok (.invokevirtual 75, 3) := by decide +kernel
theorem dX7_says_126 : decode cX7_says 126 = .ok (.iload 5, 2) := by decide +kernel
theorem dX7_says_128 : decode cX7_says 128 = .ok (.ireturn, 1) := by decide +kernel
theorem dX7_looseDay_0 : decode cX7_looseDay 0 = .ok (.iconst 0, 1) := by decide +kernel
theorem dX7_looseDay_1 : decode cX7_looseDay 1 = .ok (.istore_n 1, 1) := by decide +kernel
theorem dX7_looseDay_2 : decode cX7_looseDay 2 = .ok (.aload_n 0, 1) := by decide +kernel
theorem dX7_looseDay_3 : decode cX7_looseDay 3 = .ok (.getfield 10, 3) := by decide +kernel
theorem dX7_looseDay_6 : decode cX7_looseDay 6 = .ok (.invokevirtual 86, 3) := by decide +kernel
theorem dX7_looseDay_9 : decode cX7_looseDay 9 = .ok (.istore_n 2, 1) := by decide +kernel
theorem dX7_looseDay_10 : decode cX7_looseDay 10 = .ok (.iload_n 2, 1) := by decide +kernel
theorem dX7_looseDay_11 : decode cX7_looseDay 11 = .ok (.ifCond .le 65, 3) := by decide +kernel
theorem dX7_looseDay_14 : decode cX7_looseDay 14 = .ok (.aload_n 0, 1) := by decide +kernel
theorem dX7_looseDay_15 : decode cX7_looseDay 15 = .ok (.getfield 10, 3) := by decide +kernel
theorem dX7_looseDay_18 : decode cX7_looseDay 18 = .ok (.invokevirtual 315, 3) := by decide +kernel
theorem dX7_looseDay_21 : decode cX7_looseDay 21 = .ok (.iload_n 2, 1) := by decide +kernel
theorem dX7_looseDay_22 : decode cX7_looseDay 22 = .ok (.irem, 1) := by decide +kernel
theorem dX7_looseDay_23 : decode cX7_looseDay 23 = .ok (.istore_n 3, 1) := by decide +kernel
theorem dX7_looseDay_24 : decode cX7_looseDay 24 = .ok (.aload_n 0, 1) := by decide +kernel
theorem dX7_looseDay_25 : decode cX7_looseDay 25 = .ok (.getfield 10, 3) := by decide +kernel
theorem dX7_looseDay_28 : decode cX7_looseDay 28 = .ok (.invokevirtual 315, 3) := by decide +kernel
theorem dX7_looseDay_31 : decode cX7_looseDay 31 = .ok (.bipush 64, 2) := by decide +kernel
theorem dX7_looseDay_33 : decode cX7_looseDay 33 = .ok (.irem, 1) := by decide +kernel
theorem dX7_looseDay_34 : decode cX7_looseDay 34 = .ok (.istore 4, 2) := by decide +kernel
theorem dX7_looseDay_36 : decode cX7_looseDay 36 = .ok (.aload_n 0, 1) := by decide +kernel
theorem dX7_looseDay_37 : decode cX7_looseDay 37 = .ok (.getfield 10, 3) := by decide +kernel
theorem dX7_looseDay_40 : decode cX7_looseDay 40 = .ok (.invokevirtual 315, 3) := by decide +kernel
theorem dX7_looseDay_43 : decode cX7_looseDay 43 = .ok (.bipush 16, 2) := by decide +kernel
theorem dX7_looseDay_45 : decode cX7_looseDay 45 = .ok (.irem, 1) := by decide +kernel
theorem dX7_looseDay_46 : decode cX7_looseDay 46 = .ok (.ifCond .ne 7, 3) := by decide +kernel
theorem dX7_looseDay_49 : decode cX7_looseDay 49 = .ok (.iconst 1, 1) := by decide +kernel
theorem dX7_looseDay_50 : decode cX7_looseDay 50 = .ok (.goto 4, 3) := by decide +kernel
theorem dX7_looseDay_53 : decode cX7_looseDay 53 = .ok (.iconst 0, 1) := by decide +kernel
theorem dX7_looseDay_54 : decode cX7_looseDay 54 = .ok (.istore 5, 2) := by decide +kernel
theorem dX7_looseDay_56 : decode cX7_looseDay 56 = .ok (.aload_n 0, 1) := by decide +kernel
theorem dX7_looseDay_57 : decode cX7_looseDay 57 = .ok (.iload_n 3, 1) := by decide +kernel
theorem dX7_looseDay_58 : decode cX7_looseDay 58 = .ok (.iload 4, 2) := by decide +kernel
theorem dX7_looseDay_60 : decode cX7_looseDay 60 = .ok (.invokevirtual 136, 3) := by decide +kernel
theorem dX7_looseDay_63 : decode cX7_looseDay 63 = .ok (.ifCond .ne 13, 3) := by decide +kernel
theorem dX7_looseDay_66 : decode cX7_looseDay 66 = .ok (.aload_n 0, 1) := by decide +kernel
theorem dX7_looseDay_67 : decode cX7_looseDay 67 = .ok (.iload_n 3, 1) := by decide +kernel
theorem dX7_looseDay_68 : decode cX7_looseDay 68 = .ok (.iload 4, 2) := by decide +kernel
theorem dX7_looseDay_70 : decode cX7_looseDay 70 = .ok (.iload 5, 2) := by decide +kernel
theorem dX7_looseDay_72 : decode cX7_looseDay 72 = .ok (.invokevirtual 158, 3) := by decide +kernel
theorem dX7_looseDay_75 : decode cX7_looseDay 75 = .ok (.istore_n 1, 1) := by decide +kernel
theorem dX7_looseDay_76 : decode cX7_looseDay 76 = .ok (.aload_n 0, 1) := by decide +kernel
theorem dX7_looseDay_77 : decode cX7_looseDay 77 = .ok (.getfield 10, 3) := by decide +kernel
theorem dX7_looseDay_80 : decode cX7_looseDay 80 = .ok (.dup, 1) := by decide +kernel
theorem dX7_looseDay_81 : decode cX7_looseDay 81 = .ok (.getfield 187, 3) := by decide +kernel
theorem dX7_looseDay_84 : decode cX7_looseDay 84 = .ok (.iconst 1, 1) := by decide +kernel
theorem dX7_looseDay_85 : decode cX7_looseDay 85 = .ok (.iadd, 1) := by decide +kernel
theorem dX7_looseDay_86 : decode cX7_looseDay 86 = .ok (.putfield 187, 3) := by decide +kernel
theorem dX7_looseDay_89 : decode cX7_looseDay 89 = .ok (.iload_n 1, 1) := by decide +kernel
theorem dX7_looseDay_90 : decode cX7_looseDay 90 = .ok (.ireturn, 1) := by decide +kernel
theorem dX8_init_0 : decode cX8_init 0 = .ok (.aload_n 0, 1) := by decide +kernel
theorem dX8_init_1 : decode cX8_init 1 = .ok (.invokespecial 3, 3) := by decide +kernel
theorem dX8_init_4 : decode cX8_init 4 = .ok (.aload_n 0, 1) := by decide +kernel
theorem dX8_init_5 : decode cX8_init 5 = .ok (.sipush 400, 3) := by decide +kernel
theorem dX8_init_8 : decode cX8_init 8 = .ok (.newarray .int, 2) := by decide +kernel
theorem dX8_init_10 : decode cX8_init 10 = .ok (.putfield 9, 3) := by decide +kernel
theorem dX8_init_13 : decode cX8_init 13 = .ok (.aload_n 0, 1) := by decide +kernel
theorem dX8_init_14 : decode cX8_init 14 = .ok (.sipush 400, 3) := by decide +kernel
theorem dX8_init_17 : decode cX8_init 17 = .ok (.newarray .int, 2) := by decide +kernel
theorem dX8_init_19 : decode cX8_init 19 = .ok (.putfield 13, 3) := by decide +kernel
theorem dX8_init_22 : decode cX8_init 22 = .ok (.aload_n 0, 1) := by decide +kernel
theorem dX8_init_23 : decode cX8_init 23 = .ok (.bipush 7, 2) := by decide +kernel
theorem dX8_init_25 : decode cX8_init 25 = .ok (.newarray .int, 2) := by decide +kernel
theorem dX8_init_27 : decode cX8_init 27 = .ok (.putfield 16, 3) := by decide +kernel
theorem dX8_init_30 : decode cX8_init 30 = .ok (.aload_n 0, 1) := by decide +kernel
theorem dX8_init_31 : decode cX8_init 31 = .ok (.iconst 4, 1) := by decide +kernel
theorem dX8_init_32 : decode cX8_init 32 = .ok (.newarray .int, 2) := by decide +kernel
theorem dX8_init_34 : decode cX8_init 34 = .ok (.putfield 19, 3) := by decide +kernel
theorem dX8_init_37 : decode cX8_init 37 = .ok (.aload_n 0, 1) := by decide +kernel
theorem dX8_init_38 : decode cX8_init 38 = .ok (.iconst 4, 1) := by decide +kernel
theorem dX8_init_39 : decode cX8_init 39 = .ok (.newarray .int, 2) := by decide +kernel
theorem dX8_init_41 : decode cX8_init 41 = .ok (.putfield 22, 3) := by decide +kernel
theorem dX8_init_44 : decode cX8_init 44 = .ok (.aload_n 0, 1) := by decide +kernel
theorem dX8_init_45 : decode cX8_init 45 = .ok (.bipush 96, 2) := by decide +kernel
theorem dX8_init_47 : decode cX8_init 47 = .ok (.newarray .int, 2) := by decide +kernel
theorem dX8_init_49 : decode cX8_init 49 = .ok (.putfield 25, 3) := by decide +kernel
theorem dX8_init_52 : decode cX8_init 52 = .ok (.aload_n 0, 1) := by decide +kernel
theorem dX8_init_53 : decode cX8_init 53 = .ok (.sipush 729, 3) := by decide +kernel
theorem dX8_init_56 : decode cX8_init 56 = .ok (.newarray .long, 2) := by decide +kernel
theorem dX8_init_58 : decode cX8_init 58 = .ok (.putfield 28, 3) := by decide +kernel
theorem dX8_init_61 : decode cX8_init 61 = .ok (.aload_n 0, 1) := by decide +kernel
theorem dX8_init_62 : decode cX8_init 62 = .ok (.sipush 729, 3) := by decide +kernel
theorem dX8_init_65 : decode cX8_init 65 = .ok (.newarray .boolean, 2) := by decide +kernel
theorem dX8_init_67 : decode cX8_init 67 = .ok (.putfield 32, 3) := by decide +kernel
theorem dX8_init_70 : decode cX8_init 70 = .ok (.aload_n 0, 1) := by decide +kernel
theorem dX8_init_71 : decode cX8_init 71 = .ok (.bipush 64, 2) := by decide +kernel
theorem dX8_init_73 : decode cX8_init 73 = .ok (.newarray .int, 2) := by decide +kernel
theorem dX8_init_75 : decode cX8_init 75 = .ok (.putfield 36, 3) := by decide +kernel
theorem dX8_init_78 : decode cX8_init 78 = .ok (.aload_n 0, 1) := by decide +kernel
theorem dX8_init_79 : decode cX8_init 79 = .ok (.bipush 60, 2) := by decide +kernel
theorem dX8_init_81 : decode cX8_init 81 = .ok (.newarray .int, 2) := by decide +kernel
theorem dX8_init_83 : decode cX8_init 83 = .ok (.putfield 39, 3) := by decide +kernel
theorem dX8_init_86 : decode cX8_init 86 = .ok (.aload_n 0, 1) := by decide +kernel
theorem dX8_init_87 : decode cX8_init 87 = .ok (.bipush 60, 2) := by decide +kernel
theorem dX8_init_89 : decode cX8_init 89 = .ok (.newarray .int, 2) := by decide +kernel
theorem dX8_init_91 : decode cX8_init 91 = .ok (.putfield 42, 3) := by decide +kernel
theorem dX8_init_94 : decode cX8_init 94 = .ok (.aload_n 0, 1) := by decide +kernel
theorem dX8_init_95 : decode cX8_init 95 = .ok (.iconst 3, 1) := by decide +kernel
theorem dX8_init_96 : decode cX8_init 96 = .ok (.newarray .int, 2) := by decide +kernel
theorem dX8_init_98 : decode cX8_init 98 = .ok (.putfield 45, 3) := by decide +kernel
theorem dX8_init_101 : decode cX8_init 101 = .ok (.aload_n 0, 1) := by decide +kernel
theorem dX8_init_102 : decode cX8_init 102 = .ok (.bipush 60, 2) := by decide +kernel
theorem dX8_init_104 : decode cX8_init 104 = .ok (.newarray .int, 2) := by decide +kernel
theorem dX8_init_106 : decode cX8_init 106 = .ok (.putfield 48, 3) := by decide +kernel
theorem dX8_init_109 : decode cX8_init 109 = .ok (.aload_n 0, 1) := by decide +kernel
theorem dX8_init_110 : decode cX8_init 110 = .ok (.bipush 30, 2) := by decide +kernel
theorem dX8_init_112 : decode cX8_init 112 = .ok (.newarray .int, 2) := by decide +kernel
theorem dX8_init_114 : decode cX8_init 114 = .ok (.putfield 51, 3) := by decide +kernel
theorem dX8_init_117 : decode cX8_init 117 = .ok (.aload_n 0, 1) := by decide +kernel
theorem dX8_init_118 : decode cX8_init 118 = .ok (.getfield 9, 3) := by decide +kernel
theorem dX8_init_121 : decode cX8_init 121 = .ok (.iconst 1, 1) := by decide +kernel
theorem dX8_init_122 : decode cX8_init 122 = .ok (.iconst 1, 1) := by decide +kernel
theorem dX8_init_123 : decode cX8_init 123 = .ok (.iastore, 1) := by decide +kernel
theorem dX8_init_124 : decode cX8_init 124 = .ok (.aload_n 0, 1) := by decide +kernel
theorem dX8_init_125 : decode cX8_init 125 = .ok (.getfield 9, 3) := by decide +kernel
theorem dX8_init_128 : decode cX8_init 128 = .ok (.iconst 5, 1) := by decide +kernel
theorem dX8_init_129 : decode cX8_init 129 = .ok (.sipush 728, 3) := by decide +kernel
theorem dX8_init_132 : decode cX8_init 132 = .ok (.iastore, 1) := by decide +kernel
theorem dX8_init_133 : decode cX8_init 133 = .ok (.iconst 0, 1) := by decide +kernel
theorem dX8_init_134 : decode cX8_init 134 = .ok (.istore_n 1, 1) := by decide +kernel
theorem dX8_init_135 : decode cX8_init 135 = .ok (.iload_n 1, 1) := by decide +kernel
theorem dX8_init_136 : decode cX8_init 136 = .ok (.sipush 729, 3) := by decide +kernel
theorem dX8_init_139 : decode cX8_init 139 = .ok (.if_icmp .ge 54, 3) := by decide +kernel
theorem dX8_init_142 : decode cX8_init 142 = .ok (.aload_n 0, 1) := by decide +kernel
theorem dX8_init_143 : decode cX8_init 143 = .ok (.getfield 28, 3) := by decide +kernel
theorem dX8_init_146 : decode cX8_init 146 = .ok (.iload_n 1, 1) := by decide +kernel
theorem dX8_init_147 : decode cX8_init 147 = .ok (.lconst 0, 1) := by decide +kernel
theorem dX8_init_148 : decode cX8_init 148 = .ok (.lastore, 1) := by decide +kernel
theorem dX8_init_149 : decode cX8_init 149 = .ok (.iconst 0, 1) := by decide +kernel
theorem dX8_init_150 : decode cX8_init 150 = .ok (.istore_n 2, 1) := by decide +kernel
theorem dX8_init_151 : decode cX8_init 151 = .ok (.iload_n 2, 1) := by decide +kernel
theorem dX8_init_152 : decode cX8_init 152 = .ok (.bipush 64, 2) := by decide +kernel
theorem dX8_init_154 : decode cX8_init 154 = .ok (.if_icmp .ge 33, 3) := by decide +kernel
theorem dX8_init_157 : decode cX8_init 157 = .ok (.aload_n 0, 1) := by decide +kernel
theorem dX8_init_158 : decode cX8_init 158 = .ok (.getfield 28, 3) := by decide +kernel
theorem dX8_init_161 : decode cX8_init 161 = .ok (.iload_n 1, 1) := by decide +kernel
theorem dX8_init_162 : decode cX8_init 162 = .ok (.dup2, 1) := by decide +kernel
theorem dX8_init_163 : decode cX8_init 163 = .ok (.laload, 1) := by decide +kernel
theorem dX8_init_164 : decode cX8_init 164 = .ok (.iload_n 1, 1) := by decide +kernel
theorem dX8_init_165 : decode cX8_init 165 = .ok (.iload_n 2, 1) := by decide +kernel
theorem dX8_init_166 : decode cX8_init 166 = .ok (.invokestatic 54, 3) := by decide +kernel
theorem dX8_init_169 : decode cX8_init 169 = .ok (.ifCond .eq 9, 3) := by decide +kernel
theorem dX8_init_172 : decode cX8_init 172 = .ok (.lconst 1, 1) := by decide +kernel
theorem dX8_init_173 : decode cX8_init 173 = .ok (.iload_n 2, 1) := by decide +kernel
theorem dX8_init_174 : decode cX8_init 174 = .ok (.lshl, 1) := by decide +kernel
theorem dX8_init_175 : decode cX8_init 175 = .ok (.goto 4, 3) := by decide +kernel
theorem dX8_init_178 : decode cX8_init 178 = .ok (.lconst 0, 1) := by decide +kernel
theorem dX8_init_179 : decode cX8_init 179 = .ok (.lor, 1) := by decide +kernel
theorem dX8_init_180 : decode cX8_init 180 = .ok (.lastore, 1) := by decide +kernel
theorem dX8_init_181 : decode cX8_init 181 = .ok (.iinc 2 1, 3) := by decide +kernel
theorem dX8_init_184 : decode cX8_init 184 = .ok (.goto (-33), 3) := by decide +kernel
theorem dX8_init_187 : decode cX8_init 187 = .ok (.iinc 1 1, 3) := by decide +kernel
theorem dX8_init_190 : decode cX8_init 190 = .ok (.goto (-55), 3) := by decide +kernel
theorem dX8_init_193 : decode cX8_init 193 = .ok (.return_, 1) := by decide +kernel
theorem dX8_isBroken_0 : decode cX8_isBroken 0 = .ok (.iload_n 0, 1) := by decide +kernel
theorem dX8_isBroken_1 : decode cX8_isBroken 1 = .ok (.istore_n 2, 1) := by decide +kernel
theorem dX8_isBroken_2 : decode cX8_isBroken 2 = .ok (.iconst 1, 1) := by decide +kernel
theorem dX8_isBroken_3 : decode cX8_isBroken 3 = .ok (.istore_n 3, 1) := by decide +kernel
theorem dX8_isBroken_4 : decode cX8_isBroken 4 = .ok (.iconst 0, 1) := by decide +kernel
theorem dX8_isBroken_5 : decode cX8_isBroken 5 = .ok (.istore 4, 2) := by decide +kernel
theorem dX8_isBroken_7 : decode cX8_isBroken 7 = .ok (.iload 4, 2) := by decide +kernel
theorem dX8_isBroken_9 : decode cX8_isBroken 9 = .ok (.bipush 6, 2) := by decide +kernel
theorem dX8_isBroken_11 : decode cX8_isBroken 11 = .ok (.if_icmp .ge 42, 3) := by decide +kernel
theorem dX8_isBroken_14 : decode cX8_isBroken 14 = .ok (.iload_n 3, 1) := by decide +kernel
theorem dX8_isBroken_15 : decode cX8_isBroken 15 = .ok (.ifCond .eq 26, 3) := by decide +kernel
theorem dX8_isBroken_18 : decode cX8_isBroken 18 = .ok (.iload_n 2, 1) := by decide +kernel
theorem dX8_isBroken_19 : decode cX8_isBroken 19 = .ok (.iconst 3, 1) := by decide +kernel
theorem dX8_isBroken_20 : decode cX8_isBroken 20 = .ok (.irem, 1) := by decide +kernel
theorem dX8_isBroken_21 : decode cX8_isBroken 21 = .ok (.iconst 2, 1) := by decide +kernel
theorem dX8_isBroken_22 : decode cX8_isBroken 22 = .ok (.if_icmp .eq 15, 3) := by decide +kernel
theorem dX8_isBroken_25 : decode cX8_isBroken 25 = .ok (.iload_n 2, 1) := by decide +kernel
theorem dX8_isBroken_26 : decode cX8_isBroken 26 = .ok (.iconst 3, 1) := by decide +kernel
theorem dX8_isBroken_27 : decode cX8_isBroken 27 = .ok (.irem, 1) := by decide +kernel
theorem dX8_isBroken_28 : decode cX8_isBroken 28 = .ok (.iload_n 1, 1) := by decide +kernel
theorem dX8_isBroken_29 : decode cX8_isBroken 29 = .ok (.iload 4, 2) := by decide +kernel
theorem dX8_isBroken_31 : decode cX8_isBroken 31 = .ok (.ishr, 1) := by decide +kernel
theorem dX8_isBroken_32 : decode cX8_isBroken 32 = .ok (.iconst 1, 1) := by decide +kernel
theorem dX8_isBroken_33 : decode cX8_isBroken 33 = .ok (.iand, 1) := by decide +kernel
theorem dX8_isBroken_34 : decode cX8_isBroken 34 = .ok (.if_icmp .ne 7, 3) := by decide +kernel
theorem dX8_isBroken_37 : decode cX8_isBroken 37 = .ok (.iconst 1, 1) := by decide +kernel
theorem dX8_isBroken_38 : decode cX8_isBroken 38 = .ok (.goto 4, 3) := by decide +kernel
theorem dX8_isBroken_41 : decode cX8_isBroken 41 = .ok (.iconst 0, 1) := by decide +kernel
theorem dX8_isBroken_42 : decode cX8_isBroken 42 = .ok (.istore_n 3, 1) := by decide +kernel
theorem dX8_isBroken_43 : decode cX8_isBroken 43 = .ok (.iload_n 2, 1) := by decide +kernel
theorem dX8_isBroken_44 : decode cX8_isBroken 44 = .ok (.iconst 3, 1) := by decide +kernel
theorem dX8_isBroken_45 : decode cX8_isBroken 45 = .ok (.idiv, 1) := by decide +kernel
theorem dX8_isBroken_46 : decode cX8_isBroken 46 = .ok (.istore_n 2, 1) := by decide +kernel
theorem dX8_isBroken_47 : decode cX8_isBroken 47 = .ok (.iinc 4 1, 3) := by decide +kernel
theorem dX8_isBroken_50 : decode cX8_isBroken 50 = .ok (.goto (-43), 3) := by decide +kernel
theorem dX8_isBroken_53 : decode cX8_isBroken 53 = .ok (.iload_n 3, 1) := by decide +kernel
theorem dX8_isBroken_54 : decode cX8_isBroken 54 = .ok (.ireturn, 1) := by decide +kernel
theorem dX8_error_0 : decode cX8_error 0 = .ok (.aload_n 0, 1) := by decide +kernel
theorem dX8_error_1 : decode cX8_error 1 = .ok (.getfield 16, 3) := by decide +kernel
theorem dX8_error_4 : decode cX8_error 4 = .ok (.ldc 58, 2) := by decide +kernel
theorem dX8_error_6 : decode cX8_error 6 = .ok (.iload_n 1, 1) := by decide +kernel
theorem dX8_error_7 : decode cX8_error 7 = .ok (.isub, 1) := by decide +kernel
theorem dX8_error_8 : decode cX8_error 8 = .ok (.dup2, 1) := by decide +kernel
theorem dX8_error_9 : decode cX8_error 9 = .ok (.iaload, 1) := by decide +kernel
theorem dX8_error_10 : decode cX8_error 10 = .ok (.iconst 1, 1) := by decide +kernel
theorem dX8_error_11 : decode cX8_error 11 = .ok (.iadd, 1) := by decide +kernel
theorem dX8_error_12 : decode cX8_error 12 = .ok (.iastore, 1) := by decide +kernel
theorem dX8_error_13 : decode cX8_error 13 = .ok (.iload_n 1, 1) := by decide +kernel
theorem dX8_error_14 : decode cX8_error 14 = .ok (.ireturn, 1) := by decide +kernel
theorem dX8_in_0 : decode cX8_in 0 = .ok (.iload_n 0, 1) := by decide +kernel
theorem dX8_in_1 : decode cX8_in 1 = .ok (.iload_n 1, 1) := by decide +kernel
theorem dX8_in_2 : decode cX8_in 2 = .ok (.if_icmp .lt 12, 3) := by decide +kernel
theorem dX8_in_5 : decode cX8_in 5 = .ok (.iload_n 0, 1) := by decide +kernel
theorem dX8_in_6 : decode cX8_in 6 = .ok (.iload_n 2, 1) := by decide +kernel
theorem dX8_in_7 : decode cX8_in 7 = .ok (.if_icmp .gt 7, 3) := by decide +kernel
theorem dX8_in_10 : decode cX8_in 10 = .ok (.iconst 1, 1) := by decide +kernel
theorem dX8_in_11 : decode cX8_in 11 = .ok (.goto 4, 3) := by decide +kernel
theorem dX8_in_14 : decode cX8_in 14 = .ok (.iconst 0, 1) := by decide +kernel
theorem dX8_in_15 : decode cX8_in 15 = .ok (.ireturn, 1) := by decide +kernel
theorem dX8_held_0 : decode cX8_held 0 = .ok (.iload_n 0, 1) := by decide +kernel
theorem dX8_held_1 : decode cX8_held 1 = .ok (.iload_n 1, 1) := by decide +kernel
theorem dX8_held_2 : decode cX8_held 2 = .ok (.if_icmp .ge 7, 3) := by decide +kernel
theorem dX8_held_5 : decode cX8_held 5 = .ok (.iload_n 1, 1) := by decide +kernel
theorem dX8_held_6 : decode cX8_held 6 = .ok (.goto 13, 3) := by decide +kernel
theorem dX8_held_9 : decode cX8_held 9 = .ok (.iload_n 0, 1) := by decide +kernel
theorem dX8_held_10 : decode cX8_held 10 = .ok (.iload_n 2, 1) := by decide +kernel
theorem dX8_held_11 : decode cX8_held 11 = .ok (.if_icmp .le 7, 3) := by decide +kernel
theorem dX8_held_14 : decode cX8_held 14 = .ok (.iload_n 2, 1) := by decide +kernel
theorem dX8_held_15 : decode cX8_held 15 = .ok (.goto 4, 3) := by decide +kernel
theorem dX8_held_18 : decode cX8_held 18 = .ok (.iload_n 0, 1) := by decide +kernel
theorem dX8_held_19 : decode cX8_held 19 = .ok (.ireturn, 1) := by decide +kernel
theorem dX8_copyAll_0 : decode cX8_copyAll 0 = .ok (.iconst 0, 1) := by decide +kernel
theorem dX8_copyAll_1 : decode cX8_copyAll 1 = .ok (.istore_n 2, 1) := by decide +kernel
theorem dX8_copyAll_2 : decode cX8_copyAll 2 = .ok (.iload_n 2, 1) := by decide +kernel
theorem dX8_copyAll_3 : decode cX8_copyAll 3 = .ok (.sipush 400, 3) := by decide +kernel
theorem dX8_copyAll_6 : decode cX8_copyAll 6 = .ok (.if_icmp .ge 15, 3) := by decide +kernel
theorem dX8_copyAll_9 : decode cX8_copyAll 9 = .ok (.aload_n 1, 1) := by decide +kernel
theorem dX8_copyAll_10 : decode cX8_copyAll 10 = .ok (.iload_n 2, 1) := by decide +kernel
theorem dX8_copyAll_11 : decode cX8_copyAll 11 = .ok (.aload_n 0, 1) := by decide +kernel
theorem dX8_copyAll_12 : decode cX8_copyAll 12 = .ok (.iload_n 2, 1) := by decide +kernel
theorem dX8_copyAll_13 : decode cX8_copyAll 13 = .ok (.iaload, 1) := by decide +kernel
theorem dX8_copyAll_14 : decode cX8_copyAll 14 = .ok (.iastore, 1) := by decide +kernel
theorem dX8_copyAll_15 : decode cX8_copyAll 15 = .ok (.iinc 2 1, 3) := by decide +kernel
theorem dX8_copyAll_18 : decode cX8_copyAll 18 = .ok (.goto (-16), 3) := by decide +kernel
theorem dX8_copyAll_21 : decode cX8_copyAll 21 = .ok (.return_, 1) := by decide +kernel
theorem dX8_bits_0 : decode cX8_bits 0 = .ok (.iconst 0, 1) := by decide +kernel
theorem dX8_bits_1 : decode cX8_bits 1 = .ok (.istore_n 2, 1) := by decide +kernel
theorem dX8_bits_2 : decode cX8_bits 2 = .ok (.lload_n 0, 1) := by decide +kernel
theorem dX8_bits_3 : decode cX8_bits 3 = .ok (.lstore_n 3, 1) := by decide +kernel
theorem dX8_bits_4 : decode cX8_bits 4 = .ok (.lload_n 3, 1) := by decide +kernel
theorem dX8_bits_5 : decode cX8_bits 5 = .ok (.lconst 0, 1) := by decide +kernel
theorem dX8_bits_6 : decode cX8_bits 6 = .ok (.lcmp, 1) := by decide +kernel
theorem dX8_bits_7 : decode cX8_bits 7 = .ok (.ifCond .eq 15, 3) := by decide +kernel
theorem dX8_bits_10 : decode cX8_bits 10 = .ok (.iinc 2 1, 3) := by decide +kernel
theorem dX8_bits_13 : decode cX8_bits 13 = .ok (.lload_n 3, 1) := by decide +kernel
theorem dX8_bits_14 : decode cX8_bits 14 = .ok (.lload_n 3, 1) := by decide +kernel
theorem dX8_bits_15 : decode cX8_bits 15 = .ok (.lconst 1, 1) := by decide +kernel
theorem dX8_bits_16 : decode cX8_bits 16 = .ok (.lsub, 1) := by decide +kernel
theorem dX8_bits_17 : decode cX8_bits 17 = .ok (.land, 1) := by decide +kernel
theorem dX8_bits_18 : decode cX8_bits 18 = .ok (.lstore_n 3, 1) := by decide +kernel
theorem dX8_bits_19 : decode cX8_bits 19 = .ok (.goto (-15), 3) := by decide +kernel
theorem dX8_bits_22 : decode cX8_bits 22 = .ok (.iload_n 2, 1) := by decide +kernel
theorem dX8_bits_23 : decode cX8_bits 23 = .ok (.ireturn, 1) := by decide +kernel
theorem dX8_isBrother_0 : decode cX8_isBrother 0 = .ok (.iload_n 1, 1) := by decide +kernel
theorem dX8_isBrother_1 : decode cX8_isBrother 1 = .ok (.iconst 0, 1) := by decide +kernel
theorem dX8_isBrother_2 : decode cX8_isBrother 2 = .ok (.aload_n 0, 1) := by decide +kernel
theorem dX8_isBrother_3 : decode cX8_isBrother 3 = .ok (.getfield 9, 3) := by decide +kernel
theorem dX8_isBrother_6 : decode cX8_isBrother 6 = .ok (.iconst 2, 1) := by decide +kernel
theorem dX8_isBrother_7 : decode cX8_isBrother 7 = .ok (.iaload, 1) := by decide +kernel
theorem dX8_isBrother_8 : decode cX8_isBrother 8 = .ok (.iconst 1, 1) := by decide +kernel
theorem dX8_isBrother_9 : decode cX8_isBrother 9 = .ok (.isub, 1) := by decide +kernel
theorem dX8_isBrother_10 : decode cX8_isBrother 10 = .ok (.invokestatic 59, 3) := by decide +kernel
theorem dX8_isBrother_13 : decode cX8_isBrother 13 = .ok (.ireturn, 1) := by decide +kernel
theorem dX8_isSaying_0 : decode cX8_isSaying 0 = .ok (.iload_n 0, 1) := by decide +kernel
theorem dX8_isSaying_1 : decode cX8_isSaying 1 = .ok (.iconst 0, 1) := by decide +kernel
theorem dX8_isSaying_2 : decode cX8_isSaying 2 = .ok (.bipush 63, 2) := by decide +kernel
theorem dX8_isSaying_4 : decode cX8_isSaying 4 = .ok (.invokestatic 59, 3) := by decide +kernel
theorem dX8_isSaying_7 : decode cX8_isSaying 7 = .ok (.ireturn, 1) := by decide +kernel
theorem dX8_becomes_0 : decode cX8_becomes 0 = .ok (.aload_n 0, 1) := by decide +kernel
theorem dX8_becomes_1 : decode cX8_becomes 1 = .ok (.getfield 9, 3) := by decide +kernel
theorem dX8_becomes_4 : decode cX8_becomes 4 = .ok (.iload_n 1, 1) := by decide +kernel
theorem dX8_becomes_5 : decode cX8_becomes 5 = .ok (.iaload, 1) := by decide +kernel
theorem dX8_becomes_6 : decode cX8_becomes 6 = .ok (.istore_n 3, 1) := by decide +kernel
theorem dX8_becomes_7 : decode cX8_becomes 7 = .ok (.aload_n 0, 1) := by decide +kernel
theorem dX8_becomes_8 : decode cX8_becomes 8 = .ok (.getfield 9, 3) := by decide +kernel
theorem dX8_becomes_11 : decode cX8_becomes 11 = .ok (.iload_n 1, 1) := by decide +kernel
theorem dX8_becomes_12 : decode cX8_becomes 12 = .ok (.iload_n 2, 1) := by decide +kernel
theorem dX8_becomes_13 : decode cX8_becomes 13 = .ok (.iastore, 1) := by decide +kernel
theorem dX8_becomes_14 : decode cX8_becomes 14 = .ok (.iload_n 3, 1) := by decide +kernel
theorem dX8_becomes_15 : decode cX8_becomes 15 = .ok (.ireturn, 1) := by decide +kernel
theorem dX8_of_0 : decode cX8_of 0 = .ok (.aload_n 0, 1) := by decide +kernel
theorem dX8_of_1 : decode cX8_of 1 = .ok (.getfield 9, 3) := by decide +kernel
theorem dX8_of_4 : decode cX8_of 4 = .ok (.bipush 8, 2) := by decide +kernel
theorem dX8_of_6 : decode cX8_of 6 = .ok (.iconst 3, 1) := by decide +kernel
theorem dX8_of_7 : decode cX8_of 7 = .ok (.iload_n 1, 1) := by decide +kernel
theorem dX8_of_8 : decode cX8_of 8 = .ok (.imul, 1) := by decide +kernel
theorem dX8_of_9 : decode cX8_of 9 = .ok (.iadd, 1) := by decide +kernel
theorem dX8_of_10 : decode cX8_of 10 = .ok (.iload_n 2, 1) := by decide +kernel
theorem dX8_of_11 : decode cX8_of 11 = .ok (.iadd, 1) := by decide +kernel
theorem dX8_of_12 : decode cX8_of 12 = .ok (.iaload, 1) := by decide +kernel
theorem dX8_of_13 : decode cX8_of 13 = .ok (.ireturn, 1) := by decide +kernel
theorem dX8_doesBreak_0 : decode cX8_doesBreak 0 = .ok (.aload_n 0, 1) := by decide +kernel
theorem dX8_doesBreak_1 : decode cX8_doesBreak 1 = .ok (.getfield 28, 3) := by decide +kernel
theorem dX8_doesBreak_4 : decode cX8_doesBreak 4 = .ok (.iload_n 1, 1) := by decide +kernel
theorem dX8_doesBreak_5 : decode cX8_doesBreak 5 = .ok (.laload, 1) := by decide +kernel
theorem dX8_doesBreak_6 : decode cX8_doesBreak 6 = .ok (.iload_n 2, 1) := by decide +kernel
theorem dX8_doesBreak_7 : decode cX8_doesBreak 7 = .ok (.lushr, 1) := by decide +kernel
theorem dX8_doesBreak_8 : decode cX8_doesBreak 8 = .ok (.lconst 1, 1) := by decide +kernel
theorem dX8_doesBreak_9 : decode cX8_doesBreak 9 = .ok (.land, 1) := by decide +kernel
theorem dX8_doesBreak_10 : decode cX8_doesBreak 10 = .ok (.lconst 1, 1) := by decide +kernel
theorem dX8_doesBreak_11 : decode cX8_doesBreak 11 = .ok (.lcmp, 1) := by decide +kernel
theorem dX8_doesBreak_12 : decode cX8_doesBreak 12 = .ok (.ifCond .ne 7, 3) := by decide +kernel
theorem dX8_doesBreak_15 : decode cX8_doesBreak 15 = .ok (.iconst 1, 1) := by decide +kernel
theorem dX8_doesBreak_16 : decode cX8_doesBreak 16 = .ok (.goto 4, 3) := by decide +kernel
theorem dX8_doesBreak_19 : decode cX8_doesBreak 19 = .ok (.iconst 0, 1) := by decide +kernel
theorem dX8_doesBreak_20 : decode cX8_doesBreak 20 = .ok (.ireturn, 1) := by decide +kernel
theorem dX8_doesFit_0 : decode cX8_doesFit 0 = .ok (.iconst 0, 1) := by decide +kernel
theorem dX8_doesFit_1 : decode cX8_doesFit 1 = .ok (.istore_n 2, 1) := by decide +kernel
theorem dX8_doesFit_2 : decode cX8_doesFit 2 = .ok (.iload_n 2, 1) := by decide +kernel
theorem dX8_doesFit_3 : decode cX8_doesFit 3 = .ok (.aload_n 0, 1) := by decide +kernel
theorem dX8_doesFit_4 : decode cX8_doesFit 4 = .ok (.getfield 9, 3) := by decide +kernel
theorem dX8_doesFit_7 : decode cX8_doesFit 7 = .ok (.iconst 3, 1) := by decide +kernel
theorem dX8_doesFit_8 : decode cX8_doesFit 8 = .ok (.iaload, 1) := by decide +kernel
theorem dX8_doesFit_9 : decode cX8_doesFit 9 = .ok (.if_icmp .ge 49, 3) := by decide +kernel
theorem dX8_doesFit_12 : decode cX8_doesFit 12 = .ok (.bipush 26, 2) := by decide +kernel
theorem dX8_doesFit_14 : decode cX8_doesFit 14 = .ok (.iconst 2, 1) := by decide +kernel
theorem dX8_doesFit_15 : decode cX8_doesFit 15 = .ok (.iload_n 2, 1) := by decide +kernel
theorem dX8_doesFit_16 : decode cX8_doesFit 16 = .ok (.imul, 1) := by decide +kernel
theorem dX8_doesFit_17 : decode cX8_doesFit 17 = .ok (.iadd, 1) := by decide +kernel
theorem dX8_doesFit_18 : decode cX8_doesFit 18 = .ok (.istore_n 3, 1) := by decide +kernel
theorem dX8_doesFit_19 : decode cX8_doesFit 19 = .ok (.aload_n 0, 1) := by decide +kernel
theorem dX8_doesFit_20 : decode cX8_doesFit 20 = .ok (.iload_n 1, 1) := by decide +kernel
theorem dX8_doesFit_21 : decode cX8_doesFit 21 = .ok (.aload_n 0, 1) := by decide +kernel
theorem dX8_doesFit_22 : decode cX8_doesFit 22 = .ok (.getfield 9, 3) := by decide +kernel
theorem dX8_doesFit_25 : decode cX8_doesFit 25 = .ok (.iload_n 3, 1) := by decide +kernel
theorem dX8_doesFit_26 : decode cX8_doesFit 26 = .ok (.iaload, 1) := by decide +kernel
theorem dX8_doesFit_27 : decode cX8_doesFit 27 = .ok (.invokevirtual 63, 3) := by decide +kernel
theorem dX8_doesFit_30 : decode cX8_doesFit 30 = .ok (.aload_n 0, 1) := by decide +kernel
theorem dX8_doesFit_31 : decode cX8_doesFit 31 = .ok (.getfield 9, 3) := by decide +kernel
theorem dX8_doesFit_34 : decode cX8_doesFit 34 = .ok (.iload_n 3, 1) := by decide +kernel
theorem dX8_doesFit_35 : decode cX8_doesFit 35 = .ok (.iconst 1, 1) := by decide +kernel
theorem dX8_doesFit_36 : decode cX8_doesFit 36 = .ok (.iadd, 1) := by decide +kernel
theorem dX8_doesFit_37 : decode cX8_doesFit 37 = .ok (.iaload, 1) := by decide +kernel
theorem dX8_doesFit_38 : decode cX8_doesFit 38 = .ok (.iconst 1, 1) := by decide +kernel
theorem dX8_doesFit_39 : decode cX8_doesFit 39 = .ok (.if_icmp .ne 7, 3) := by decide +kernel
theorem dX8_doesFit_42 : decode cX8_doesFit 42 = .ok (.iconst 1, 1) := by decide +kernel
theorem dX8_doesFit_43 : decode cX8_doesFit 43 = .ok (.goto 4, 3) := by decide +kernel
theorem dX8_doesFit_46 : decode cX8_doesFit 46 = .ok (.iconst 0, 1) := by decide +kernel
theorem dX8_doesFit_47 : decode cX8_doesFit 47 = .ok (.if_icmp .eq 5, 3) := by decide +kernel
theorem dX8_doesFit_50 : decode cX8_doesFit 50 = .ok (.iconst 0, 1) := by decide +kernel
theorem dX8_doesFit_51 : decode cX8_doesFit 51 = .ok (.ireturn, 1) := by decide +kernel
theorem dX8_doesFit_52 : decode cX8_doesFit 52 = .ok (.iinc 2 1, 3) := by decide +kernel
theorem dX8_doesFit_55 : decode cX8_doesFit 55 = .ok (.goto (-53), 3) := by decide +kernel
theorem dX8_doesFit_58 : decode cX8_doesFit 58 = .ok (.iconst 1, 1) := by decide +kernel
theorem dX8_doesFit_59 : decode cX8_doesFit 59 = .ok (.ireturn, 1) := by decide +kernel
theorem dX8_findVows_0 : decode cX8_findVows 0 = .ok (.aload_n 0, 1) := by decide +kernel
theorem dX8_findVows_1 : decode cX8_findVows 1 = .ok (.getfield 66, 3) := by decide +kernel
theorem dX8_findVows_4 : decode cX8_findVows 4 = .ok (.ifCond .eq 4, 3) := by decide +kernel
theorem dX8_findVows_7 : decode cX8_findVows 7 = .ok (.return_, 1) := by decide +kernel
theorem dX8_findVows_8 : decode cX8_findVows 8 = .ok (.aload_n 0, 1) := by decide +kernel
theorem dX8_findVows_9 : decode cX8_findVows 9 = .ok (.iconst 1, 1) := by decide +kernel
theorem dX8_findVows_10 : decode cX8_findVows 10 = .ok (.putfield 66, 3) := by decide +kernel
theorem dX8_findVows_13 : decode cX8_findVows 13 = .ok (.aload_n 0, 1) := by decide +kernel
theorem dX8_findVows_14 : decode cX8_findVows 14 = .ok (.iconst 0, 1) := by decide +kernel
theorem dX8_findVows_15 : decode cX8_findVows 15 = .ok (.putfield 70, 3) := by decide +kernel
theorem dX8_findVows_18 : decode cX8_findVows 18 = .ok (.iconst 0, 1) := by decide +kernel
theorem dX8_findVows_19 : decode cX8_findVows 19 = .ok (.istore_n 1, 1) := by decide +kernel
theorem dX8_findVows_20 : decode cX8_findVows 20 = .ok (.iload_n 1, 1) := by decide +kernel
theorem dX8_findVows_21 : decode cX8_findVows 21 = .ok (.bipush 64, 2) := by decide +kernel
theorem dX8_findVows_23 : decode cX8_findVows 23 = .ok (.if_icmp .ge 16, 3) := by decide +kernel
theorem dX8_findVows_26 : decode cX8_findVows 26 = .ok (.aload_n 0, 1) := by decide +kernel
theorem dX8_findVows_27 : decode cX8_findVows 27 = .ok (.getfield 36, 3) := by decide +kernel
theorem dX8_findVows_30 : decode cX8_findVows 30 = .ok (.iload_n 1, 1) := by decide +kernel
theorem dX8_findVows_31 : decode cX8_findVows 31 = .ok (.iconst 0, 1) := by decide +kernel
theorem dX8_findVows_32 : decode cX8_findVows 32 = .ok (.iastore, 1) := by decide +kernel
theorem dX8_findVows_33 : decode cX8_findVows 33 = .ok (.iinc 1 1, 3) := by decide +kernel
theorem dX8_findVows_36 : decode cX8_findVows 36 = .ok (.goto (-16), 3) := by decide +kernel
theorem dX8_findVows_39 : decode cX8_findVows 39 = .ok (.iconst 0, 1) := by decide +kernel
theorem dX8_findVows_40 : decode cX8_findVows 40 = .ok (.istore_n 1, 1) := by decide +kernel
theorem dX8_findVows_41 : decode cX8_findVows 41 = .ok (.iload_n 1, 1) := by decide +kernel
theorem dX8_findVows_42 : decode cX8_findVows 42 = .ok (.sipush 729, 3) := by decide +kernel
theorem dX8_findVows_45 : decode cX8_findVows 45 = .ok (.if_icmp .ge 89, 3) := by decide +kernel
theorem dX8_findVows_48 : decode cX8_findVows 48 = .ok (.aload_n 0, 1) := by decide +kernel
theorem dX8_findVows_49 : decode cX8_findVows 49 = .ok (.getfield 32, 3) := by decide +kernel
theorem dX8_findVows_52 : decode cX8_findVows 52 = .ok (.iload_n 1, 1) := by decide +kernel
theorem dX8_findVows_53 : decode cX8_findVows 53 = .ok (.aload_n 0, 1) := by decide +kernel
theorem dX8_findVows_54 : decode cX8_findVows 54 = .ok (.iload_n 1, 1) := by decide +kernel
theorem dX8_findVows_55 : decode cX8_findVows 55 = .ok (.invokevirtual 74, 3) := by decide +kernel
theorem dX8_findVows_58 : decode cX8_findVows 58 = .ok (.bastore, 1) := by decide +kernel
theorem dX8_findVows_59 : decode cX8_findVows 59 = .ok (.aload_n 0, 1) := by decide +kernel
theorem dX8_findVows_60 : decode cX8_findVows 60 = .ok (.dup, 1) := by decide +kernel
theorem dX8_findVows_61 : decode cX8_findVows 61 = .ok (.getfield 70, 3) := by decide +kernel
theorem dX8_findVows_64 : decode cX8_findVows 64 = .ok (.aload_n 0, 1) := by decide +kernel
theorem dX8_findVows_65 : decode cX8_findVows 65 = .ok (.getfield 32, 3) := by decide +kernel
theorem dX8_findVows_68 : decode cX8_findVows 68 = .ok (.iload_n 1, 1) := by decide +kernel
theorem dX8_findVows_69 : decode cX8_findVows 69 = .ok (.baload, 1) := by decide +kernel
theorem dX8_findVows_70 : decode cX8_findVows 70 = .ok (.ifCond .eq 7, 3) := by decide +kernel
theorem dX8_findVows_73 : decode cX8_findVows 73 = .ok (.iconst 1, 1) := by decide +kernel
theorem dX8_findVows_74 : decode cX8_findVows 74 = .ok (.goto 4, 3) := by decide +kernel
theorem dX8_findVows_77 : decode cX8_findVows 77 = .ok (.iconst 0, 1) := by decide +kernel
theorem dX8_findVows_78 : decode cX8_findVows 78 = .ok (.iadd, 1) := by decide +kernel
theorem dX8_findVows_79 : decode cX8_findVows 79 = .ok (.putfield 70, 3) := by decide +kernel
theorem dX8_findVows_82 : decode cX8_findVows 82 = .ok (.iconst 0, 1) := by decide +kernel
theorem dX8_findVows_83 : decode cX8_findVows 83 = .ok (.istore_n 2, 1) := by decide +kernel
theorem dX8_findVows_84 : decode cX8_findVows 84 = .ok (.iload_n 2, 1) := by decide +kernel
theorem dX8_findVows_85 : decode cX8_findVows 85 = .ok (.bipush 64, 2) := by decide +kernel
theorem dX8_findVows_87 : decode cX8_findVows 87 = .ok (.if_icmp .ge 41, 3) := by decide +kernel
theorem dX8_findVows_90 : decode cX8_findVows 90 = .ok (.aload_n 0, 1) := by decide +kernel
theorem dX8_findVows_91 : decode cX8_findVows 91 = .ok (.getfield 32, 3) := by decide +kernel
theorem dX8_findVows_94 : decode cX8_findVows 94 = .ok (.iload_n 1, 1) := by decide +kernel
theorem dX8_findVows_95 : decode cX8_findVows 95 = .ok (.baload, 1) := by decide +kernel
theorem dX8_findVows_96 : decode cX8_findVows 96 = .ok (.ifCond .eq 32, 3) := by decide +kernel
theorem dX8_findVows_99 : decode cX8_findVows 99 = .ok (.aload_n 0, 1) := by decide +kernel
theorem dX8_findVows_100 : decode cX8_findVows 100 = .ok (.getfield 36, 3) := by decide +kernel
theorem dX8_findVows_103 : decode cX8_findVows 103 = .ok (.iload_n 2, 1) := by decide +kernel
theorem dX8_findVows_104 : decode cX8_findVows 104 = .ok (.dup2, 1) := by decide +kernel
theorem dX8_findVows_105 : decode cX8_findVows 105 = .ok (.iaload, 1) := by decide +kernel
theorem dX8_findVows_106 : decode cX8_findVows 106 = .ok (.aload_n 0, 1) := by decide +kernel
theorem dX8_findVows_107 : decode cX8_findVows 107 = .ok (.iload_n 1, 1) := by decide +kernel
theorem dX8_findVows_108 : decode cX8_findVows 108 = .ok (.iload_n 2, 1) := by decide +kernel
theorem dX8_findVows_109 : decode cX8_findVows 109 = .ok (.invokevirtual 63, 3) := by decide +kernel
theorem dX8_findVows_112 : decode cX8_findVows 112 = .ok (.ifCond .eq 7, 3) := by decide +kernel
theorem dX8_findVows_115 : decode cX8_findVows 115 = .ok (.iconst 1, 1) := by decide +kernel
theorem dX8_findVows_116 : decode cX8_findVows 116 = .ok (.goto 4, 3) := by decide +kernel
theorem dX8_findVows_119 : decode cX8_findVows 119 = .ok (.iconst 0, 1) := by decide +kernel
theorem dX8_findVows_120 : decode cX8_findVows 120 = .ok (.iadd, 1) := by decide +kernel
theorem dX8_findVows_121 : decode cX8_findVows 121 = .ok (.iastore, 1) := by decide +kernel
theorem dX8_findVows_122 : decode cX8_findVows 122 = .ok (.iinc 2 1, 3) := by decide +kernel
theorem dX8_findVows_125 : decode cX8_findVows 125 = .ok (.goto (-41), 3) := by decide +kernel
theorem dX8_findVows_128 : decode cX8_findVows 128 = .ok (.iinc 1 1, 3) := by decide +kernel
theorem dX8_findVows_131 : decode cX8_findVows 131 = .ok (.goto (-90), 3) := by decide +kernel
theorem dX8_findVows_134 : decode cX8_findVows 134 = .ok (.return_, 1) := by decide +kernel
theorem dX8_fittingNow_0 : decode cX8_fittingNow 0 = .ok (.aload_n 0, 1) := by decide +kernel
theorem dX8_fittingNow_1 : decode cX8_fittingNow 1 = .ok (.invokevirtual 78, 3) := by decide +kernel
theorem dX8_fittingNow_4 : decode cX8_fittingNow 4 = .ok (.aload_n 0, 1) := by decide +kernel
theorem dX8_fittingNow_5 : decode cX8_fittingNow 5 = .ok (.getfield 70, 3) := by decide +kernel
theorem dX8_fittingNow_8 : decode cX8_fittingNow 8 = .ok (.ireturn, 1) := by decide +kernel
theorem dX8_breaksBy_0 : decode cX8_breaksBy 0 = .ok (.aload_n 0, 1) := by decide +kernel
theorem dX8_breaksBy_1 : decode cX8_breaksBy 1 = .ok (.invokevirtual 78, 3) := by decide +kernel
theorem dX8_breaksBy_4 : decode cX8_breaksBy 4 = .ok (.aload_n 0, 1) := by decide +kernel
theorem dX8_breaksBy_5 : decode cX8_breaksBy 5 = .ok (.getfield 36, 3) := by decide +kernel
theorem dX8_breaksBy_8 : decode cX8_breaksBy 8 = .ok (.iload_n 1, 1) := by decide +kernel
theorem dX8_breaksBy_9 : decode cX8_breaksBy 9 = .ok (.iaload, 1) := by decide +kernel
theorem dX8_breaksBy_10 : decode cX8_breaksBy 10 = .ok (.ireturn, 1) := by decide +kernel
theorem dX8_comes_0 : decode cX8_comes 0 = .ok (.bipush 26, 2) := by decide +kernel
theorem dX8_comes_2 : decode cX8_comes 2 = .ok (.iconst 2, 1) := by decide +kernel
theorem dX8_comes_3 : decode cX8_comes 3 = .ok (.aload_n 0, 1) := by decide +kernel
theorem dX8_comes_4 : decode cX8_comes 4 = .ok (.getfield 9, 3) := by decide +kernel
theorem dX8_comes_7 : decode cX8_comes 7 = .ok (.iconst 3, 1) := by decide +kernel
theorem dX8_comes_8 : decode cX8_comes 8 = .ok (.iaload, 1) := by decide +kernel
theorem dX8_comes_9 : decode cX8_comes 9 = .ok (.imul, 1) := by decide +kernel
theorem dX8_comes_10 : decode cX8_comes 10 = .ok (.iadd, 1) := by decide +kernel
theorem dX8_comes_11 : decode cX8_comes 11 = .ok (.istore_n 3, 1) := by decide +kernel
theorem dX8_comes_12 : decode cX8_comes 12 = .ok (.aload_n 0, 1) := by decide +kernel
theorem dX8_comes_13 : decode cX8_comes 13 = .ok (.getfield 9, 3) := by decide +kernel
theorem dX8_comes_16 : decode cX8_comes 16 = .ok (.iload_n 3, 1) := by decide +kernel
theorem dX8_comes_17 : decode cX8_comes 17 = .ok (.iload_n 1, 1) := by decide +kernel
theorem dX8_comes_18 : decode cX8_comes 18 = .ok (.iastore, 1) := by decide +kernel
theorem dX8_comes_19 : decode cX8_comes 19 = .ok (.aload_n 0, 1) := by decide +kernel
theorem dX8_comes_20 : decode cX8_comes 20 = .ok (.getfield 9, 3) := by decide +kernel
theorem dX8_comes_23 : decode cX8_comes 23 = .ok (.iload_n 3, 1) := by decide +kernel
theorem dX8_comes_24 : decode cX8_comes 24 = .ok (.iconst 1, 1) := by decide +kernel
theorem dX8_comes_25 : decode cX8_comes 25 = .ok (.iadd, 1) := by decide +kernel
theorem dX8_comes_26 : decode cX8_comes 26 = .ok (.iload_n 2, 1) := by decide +kernel
theorem dX8_comes_27 : decode cX8_comes 27 = .ok (.iastore, 1) := by decide +kernel
theorem dX8_comes_28 : decode cX8_comes 28 = .ok (.aload_n 0, 1) := by decide +kernel
theorem dX8_comes_29 : decode cX8_comes 29 = .ok (.getfield 9, 3) := by decide +kernel
theorem dX8_comes_32 : decode cX8_comes 32 = .ok (.iconst 3, 1) := by decide +kernel
theorem dX8_comes_33 : decode cX8_comes 33 = .ok (.dup2, 1) := by decide +kernel
theorem dX8_comes_34 : decode cX8_comes 34 = .ok (.iaload, 1) := by decide +kernel
theorem dX8_comes_35 : decode cX8_comes 35 = .ok (.iconst 1, 1) := by decide +kernel
theorem dX8_comes_36 : decode cX8_comes 36 = .ok (.iadd, 1) := by decide +kernel
theorem dX8_comes_37 : decode cX8_comes 37 = .ok (.iastore, 1) := by decide +kernel
theorem dX8_comes_38 : decode cX8_comes 38 = .ok (.aload_n 0, 1) := by decide +kernel
theorem dX8_comes_39 : decode cX8_comes 39 = .ok (.iconst 0, 1) := by decide +kernel
theorem dX8_comes_40 : decode cX8_comes 40 = .ok (.putfield 66, 3) := by decide +kernel
theorem dX8_comes_43 : decode cX8_comes 43 = .ok (.return_, 1) := by decide +kernel
theorem dX8_doesShun_0 : decode cX8_doesShun 0 = .ok (.aload_n 0, 1) := by decide +kernel
theorem dX8_doesShun_1 : decode cX8_doesShun 1 = .ok (.iload_n 1, 1) := by decide +kernel
theorem dX8_doesShun_2 : decode cX8_doesShun 2 = .ok (.iconst 1, 1) := by decide +kernel
theorem dX8_doesShun_3 : decode cX8_doesShun 3 = .ok (.invokevirtual 81, 3) := by decide +kernel
theorem dX8_doesShun_6 : decode cX8_doesShun 6 = .ok (.istore_n 3, 1) := by decide +kernel
theorem dX8_doesShun_7 : decode cX8_doesShun 7 = .ok (.aload_n 0, 1) := by decide +kernel
theorem dX8_doesShun_8 : decode cX8_doesShun 8 = .ok (.iload_n 2, 1) := by decide +kernel
theorem dX8_doesShun_9 : decode cX8_doesShun 9 = .ok (.invokevirtual 85, 3) := by decide +kernel
theorem dX8_doesShun_12 : decode cX8_doesShun 12 = .ok (.istore 4, 2) := by decide +kernel
theorem dX8_doesShun_14 : decode cX8_doesShun 14 = .ok (.bipush 10, 2) := by decide +kernel
theorem dX8_doesShun_16 : decode cX8_doesShun 16 = .ok (.iload 4, 2) := by decide +kernel
theorem dX8_doesShun_18 : decode cX8_doesShun 18 = .ok (.imul, 1) := by decide +kernel
theorem dX8_doesShun_19 : decode cX8_doesShun 19 = .ok (.iload_n 3, 1) := by decide +kernel
theorem dX8_doesShun_20 : decode cX8_doesShun 20 = .ok (.aload_n 0, 1) := by decide +kernel
theorem dX8_doesShun_21 : decode cX8_doesShun 21 = .ok (.getfield 70, 3) := by decide +kernel
theorem dX8_doesShun_24 : decode cX8_doesShun 24 = .ok (.imul, 1) := by decide +kernel
theorem dX8_doesShun_25 : decode cX8_doesShun 25 = .ok (.if_icmp .le 7, 3) := by decide +kernel
theorem dX8_doesShun_28 : decode cX8_doesShun 28 = .ok (.iconst 1, 1) := by decide +kernel
theorem dX8_doesShun_29 : decode cX8_doesShun 29 = .ok (.goto 4, 3) := by decide +kernel
theorem dX8_doesShun_32 : decode cX8_doesShun 32 = .ok (.iconst 0, 1) := by decide +kernel
theorem dX8_doesShun_33 : decode cX8_doesShun 33 = .ok (.istore 5, 2) := by decide +kernel
theorem dX8_doesShun_35 : decode cX8_doesShun 35 = .ok (.iconst 2, 1) := by decide +kernel
theorem dX8_doesShun_36 : decode cX8_doesShun 36 = .ok (.iload 4, 2) := by decide +kernel
theorem dX8_doesShun_38 : decode cX8_doesShun 38 = .ok (.imul, 1) := by decide +kernel
theorem dX8_doesShun_39 : decode cX8_doesShun 39 = .ok (.aload_n 0, 1) := by decide +kernel
theorem dX8_doesShun_40 : decode cX8_doesShun 40 = .ok (.getfield 70, 3) := by decide +kernel
theorem dX8_doesShun_43 : decode cX8_doesShun 43 = .ok (.if_icmp .le 7, 3) := by decide +kernel
theorem dX8_doesShun_46 : decode cX8_doesShun 46 = .ok (.iconst 1, 1) := by decide +kernel
theorem dX8_doesShun_47 : decode cX8_doesShun 47 = .ok (.goto 4, 3) := by decide +kernel
theorem dX8_doesShun_50 : decode cX8_doesShun 50 = .ok (.iconst 0, 1) := by decide +kernel
theorem dX8_doesShun_51 : decode cX8_doesShun 51 = .ok (.istore 6, 2) := by decide +kernel
theorem dX8_doesShun_53 : decode cX8_doesShun 53 = .ok (.aload_n 0, 1) := by decide +kernel
theorem dX8_doesShun_54 : decode cX8_doesShun 54 = .ok (.iload_n 1, 1) := by decide +kernel
theorem dX8_doesShun_55 : decode cX8_doesShun 55 = .ok (.iconst 0, 1) := by decide +kernel
theorem dX8_doesShun_56 : decode cX8_doesShun 56 = .ok (.invokevirtual 81, 3) := by decide +kernel
theorem dX8_doesShun_59 : decode cX8_doesShun 59 = .ok (.tableswitch 126 1 6 #[37, 48, 51, 75, 95, 115], 37) := by decide +kernel
theorem dX8_doesShun_96 : decode cX8_doesShun 96 = .ok (.iload 4, 2) := by decide +kernel
theorem dX8_doesShun_98 : decode cX8_doesShun 98 = .ok (.ifCond .le 7, 3) := by decide +kernel
theorem dX8_doesShun_101 : decode cX8_doesShun 101 = .ok (.iconst 1, 1) := by decide +kernel
theorem dX8_doesShun_102 : decode cX8_doesShun 102 = .ok (.goto 4, 3) := by decide +kernel
theorem dX8_doesShun_105 : decode cX8_doesShun 105 = .ok (.iconst 0, 1) := by decide +kernel
theorem dX8_doesShun_106 : decode cX8_doesShun 106 = .ok (.ireturn, 1) := by decide +kernel
theorem dX8_doesShun_107 : decode cX8_doesShun 107 = .ok (.iload 6, 2) := by decide +kernel
theorem dX8_doesShun_109 : decode cX8_doesShun 109 = .ok (.ireturn, 1) := by decide +kernel
theorem dX8_doesShun_110 : decode cX8_doesShun 110 = .ok (.iload 5, 2) := by decide +kernel
theorem dX8_doesShun_112 : decode cX8_doesShun 112 = .ok (.ifCond .eq 20, 3) := by decide +kernel
theorem dX8_doesShun_115 : decode cX8_doesShun 115 = .ok (.aload_n 0, 1) := by decide +kernel
theorem dX8_doesShun_116 : decode cX8_doesShun 116 = .ok (.getfield 9, 3) := by decide +kernel
theorem dX8_doesShun_119 : decode cX8_doesShun 119 = .ok (.iconst 0, 1) := by decide +kernel
theorem dX8_doesShun_120 : decode cX8_doesShun 120 = .ok (.iaload, 1) := by decide +kernel
theorem dX8_doesShun_121 : decode cX8_doesShun 121 = .ok (.bipush 7, 2) := by decide +kernel
theorem dX8_doesShun_123 : decode cX8_doesShun 123 = .ok (.irem, 1) := by decide +kernel
theorem dX8_doesShun_124 : decode cX8_doesShun 124 = .ok (.iconst 2, 1) := by decide +kernel
theorem dX8_doesShun_125 : decode cX8_doesShun 125 = .ok (.if_icmp .ne 7, 3) := by decide +kernel
theorem dX8_doesShun_128 : decode cX8_doesShun 128 = .ok (.iconst 1, 1) := by decide +kernel
theorem dX8_doesShun_129 : decode cX8_doesShun 129 = .ok (.goto 4, 3) := by decide +kernel
theorem dX8_doesShun_132 : decode cX8_doesShun 132 = .ok (.iconst 0, 1) := by decide +kernel
theorem dX8_doesShun_133 : decode cX8_doesShun 133 = .ok (.ireturn, 1) := by decide +kernel
theorem dX8_doesShun_134 : decode cX8_doesShun 134 = .ok (.iload 4, 2) := by decide +kernel
theorem dX8_doesShun_136 : decode cX8_doesShun 136 = .ok (.ifCond .gt 12, 3) := by decide +kernel
theorem dX8_doesShun_139 : decode cX8_doesShun 139 = .ok (.iload_n 2, 1) := by decide +kernel
theorem dX8_doesShun_140 : decode cX8_doesShun 140 = .ok (.iconst 2, 1) := by decide +kernel
theorem dX8_doesShun_141 : decode cX8_doesShun 141 = .ok (.irem, 1) := by decide +kernel
theorem dX8_doesShun_142 : decode cX8_doesShun 142 = .ok (.iload_n 3, 1) := by decide +kernel
