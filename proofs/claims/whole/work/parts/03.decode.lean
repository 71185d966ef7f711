theorem dX0_init_0 : decode cX0_init 0 = .ok (.aload_n 0, 1) := by decide +kernel
theorem dX0_init_1 : decode cX0_init 1 = .ok (.invokespecial 3, 3) := by decide +kernel
theorem dX0_init_4 : decode cX0_init 4 = .ok (.aload_n 0, 1) := by decide +kernel
theorem dX0_init_5 : decode cX0_init 5 = .ok (.new 9, 3) := by decide +kernel
theorem dX0_init_8 : decode cX0_init 8 = .ok (.dup, 1) := by decide +kernel
theorem dX0_init_9 : decode cX0_init 9 = .ok (.bipush 60, 2) := by decide +kernel
theorem dX0_init_11 : decode cX0_init 11 = .ok (.invokespecial 11, 3) := by decide +kernel
theorem dX0_init_14 : decode cX0_init 14 = .ok (.putfield 14, 3) := by decide +kernel
theorem dX0_init_17 : decode cX0_init 17 = .ok (.aload_n 0, 1) := by decide +kernel
theorem dX0_init_18 : decode cX0_init 18 = .ok (.ldc 20, 2) := by decide +kernel
theorem dX0_init_20 : decode cX0_init 20 = .ok (.putfield 22, 3) := by decide +kernel
theorem dX0_init_23 : decode cX0_init 23 = .ok (.aload_n 0, 1) := by decide +kernel
theorem dX0_init_24 : decode cX0_init 24 = .ok (.iconst 0, 1) := by decide +kernel
theorem dX0_init_25 : decode cX0_init 25 = .ok (.putfield 26, 3) := by decide +kernel
theorem dX0_init_28 : decode cX0_init 28 = .ok (.aload_n 0, 1) := by decide +kernel
theorem dX0_init_29 : decode cX0_init 29 = .ok (.iconst 0, 1) := by decide +kernel
theorem dX0_init_30 : decode cX0_init 30 = .ok (.putfield 30, 3) := by decide +kernel
theorem dX0_init_33 : decode cX0_init 33 = .ok (.aload_n 0, 1) := by decide +kernel
theorem dX0_init_34 : decode cX0_init 34 = .ok (.aload_n 1, 1) := by decide +kernel
theorem dX0_init_35 : decode cX0_init 35 = .ok (.putfield 34, 3) := by decide +kernel
theorem dX0_init_38 : decode cX0_init 38 = .ok (.return_, 1) := by decide +kernel
theorem dX0_faultOf_0 : decode cX0_faultOf 0 = .ok (.aload_n 0, 1) := by decide +kernel
theorem dX0_faultOf_1 : decode cX0_faultOf 1 = .ok (.aload_n 1, 1) := by decide +kernel
theorem dX0_faultOf_2 : decode cX0_faultOf 2 = .ok (.putfield 22, 3) := by decide +kernel
theorem dX0_faultOf_5 : decode cX0_faultOf 5 = .ok (.aload_n 0, 1) := by decide +kernel
theorem dX0_faultOf_6 : decode cX0_faultOf 6 = .ok (.iconst 0, 1) := by decide +kernel
theorem dX0_faultOf_7 : decode cX0_faultOf 7 = .ok (.putfield 26, 3) := by decide +kernel
theorem dX0_faultOf_10 : decode cX0_faultOf 10 = .ok (.aload_n 0, 1) := by decide +kernel
theorem dX0_faultOf_11 : decode cX0_faultOf 11 = .ok (.iconst 0, 1) := by decide +kernel
theorem dX0_faultOf_12 : decode cX0_faultOf 12 = .ok (.putfield 30, 3) := by decide +kernel
theorem dX0_faultOf_15 : decode cX0_faultOf 15 = .ok (.aload_n 0, 1) := by decide +kernel
theorem dX0_faultOf_16 : decode cX0_faultOf 16 = .ok (.getfield 14, 3) := by decide +kernel
theorem dX0_faultOf_19 : decode cX0_faultOf 19 = .ok (.invokevirtual 37, 3) := by decide +kernel
theorem dX0_faultOf_22 : decode cX0_faultOf 22 = .ok (.aload_n 0, 1) := by decide +kernel
theorem dX0_faultOf_23 : decode cX0_faultOf 23 = .ok (.iconst 0, 1) := by decide +kernel
theorem dX0_faultOf_24 : decode cX0_faultOf 24 = .ok (.invokevirtual 40, 3) := by decide +kernel
theorem dX0_faultOf_27 : decode cX0_faultOf 27 = .ok (.aload_n 0, 1) := by decide +kernel
theorem dX0_faultOf_28 : decode cX0_faultOf 28 = .ok (.getfield 30, 3) := by decide +kernel
theorem dX0_faultOf_31 : decode cX0_faultOf 31 = .ok (.ifCond .ne 17, 3) := by decide +kernel
theorem dX0_faultOf_34 : decode cX0_faultOf 34 = .ok (.aload_n 0, 1) := by decide +kernel
theorem dX0_faultOf_35 : decode cX0_faultOf 35 = .ok (.getfield 26, 3) := by decide +kernel
theorem dX0_faultOf_38 : decode cX0_faultOf 38 = .ok (.aload_n 0, 1) := by decide +kernel
theorem dX0_faultOf_39 : decode cX0_faultOf 39 = .ok (.getfield 34, 3) := by decide +kernel
theorem dX0_faultOf_42 : decode cX0_faultOf 42 = .ok (.invokevirtual 43, 3) := by decide +kernel
theorem dX0_faultOf_45 : decode cX0_faultOf 45 = .ok (.if_icmp .ge 10, 3) := by decide +kernel
theorem dX0_faultOf_48 : decode cX0_faultOf 48 = .ok (.aload_n 0, 1) := by decide +kernel
theorem dX0_faultOf_49 : decode cX0_faultOf 49 = .ok (.getfield 26, 3) := by decide +kernel
theorem dX0_faultOf_52 : decode cX0_faultOf 52 = .ok (.goto 4, 3) := by decide +kernel
theorem dX0_faultOf_55 : decode cX0_faultOf 55 = .ok (.iconst (-1), 1) := by decide +kernel
theorem dX0_faultOf_56 : decode cX0_faultOf 56 = .ok (.ireturn, 1) := by decide +kernel
theorem dX0_next_0 : decode cX0_next 0 = .ok (.aload_n 0, 1) := by decide +kernel
theorem dX0_next_1 : decode cX0_next 1 = .ok (.getfield 34, 3) := by decide +kernel
theorem dX0_next_4 : decode cX0_next 4 = .ok (.aload_n 0, 1) := by decide +kernel
theorem dX0_next_5 : decode cX0_next 5 = .ok (.getfield 26, 3) := by decide +kernel
theorem dX0_next_8 : decode cX0_next 8 = .ok (.invokevirtual 47, 3) := by decide +kernel
theorem dX0_next_11 : decode cX0_next 11 = .ok (.ireturn, 1) := by decide +kernel
theorem dX0_takes_0 : decode cX0_takes 0 = .ok (.aload_n 0, 1) := by decide +kernel
theorem dX0_takes_1 : decode cX0_takes 1 = .ok (.getfield 30, 3) := by decide +kernel
theorem dX0_takes_4 : decode cX0_takes 4 = .ok (.ifCond .ne 11, 3) := by decide +kernel
theorem dX0_takes_7 : decode cX0_takes 7 = .ok (.aload_n 0, 1) := by decide +kernel
theorem dX0_takes_8 : decode cX0_takes 8 = .ok (.invokevirtual 51, 3) := by decide +kernel
theorem dX0_takes_11 : decode cX0_takes 11 = .ok (.iload_n 1, 1) := by decide +kernel
theorem dX0_takes_12 : decode cX0_takes 12 = .ok (.if_icmp .eq 5, 3) := by decide +kernel
theorem dX0_takes_15 : decode cX0_takes 15 = .ok (.iconst 0, 1) := by decide +kernel
theorem dX0_takes_16 : decode cX0_takes 16 = .ok (.ireturn, 1) := by decide +kernel
theorem dX0_takes_17 : decode cX0_takes 17 = .ok (.aload_n 0, 1) := by decide +kernel
theorem dX0_takes_18 : decode cX0_takes 18 = .ok (.dup, 1) := by decide +kernel
theorem dX0_takes_19 : decode cX0_takes 19 = .ok (.getfield 26, 3) := by decide +kernel
theorem dX0_takes_22 : decode cX0_takes 22 = .ok (.iconst 1, 1) := by decide +kernel
theorem dX0_takes_23 : decode cX0_takes 23 = .ok (.iadd, 1) := by decide +kernel
theorem dX0_takes_24 : decode cX0_takes 24 = .ok (.putfield 26, 3) := by decide +kernel
theorem dX0_takes_27 : decode cX0_takes 27 = .ok (.iconst 1, 1) := by decide +kernel
theorem dX0_takes_28 : decode cX0_takes 28 = .ok (.ireturn, 1) := by decide +kernel
theorem dX0_takesOneOf_0 : decode cX0_takesOneOf 0 = .ok (.iconst 0, 1) := by decide +kernel
theorem dX0_takesOneOf_1 : decode cX0_takesOneOf 1 = .ok (.istore_n 2, 1) := by decide +kernel
theorem dX0_takesOneOf_2 : decode cX0_takesOneOf 2 = .ok (.iload_n 2, 1) := by decide +kernel
theorem dX0_takesOneOf_3 : decode cX0_takesOneOf 3 = .ok (.aload_n 1, 1) := by decide +kernel
theorem dX0_takesOneOf_4 : decode cX0_takesOneOf 4 = .ok (.invokevirtual 54, 3) := by decide +kernel
theorem dX0_takesOneOf_7 : decode cX0_takesOneOf 7 = .ok (.if_icmp .ge 27, 3) := by decide +kernel
theorem dX0_takesOneOf_10 : decode cX0_takesOneOf 10 = .ok (.aload_n 0, 1) := by decide +kernel
theorem dX0_takesOneOf_11 : decode cX0_takesOneOf 11 = .ok (.aload_n 1, 1) := by decide +kernel
theorem dX0_takesOneOf_12 : decode cX0_takesOneOf 12 = .ok (.iload_n 2, 1) := by decide +kernel
theorem dX0_takesOneOf_13 : decode cX0_takesOneOf 13 = .ok (.invokevirtual 59, 3) := by decide +kernel
theorem dX0_takesOneOf_16 : decode cX0_takesOneOf 16 = .ok (.invokevirtual 63, 3) := by decide +kernel
theorem dX0_takesOneOf_19 : decode cX0_takesOneOf 19 = .ok (.ifCond .eq 9, 3) := by decide +kernel
theorem dX0_takesOneOf_22 : decode cX0_takesOneOf 22 = .ok (.aload_n 1, 1) := by decide +kernel
theorem dX0_takesOneOf_23 : decode cX0_takesOneOf 23 = .ok (.iload_n 2, 1) := by decide +kernel
theorem dX0_takesOneOf_24 : decode cX0_takesOneOf 24 = .ok (.invokevirtual 59, 3) := by decide +kernel
theorem dX0_takesOneOf_27 : decode cX0_takesOneOf 27 = .ok (.ireturn, 1) := by decide +kernel
theorem dX0_takesOneOf_28 : decode cX0_takesOneOf 28 = .ok (.iinc 2 1, 3) := by decide +kernel
theorem dX0_takesOneOf_31 : decode cX0_takesOneOf 31 = .ok (.goto (-29), 3) := by decide +kernel
theorem dX0_takesOneOf_34 : decode cX0_takesOneOf 34 = .ok (.iconst 0, 1) := by decide +kernel
theorem dX0_takesOneOf_35 : decode cX0_takesOneOf 35 = .ok (.ireturn, 1) := by decide +kernel
theorem dX0_readOr_0 : decode cX0_readOr 0 = .ok (.aload_n 0, 1) := by decide +kernel
theorem dX0_readOr_1 : decode cX0_readOr 1 = .ok (.iload_n 1, 1) := by decide +kernel
theorem dX0_readOr_2 : decode cX0_readOr 2 = .ok (.invokevirtual 67, 3) := by decide +kernel
theorem dX0_readOr_5 : decode cX0_readOr 5 = .ok (.iconst 0, 1) := by decide +kernel
theorem dX0_readOr_6 : decode cX0_readOr 6 = .ok (.istore_n 2, 1) := by decide +kernel
theorem dX0_readOr_7 : decode cX0_readOr 7 = .ok (.iload_n 2, 1) := by decide +kernel
theorem dX0_readOr_8 : decode cX0_readOr 8 = .ok (.bipush 60, 2) := by decide +kernel
theorem dX0_readOr_10 : decode cX0_readOr 10 = .ok (.if_icmp .ge 32, 3) := by decide +kernel
theorem dX0_readOr_13 : decode cX0_readOr 13 = .ok (.aload_n 0, 1) := by decide +kernel
theorem dX0_readOr_14 : decode cX0_readOr 14 = .ok (.bipush 124, 2) := by decide +kernel
theorem dX0_readOr_16 : decode cX0_readOr 16 = .ok (.invokevirtual 63, 3) := by decide +kernel
theorem dX0_readOr_19 : decode cX0_readOr 19 = .ok (.ifCond .eq 23, 3) := by decide +kernel
theorem dX0_readOr_22 : decode cX0_readOr 22 = .ok (.aload_n 0, 1) := by decide +kernel
theorem dX0_readOr_23 : decode cX0_readOr 23 = .ok (.iload_n 1, 1) := by decide +kernel
theorem dX0_readOr_24 : decode cX0_readOr 24 = .ok (.invokevirtual 67, 3) := by decide +kernel
theorem dX0_readOr_27 : decode cX0_readOr 27 = .ok (.aload_n 0, 1) := by decide +kernel
theorem dX0_readOr_28 : decode cX0_readOr 28 = .ok (.getfield 14, 3) := by decide +kernel
theorem dX0_readOr_31 : decode cX0_readOr 31 = .ok (.bipush (-124), 2) := by decide +kernel
theorem dX0_readOr_33 : decode cX0_readOr 33 = .ok (.invokevirtual 70, 3) := by decide +kernel
theorem dX0_readOr_36 : decode cX0_readOr 36 = .ok (.iinc 2 1, 3) := by decide +kernel
theorem dX0_readOr_39 : decode cX0_readOr 39 = .ok (.goto (-32), 3) := by decide +kernel
theorem dX0_readOr_42 : decode cX0_readOr 42 = .ok (.return_, 1) := by decide +kernel
theorem dX0_readAnd_0 : decode cX0_readAnd 0 = .ok (.aload_n 0, 1) := by decide +kernel
theorem dX0_readAnd_1 : decode cX0_readAnd 1 = .ok (.iload_n 1, 1) := by decide +kernel
theorem dX0_readAnd_2 : decode cX0_readAnd 2 = .ok (.invokevirtual 73, 3) := by decide +kernel
theorem dX0_readAnd_5 : decode cX0_readAnd 5 = .ok (.iconst 0, 1) := by decide +kernel
theorem dX0_readAnd_6 : decode cX0_readAnd 6 = .ok (.istore_n 2, 1) := by decide +kernel
theorem dX0_readAnd_7 : decode cX0_readAnd 7 = .ok (.iload_n 2, 1) := by decide +kernel
theorem dX0_readAnd_8 : decode cX0_readAnd 8 = .ok (.bipush 60, 2) := by decide +kernel
theorem dX0_readAnd_10 : decode cX0_readAnd 10 = .ok (.if_icmp .ge 32, 3) := by decide +kernel
theorem dX0_readAnd_13 : decode cX0_readAnd 13 = .ok (.aload_n 0, 1) := by decide +kernel
theorem dX0_readAnd_14 : decode cX0_readAnd 14 = .ok (.bipush 38, 2) := by decide +kernel
theorem dX0_readAnd_16 : decode cX0_readAnd 16 = .ok (.invokevirtual 63, 3) := by decide +kernel
theorem dX0_readAnd_19 : decode cX0_readAnd 19 = .ok (.ifCond .eq 23, 3) := by decide +kernel
theorem dX0_readAnd_22 : decode cX0_readAnd 22 = .ok (.aload_n 0, 1) := by decide +kernel
theorem dX0_readAnd_23 : decode cX0_readAnd 23 = .ok (.iload_n 1, 1) := by decide +kernel
theorem dX0_readAnd_24 : decode cX0_readAnd 24 = .ok (.invokevirtual 73, 3) := by decide +kernel
theorem dX0_readAnd_27 : decode cX0_readAnd 27 = .ok (.aload_n 0, 1) := by decide +kernel
theorem dX0_readAnd_28 : decode cX0_readAnd 28 = .ok (.getfield 14, 3) := by decide +kernel
theorem dX0_readAnd_31 : decode cX0_readAnd 31 = .ok (.bipush (-38), 2) := by decide +kernel
theorem dX0_readAnd_33 : decode cX0_readAnd 33 = .ok (.invokevirtual 70, 3) := by decide +kernel
theorem dX0_readAnd_36 : decode cX0_readAnd 36 = .ok (.iinc 2 1, 3) := by decide +kernel
theorem dX0_readAnd_39 : decode cX0_readAnd 39 = .ok (.goto (-32), 3) := by decide +kernel
theorem dX0_readAnd_42 : decode cX0_readAnd 42 = .ok (.return_, 1) := by decide +kernel
theorem dX0_readComparison_0 : decode cX0_readComparison 0 = .ok (.aload_n 0, 1) := by decide +kernel
theorem dX0_readComparison_1 : decode cX0_readComparison 1 = .ok (.iload_n 1, 1) := by decide +kernel
theorem dX0_readComparison_2 : decode cX0_readComparison 2 = .ok (.invokevirtual 76, 3) := by decide +kernel
theorem dX0_readComparison_5 : decode cX0_readComparison 5 = .ok (.aload_n 0, 1) := by decide +kernel
theorem dX0_readComparison_6 : decode cX0_readComparison 6 = .ok (.ldc 79, 2) := by decide +kernel
theorem dX0_readComparison_8 : decode cX0_readComparison 8 = .ok (.invokevirtual 81, 3) := by decide +kernel
theorem dX0_readComparison_11 : decode cX0_readComparison 11 = .ok (.istore_n 2, 1) := by decide +kernel
theorem dX0_readComparison_12 : decode cX0_readComparison 12 = .ok (.iload_n 2, 1) := by decide +kernel
theorem dX0_readComparison_13 : decode cX0_readComparison 13 = .ok (.ifCond .eq 17, 3) := by decide +kernel
theorem dX0_readComparison_16 : decode cX0_readComparison 16 = .ok (.aload_n 0, 1) := by decide +kernel
theorem dX0_readComparison_17 : decode cX0_readComparison 17 = .ok (.iload_n 1, 1) := by decide +kernel
theorem dX0_readComparison_18 : decode cX0_readComparison 18 = .ok (.invokevirtual 76, 3) := by decide +kernel
theorem dX0_readComparison_21 : decode cX0_readComparison 21 = .ok (.aload_n 0, 1) := by decide +kernel
theorem dX0_readComparison_22 : decode cX0_readComparison 22 = .ok (.getfield 14, 3) := by decide +kernel
theorem dX0_readComparison_25 : decode cX0_readComparison 25 = .ok (.iload_n 2, 1) := by decide +kernel
theorem dX0_readComparison_26 : decode cX0_readComparison 26 = .ok (.ineg, 1) := by decide +kernel
theorem dX0_readComparison_27 : decode cX0_readComparison 27 = .ok (.invokevirtual 70, 3) := by decide +kernel
theorem dX0_readComparison_30 : decode cX0_readComparison 30 = .ok (.return_, 1) := by decide +kernel
theorem dX0_readSum_0 : decode cX0_readSum 0 = .ok (.aload_n 0, 1) := by decide +kernel
theorem dX0_readSum_1 : decode cX0_readSum 1 = .ok (.iload_n 1, 1) := by decide +kernel
theorem dX0_readSum_2 : decode cX0_readSum 2 = .ok (.invokevirtual 85, 3) := by decide +kernel
theorem dX0_readSum_5 : decode cX0_readSum 5 = .ok (.aload_n 0, 1) := by decide +kernel
theorem dX0_readSum_6 : decode cX0_readSum 6 = .ok (.ldc 88, 2) := by decide +kernel
theorem dX0_readSum_8 : decode cX0_readSum 8 = .ok (.invokevirtual 81, 3) := by decide +kernel
theorem dX0_readSum_11 : decode cX0_readSum 11 = .ok (.istore_n 2, 1) := by decide +kernel
theorem dX0_readSum_12 : decode cX0_readSum 12 = .ok (.iconst 0, 1) := by decide +kernel
theorem dX0_readSum_13 : decode cX0_readSum 13 = .ok (.istore_n 3, 1) := by decide +kernel
theorem dX0_readSum_14 : decode cX0_readSum 14 = .ok (.iload_n 3, 1) := by decide +kernel
theorem dX0_readSum_15 : decode cX0_readSum 15 = .ok (.bipush 60, 2) := by decide +kernel
theorem dX0_readSum_17 : decode cX0_readSum 17 = .ok (.if_icmp .ge 34, 3) := by decide +kernel
theorem dX0_readSum_20 : decode cX0_readSum 20 = .ok (.iload_n 2, 1) := by decide +kernel
theorem dX0_readSum_21 : decode cX0_readSum 21 = .ok (.ifCond .eq 30, 3) := by decide +kernel
theorem dX0_readSum_24 : decode cX0_readSum 24 = .ok (.aload_n 0, 1) := by decide +kernel
theorem dX0_readSum_25 : decode cX0_readSum 25 = .ok (.iload_n 1, 1) := by decide +kernel
theorem dX0_readSum_26 : decode cX0_readSum 26 = .ok (.invokevirtual 85, 3) := by decide +kernel
theorem dX0_readSum_29 : decode cX0_readSum 29 = .ok (.aload_n 0, 1) := by decide +kernel
theorem dX0_readSum_30 : decode cX0_readSum 30 = .ok (.getfield 14, 3) := by decide +kernel
theorem dX0_readSum_33 : decode cX0_readSum 33 = .ok (.iload_n 2, 1) := by decide +kernel
theorem dX0_readSum_34 : decode cX0_readSum 34 = .ok (.ineg, 1) := by decide +kernel
theorem dX0_readSum_35 : decode cX0_readSum 35 = .ok (.invokevirtual 70, 3) := by decide +kernel
theorem dX0_readSum_38 : decode cX0_readSum 38 = .ok (.aload_n 0, 1) := by decide +kernel
theorem dX0_readSum_39 : decode cX0_readSum 39 = .ok (.ldc 88, 2) := by decide +kernel
theorem dX0_readSum_41 : decode cX0_readSum 41 = .ok (.invokevirtual 81, 3) := by decide +kernel
theorem dX0_readSum_44 : decode cX0_readSum 44 = .ok (.istore_n 2, 1) := by decide +kernel
theorem dX0_readSum_45 : decode cX0_readSum 45 = .ok (.iinc 3 1, 3) := by decide +kernel
theorem dX0_readSum_48 : decode cX0_readSum 48 = .ok (.goto (-34), 3) := by decide +kernel
theorem dX0_readSum_51 : decode cX0_readSum 51 = .ok (.return_, 1) := by decide +kernel
theorem dX0_readProduct_0 : decode cX0_readProduct 0 = .ok (.aload_n 0, 1) := by decide +kernel
theorem dX0_readProduct_1 : decode cX0_readProduct 1 = .ok (.iload_n 1, 1) := by decide +kernel
theorem dX0_readProduct_2 : decode cX0_readProduct 2 = .ok (.invokevirtual 90, 3) := by decide +kernel
theorem dX0_readProduct_5 : decode cX0_readProduct 5 = .ok (.aload_n 0, 1) := by decide +kernel
theorem dX0_readProduct_6 : decode cX0_readProduct 6 = .ok (.ldc 93, 2) := by decide +kernel
theorem dX0_readProduct_8 : decode cX0_readProduct 8 = .ok (.invokevirtual 81, 3) := by decide +kernel
theorem dX0_readProduct_11 : decode cX0_readProduct 11 = .ok (.istore_n 2, 1) := by decide +kernel
theorem dX0_readProduct_12 : decode cX0_readProduct 12 = .ok (.iconst 0, 1) := by decide +kernel
theorem dX0_readProduct_13 : decode cX0_readProduct 13 = .ok (.istore_n 3, 1) := by decide +kernel
theorem dX0_readProduct_14 : decode cX0_readProduct 14 = .ok (.iload_n 3, 1) := by decide +kernel
theorem dX0_readProduct_15 : decode cX0_readProduct 15 = .ok (.bipush 60, 2) := by decide +kernel
theorem dX0_readProduct_17 : decode cX0_readProduct 17 = .ok (.if_icmp .ge 34, 3) := by decide +kernel
theorem dX0_readProduct_20 : decode cX0_readProduct 20 = .ok (.iload_n 2, 1) := by decide +kernel
theorem dX0_readProduct_21 : decode cX0_readProduct 21 = .ok (.ifCond .eq 30, 3) := by decide +kernel
theorem dX0_readProduct_24 : decode cX0_readProduct 24 = .ok (.aload_n 0, 1) := by decide +kernel
theorem dX0_readProduct_25 : decode cX0_readProduct 25 = .ok (.iload_n 1, 1) := by decide +kernel
theorem dX0_readProduct_26 : decode cX0_readProduct 26 = .ok (.invokevirtual 90, 3) := by decide +kernel
theorem dX0_readProduct_29 : decode cX0_readProduct 29 = .ok (.aload_n 0, 1) := by decide +kernel
theorem dX0_readProduct_30 : decode cX0_readProduct 30 = .ok (.getfield 14, 3) := by decide +kernel
theorem dX0_readProduct_33 : decode cX0_readProduct 33 = .ok (.iload_n 2, 1) := by decide +kernel
theorem dX0_readProduct_34 : decode cX0_readProduct 34 = .ok (.ineg, 1) := by decide +kernel
theorem dX0_readProduct_35 : decode cX0_readProduct 35 = .ok (.invokevirtual 70, 3) := by decide +kernel
theorem dX0_readProduct_38 : decode cX0_readProduct 38 = .ok (.aload_n 0, 1) := by decide +kernel
theorem dX0_readProduct_39 : decode cX0_readProduct 39 = .ok (.ldc 93, 2) := by decide +kernel
theorem dX0_readProduct_41 : decode cX0_readProduct 41 = .ok (.invokevirtual 81, 3) := by decide +kernel
theorem dX0_readProduct_44 : decode cX0_readProduct 44 = .ok (.istore_n 2, 1) := by decide +kernel
theorem dX0_readProduct_45 : decode cX0_readProduct 45 = .ok (.iinc 3 1, 3) := by decide +kernel
theorem dX0_readProduct_48 : decode cX0_readProduct 48 = .ok (.goto (-34), 3) := by decide +kernel
theorem dX0_readProduct_51 : decode cX0_readProduct 51 = .ok (.return_, 1) := by decide +kernel
theorem dX0_readFactor_0 : decode cX0_readFactor 0 = .ok (.aload_n 0, 1) := by decide +kernel
theorem dX0_readFactor_1 : decode cX0_readFactor 1 = .ok (.getfield 30, 3) := by decide +kernel
theorem dX0_readFactor_4 : decode cX0_readFactor 4 = .ok (.ifCond .eq 4, 3) := by decide +kernel
theorem dX0_readFactor_7 : decode cX0_readFactor 7 = .ok (.return_, 1) := by decide +kernel
theorem dX0_readFactor_8 : decode cX0_readFactor 8 = .ok (.aload_n 0, 1) := by decide +kernel
theorem dX0_readFactor_9 : decode cX0_readFactor 9 = .ok (.getfield 22, 3) := by decide +kernel
theorem dX0_readFactor_12 : decode cX0_readFactor 12 = .ok (.aload_n 0, 1) := by decide +kernel
theorem dX0_readFactor_13 : decode cX0_readFactor 13 = .ok (.invokevirtual 51, 3) := by decide +kernel
theorem dX0_readFactor_16 : decode cX0_readFactor 16 = .ok (.i2c, 1) := by decide +kernel
theorem dX0_readFactor_17 : decode cX0_readFactor 17 = .ok (.invokevirtual 95, 3) := by decide +kernel
theorem dX0_readFactor_20 : decode cX0_readFactor 20 = .ok (.istore_n 2, 1) := by decide +kernel
theorem dX0_readFactor_21 : decode cX0_readFactor 21 = .ok (.aload_n 0, 1) := by decide +kernel
theorem dX0_readFactor_22 : decode cX0_readFactor 22 = .ok (.invokevirtual 98, 3) := by decide +kernel
theorem dX0_readFactor_25 : decode cX0_readFactor 25 = .ok (.ifCond .eq 10, 3) := by decide +kernel
theorem dX0_readFactor_28 : decode cX0_readFactor 28 = .ok (.aload_n 0, 1) := by decide +kernel
theorem dX0_readFactor_29 : decode cX0_readFactor 29 = .ok (.invokevirtual 102, 3) := by decide +kernel
theorem dX0_readFactor_32 : decode cX0_readFactor 32 = .ok (.goto 110, 3) := by decide +kernel
theorem dX0_readFactor_35 : decode cX0_readFactor 35 = .ok (.iload_n 2, 1) := by decide +kernel
theorem dX0_readFactor_36 : decode cX0_readFactor 36 = .ok (.ifCond .lt 26, 3) := by decide +kernel
theorem dX0_readFactor_39 : decode cX0_readFactor 39 = .ok (.aload_n 0, 1) := by decide +kernel
theorem dX0_readFactor_40 : decode cX0_readFactor 40 = .ok (.dup, 1) := by decide +kernel
theorem dX0_readFactor_41 : decode cX0_readFactor 41 = .ok (.getfield 26, 3) := by decide +kernel
theorem dX0_readFactor_44 : decode cX0_readFactor 44 = .ok (.iconst 1, 1) := by decide +kernel
theorem dX0_readFactor_45 : decode cX0_readFactor 45 = .ok (.iadd, 1) := by decide +kernel
theorem dX0_readFactor_46 : decode cX0_readFactor 46 = .ok (.putfield 26, 3) := by decide +kernel
theorem dX0_readFactor_49 : decode cX0_readFactor 49 = .ok (.aload_n 0, 1) := by decide +kernel
theorem dX0_readFactor_50 : decode cX0_readFactor 50 = .ok (.getfield 14, 3) := by decide +kernel
theorem dX0_readFactor_53 : decode cX0_readFactor 53 = .ok (.iconst (-1), 1) := by decide +kernel
theorem dX0_readFactor_54 : decode cX0_readFactor 54 = .ok (.iload_n 2, 1) := by decide +kernel
theorem dX0_readFactor_55 : decode cX0_readFactor 55 = .ok (.isub, 1) := by decide +kernel
theorem dX0_readFactor_56 : decode cX0_readFactor 56 = .ok (.invokevirtual 70, 3) := by decide +kernel
theorem dX0_readFactor_59 : decode cX0_readFactor 59 = .ok (.goto 83, 3) := by decide +kernel
theorem dX0_readFactor_62 : decode cX0_readFactor 62 = .ok (.iload_n 1, 1) := by decide +kernel
theorem dX0_readFactor_63 : decode cX0_readFactor 63 = .ok (.iconst 5, 1) := by decide +kernel
theorem dX0_readFactor_64 : decode cX0_readFactor 64 = .ok (.if_icmp .ge 31, 3) := by decide +kernel
theorem dX0_readFactor_67 : decode cX0_readFactor 67 = .ok (.aload_n 0, 1) := by decide +kernel
theorem dX0_readFactor_68 : decode cX0_readFactor 68 = .ok (.bipush 33, 2) := by decide +kernel
theorem dX0_readFactor_70 : decode cX0_readFactor 70 = .ok (.invokevirtual 63, 3) := by decide +kernel
theorem dX0_readFactor_73 : decode cX0_readFactor 73 = .ok (.ifCond .eq 22, 3) := by decide +kernel
theorem dX0_readFactor_76 : decode cX0_readFactor 76 = .ok (.aload_n 0, 1) := by decide +kernel
theorem dX0_readFactor_77 : decode cX0_readFactor 77 = .ok (.iload_n 1, 1) := by decide +kernel
theorem dX0_readFactor_78 : decode cX0_readFactor 78 = .ok (.iconst 1, 1) := by decide +kernel
theorem dX0_readFactor_79 : decode cX0_readFactor 79 = .ok (.iadd, 1) := by decide +kernel
theorem dX0_readFactor_80 : decode cX0_readFactor 80 = .ok (.invokevirtual 90, 3) := by decide +kernel
theorem dX0_readFactor_83 : decode cX0_readFactor 83 = .ok (.aload_n 0, 1) := by decide +kernel
theorem dX0_readFactor_84 : decode cX0_readFactor 84 = .ok (.getfield 14, 3) := by decide +kernel
theorem dX0_readFactor_87 : decode cX0_readFactor 87 = .ok (.bipush (-33), 2) := by decide +kernel
theorem dX0_readFactor_89 : decode cX0_readFactor 89 = .ok (.invokevirtual 70, 3) := by decide +kernel
theorem dX0_readFactor_92 : decode cX0_readFactor 92 = .ok (.goto 50, 3) := by decide +kernel
theorem dX0_readFactor_95 : decode cX0_readFactor 95 = .ok (.iload_n 1, 1) := by decide +kernel
theorem dX0_readFactor_96 : decode cX0_readFactor 96 = .ok (.iconst 5, 1) := by decide +kernel
theorem dX0_readFactor_97 : decode cX0_readFactor 97 = .ok (.if_icmp .ge 40, 3) := by decide +kernel
theorem dX0_readFactor_100 : decode cX0_readFactor 100 = .ok (.aload_n 0, 1) := by decide +kernel
theorem dX0_readFactor_101 : decode cX0_readFactor 101 = .ok (.bipush 40, 2) := by decide +kernel
theorem dX0_readFactor_103 : decode cX0_readFactor 103 = .ok (.invokevirtual 63, 3) := by decide +kernel
theorem dX0_readFactor_106 : decode cX0_readFactor 106 = .ok (.ifCond .eq 31, 3) := by decide +kernel
theorem dX0_readFactor_109 : decode cX0_readFactor 109 = .ok (.aload_n 0, 1) := by decide +kernel
theorem dX0_readFactor_110 : decode cX0_readFactor 110 = .ok (.iload_n 1, 1) := by decide +kernel
theorem dX0_readFactor_111 : decode cX0_readFactor 111 = .ok (.iconst 1, 1) := by decide +kernel
theorem dX0_readFactor_112 : decode cX0_readFactor 112 = .ok (.iadd, 1) := by decide +kernel
theorem dX0_readFactor_113 : decode cX0_readFactor 113 = .ok (.invokevirtual 40, 3) := by decide +kernel
theorem dX0_readFactor_116 : decode cX0_readFactor 116 = .ok (.aload_n 0, 1) := by decide +kernel
theorem dX0_readFactor_117 : decode cX0_readFactor 117 = .ok (.aload_n 0, 1) := by decide +kernel
theorem dX0_readFactor_118 : decode cX0_readFactor 118 = .ok (.bipush 41, 2) := by decide +kernel
theorem dX0_readFactor_120 : decode cX0_readFactor 120 = .ok (.invokevirtual 63, 3) := by decide +kernel
theorem dX0_readFactor_123 : decode cX0_readFactor 123 = .ok (.ifCond .ne 7, 3) := by decide +kernel
theorem dX0_readFactor_126 : decode cX0_readFactor 126 = .ok (.iconst 1, 1) := by decide +kernel
theorem dX0_readFactor_127 : decode cX0_readFactor 127 = .ok (.goto 4, 3) := by decide +kernel
theorem dX0_readFactor_130 : decode cX0_readFactor 130 = .ok (.iconst 0, 1) := by decide +kernel
theorem dX0_readFactor_131 : decode cX0_readFactor 131 = .ok (.putfield 30, 3) := by decide +kernel
theorem dX0_readFactor_134 : decode cX0_readFactor 134 = .ok (.goto 8, 3) := by decide +kernel
theorem dX0_readFactor_137 : decode cX0_readFactor 137 = .ok (.aload_n 0, 1) := by decide +kernel
theorem dX0_readFactor_138 : decode cX0_readFactor 138 = .ok (.iconst 1, 1) := by decide +kernel
theorem dX0_readFactor_139 : decode cX0_readFactor 139 = .ok (.putfield 30, 3) := by decide +kernel
theorem dX0_readFactor_142 : decode cX0_readFactor 142 = .ok (.return_, 1) := by decide +kernel
theorem dX0_isDigit_0 : decode cX0_isDigit 0 = .ok (.aload_n 0, 1) := by decide +kernel
theorem dX0_isDigit_1 : decode cX0_isDigit 1 = .ok (.invokevirtual 51, 3) := by decide +kernel
theorem dX0_isDigit_4 : decode cX0_isDigit 4 = .ok (.bipush 48, 2) := by decide +kernel
theorem dX0_isDigit_6 : decode cX0_isDigit 6 = .ok (.if_icmp .lt 16, 3) := by decide +kernel
theorem dX0_isDigit_9 : decode cX0_isDigit 9 = .ok (.aload_n 0, 1) := by decide +kernel
theorem dX0_isDigit_10 : decode cX0_isDigit 10 = .ok (.invokevirtual 51, 3) := by decide +kernel
theorem dX0_isDigit_13 : decode cX0_isDigit 13 = .ok (.bipush 57, 2) := by decide +kernel
theorem dX0_isDigit_15 : decode cX0_isDigit 15 = .ok (.if_icmp .gt 7, 3) := by decide +kernel
theorem dX0_isDigit_18 : decode cX0_isDigit 18 = .ok (.iconst 1, 1) := by decide +kernel
theorem dX0_isDigit_19 : decode cX0_isDigit 19 = .ok (.goto 4, 3) := by decide +kernel
theorem dX0_isDigit_22 : decode cX0_isDigit 22 = .ok (.iconst 0, 1) := by decide +kernel
theorem dX0_isDigit_23 : decode cX0_isDigit 23 = .ok (.ireturn, 1) := by decide +kernel
theorem dX0_readNumber_0 : decode cX0_readNumber 0 = .ok (.iconst 0, 1) := by decide +kernel
theorem dX0_readNumber_1 : decode cX0_readNumber 1 = .ok (.istore_n 1, 1) := by decide +kernel
theorem dX0_readNumber_2 : decode cX0_readNumber 2 = .ok (.iconst 0, 1) := by decide +kernel
theorem dX0_readNumber_3 : decode cX0_readNumber 3 = .ok (.istore_n 2, 1) := by decide +kernel
theorem dX0_readNumber_4 : decode cX0_readNumber 4 = .ok (.iload_n 2, 1) := by decide +kernel
theorem dX0_readNumber_5 : decode cX0_readNumber 5 = .ok (.iconst 4, 1) := by decide +kernel
theorem dX0_readNumber_6 : decode cX0_readNumber 6 = .ok (.if_icmp .ge 39, 3) := by decide +kernel
theorem dX0_readNumber_9 : decode cX0_readNumber 9 = .ok (.aload_n 0, 1) := by decide +kernel
theorem dX0_readNumber_10 : decode cX0_readNumber 10 = .ok (.invokevirtual 98, 3) := by decide +kernel
theorem dX0_readNumber_13 : decode cX0_readNumber 13 = .ok (.ifCond .eq 32, 3) := by decide +kernel
theorem dX0_readNumber_16 : decode cX0_readNumber 16 = .ok (.bipush 10, 2) := by decide +kernel
theorem dX0_readNumber_18 : decode cX0_readNumber 18 = .ok (.iload_n 1, 1) := by decide +kernel
theorem dX0_readNumber_19 : decode cX0_readNumber 19 = .ok (.imul, 1) := by decide +kernel
theorem dX0_readNumber_20 : decode cX0_readNumber 20 = .ok (.aload_n 0, 1) := by decide +kernel
theorem dX0_readNumber_21 : decode cX0_readNumber 21 = .ok (.invokevirtual 51, 3) := by decide +kernel
theorem dX0_readNumber_24 : decode cX0_readNumber 24 = .ok (.iadd, 1) := by decide +kernel
theorem dX0_readNumber_25 : decode cX0_readNumber 25 = .ok (.bipush 48, 2) := by decide +kernel
theorem dX0_readNumber_27 : decode cX0_readNumber 27 = .ok (.isub, 1) := by decide +kernel
theorem dX0_readNumber_28 : decode cX0_readNumber 28 = .ok (.istore_n 1, 1) := by decide +kernel
theorem dX0_readNumber_29 : decode cX0_readNumber 29 = .ok (.aload_n 0, 1) := by decide +kernel
theorem dX0_readNumber_30 : decode cX0_readNumber 30 = .ok (.dup, 1) := by decide +kernel
theorem dX0_readNumber_31 : decode cX0_readNumber 31 = .ok (.getfield 26, 3) := by decide +kernel
theorem dX0_readNumber_34 : decode cX0_readNumber 34 = .ok (.iconst 1, 1) := by decide +kernel
theorem dX0_readNumber_35 : decode cX0_readNumber 35 = .ok (.iadd, 1) := by decide +kernel
theorem dX0_readNumber_36 : decode cX0_readNumber 36 = .ok (.putfield 26, 3) := by decide +kernel
theorem dX0_readNumber_39 : decode cX0_readNumber 39 = .ok (.iinc 2 1, 3) := by decide +kernel
theorem dX0_readNumber_42 : decode cX0_readNumber 42 = .ok (.goto (-38), 3) := by decide +kernel
theorem dX0_readNumber_45 : decode cX0_readNumber 45 = .ok (.aload_n 0, 1) := by decide +kernel
theorem dX0_readNumber_46 : decode cX0_readNumber 46 = .ok (.getfield 14, 3) := by decide +kernel
theorem dX0_readNumber_49 : decode cX0_readNumber 49 = .ok (.iload_n 1, 1) := by decide +kernel
theorem dX0_readNumber_50 : decode cX0_readNumber 50 = .ok (.invokevirtual 70, 3) := by decide +kernel
theorem dX0_readNumber_53 : decode cX0_readNumber 53 = .ok (.return_, 1) := by decide +kernel
theorem dX1_init_0 : decode cX1_init 0 = .ok (.aload_n 0, 1) := by decide +kernel
theorem dX1_init_1 : decode cX1_init 1 = .ok (.invokespecial 1, 3) := by decide +kernel
theorem dX1_init_4 : decode cX1_init 4 = .ok (.aload_n 0, 1) := by decide +kernel
theorem dX1_init_5 : decode cX1_init 5 = .ok (.iconst 0, 1) := by decide +kernel
theorem dX1_init_6 : decode cX1_init 6 = .ok (.putfield 7, 3) := by decide +kernel
theorem dX1_init_9 : decode cX1_init 9 = .ok (.aload_n 0, 1) := by decide +kernel
theorem dX1_init_10 : decode cX1_init 10 = .ok (.iconst 0, 1) := by decide +kernel
theorem dX1_init_11 : decode cX1_init 11 = .ok (.iload_n 1, 1) := by decide +kernel
theorem dX1_init_12 : decode cX1_init 12 = .ok (.invokestatic 13, 3) := by decide +kernel
theorem dX1_init_15 : decode cX1_init 15 = .ok (.newarray .int, 2) := by decide +kernel
theorem dX1_init_17 : decode cX1_init 17 = .ok (.putfield 19, 3) := by decide +kernel
theorem dX1_init_20 : decode cX1_init 20 = .ok (.return_, 1) := by decide +kernel
theorem dX1_many_0 : decode cX1_many 0 = .ok (.aload_n 0, 1) := by decide +kernel
theorem dX1_many_1 : decode cX1_many 1 = .ok (.getfield 7, 3) := by decide +kernel
theorem dX1_many_4 : decode cX1_many 4 = .ok (.ireturn, 1) := by decide +kernel
theorem dX1_has_0 : decode cX1_has 0 = .ok (.iload_n 1, 1) := by decide +kernel
theorem dX1_has_1 : decode cX1_has 1 = .ok (.ifCond .lt 15, 3) := by decide +kernel
theorem dX1_has_4 : decode cX1_has 4 = .ok (.iload_n 1, 1) := by decide +kernel
theorem dX1_has_5 : decode cX1_has 5 = .ok (.aload_n 0, 1) := by decide +kernel
theorem dX1_has_6 : decode cX1_has 6 = .ok (.getfield 7, 3) := by decide +kernel
theorem dX1_has_9 : decode cX1_has 9 = .ok (.if_icmp .ge 7, 3) := by decide +kernel
theorem dX1_has_12 : decode cX1_has 12 = .ok (.iconst 1, 1) := by decide +kernel
theorem dX1_has_13 : decode cX1_has 13 = .ok (.goto 4, 3) := by decide +kernel
theorem dX1_has_16 : decode cX1_has 16 = .ok (.iconst 0, 1) := by decide +kernel
theorem dX1_has_17 : decode cX1_has 17 = .ok (.ireturn, 1) := by decide +kernel
theorem dX1_get_0 : decode cX1_get 0 = .ok (.iload_n 1, 1) := by decide +kernel
theorem dX1_get_1 : decode cX1_get 1 = .ok (.ifCond .lt 29, 3) := by decide +kernel
theorem dX1_get_4 : decode cX1_get 4 = .ok (.iload_n 1, 1) := by decide +kernel
theorem dX1_get_5 : decode cX1_get 5 = .ok (.aload_n 0, 1) := by decide +kernel
theorem dX1_get_6 : decode cX1_get 6 = .ok (.getfield 7, 3) := by decide +kernel
theorem dX1_get_9 : decode cX1_get 9 = .ok (.if_icmp .ge 21, 3) := by decide +kernel
theorem dX1_get_12 : decode cX1_get 12 = .ok (.iload_n 1, 1) := by decide +kernel
theorem dX1_get_13 : decode cX1_get 13 = .ok (.aload_n 0, 1) := by decide +kernel
theorem dX1_get_14 : decode cX1_get 14 = .ok (.getfield 19, 3) := by decide +kernel
theorem dX1_get_17 : decode cX1_get 17 = .ok (.arraylength, 1) := by decide +kernel
theorem dX1_get_18 : decode cX1_get 18 = .ok (.if_icmp .ge 12, 3) := by decide +kernel
theorem dX1_get_21 : decode cX1_get 21 = .ok (.aload_n 0, 1) := by decide +kernel
theorem dX1_get_22 : decode cX1_get 22 = .ok (.getfield 19, 3) := by decide +kernel
theorem dX1_get_25 : decode cX1_get 25 = .ok (.iload_n 1, 1) := by decide +kernel
theorem dX1_get_26 : decode cX1_get 26 = .ok (.iaload, 1) := by decide +kernel
theorem dX1_get_27 : decode cX1_get 27 = .ok (.goto 4, 3) := by decide +kernel
theorem dX1_get_30 : decode cX1_get 30 = .ok (.iconst 0, 1) := by decide +kernel
theorem dX1_get_31 : decode cX1_get 31 = .ok (.ireturn, 1) := by decide +kernel
theorem dX1_set_0 : decode cX1_set 0 = .ok (.iload_n 1, 1) := by decide +kernel
theorem dX1_set_1 : decode cX1_set 1 = .ok (.ifCond .lt 27, 3) := by decide +kernel
theorem dX1_set_4 : decode cX1_set 4 = .ok (.iload_n 1, 1) := by decide +kernel
theorem dX1_set_5 : decode cX1_set 5 = .ok (.aload_n 0, 1) := by decide +kernel
theorem dX1_set_6 : decode cX1_set 6 = .ok (.getfield 7, 3) := by decide +kernel
theorem dX1_set_9 : decode cX1_set 9 = .ok (.if_icmp .ge 19, 3) := by decide +kernel
theorem dX1_set_12 : decode cX1_set 12 = .ok (.iload_n 1, 1) := by decide +kernel
theorem dX1_set_13 : decode cX1_set 13 = .ok (.aload_n 0, 1) := by decide +kernel
theorem dX1_set_14 : decode cX1_set 14 = .ok (.getfield 19, 3) := by decide +kernel
theorem dX1_set_17 : decode cX1_set 17 = .ok (.arraylength, 1) := by decide +kernel
theorem dX1_set_18 : decode cX1_set 18 = .ok (.if_icmp .ge 10, 3) := by decide +kernel
theorem dX1_set_21 : decode cX1_set 21 = .ok (.aload_n 0, 1) := by decide +kernel
theorem dX1_set_22 : decode cX1_set 22 = .ok (.getfield 19, 3) := by decide +kernel
theorem dX1_set_25 : decode cX1_set 25 = .ok (.iload_n 1, 1) := by decide +kernel
theorem dX1_set_26 : decode cX1_set 26 = .ok (.iload_n 2, 1) := by decide +kernel
theorem dX1_set_27 : decode cX1_set 27 = .ok (.iastore, 1) := by decide +kernel
theorem dX1_set_28 : decode cX1_set 28 = .ok (.return_, 1) := by decide +kernel
theorem dX1_add_0 : decode cX1_add 0 = .ok (.aload_n 0, 1) := by decide +kernel
theorem dX1_add_1 : decode cX1_add 1 = .ok (.getfield 7, 3) := by decide +kernel
theorem dX1_add_4 : decode cX1_add 4 = .ok (.ifCond .lt 35, 3) := by decide +kernel
theorem dX1_add_7 : decode cX1_add 7 = .ok (.aload_n 0, 1) := by decide +kernel
theorem dX1_add_8 : decode cX1_add 8 = .ok (.getfield 7, 3) := by decide +kernel
theorem dX1_add_11 : decode cX1_add 11 = .ok (.aload_n 0, 1) := by decide +kernel
theorem dX1_add_12 : decode cX1_add 12 = .ok (.getfield 19, 3) := by decide +kernel
theorem dX1_add_15 : decode cX1_add 15 = .ok (.arraylength, 1) := by decide +kernel
theorem dX1_add_16 : decode cX1_add 16 = .ok (.if_icmp .ge 23, 3) := by decide +kernel
theorem dX1_add_19 : decode cX1_add 19 = .ok (.aload_n 0, 1) := by decide +kernel
theorem dX1_add_20 : decode cX1_add 20 = .ok (.getfield 19, 3) := by decide +kernel
theorem dX1_add_23 : decode cX1_add 23 = .ok (.aload_n 0, 1) := by decide +kernel
theorem dX1_add_24 : decode cX1_add 24 = .ok (.getfield 7, 3) := by decide +kernel
theorem dX1_add_27 : decode cX1_add 27 = .ok (.iload_n 1, 1) := by decide +kernel
theorem dX1_add_28 : decode cX1_add 28 = .ok (.iastore, 1) := by decide +kernel
theorem dX1_add_29 : decode cX1_add 29 = .ok (.aload_n 0, 1) := by decide +kernel
theorem dX1_add_30 : decode cX1_add 30 = .ok (.dup, 1) := by decide +kernel
theorem dX1_add_31 : decode cX1_add 31 = .ok (.getfield 7, 3) := by decide +kernel
theorem dX1_add_34 : decode cX1_add 34 = .ok (.iconst 1, 1) := by decide +kernel
theorem dX1_add_35 : decode cX1_add 35 = .ok (.iadd, 1) := by decide +kernel
theorem dX1_add_36 : decode cX1_add 36 = .ok (.putfield 7, 3) := by decide +kernel
theorem dX1_add_39 : decode cX1_add 39 = .ok (.return_, 1) := by decide +kernel
theorem dX1_clear_0 : decode cX1_clear 0 = .ok (.aload_n 0, 1) := by decide +kernel
theorem dX1_clear_1 : decode cX1_clear 1 = .ok (.iconst 0, 1) := by decide +kernel
theorem dX1_clear_2 : decode cX1_clear 2 = .ok (.putfield 7, 3) := by decide +kernel
theorem dX1_clear_5 : decode cX1_clear 5 = .ok (.return_, 1) := by decide +kernel
theorem dX1_drop_0 : decode cX1_drop 0 = .ok (.aload_n 0, 1) := by decide +kernel
theorem dX1_drop_1 : decode cX1_drop 1 = .ok (.iconst 0, 1) := by decide +kernel
theorem dX1_drop_2 : decode cX1_drop 2 = .ok (.aload_n 0, 1) := by decide +kernel
theorem dX1_drop_3 : decode cX1_drop 3 = .ok (.getfield 7, 3) := by decide +kernel
theorem dX1_drop_6 : decode cX1_drop 6 = .ok (.iconst 0, 1) := by decide +kernel
theorem dX1_drop_7 : decode cX1_drop 7 = .ok (.iload_n 1, 1) := by decide +kernel
theorem dX1_drop_8 : decode cX1_drop 8 = .ok (.invokestatic 13, 3) := by decide +kernel
theorem dX1_drop_11 : decode cX1_drop 11 = .ok (.isub, 1) := by decide +kernel
theorem dX1_drop_12 : decode cX1_drop 12 = .ok (.invokestatic 13, 3) := by decide +kernel
theorem dX1_drop_15 : decode cX1_drop 15 = .ok (.putfield 7, 3) := by decide +kernel
theorem dX1_drop_18 : decode cX1_drop 18 = .ok (.return_, 1) := by decide +kernel
theorem dX1_pop_0 : decode cX1_pop 0 = .ok (.aload_n 0, 1) := by decide +kernel
theorem dX1_pop_1 : decode cX1_pop 1 = .ok (.aload_n 0, 1) := by decide +kernel
theorem dX1_pop_2 : decode cX1_pop 2 = .ok (.getfield 7, 3) := by decide +kernel
theorem dX1_pop_5 : decode cX1_pop 5 = .ok (.iconst 1, 1) := by decide +kernel
theorem dX1_pop_6 : decode cX1_pop 6 = .ok (.isub, 1) := by decide +kernel
theorem dX1_pop_7 : decode cX1_pop 7 = .ok (.invokevirtual 23, 3) := by decide +kernel
theorem dX1_pop_10 : decode cX1_pop 10 = .ok (.istore_n 1, 1) := by decide +kernel
theorem dX1_pop_11 : decode cX1_pop 11 = .ok (.aload_n 0, 1) := by decide +kernel
theorem dX1_pop_12 : decode cX1_pop 12 = .ok (.iconst 0, 1) := by decide +kernel
theorem dX1_pop_13 : decode cX1_pop 13 = .ok (.aload_n 0, 1) := by decide +kernel
theorem dX1_pop_14 : decode cX1_pop 14 = .ok (.getfield 7, 3) := by decide +kernel
theorem dX1_pop_17 : decode cX1_pop 17 = .ok (.iconst 1, 1) := by decide +kernel
theorem dX1_pop_18 : decode cX1_pop 18 = .ok (.isub, 1) := by decide +kernel
theorem dX1_pop_19 : decode cX1_pop 19 = .ok (.invokestatic 13, 3) := by decide +kernel
theorem dX1_pop_22 : decode cX1_pop 22 = .ok (.putfield 7, 3) := by decide +kernel
theorem dX1_pop_25 : decode cX1_pop 25 = .ok (.iload_n 1, 1) := by decide +kernel
theorem dX1_pop_26 : decode cX1_pop 26 = .ok (.ireturn, 1) := by decide +kernel
theorem dX1_zeros_0 : decode cX1_zeros 0 = .ok (.aload_n 0, 1) := by decide +kernel
theorem dX1_zeros_1 : decode cX1_zeros 1 = .ok (.iload_n 1, 1) := by decide +kernel
theorem dX1_zeros_2 : decode cX1_zeros 2 = .ok (.iconst 0, 1) := by decide +kernel
theorem dX1_zeros_3 : decode cX1_zeros 3 = .ok (.aload_n 0, 1) := by decide +kernel
theorem dX1_zeros_4 : decode cX1_zeros 4 = .ok (.getfield 19, 3) := by decide +kernel
theorem dX1_zeros_7 : decode cX1_zeros 7 = .ok (.arraylength, 1) := by decide +kernel
theorem dX1_zeros_8 : decode cX1_zeros 8 = .ok (.invokestatic 27, 3) := by decide +kernel
theorem dX1_zeros_11 : decode cX1_zeros 11 = .ok (.putfield 7, 3) := by decide +kernel
theorem dX1_zeros_14 : decode cX1_zeros 14 = .ok (.iconst 0, 1) := by decide +kernel
theorem dX1_zeros_15 : decode cX1_zeros 15 = .ok (.istore_n 2, 1) := by decide +kernel
theorem dX1_zeros_16 : decode cX1_zeros 16 = .ok (.iload_n 2, 1) := by decide +kernel
theorem dX1_zeros_17 : decode cX1_zeros 17 = .ok (.aload_n 0, 1) := by decide +kernel
theorem dX1_zeros_18 : decode cX1_zeros 18 = .ok (.getfield 7, 3) := by decide +kernel
theorem dX1_zeros_21 : decode cX1_zeros 21 = .ok (.if_icmp .ge 15, 3) := by decide +kernel
theorem dX1_zeros_24 : decode cX1_zeros 24 = .ok (.aload_n 0, 1) := by decide +kernel
theorem dX1_zeros_25 : decode cX1_zeros 25 = .ok (.iload_n 2, 1) := by decide +kernel
theorem dX1_zeros_26 : decode cX1_zeros 26 = .ok (.iconst 0, 1) := by decide +kernel
theorem dX1_zeros_27 : decode cX1_zeros 27 = .ok (.invokevirtual 33, 3) := by decide +kernel
theorem dX1_zeros_30 : decode cX1_zeros 30 = .ok (.iinc 2 1, 3) := by decide +kernel
theorem dX1_zeros_33 : decode cX1_zeros 33 = .ok (.goto (-17), 3) := by decide +kernel
theorem dX1_zeros_36 : decode cX1_zeros 36 = .ok (.return_, 1) := by decide +kernel
theorem dX1_hasRun_0 : decode cX1_hasRun 0 = .ok (.iload_n 2, 1) := by decide +kernel
theorem dX1_hasRun_1 : decode cX1_hasRun 1 = .ok (.ifCond .lt 21, 3) := by decide +kernel
theorem dX1_hasRun_4 : decode cX1_hasRun 4 = .ok (.iload_n 1, 1) := by decide +kernel
theorem dX1_hasRun_5 : decode cX1_hasRun 5 = .ok (.ifCond .lt 17, 3) := by decide +kernel
theorem dX1_hasRun_8 : decode cX1_hasRun 8 = .ok (.iload_n 2, 1) := by decide +kernel
theorem dX1_hasRun_9 : decode cX1_hasRun 9 = .ok (.aload_n 0, 1) := by decide +kernel
theorem dX1_hasRun_10 : decode cX1_hasRun 10 = .ok (.getfield 7, 3) := by decide +kernel
theorem dX1_hasRun_13 : decode cX1_hasRun 13 = .ok (.iload_n 1, 1) := by decide +kernel
theorem dX1_hasRun_14 : decode cX1_hasRun 14 = .ok (.isub, 1) := by decide +kernel
theorem dX1_hasRun_15 : decode cX1_hasRun 15 = .ok (.if_icmp .gt 7, 3) := by decide +kernel
theorem dX1_hasRun_18 : decode cX1_hasRun 18 = .ok (.iconst 1, 1) := by decide +kernel
theorem dX1_hasRun_19 : decode cX1_hasRun 19 = .ok (.goto 4, 3) := by decide +kernel
theorem dX1_hasRun_22 : decode cX1_hasRun 22 = .ok (.iconst 0, 1) := by decide +kernel
theorem dX1_hasRun_23 : decode cX1_hasRun 23 = .ok (.ireturn, 1) := by decide +kernel
theorem dX1_takeRun_0 : decode cX1_takeRun 0 = .ok (.aload_n 1, 1) := by decide +kernel
theorem dX1_takeRun_1 : decode cX1_takeRun 1 = .ok (.iload_n 2, 1) := by decide +kernel
theorem dX1_takeRun_2 : decode cX1_takeRun 2 = .ok (.iload 4, 2) := by decide +kernel
theorem dX1_takeRun_4 : decode cX1_takeRun 4 = .ok (.invokevirtual 37, 3) := by decide +kernel
theorem dX1_takeRun_7 : decode cX1_takeRun 7 = .ok (.ifCond .eq 28, 3) := by decide +kernel
theorem dX1_takeRun_10 : decode cX1_takeRun 10 = .ok (.aload_n 0, 1) := by decide +kernel
theorem dX1_takeRun_11 : decode cX1_takeRun 11 = .ok (.iload_n 3, 1) := by decide +kernel
theorem dX1_takeRun_12 : decode cX1_takeRun 12 = .ok (.iload 4, 2) := by decide +kernel
theorem dX1_takeRun_14 : decode cX1_takeRun 14 = .ok (.invokevirtual 37, 3) := by decide +kernel
theorem dX1_takeRun_17 : decode cX1_takeRun 17 = .ok (.ifCond .eq 18, 3) := by decide +kernel
theorem dX1_takeRun_20 : decode cX1_takeRun 20 = .ok (.aload_n 1, 1) := by decide +kernel
theorem dX1_takeRun_21 : decode cX1_takeRun 21 = .ok (.getfield 19, 3) := by decide +kernel
theorem dX1_takeRun_24 : decode cX1_takeRun 24 = .ok (.iload_n 2, 1) := by decide +kernel
theorem dX1_takeRun_25 : decode cX1_takeRun 25 = .ok (.aload_n 0, 1) := by decide +kernel
theorem dX1_takeRun_26 : decode cX1_takeRun 26 = .ok (.getfield 19, 3) := by decide +kernel
theorem dX1_takeRun_29 : decode cX1_takeRun 29 = .ok (.iload_n 3, 1) := by decide +kernel
theorem dX1_takeRun_30 : decode cX1_takeRun 30 = .ok (.iload 4, 2) := by decide +kernel
theorem dX1_takeRun_32 : decode cX1_takeRun 32 = .ok (.invokestatic 41, 3) := by decide +kernel
theorem dX1_takeRun_35 : decode cX1_takeRun 35 = .ok (.return_, 1) := by decide +kernel
theorem dX1_takeAll_0 : decode cX1_takeAll 0 = .ok (.aload_n 0, 1) := by decide +kernel
theorem dX1_takeAll_1 : decode cX1_takeAll 1 = .ok (.aload_n 1, 1) := by decide +kernel
theorem dX1_takeAll_2 : decode cX1_takeAll 2 = .ok (.getfield 7, 3) := by decide +kernel
theorem dX1_takeAll_5 : decode cX1_takeAll 5 = .ok (.aload_n 0, 1) := by decide +kernel
theorem dX1_takeAll_6 : decode cX1_takeAll 6 = .ok (.getfield 19, 3) := by decide +kernel
theorem dX1_takeAll_9 : decode cX1_takeAll 9 = .ok (.arraylength, 1) := by decide +kernel
theorem dX1_takeAll_10 : decode cX1_takeAll 10 = .ok (.invokestatic 47, 3) := by decide +kernel
theorem dX1_takeAll_13 : decode cX1_takeAll 13 = .ok (.putfield 7, 3) := by decide +kernel
theorem dX1_takeAll_16 : decode cX1_takeAll 16 = .ok (.aload_n 0, 1) := by decide +kernel
theorem dX1_takeAll_17 : decode cX1_takeAll 17 = .ok (.aload_n 1, 1) := by decide +kernel
theorem dX1_takeAll_18 : decode cX1_takeAll 18 = .ok (.iconst 0, 1) := by decide +kernel
theorem dX1_takeAll_19 : decode cX1_takeAll 19 = .ok (.iconst 0, 1) := by decide +kernel
theorem dX1_takeAll_20 : decode cX1_takeAll 20 = .ok (.aload_n 0, 1) := by decide +kernel
theorem dX1_takeAll_21 : decode cX1_takeAll 21 = .ok (.getfield 7, 3) := by decide +kernel
theorem dX1_takeAll_24 : decode cX1_takeAll 24 = .ok (.invokevirtual 50, 3) := by decide +kernel
theorem dX1_takeAll_27 : decode cX1_takeAll 27 = .ok (.return_, 1) := by decide +kernel
theorem dX2_init_0 : decode cX2_init 0 = .ok (.aload_n 0, 1) := by decide +kernel
theorem dX2_init_1 : decode cX2_init 1 = .ok (.invokespecial 3, 3) := by decide +kernel
theorem dX2_init_4 : decode cX2_init 4 = .ok (.aload_n 0, 1) := by decide +kernel
theorem dX2_init_5 : decode cX2_init 5 = .ok (.new 9, 3) := by decide +kernel
theorem dX2_init_8 : decode cX2_init 8 = .ok (.dup, 1) := by decide +kernel
theorem dX2_init_9 : decode cX2_init 9 = .ok (.bipush 24, 2) := by decide +kernel
theorem dX2_init_11 : decode cX2_init 11 = .ok (.invokespecial 11, 3) := by decide +kernel
theorem dX2_init_14 : decode cX2_init 14 = .ok (.putfield 14, 3) := by decide +kernel
theorem dX2_init_17 : decode cX2_init 17 = .ok (.aload_n 0, 1) := by decide +kernel
theorem dX2_init_18 : decode cX2_init 18 = .ok (.iconst 0, 1) := by decide +kernel
theorem dX2_init_19 : decode cX2_init 19 = .ok (.putfield 20, 3) := by decide +kernel
theorem dX2_init_22 : decode cX2_init 22 = .ok (.return_, 1) := by decide +kernel
theorem dX2_isMissing_0 : decode cX2_isMissing 0 = .ok (.aload_n 0, 1) := by decide +kernel
theorem dX2_isMissing_1 : decode cX2_isMissing 1 = .ok (.getfield 20, 3) := by decide +kernel
theorem dX2_isMissing_4 : decode cX2_isMissing 4 = .ok (.ifCond .ne 7, 3) := by decide +kernel
theorem dX2_isMissing_7 : decode cX2_isMissing 7 = .ok (.iconst 1, 1) := by decide +kernel
theorem dX2_isMissing_8 : decode cX2_isMissing 8 = .ok (.goto 4, 3) := by decide +kernel
theorem dX2_isMissing_11 : decode cX2_isMissing 11 = .ok (.iconst 0, 1) := by decide +kernel
theorem dX2_isMissing_12 : decode cX2_isMissing 12 = .ok (.ireturn, 1) := by decide +kernel
theorem dX2_remake_0 : decode cX2_remake 0 = .ok (.aload_n 0, 1) := by decide +kernel
theorem dX2_remake_1 : decode cX2_remake 1 = .ok (.iload_n 1, 1) := by decide +kernel
theorem dX2_remake_2 : decode cX2_remake 2 = .ok (.putfield 20, 3) := by decide +kernel
theorem dX2_remake_5 : decode cX2_remake 5 = .ok (.aload_n 0, 1) := by decide +kernel
theorem dX2_remake_6 : decode cX2_remake 6 = .ok (.getfield 14, 3) := by decide +kernel
theorem dX2_remake_9 : decode cX2_remake 9 = .ok (.iload_n 2, 1) := by decide +kernel
theorem dX2_remake_10 : decode cX2_remake 10 = .ok (.invokevirtual 24, 3) := by decide +kernel
theorem dX2_remake_13 : decode cX2_remake 13 = .ok (.return_, 1) := by decide +kernel
theorem dX2_lowestBits_0 : decode cX2_lowestBits 0 = .ok (.aload_n 0, 1) := by decide +kernel
theorem dX2_lowestBits_1 : decode cX2_lowestBits 1 = .ok (.getfield 20, 3) := by decide +kernel
theorem dX2_lowestBits_4 : decode cX2_lowestBits 4 = .ok (.bipush 8, 2) := by decide +kernel
theorem dX2_lowestBits_6 : decode cX2_lowestBits 6 = .ok (.if_icmp .ne 6, 3) := by decide +kernel
theorem dX2_lowestBits_9 : decode cX2_lowestBits 9 = .ok (.iload_n 1, 1) := by decide +kernel
theorem dX2_lowestBits_10 : decode cX2_lowestBits 10 = .ok (.i2b, 1) := by decide +kernel
theorem dX2_lowestBits_11 : decode cX2_lowestBits 11 = .ok (.ireturn, 1) := by decide +kernel
theorem dX2_lowestBits_12 : decode cX2_lowestBits 12 = .ok (.aload_n 0, 1) := by decide +kernel
theorem dX2_lowestBits_13 : decode cX2_lowestBits 13 = .ok (.getfield 20, 3) := by decide +kernel
theorem dX2_lowestBits_16 : decode cX2_lowestBits 16 = .ok (.bipush 16, 2) := by decide +kernel
theorem dX2_lowestBits_18 : decode cX2_lowestBits 18 = .ok (.if_icmp .ne 8, 3) := by decide +kernel
theorem dX2_lowestBits_21 : decode cX2_lowestBits 21 = .ok (.iload_n 1, 1) := by decide +kernel
theorem dX2_lowestBits_22 : decode cX2_lowestBits 22 = .ok (.i2s, 1) := by decide +kernel
theorem dX2_lowestBits_23 : decode cX2_lowestBits 23 = .ok (.goto 4, 3) := by decide +kernel
theorem dX2_lowestBits_26 : decode cX2_lowestBits 26 = .ok (.iload_n 1, 1) := by decide +kernel
theorem dX2_lowestBits_27 : decode cX2_lowestBits 27 = .ok (.ireturn, 1) := by decide +kernel
theorem dX3_init_0 : decode cX3_init 0 = .ok (.aload_n 0, 1) := by decide +kernel
theorem dX3_init_1 : decode cX3_init 1 = .ok (.invokespecial 3, 3) := by decide +kernel
theorem dX3_init_4 : decode cX3_init 4 = .ok (.aload_n 0, 1) := by decide +kernel
theorem dX3_init_5 : decode cX3_init 5 = .ok (.new 9, 3) := by decide +kernel
theorem dX3_init_8 : decode cX3_init 8 = .ok (.dup, 1) := by decide +kernel
theorem dX3_init_9 : decode cX3_init 9 = .ok (.bipush 6, 2) := by decide +kernel
theorem dX3_init_11 : decode cX3_init 11 = .ok (.invokespecial 11, 3) := by decide +kernel
theorem dX3_init_14 : decode cX3_init 14 = .ok (.putfield 14, 3) := by decide +kernel
theorem dX3_init_17 : decode cX3_init 17 = .ok (.aload_n 0, 1) := by decide +kernel
theorem dX3_init_18 : decode cX3_init 18 = .ok (.new 9, 3) := by decide +kernel
theorem dX3_init_21 : decode cX3_init 21 = .ok (.dup, 1) := by decide +kernel
theorem dX3_init_22 : decode cX3_init 22 = .ok (.bipush 6, 2) := by decide +kernel
theorem dX3_init_24 : decode cX3_init 24 = .ok (.invokespecial 11, 3) := by decide +kernel
theorem dX3_init_27 : decode cX3_init 27 = .ok (.putfield 20, 3) := by decide +kernel
theorem dX3_init_30 : decode cX3_init 30 = .ok (.aload_n 0, 1) := by decide +kernel
theorem dX3_init_31 : decode cX3_init 31 = .ok (.new 9, 3) := by decide +kernel
theorem dX3_init_34 : decode cX3_init 34 = .ok (.dup, 1) := by decide +kernel
theorem dX3_init_35 : decode cX3_init 35 = .ok (.bipush 6, 2) := by decide +kernel
theorem dX3_init_37 : decode cX3_init 37 = .ok (.invokespecial 11, 3) := by decide +kernel
theorem dX3_init_40 : decode cX3_init 40 = .ok (.putfield 23, 3) := by decide +kernel
theorem dX3_init_43 : decode cX3_init 43 = .ok (.aload_n 0, 1) := by decide +kernel
theorem dX3_init_44 : decode cX3_init 44 = .ok (.new 9, 3) := by decide +kernel
theorem dX3_init_47 : decode cX3_init 47 = .ok (.dup, 1) := by decide +kernel
theorem dX3_init_48 : decode cX3_init 48 = .ok (.bipush 24, 2) := by decide +kernel
theorem dX3_init_50 : decode cX3_init 50 = .ok (.invokespecial 11, 3) := by decide +kernel
theorem dX3_init_53 : decode cX3_init 53 = .ok (.putfield 26, 3) := by decide +kernel
theorem dX3_init_56 : decode cX3_init 56 = .ok (.aload_n 0, 1) := by decide +kernel
theorem dX3_init_57 : decode cX3_init 57 = .ok (.new 9, 3) := by decide +kernel
theorem dX3_init_60 : decode cX3_init 60 = .ok (.dup, 1) := by decide +kernel
theorem dX3_init_61 : decode cX3_init 61 = .ok (.bipush 60, 2) := by decide +kernel
theorem dX3_init_63 : decode cX3_init 63 = .ok (.invokespecial 11, 3) := by decide +kernel
theorem dX3_init_66 : decode cX3_init 66 = .ok (.putfield 29, 3) := by decide +kernel
theorem dX3_init_69 : decode cX3_init 69 = .ok (.aload_n 0, 1) := by decide +kernel
theorem dX3_init_70 : decode cX3_init 70 = .ok (.new 9, 3) := by decide +kernel
theorem dX3_init_73 : decode cX3_init 73 = .ok (.dup, 1) := by decide +kernel
theorem dX3_init_74 : decode cX3_init 74 = .ok (.bipush 60, 2) := by decide +kernel
theorem dX3_init_76 : decode cX3_init 76 = .ok (.invokespecial 11, 3) := by decide +kernel
theorem dX3_init_79 : decode cX3_init 79 = .ok (.putfield 32, 3) := by decide +kernel
theorem dX3_init_82 : decode cX3_init 82 = .ok (.aload_n 0, 1) := by decide +kernel
theorem dX3_init_83 : decode cX3_init 83 = .ok (.new 9, 3) := by decide +kernel
theorem dX3_init_86 : decode cX3_init 86 = .ok (.dup, 1) := by decide +kernel
theorem dX3_init_87 : decode cX3_init 87 = .ok (.bipush 60, 2) := by decide +kernel
theorem dX3_init_89 : decode cX3_init 89 = .ok (.invokespecial 11, 3) := by decide +kernel
theorem dX3_init_92 : decode cX3_init 92 = .ok (.putfield 35, 3) := by decide +kernel
theorem dX3_init_95 : decode cX3_init 95 = .ok (.aload_n 0, 1) := by decide +kernel
theorem dX3_init_96 : decode cX3_init 96 = .ok (.new 9, 3) := by decide +kernel
theorem dX3_init_99 : decode cX3_init 99 = .ok (.dup, 1) := by decide +kernel
theorem dX3_init_100 : decode cX3_init 100 = .ok (.bipush 24, 2) := by decide +kernel
theorem dX3_init_102 : decode cX3_init 102 = .ok (.invokespecial 11, 3) := by decide +kernel
theorem dX3_init_105 : decode cX3_init 105 = .ok (.putfield 38, 3) := by decide +kernel
theorem dX3_init_108 : decode cX3_init 108 = .ok (.aload_n 0, 1) := by decide +kernel
theorem dX3_init_109 : decode cX3_init 109 = .ok (.sipush 728, 3) := by decide +kernel
theorem dX3_init_112 : decode cX3_init 112 = .ok (.putfield 41, 3) := by decide +kernel
theorem dX3_init_115 : decode cX3_init 115 = .ok (.aload_n 0, 1) := by decide +kernel
theorem dX3_init_116 : decode cX3_init 116 = .ok (.iconst 0, 1) := by decide +kernel
theorem dX3_init_117 : decode cX3_init 117 = .ok (.putfield 45, 3) := by decide +kernel
theorem dX3_init_120 : decode cX3_init 120 = .ok (.aload_n 0, 1) := by decide +kernel
theorem dX3_init_121 : decode cX3_init 121 = .ok (.iconst 0, 1) := by decide +kernel
theorem dX3_init_122 : decode cX3_init 122 = .ok (.putfield 48, 3) := by decide +kernel
theorem dX3_init_125 : decode cX3_init 125 = .ok (.aload_n 0, 1) := by decide +kernel
theorem dX3_init_126 : decode cX3_init 126 = .ok (.iconst 1, 1) := by decide +kernel
theorem dX3_init_127 : decode cX3_init 127 = .ok (.putfield 51, 3) := by decide +kernel
theorem dX3_init_130 : decode cX3_init 130 = .ok (.return_, 1) := by decide +kernel
theorem dX3_brothers_0 : decode cX3_brothers 0 = .ok (.aload_n 0, 1) := by decide +kernel
theorem dX3_brothers_1 : decode cX3_brothers 1 = .ok (.getfield 14, 3) := by decide +kernel
theorem dX3_brothers_4 : decode cX3_brothers 4 = .ok (.invokevirtual 54, 3) := by decide +kernel
theorem dX3_brothers_7 : decode cX3_brothers 7 = .ok (.ireturn, 1) := by decide +kernel
theorem dX3_codesOf_0 : decode cX3_codesOf 0 = .ok (.iload_n 1, 1) := by decide +kernel
theorem dX3_codesOf_1 : decode cX3_codesOf 1 = .ok (.ifCond .ne 8, 3) := by decide +kernel
theorem dX3_codesOf_4 : decode cX3_codesOf 4 = .ok (.aload_n 0, 1) := by decide +kernel
theorem dX3_codesOf_5 : decode cX3_codesOf 5 = .ok (.getfield 32, 3) := by decide +kernel
theorem dX3_codesOf_8 : decode cX3_codesOf 8 = .ok (.areturn, 1) := by decide +kernel
theorem dX3_codesOf_9 : decode cX3_codesOf 9 = .ok (.iload_n 1, 1) := by decide +kernel
theorem dX3_codesOf_10 : decode cX3_codesOf 10 = .ok (.iconst 1, 1) := by decide +kernel
theorem dX3_codesOf_11 : decode cX3_codesOf 11 = .ok (.if_icmp .ne 10, 3) := by decide +kernel
theorem dX3_codesOf_14 : decode cX3_codesOf 14 = .ok (.aload_n 0, 1) := by decide +kernel
theorem dX3_codesOf_15 : decode cX3_codesOf 15 = .ok (.getfield 35, 3) := by decide +kernel
theorem dX3_codesOf_18 : decode cX3_codesOf 18 = .ok (.goto 4, 3) := by decide +kernel
theorem dX3_codesOf_21 : decode cX3_codesOf 21 = .ok (.aconst_null, 1) := by decide +kernel
theorem dX3_codesOf_22 : decode cX3_codesOf 22 = .ok (.areturn, 1) := by decide +kernel
theorem dX3_addSign_0 : decode cX3_addSign 0 = .ok (.aload_n 0, 1) := by decide +kernel
theorem dX3_addSign_1 : decode cX3_addSign 1 = .ok (.getfield 26, 3) := by decide +kernel
theorem dX3_addSign_4 : decode cX3_addSign 4 = .ok (.iconst 2, 1) := by decide +kernel
theorem dX3_addSign_5 : decode cX3_addSign 5 = .ok (.iload_n 1, 1) := by decide +kernel
theorem dX3_addSign_6 : decode cX3_addSign 6 = .ok (.imul, 1) := by decide +kernel
theorem dX3_addSign_7 : decode cX3_addSign 7 = .ok (.iload_n 2, 1) := by decide +kernel
theorem dX3_addSign_8 : decode cX3_addSign 8 = .ok (.iadd, 1) := by decide +kernel
theorem dX3_addSign_9 : decode cX3_addSign 9 = .ok (.invokevirtual 58, 3) := by decide +kernel
theorem dX3_addSign_12 : decode cX3_addSign 12 = .ok (.return_, 1) := by decide +kernel
theorem dX3_draw_0 : decode cX3_draw 0 = .ok (.aload_n 0, 1) := by decide +kernel
theorem dX3_draw_1 : decode cX3_draw 1 = .ok (.aload_n 0, 1) := by decide +kernel
theorem dX3_draw_2 : decode cX3_draw 2 = .ok (.getfield 51, 3) := by decide +kernel
theorem dX3_draw_5 : decode cX3_draw 5 = .ok (.ldc 61, 2) := by decide +kernel
theorem dX3_draw_7 : decode cX3_draw 7 = .ok (.imul, 1) := by decide +kernel
theorem dX3_draw_8 : decode cX3_draw 8 = .ok (.sipush 12345, 3) := by decide +kernel
theorem dX3_draw_11 : decode cX3_draw 11 = .ok (.iadd, 1) := by decide +kernel
theorem dX3_draw_12 : decode cX3_draw 12 = .ok (.putfield 51, 3) := by decide +kernel
theorem dX3_draw_15 : decode cX3_draw 15 = .ok (.aload_n 0, 1) := by decide +kernel
theorem dX3_draw_16 : decode cX3_draw 16 = .ok (.getfield 51, 3) := by decide +kernel
theorem dX3_draw_19 : decode cX3_draw 19 = .ok (.bipush 8, 2) := by decide +kernel
theorem dX3_draw_21 : decode cX3_draw 21 = .ok (.iushr, 1) := by decide +kernel
theorem dX3_draw_22 : decode cX3_draw 22 = .ok (.ireturn, 1) := by decide +kernel
theorem dX3_takeAll_0 : decode cX3_takeAll 0 = .ok (.aload_n 0, 1) := by decide +kernel
theorem dX3_takeAll_1 : decode cX3_takeAll 1 = .ok (.getfield 14, 3) := by decide +kernel
theorem dX3_takeAll_4 : decode cX3_takeAll 4 = .ok (.aload_n 1, 1) := by decide +kernel
theorem dX3_takeAll_5 : decode cX3_takeAll 5 = .ok (.getfield 14, 3) := by decide +kernel
theorem dX3_takeAll_8 : decode cX3_takeAll 8 = .ok (.invokevirtual 62, 3) := by decide +kernel
theorem dX3_takeAll_11 : decode cX3_takeAll 11 = .ok (.aload_n 0, 1) := by decide +kernel
theorem dX3_takeAll_12 : decode cX3_takeAll 12 = .ok (.getfield 20, 3) := by decide +kernel
theorem dX3_takeAll_15 : decode cX3_takeAll 15 = .ok (.aload_n 1, 1) := by decide +kernel
theorem dX3_takeAll_16 : decode cX3_takeAll 16 = .ok (.getfield 20, 3) := by decide +kernel
theorem dX3_takeAll_19 : decode cX3_takeAll 19 = .ok (.invokevirtual 62, 3) := by decide +kernel
theorem dX3_takeAll_22 : decode cX3_takeAll 22 = .ok (.aload_n 0, 1) := by decide +kernel
theorem dX3_takeAll_23 : decode cX3_takeAll 23 = .ok (.getfield 23, 3) := by decide +kernel
theorem dX3_takeAll_26 : decode cX3_takeAll 26 = .ok (.aload_n 1, 1) := by decide +kernel
theorem dX3_takeAll_27 : decode cX3_takeAll 27 = .ok (.getfield 23, 3) := by decide +kernel
theorem dX3_takeAll_30 : decode cX3_takeAll 30 = .ok (.invokevirtual 62, 3) := by decide +kernel
theorem dX3_takeAll_33 : decode cX3_takeAll 33 = .ok (.aload_n 0, 1) := by decide +kernel
theorem dX3_takeAll_34 : decode cX3_takeAll 34 = .ok (.getfield 26, 3) := by decide +kernel
theorem dX3_takeAll_37 : decode cX3_takeAll 37 = .ok (.aload_n 1, 1) := by decide +kernel
theorem dX3_takeAll_38 : decode cX3_takeAll 38 = .ok (.getfield 26, 3) := by decide +kernel
theorem dX3_takeAll_41 : decode cX3_takeAll 41 = .ok (.invokevirtual 62, 3) := by decide +kernel
theorem dX3_takeAll_44 : decode cX3_takeAll 44 = .ok (.aload_n 0, 1) := by decide +kernel
theorem dX3_takeAll_45 : decode cX3_takeAll 45 = .ok (.getfield 29, 3) := by decide +kernel
theorem dX3_takeAll_48 : decode cX3_takeAll 48 = .ok (.aload_n 1, 1) := by decide +kernel
theorem dX3_takeAll_49 : decode cX3_takeAll 49 = .ok (.getfield 29, 3) := by decide +kernel
theorem dX3_takeAll_52 : decode cX3_takeAll 52 = .ok (.invokevirtual 62, 3) := by decide +kernel
theorem dX3_takeAll_55 : decode cX3_takeAll 55 = .ok (.aload_n 0, 1) := by decide +kernel
theorem dX3_takeAll_56 : decode cX3_takeAll 56 = .ok (.getfield 32, 3) := by decide +kernel
theorem dX3_takeAll_59 : decode cX3_takeAll 59 = .ok (.aload_n 1, 1) := by decide +kernel
theorem dX3_takeAll_60 : decode cX3_takeAll 60 = .ok (.getfield 32, 3) := by decide +kernel
theorem dX3_takeAll_63 : decode cX3_takeAll 63 = .ok (.invokevirtual 62, 3) := by decide +kernel
theorem dX3_takeAll_66 : decode cX3_takeAll 66 = .ok (.aload_n 0, 1) := by decide +kernel
theorem dX3_takeAll_67 : decode cX3_takeAll 67 = .ok (.getfield 35, 3) := by decide +kernel
theorem dX3_takeAll_70 : decode cX3_takeAll 70 = .ok (.aload_n 1, 1) := by decide +kernel
theorem dX3_takeAll_71 : decode cX3_takeAll 71 = .ok (.getfield 35, 3) := by decide +kernel
theorem dX3_takeAll_74 : decode cX3_takeAll 74 = .ok (.invokevirtual 62, 3) := by decide +kernel
theorem dX3_takeAll_77 : decode cX3_takeAll 77 = .ok (.aload_n 0, 1) := by decide +kernel
theorem dX3_takeAll_78 : decode cX3_takeAll 78 = .ok (.getfield 38, 3) := by decide +kernel
theorem dX3_takeAll_81 : decode cX3_takeAll 81 = .ok (.aload_n 1, 1) := by decide +kernel
theorem dX3_takeAll_82 : decode cX3_takeAll 82 = .ok (.getfield 38, 3) := by decide +kernel
theorem dX3_takeAll_85 : decode cX3_takeAll 85 = .ok (.invokevirtual 62, 3) := by decide +kernel
theorem dX3_takeAll_88 : decode cX3_takeAll 88 = .ok (.aload_n 0, 1) := by decide +kernel
theorem dX3_takeAll_89 : decode cX3_takeAll 89 = .ok (.aload_n 1, 1) := by decide +kernel
theorem dX3_takeAll_90 : decode cX3_takeAll 90 = .ok (.getfield 41, 3) := by decide +kernel
theorem dX3_takeAll_93 : decode cX3_takeAll 93 = .ok (.putfield 41, 3) := by decide +kernel
theorem dX3_takeAll_96 : decode cX3_takeAll 96 = .ok (.aload_n 0, 1) := by decide +kernel
theorem dX3_takeAll_97 : decode cX3_takeAll 97 = .ok (.aload_n 1, 1) := by decide +kernel
theorem dX3_takeAll_98 : decode cX3_takeAll 98 = .ok (.getfield 45, 3) := by decide +kernel
theorem dX3_takeAll_101 : decode cX3_takeAll 101 = .ok (.putfield 45, 3) := by decide +kernel
theorem dX3_takeAll_104 : decode cX3_takeAll 104 = .ok (.aload_n 0, 1) := by decide +kernel
theorem dX3_takeAll_105 : decode cX3_takeAll 105 = .ok (.aload_n 1, 1) := by decide +kernel
theorem dX3_takeAll_106 : decode cX3_takeAll 106 = .ok (.getfield 48, 3) := by decide +kernel
theorem dX3_takeAll_109 : decode cX3_takeAll 109 = .ok (.putfield 48, 3) := by decide +kernel
theorem dX3_takeAll_112 : decode cX3_takeAll 112 = .ok (.aload_n 0, 1) := by decide +kernel
theorem dX3_takeAll_113 : decode cX3_takeAll 113 = .ok (.aload_n 1, 1) := by decide +kernel
theorem dX3_takeAll_114 : decode cX3_takeAll 114 = .ok (.getfield 51, 3) := by decide +kernel
theorem dX3_takeAll_117 : decode cX3_takeAll 117 = .ok (.putfield 51, 3) := by decide +kernel
theorem dX3_takeAll_120 : decode cX3_takeAll 120 = .ok (.return_, 1) := by decide +kernel
theorem dX4_init_0 : decode cX4_init 0 = .ok (.aload_n 0, 1) := by decide +kernel
theorem dX4_init_1 : decode cX4_init 1 = .ok (.invokespecial 3, 3) := by decide +kernel
theorem dX4_init_4 : decode cX4_init 4 = .ok (.aload_n 0, 1) := by decide +kernel
theorem dX4_init_5 : decode cX4_init 5 = .ok (.new 9, 3) := by decide +kernel
theorem dX4_init_8 : decode cX4_init 8 = .ok (.dup, 1) := by decide +kernel
theorem dX4_init_9 : decode cX4_init 9 = .ok (.bipush 30, 2) := by decide +kernel
theorem dX4_init_11 : decode cX4_init 11 = .ok (.invokespecial 11, 3) := by decide +kernel
theorem dX4_init_14 : decode cX4_init 14 = .ok (.putfield 14, 3) := by decide +kernel
theorem dX4_init_17 : decode cX4_init 17 = .ok (.aload_n 0, 1) := by decide +kernel
theorem dX4_init_18 : decode cX4_init 18 = .ok (.iconst 0, 1) := by decide +kernel
theorem dX4_init_19 : decode cX4_init 19 = .ok (.putfield 20, 3) := by decide +kernel
theorem dX4_init_22 : decode cX4_init 22 = .ok (.aload_n 0, 1) := by decide +kernel
theorem dX4_init_23 : decode cX4_init 23 = .ok (.iconst 0, 1) := by decide +kernel
theorem dX4_init_24 : decode cX4_init 24 = .ok (.putfield 24, 3) := by decide +kernel
theorem dX4_init_27 : decode cX4_init 27 = .ok (.aload_n 0, 1) := by decide +kernel
theorem dX4_init_28 : decode cX4_init 28 = .ok (.iconst 0, 1) := by decide +kernel
theorem dX4_init_29 : decode cX4_init 29 = .ok (.putfield 28, 3) := by decide +kernel
theorem dX4_init_32 : decode cX4_init 32 = .ok (.aload_n 0, 1) := by decide +kernel
theorem dX4_init_33 : decode cX4_init 33 = .ok (.iconst 0, 1) := by decide +kernel
theorem dX4_init_34 : decode cX4_init 34 = .ok (.putfield 31, 3) := by decide +kernel
theorem dX4_init_37 : decode cX4_init 37 = .ok (.return_, 1) := by decide +kernel
theorem dX4_hear_0 : decode cX4_hear 0 = .ok (.aload_n 0, 1) := by decide +kernel
theorem dX4_hear_1 : decode cX4_hear 1 = .ok (.iload_n 1, 1) := by decide +kernel
theorem dX4_hear_2 : decode cX4_hear 2 = .ok (.putfield 24, 3) := by decide +kernel
theorem dX4_hear_5 : decode cX4_hear 5 = .ok (.aload_n 0, 1) := by decide +kernel
theorem dX4_hear_6 : decode cX4_hear 6 = .ok (.iload_n 2, 1) := by decide +kernel
theorem dX4_hear_7 : decode cX4_hear 7 = .ok (.putfield 28, 3) := by decide +kernel
theorem dX4_hear_10 : decode cX4_hear 10 = .ok (.aload_n 0, 1) := by decide +kernel
theorem dX4_hear_11 : decode cX4_hear 11 = .ok (.iload_n 3, 1) := by decide +kernel
theorem dX4_hear_12 : decode cX4_hear 12 = .ok (.putfield 31, 3) := by decide +kernel
theorem dX4_hear_15 : decode cX4_hear 15 = .ok (.aload_n 0, 1) := by decide +kernel
theorem dX4_hear_16 : decode cX4_hear 16 = .ok (.iconst 0, 1) := by decide +kernel
theorem dX4_hear_17 : decode cX4_hear 17 = .ok (.putfield 20, 3) := by decide +kernel
theorem dX4_hear_20 : decode cX4_hear 20 = .ok (.aload_n 0, 1) := by decide +kernel
theorem dX4_hear_21 : decode cX4_hear 21 = .ok (.getfield 14, 3) := by decide +kernel
theorem dX4_hear_24 : decode cX4_hear 24 = .ok (.invokevirtual 34, 3) := by decide +kernel
theorem dX4_hear_27 : decode cX4_hear 27 = .ok (.aload_n 0, 1) := by decide +kernel
theorem dX4_hear_28 : decode cX4_hear 28 = .ok (.aload_n 0, 1) := by decide +kernel
theorem dX4_hear_29 : decode cX4_hear 29 = .ok (.getfield 28, 3) := by decide +kernel
theorem dX4_hear_32 : decode cX4_hear 32 = .ok (.iload 4, 2) := by decide +kernel
theorem dX4_hear_34 : decode cX4_hear 34 = .ok (.iload 5, 2) := by decide +kernel
theorem dX4_hear_36 : decode cX4_hear 36 = .ok (.iconst 0, 1) := by decide +kernel
theorem dX4_hear_37 : decode cX4_hear 37 = .ok (.invokevirtual 37, 3) := by decide +kernel
theorem dX4_hear_40 : decode cX4_hear 40 = .ok (.ireturn, 1) := by decide +kernel
theorem dX4_speak_0 : decode cX4_speak 0 = .ok (.iload_n 1, 1) := by decide +kernel
theorem dX4_speak_1 : decode cX4_speak 1 = .ok (.istore 5, 2) := by decide +kernel
theorem dX4_speak_3 : decode cX4_speak 3 = .ok (.iconst 0, 1) := by decide +kernel
theorem dX4_speak_4 : decode cX4_speak 4 = .ok (.istore 6, 2) := by decide +kernel
theorem dX4_speak_6 : decode cX4_speak 6 = .ok (.iload 6, 2) := by decide +kernel
theorem dX4_speak_8 : decode cX4_speak 8 = .ok (.bipush 7, 2) := by decide +kernel
theorem dX4_speak_10 : decode cX4_speak 10 = .ok (.if_icmp .ge 30, 3) := by decide +kernel
theorem dX4_speak_13 : decode cX4_speak 13 = .ok (.iload 5, 2) := by decide +kernel
theorem dX4_speak_15 : decode cX4_speak 15 = .ok (.ifCond .lt 25, 3) := by decide +kernel
theorem dX4_speak_18 : decode cX4_speak 18 = .ok (.iload 5, 2) := by decide +kernel
theorem dX4_speak_20 : decode cX4_speak 20 = .ok (.iload_n 2, 1) := by decide +kernel
theorem dX4_speak_21 : decode cX4_speak 21 = .ok (.invokestatic 41, 3) := by decide +kernel
theorem dX4_speak_24 : decode cX4_speak 24 = .ok (.ifCond .ne 16, 3) := by decide +kernel
theorem dX4_speak_27 : decode cX4_speak 27 = .ok (.iload 5, 2) := by decide +kernel
theorem dX4_speak_29 : decode cX4_speak 29 = .ok (.invokestatic 45, 3) := by decide +kernel
theorem dX4_speak_32 : decode cX4_speak 32 = .ok (.istore 5, 2) := by decide +kernel
theorem dX4_speak_34 : decode cX4_speak 34 = .ok (.iinc 6 1, 3) := by decide +kernel
theorem dX4_speak_37 : decode cX4_speak 37 = .ok (.goto (-31), 3) := by decide +kernel
theorem dX4_speak_40 : decode cX4_speak 40 = .ok (.iload 5, 2) := by decide +kernel
theorem dX4_speak_42 : decode cX4_speak 42 = .ok (.iload_n 2, 1) := by decide +kernel
theorem dX4_speak_43 : decode cX4_speak 43 = .ok (.invokestatic 41, 3) := by decide +kernel
theorem dX4_speak_46 : decode cX4_speak 46 = .ok (.istore 6, 2) := by decide +kernel
theorem dX4_speak_48 : decode cX4_speak 48 = .ok (.aload_n 0, 1) := by decide +kernel
theorem dX4_speak_49 : decode cX4_speak 49 = .ok (.getfield 20, 3) := by decide +kernel
theorem dX4_speak_52 : decode cX4_speak 52 = .ok (.ifCond .ne 15, 3) := by decide +kernel
theorem dX4_speak_55 : decode cX4_speak 55 = .ok (.iload 6, 2) := by decide +kernel
theorem dX4_speak_57 : decode cX4_speak 57 = .ok (.ifCond .eq 10, 3) := by decide +kernel
theorem dX4_speak_60 : decode cX4_speak 60 = .ok (.iload 4, 2) := by decide +kernel
theorem dX4_speak_62 : decode cX4_speak 62 = .ok (.bipush 40, 2) := by decide +kernel
theorem dX4_speak_64 : decode cX4_speak 64 = .ok (.if_icmp .le 5, 3) := by decide +kernel
theorem dX4_speak_67 : decode cX4_speak 67 = .ok (.iconst 0, 1) := by decide +kernel
theorem dX4_speak_68 : decode cX4_speak 68 = .ok (.ireturn, 1) := by decide +kernel
theorem dX4_speak_69 : decode cX4_speak 69 = .ok (.aload_n 0, 1) := by decide +kernel
theorem dX4_speak_70 : decode cX4_speak 70 = .ok (.getfield 14, 3) := by decide +kernel
theorem dX4_speak_73 : decode cX4_speak 73 = .ok (.iload 6, 2) := by decide +kernel
theorem dX4_speak_75 : decode cX4_speak 75 = .ok (.invokevirtual 49, 3) := by decide +kernel
theorem dX4_speak_78 : decode cX4_speak 78 = .ok (.iload 6, 2) := by decide +kernel
theorem dX4_speak_80 : decode cX4_speak 80 = .ok (.bipush 20, 2) := by decide +kernel
theorem dX4_speak_82 : decode cX4_speak 82 = .ok (.if_icmp .ge 17, 3) := by decide +kernel
theorem dX4_speak_85 : decode cX4_speak 85 = .ok (.aload_n 0, 1) := by decide +kernel
theorem dX4_speak_86 : decode cX4_speak 86 = .ok (.iload 6, 2) := by decide +kernel
theorem dX4_speak_88 : decode cX4_speak 88 = .ok (.iload_n 3, 1) := by decide +kernel
theorem dX4_speak_89 : decode cX4_speak 89 = .ok (.iload 4, 2) := by decide +kernel
theorem dX4_speak_91 : decode cX4_speak 91 = .ok (.iconst 1, 1) := by decide +kernel
theorem dX4_speak_92 : decode cX4_speak 92 = .ok (.iadd, 1) := by decide +kernel
theorem dX4_speak_93 : decode cX4_speak 93 = .ok (.invokevirtual 52, 3) := by decide +kernel
theorem dX4_speak_96 : decode cX4_speak 96 = .ok (.goto 19, 3) := by decide +kernel
theorem dX4_speak_99 : decode cX4_speak 99 = .ok (.aload_n 0, 1) := by decide +kernel
theorem dX4_speak_100 : decode cX4_speak 100 = .ok (.iload 6, 2) := by decide +kernel
theorem dX4_speak_102 : decode cX4_speak 102 = .ok (.iload 5, 2) := by decide +kernel
theorem dX4_speak_104 : decode cX4_speak 104 = .ok (.invokestatic 45, 3) := by decide +kernel
theorem dX4_speak_107 : decode cX4_speak 107 = .ok (.iload_n 3, 1) := by decide +kernel
theorem dX4_speak_108 : decode cX4_speak 108 = .ok (.iload 4, 2) := by decide +kernel
theorem dX4_speak_110 : decode cX4_speak 110 = .ok (.iconst 1, 1) := by decide +kernel
theorem dX4_speak_111 : decode cX4_speak 111 = .ok (.iadd, 1) := by decide +kernel
theorem dX4_speak_112 : decode cX4_speak 112 = .ok (.invokevirtual 56, 3) := by decide +kernel
theorem dX4_speak_115 : decode cX4_speak 115 = .ok (.ireturn, 1) := by decide +kernel
theorem dX4_bodyOf_0 : decode cX4_bodyOf 0 = .ok (.iconst 4, 1) := by decide +kernel
theorem dX4_bodyOf_1 : decode cX4_bodyOf 1 = .ok (.iload_n 0, 1) := by decide +kernel
theorem dX4_bodyOf_2 : decode cX4_bodyOf 2 = .ok (.imul, 1) := by decide +kernel
theorem dX4_bodyOf_3 : decode cX4_bodyOf 3 = .ok (.iload_n 1, 1) := by decide +kernel
theorem dX4_bodyOf_4 : decode cX4_bodyOf 4 = .ok (.iadd, 1) := by decide +kernel
theorem dX4_bodyOf_5 : decode cX4_bodyOf 5 = .ok (.istore_n 2, 1) := by decide +kernel
theorem dX4_bodyOf_6 : decode cX4_bodyOf 6 = .ok (.iload_n 0, 1) := by decide +kernel
theorem dX4_bodyOf_7 : decode cX4_bodyOf 7 = .ok (.ifCond .lt 28, 3) := by decide +kernel
theorem dX4_bodyOf_10 : decode cX4_bodyOf 10 = .ok (.iload_n 1, 1) := by decide +kernel
theorem dX4_bodyOf_11 : decode cX4_bodyOf 11 = .ok (.iconst 0, 1) := by decide +kernel
theorem dX4_bodyOf_12 : decode cX4_bodyOf 12 = .ok (.iconst 3, 1) := by decide +kernel
theorem dX4_bodyOf_13 : decode cX4_bodyOf 13 = .ok (.invokestatic 59, 3) := by decide +kernel
theorem dX4_bodyOf_16 : decode cX4_bodyOf 16 = .ok (.ifCond .eq 19, 3) := by decide +kernel
theorem dX4_bodyOf_19 : decode cX4_bodyOf 19 = .ok (.iload_n 2, 1) := by decide +kernel
theorem dX4_bodyOf_20 : decode cX4_bodyOf 20 = .ok (.getstatic 63, 3) := by decide +kernel
theorem dX4_bodyOf_23 : decode cX4_bodyOf 23 = .ok (.arraylength, 1) := by decide +kernel
theorem dX4_bodyOf_24 : decode cX4_bodyOf 24 = .ok (.if_icmp .ge 11, 3) := by decide +kernel
theorem dX4_bodyOf_27 : decode cX4_bodyOf 27 = .ok (.getstatic 63, 3) := by decide +kernel
theorem dX4_bodyOf_30 : decode cX4_bodyOf 30 = .ok (.iload_n 2, 1) := by decide +kernel
theorem dX4_bodyOf_31 : decode cX4_bodyOf 31 = .ok (.iaload, 1) := by decide +kernel
theorem dX4_bodyOf_32 : decode cX4_bodyOf 32 = .ok (.goto 4, 3) := by decide +kernel
theorem dX4_bodyOf_35 : decode cX4_bodyOf 35 = .ok (.iconst 0, 1) := by decide +kernel
theorem dX4_bodyOf_36 : decode cX4_bodyOf 36 = .ok (.ireturn, 1) := by decide +kernel
theorem dX4_topmost_0 : decode cX4_topmost 0 = .ok (.iload_n 1, 1) := by decide +kernel
theorem dX4_topmost_1 : decode cX4_topmost 1 = .ok (.tableswitch 65 10 12 #[27, 34, 48], 27) := by decide +kernel
theorem dX4_topmost_28 : decode cX4_topmost 28 = .ok (.iload_n 2, 1) := by decide +kernel
theorem dX4_topmost_29 : decode cX4_topmost 29 = .ok (.aload_n 0, 1) := by decide +kernel
theorem dX4_topmost_30 : decode cX4_topmost 30 = .ok (.getfield 24, 3) := by decide +kernel
theorem dX4_topmost_33 : decode cX4_topmost 33 = .ok (.iadd, 1) := by decide +kernel
theorem dX4_topmost_34 : decode cX4_topmost 34 = .ok (.ireturn, 1) := by decide +kernel
theorem dX4_topmost_35 : decode cX4_topmost 35 = .ok (.aload_n 0, 1) := by decide +kernel
theorem dX4_topmost_36 : decode cX4_topmost 36 = .ok (.aload_n 0, 1) := by decide +kernel
theorem dX4_topmost_37 : decode cX4_topmost 37 = .ok (.getfield 28, 3) := by decide +kernel
theorem dX4_topmost_40 : decode cX4_topmost 40 = .ok (.iconst 0, 1) := by decide +kernel
theorem dX4_topmost_41 : decode cX4_topmost 41 = .ok (.iload_n 2, 1) := by decide +kernel
theorem dX4_topmost_42 : decode cX4_topmost 42 = .ok (.iload_n 3, 1) := by decide +kernel
theorem dX4_topmost_43 : decode cX4_topmost 43 = .ok (.invokevirtual 37, 3) := by decide +kernel
theorem dX4_topmost_46 : decode cX4_topmost 46 = .ok (.iconst 2, 1) := by decide +kernel
theorem dX4_topmost_47 : decode cX4_topmost 47 = .ok (.imul, 1) := by decide +kernel
theorem dX4_topmost_48 : decode cX4_topmost 48 = .ok (.ireturn, 1) := by decide +kernel
theorem dX4_topmost_49 : decode cX4_topmost 49 = .ok (.aload_n 0, 1) := by decide +kernel
theorem dX4_topmost_50 : decode cX4_topmost 50 = .ok (.aload_n 0, 1) := by decide +kernel
theorem dX4_topmost_51 : decode cX4_topmost 51 = .ok (.getfield 28, 3) := by decide +kernel
theorem dX4_topmost_54 : decode cX4_topmost 54 = .ok (.iconst 1, 1) := by decide +kernel
theorem dX4_topmost_55 : decode cX4_topmost 55 = .ok (.iload_n 2, 1) := by decide +kernel
theorem dX4_topmost_56 : decode cX4_topmost 56 = .ok (.iload_n 3, 1) := by decide +kernel
theorem dX4_topmost_57 : decode cX4_topmost 57 = .ok (.invokevirtual 37, 3) := by decide +kernel
theorem dX4_topmost_60 : decode cX4_topmost 60 = .ok (.aload_n 0, 1) := by decide +kernel
theorem dX4_topmost_61 : decode cX4_topmost 61 = .ok (.getfield 31, 3) := by decide +kernel
theorem dX4_topmost_64 : decode cX4_topmost 64 = .ok (.isub, 1) := by decide +kernel
theorem dX4_topmost_65 : decode cX4_topmost 65 = .ok (.ireturn, 1) := by decide +kernel
theorem dX4_topmost_66 : decode cX4_topmost 66 = .ok (.aload_n 0, 1) := by decide +kernel
theorem dX4_topmost_67 : decode cX4_topmost 67 = .ok (.getfield 31, 3) := by decide +kernel
theorem dX4_topmost_70 : decode cX4_topmost 70 = .ok (.aload_n 0, 1) := by decide +kernel
theorem dX4_topmost_71 : decode cX4_topmost 71 = .ok (.getfield 24, 3) := by decide +kernel
theorem dX4_topmost_74 : decode cX4_topmost 74 = .ok (.if_icmp .ne 10, 3) := by decide +kernel
theorem dX4_topmost_77 : decode cX4_topmost 77 = .ok (.aload_n 0, 1) := by decide +kernel
theorem dX4_topmost_78 : decode cX4_topmost 78 = .ok (.iconst 1, 1) := by decide +kernel
theorem dX4_topmost_79 : decode cX4_topmost 79 = .ok (.putfield 20, 3) := by decide +kernel
theorem dX4_topmost_82 : decode cX4_topmost 82 = .ok (.iconst 0, 1) := by decide +kernel
theorem dX4_topmost_83 : decode cX4_topmost 83 = .ok (.ireturn, 1) := by decide +kernel
theorem dX4_topmost_84 : decode cX4_topmost 84 = .ok (.iload_n 2, 1) := by decide +kernel
theorem dX4_topmost_85 : decode cX4_topmost 85 = .ok (.aload_n 0, 1) := by decide +kernel
theorem dX4_topmost_86 : decode cX4_topmost 86 = .ok (.getfield 31, 3) := by decide +kernel
theorem dX4_topmost_89 : decode cX4_topmost 89 = .ok (.aload_n 0, 1) := by decide +kernel
theorem dX4_topmost_90 : decode cX4_topmost 90 = .ok (.getfield 24, 3) := by decide +kernel
theorem dX4_topmost_93 : decode cX4_topmost 93 = .ok (.isub, 1) := by decide +kernel
theorem dX4_topmost_94 : decode cX4_topmost 94 = .ok (.idiv, 1) := by decide +kernel
theorem dX4_topmost_95 : decode cX4_topmost 95 = .ok (.ireturn, 1) := by decide +kernel
theorem dX4_lower_0 : decode cX4_lower 0 = .ok (.iload_n 1, 1) := by decide +kernel
theorem dX4_lower_1 : decode cX4_lower 1 = .ok (.lookupswitch 176 #[(20, 75), (21, 87), (30, 110), (40, 122), (50, 134), (51, 146), (60, 161), (70, 173)], 75) := by decide +kernel
theorem dX4_lower_76 : decode cX4_lower 76 = .ok (.aload_n 0, 1) := by decide +kernel
theorem dX4_lower_77 : decode cX4_lower 77 = .ok (.iload_n 2, 1) := by decide +kernel
theorem dX4_lower_78 : decode cX4_lower 78 = .ok (.iconst 0, 1) := by decide +kernel
theorem dX4_lower_79 : decode cX4_lower 79 = .ok (.iload_n 3, 1) := by decide +kernel
theorem dX4_lower_80 : decode cX4_lower 80 = .ok (.iload 4, 2) := by decide +kernel
theorem dX4_lower_82 : decode cX4_lower 82 = .ok (.invokevirtual 37, 3) := by decide +kernel
theorem dX4_lower_85 : decode cX4_lower 85 = .ok (.iconst 4, 1) := by decide +kernel
theorem dX4_lower_86 : decode cX4_lower 86 = .ok (.isub, 1) := by decide +kernel
theorem dX4_lower_87 : decode cX4_lower 87 = .ok (.ireturn, 1) := by decide +kernel
theorem dX4_lower_88 : decode cX4_lower 88 = .ok (.aload_n 0, 1) := by decide +kernel
theorem dX4_lower_89 : decode cX4_lower 89 = .ok (.iload_n 2, 1) := by decide +kernel
theorem dX4_lower_90 : decode cX4_lower 90 = .ok (.iconst 3, 1) := by decide +kernel
theorem dX4_lower_91 : decode cX4_lower 91 = .ok (.iload_n 3, 1) := by decide +kernel
theorem dX4_lower_92 : decode cX4_lower 92 = .ok (.iload 4, 2) := by decide +kernel
theorem dX4_lower_94 : decode cX4_lower 94 = .ok (.invokevirtual 37, 3) := by decide +kernel
theorem dX4_lower_97 : decode cX4_lower 97 = .ok (.aload_n 0, 1) := by decide +kernel
theorem dX4_lower_98 : decode cX4_lower 98 = .ok (.aload_n 0, 1) := by decide +kernel
theorem dX4_lower_99 : decode cX4_lower 99 = .ok (.getfield 28, 3) := by decide +kernel
theorem dX4_lower_102 : decode cX4_lower 102 = .ok (.iconst 1, 1) := by decide +kernel
theorem dX4_lower_103 : decode cX4_lower 103 = .ok (.iconst 1, 1) := by decide +kernel
theorem dX4_lower_104 : decode cX4_lower 104 = .ok (.iload 4, 2) := by decide +kernel
theorem dX4_lower_106 : decode cX4_lower 106 = .ok (.invokevirtual 37, 3) := by decide +kernel
theorem dX4_lower_109 : decode cX4_lower 109 = .ok (.iadd, 1) := by decide +kernel
theorem dX4_lower_110 : decode cX4_lower 110 = .ok (.ireturn, 1) := by decide +kernel
theorem dX4_lower_111 : decode cX4_lower 111 = .ok (.iconst 0, 1) := by decide +kernel
theorem dX4_lower_112 : decode cX4_lower 112 = .ok (.aload_n 0, 1) := by decide +kernel
theorem dX4_lower_113 : decode cX4_lower 113 = .ok (.iload_n 2, 1) := by decide +kernel
theorem dX4_lower_114 : decode cX4_lower 114 = .ok (.iconst 1, 1) := by decide +kernel
theorem dX4_lower_115 : decode cX4_lower 115 = .ok (.iload_n 3, 1) := by decide +kernel
theorem dX4_lower_116 : decode cX4_lower 116 = .ok (.iload 4, 2) := by decide +kernel
theorem dX4_lower_118 : decode cX4_lower 118 = .ok (.invokevirtual 37, 3) := by decide +kernel
theorem dX4_lower_121 : decode cX4_lower 121 = .ok (.isub, 1) := by decide +kernel
theorem dX4_lower_122 : decode cX4_lower 122 = .ok (.ireturn, 1) := by decide +kernel
theorem dX4_lower_123 : decode cX4_lower 123 = .ok (.aload_n 0, 1) := by decide +kernel
theorem dX4_lower_124 : decode cX4_lower 124 = .ok (.iload_n 2, 1) := by decide +kernel
theorem dX4_lower_125 : decode cX4_lower 125 = .ok (.iconst 2, 1) := by decide +kernel
theorem dX4_lower_126 : decode cX4_lower 126 = .ok (.iload_n 3, 1) := by decide +kernel
theorem dX4_lower_127 : decode cX4_lower 127 = .ok (.iconst 2, 1) := by decide +kernel
theorem dX4_lower_128 : decode cX4_lower 128 = .ok (.idiv, 1) := by decide +kernel
theorem dX4_lower_129 : decode cX4_lower 129 = .ok (.iload 4, 2) := by decide +kernel
theorem dX4_lower_131 : decode cX4_lower 131 = .ok (.invokevirtual 37, 3) := by decide +kernel
theorem dX4_lower_134 : decode cX4_lower 134 = .ok (.ireturn, 1) := by decide +kernel
theorem dX4_lower_135 : decode cX4_lower 135 = .ok (.aload_n 0, 1) := by decide +kernel
theorem dX4_lower_136 : decode cX4_lower 136 = .ok (.iload_n 2, 1) := by decide +kernel
theorem dX4_lower_137 : decode cX4_lower 137 = .ok (.iconst 0, 1) := by decide +kernel
theorem dX4_lower_138 : decode cX4_lower 138 = .ok (.iload_n 3, 1) := by decide +kernel
theorem dX4_lower_139 : decode cX4_lower 139 = .ok (.iload 4, 2) := by decide +kernel
theorem dX4_lower_141 : decode cX4_lower 141 = .ok (.invokevirtual 37, 3) := by decide +kernel
theorem dX4_lower_144 : decode cX4_lower 144 = .ok (.iconst 3, 1) := by decide +kernel
theorem dX4_lower_145 : decode cX4_lower 145 = .ok (.imul, 1) := by decide +kernel
theorem dX4_lower_146 : decode cX4_lower 146 = .ok (.ireturn, 1) := by decide +kernel
theorem dX4_lower_147 : decode cX4_lower 147 = .ok (.aload_n 0, 1) := by decide +kernel
theorem dX4_lower_148 : decode cX4_lower 148 = .ok (.iload_n 2, 1) := by decide +kernel
theorem dX4_lower_149 : decode cX4_lower 149 = .ok (.iconst 2, 1) := by decide +kernel
theorem dX4_lower_150 : decode cX4_lower 150 = .ok (.iload_n 3, 1) := by decide +kernel
theorem dX4_lower_151 : decode cX4_lower 151 = .ok (.iload 4, 2) := by decide +kernel
theorem dX4_lower_153 : decode cX4_lower 153 = .ok (.invokevirtual 37, 3) := by decide +kernel
theorem dX4_lower_156 : decode cX4_lower 156 = .ok (.aload_n 0, 1) := by decide +kernel
theorem dX4_lower_157 : decode cX4_lower 157 = .ok (.getfield 24, 3) := by decide +kernel
theorem dX4_lower_160 : decode cX4_lower 160 = .ok (.ixor, 1) := by decide +kernel
theorem dX4_lower_161 : decode cX4_lower 161 = .ok (.ireturn, 1) := by decide +kernel
theorem dX4_lower_162 : decode cX4_lower 162 = .ok (.aload_n 0, 1) := by decide +kernel
theorem dX4_lower_163 : decode cX4_lower 163 = .ok (.iload_n 2, 1) := by decide +kernel
theorem dX4_lower_164 : decode cX4_lower 164 = .ok (.iconst 1, 1) := by decide +kernel
theorem dX4_lower_165 : decode cX4_lower 165 = .ok (.iload_n 3, 1) := by decide +kernel
theorem dX4_lower_166 : decode cX4_lower 166 = .ok (.iconst 1, 1) := by decide +kernel
theorem dX4_lower_167 : decode cX4_lower 167 = .ok (.iadd, 1) := by decide +kernel
theorem dX4_lower_168 : decode cX4_lower 168 = .ok (.iload 4, 2) := by decide +kernel
theorem dX4_lower_170 : decode cX4_lower 170 = .ok (.invokevirtual 37, 3) := by decide +kernel
theorem dX4_lower_173 : decode cX4_lower 173 = .ok (.ireturn, 1) := by decide +kernel
theorem dX4_lower_174 : decode cX4_lower 174 = .ok (.bipush 9, 2) := by decide +kernel
theorem dX4_lower_176 : decode cX4_lower 176 = .ok (.ireturn, 1) := by decide +kernel
theorem dX4_lower_177 : decode cX4_lower 177 = .ok (.aload_n 0, 1) := by decide +kernel
theorem dX4_lower_178 : decode cX4_lower 178 = .ok (.iload_n 2, 1) := by decide +kernel
theorem dX4_lower_179 : decode cX4_lower 179 = .ok (.iconst 1, 1) := by decide +kernel
theorem dX4_lower_180 : decode cX4_lower 180 = .ok (.iload_n 3, 1) := by decide +kernel
theorem dX4_lower_181 : decode cX4_lower 181 = .ok (.iload 4, 2) := by decide +kernel
theorem dX4_lower_183 : decode cX4_lower 183 = .ok (.invokevirtual 37, 3) := by decide +kernel
theorem dX4_lower_186 : decode cX4_lower 186 = .ok (.aload_n 0, 1) := by decide +kernel
theorem dX4_lower_187 : decode cX4_lower 187 = .ok (.getfield 31, 3) := by decide +kernel
theorem dX4_lower_190 : decode cX4_lower 190 = .ok (.iadd, 1) := by decide +kernel
theorem dX4_lower_191 : decode cX4_lower 191 = .ok (.ireturn, 1) := by decide +kernel
theorem dX5_init_0 : decode cX5_init 0 = .ok (.aload_n 0, 1) := by decide +kernel
theorem dX5_init_1 : decode cX5_init 1 = .ok (.invokespecial 3, 3) := by decide +kernel
theorem dX5_init_4 : decode cX5_init 4 = .ok (.aload_n 0, 1) := by decide +kernel
theorem dX5_init_5 : decode cX5_init 5 = .ok (.bipush 64, 2) := by decide +kernel
theorem dX5_init_7 : decode cX5_init 7 = .ok (.newarray .int, 2) := by decide +kernel
theorem dX5_init_9 : decode cX5_init 9 = .ok (.putfield 9, 3) := by decide +kernel
theorem dX5_init_12 : decode cX5_init 12 = .ok (.aload_n 0, 1) := by decide +kernel
theorem dX5_init_13 : decode cX5_init 13 = .ok (.sipush 729, 3) := by decide +kernel
theorem dX5_init_16 : decode cX5_init 16 = .ok (.newarray .long, 2) := by decide +kernel
theorem dX5_init_18 : decode cX5_init 18 = .ok (.putfield 15, 3) := by decide +kernel
theorem dX5_init_21 : decode cX5_init 21 = .ok (.aload_n 0, 1) := by decide +kernel
theorem dX5_init_22 : decode cX5_init 22 = .ok (.sipush 729, 3) := by decide +kernel
theorem dX5_init_25 : decode cX5_init 25 = .ok (.newarray .boolean, 2) := by decide +kernel
theorem dX5_init_27 : decode cX5_init 27 = .ok (.putfield 19, 3) := by decide +kernel
theorem dX5_init_30 : decode cX5_init 30 = .ok (.aload_n 0, 1) := by decide +kernel
theorem dX5_init_31 : decode cX5_init 31 = .ok (.iconst 0, 1) := by decide +kernel
theorem dX5_init_32 : decode cX5_init 32 = .ok (.putfield 23, 3) := by decide +kernel
theorem dX5_init_35 : decode cX5_init 35 = .ok (.aload_n 0, 1) := by decide +kernel
theorem dX5_init_36 : decode cX5_init 36 = .ok (.bipush 64, 2) := by decide +kernel
theorem dX5_init_38 : decode cX5_init 38 = .ok (.newarray .int, 2) := by decide +kernel
theorem dX5_init_40 : decode cX5_init 40 = .ok (.putfield 27, 3) := by decide +kernel
theorem dX5_init_43 : decode cX5_init 43 = .ok (.iconst 0, 1) := by decide +kernel
theorem dX5_init_44 : decode cX5_init 44 = .ok (.istore_n 1, 1) := by decide +kernel
theorem dX5_init_45 : decode cX5_init 45 = .ok (.iload_n 1, 1) := by decide +kernel
theorem dX5_init_46 : decode cX5_init 46 = .ok (.bipush 64, 2) := by decide +kernel
theorem dX5_init_48 : decode cX5_init 48 = .ok (.if_icmp .ge 45, 3) := by decide +kernel
theorem dX5_init_51 : decode cX5_init 51 = .ok (.iconst 1, 1) := by decide +kernel
theorem dX5_init_52 : decode cX5_init 52 = .ok (.istore_n 2, 1) := by decide +kernel
theorem dX5_init_53 : decode cX5_init 53 = .ok (.iconst 0, 1) := by decide +kernel
theorem dX5_init_54 : decode cX5_init 54 = .ok (.istore_n 3, 1) := by decide +kernel
theorem dX5_init_55 : decode cX5_init 55 = .ok (.iload_n 3, 1) := by decide +kernel
theorem dX5_init_56 : decode cX5_init 56 = .ok (.bipush 6, 2) := by decide +kernel
theorem dX5_init_58 : decode cX5_init 58 = .ok (.if_icmp .ge 29, 3) := by decide +kernel
theorem dX5_init_61 : decode cX5_init 61 = .ok (.aload_n 0, 1) := by decide +kernel
theorem dX5_init_62 : decode cX5_init 62 = .ok (.getfield 9, 3) := by decide +kernel
theorem dX5_init_65 : decode cX5_init 65 = .ok (.iload_n 1, 1) := by decide +kernel
theorem dX5_init_66 : decode cX5_init 66 = .ok (.dup2, 1) := by decide +kernel
theorem dX5_init_67 : decode cX5_init 67 = .ok (.iaload, 1) := by decide +kernel
theorem dX5_init_68 : decode cX5_init 68 = .ok (.iload_n 1, 1) := by decide +kernel
theorem dX5_init_69 : decode cX5_init 69 = .ok (.iload_n 3, 1) := by decide +kernel
theorem dX5_init_70 : decode cX5_init 70 = .ok (.iushr, 1) := by decide +kernel
theorem dX5_init_71 : decode cX5_init 71 = .ok (.iconst 1, 1) := by decide +kernel
theorem dX5_init_72 : decode cX5_init 72 = .ok (.iand, 1) := by decide +kernel
theorem dX5_init_73 : decode cX5_init 73 = .ok (.iload_n 2, 1) := by decide +kernel
theorem dX5_init_74 : decode cX5_init 74 = .ok (.imul, 1) := by decide +kernel
theorem dX5_init_75 : decode cX5_init 75 = .ok (.iadd, 1) := by decide +kernel
theorem dX5_init_76 : decode cX5_init 76 = .ok (.iastore, 1) := by decide +kernel
theorem dX5_init_77 : decode cX5_init 77 = .ok (.iload_n 2, 1) := by decide +kernel
theorem dX5_init_78 : decode cX5_init 78 = .ok (.iconst 3, 1) := by decide +kernel
theorem dX5_init_79 : decode cX5_init 79 = .ok (.imul, 1) := by decide +kernel
theorem dX5_init_80 : decode cX5_init 80 = .ok (.istore_n 2, 1) := by decide +kernel
theorem dX5_init_81 : decode cX5_init 81 = .ok (.iinc 3 1, 3) := by decide +kernel
theorem dX5_init_84 : decode cX5_init 84 = .ok (.goto (-29), 3) := by decide +kernel
theorem dX5_init_87 : decode cX5_init 87 = .ok (.iinc 1 1, 3) := by decide +kernel
theorem dX5_init_90 : decode cX5_init 90 = .ok (.goto (-45), 3) := by decide +kernel
theorem dX5_init_93 : decode cX5_init 93 = .ok (.iconst 0, 1) := by decide +kernel
theorem dX5_init_94 : decode cX5_init 94 = .ok (.istore_n 1, 1) := by decide +kernel
theorem dX5_init_95 : decode cX5_init 95 = .ok (.iload_n 1, 1) := by decide +kernel
theorem dX5_init_96 : decode cX5_init 96 = .ok (.bipush 64, 2) := by decide +kernel
theorem dX5_init_98 : decode cX5_init 98 = .ok (.if_icmp .ge 53, 3) := by decide +kernel
theorem dX5_init_101 : decode cX5_init 101 = .ok (.iconst 0, 1) := by decide +kernel
theorem dX5_init_102 : decode cX5_init 102 = .ok (.istore_n 2, 1) := by decide +kernel
theorem dX5_init_103 : decode cX5_init 103 = .ok (.iload_n 2, 1) := by decide +kernel
theorem dX5_init_104 : decode cX5_init 104 = .ok (.bipush 64, 2) := by decide +kernel
theorem dX5_init_106 : decode cX5_init 106 = .ok (.if_icmp .ge 39, 3) := by decide +kernel
theorem dX5_init_109 : decode cX5_init 109 = .ok (.aload_n 0, 1) := by decide +kernel
theorem dX5_init_110 : decode cX5_init 110 = .ok (.iload_n 1, 1) := by decide +kernel
theorem dX5_init_111 : decode cX5_init 111 = .ok (.iload_n 2, 1) := by decide +kernel
theorem dX5_init_112 : decode cX5_init 112 = .ok (.invokevirtual 30, 3) := by decide +kernel
theorem dX5_init_115 : decode cX5_init 115 = .ok (.istore_n 3, 1) := by decide +kernel
theorem dX5_init_116 : decode cX5_init 116 = .ok (.iload_n 3, 1) := by decide +kernel
theorem dX5_init_117 : decode cX5_init 117 = .ok (.ifCond .lt 22, 3) := by decide +kernel
theorem dX5_init_120 : decode cX5_init 120 = .ok (.iload_n 3, 1) := by decide +kernel
theorem dX5_init_121 : decode cX5_init 121 = .ok (.sipush 729, 3) := by decide +kernel
theorem dX5_init_124 : decode cX5_init 124 = .ok (.if_icmp .ge 15, 3) := by decide +kernel
theorem dX5_init_127 : decode cX5_init 127 = .ok (.aload_n 0, 1) := by decide +kernel
theorem dX5_init_128 : decode cX5_init 128 = .ok (.getfield 15, 3) := by decide +kernel
theorem dX5_init_131 : decode cX5_init 131 = .ok (.iload_n 3, 1) := by decide +kernel
theorem dX5_init_132 : decode cX5_init 132 = .ok (.dup2, 1) := by decide +kernel
theorem dX5_init_133 : decode cX5_init 133 = .ok (.laload, 1) := by decide +kernel
theorem dX5_init_134 : decode cX5_init 134 = .ok (.lconst 1, 1) := by decide +kernel
theorem dX5_init_135 : decode cX5_init 135 = .ok (.iload_n 1, 1) := by decide +kernel
theorem dX5_init_136 : decode cX5_init 136 = .ok (.lshl, 1) := by decide +kernel
theorem dX5_init_137 : decode cX5_init 137 = .ok (.lor, 1) := by decide +kernel
theorem dX5_init_138 : decode cX5_init 138 = .ok (.lastore, 1) := by decide +kernel
theorem dX5_init_139 : decode cX5_init 139 = .ok (.iinc 2 1, 3) := by decide +kernel
theorem dX5_init_142 : decode cX5_init 142 = .ok (.goto (-39), 3) := by decide +kernel
theorem dX5_init_145 : decode cX5_init 145 = .ok (.iinc 1 1, 3) := by decide +kernel
theorem dX5_init_148 : decode cX5_init 148 = .ok (.goto (-53), 3) := by decide +kernel
theorem dX5_init_151 : decode cX5_init 151 = .ok (.return_, 1) := by decide +kernel
theorem dX5_vowOf_0 : decode cX5_vowOf 0 = .ok (.iload_n 1, 1) := by decide +kernel
theorem dX5_vowOf_1 : decode cX5_vowOf 1 = .ok (.iload_n 2, 1) := by decide +kernel
theorem dX5_vowOf_2 : decode cX5_vowOf 2 = .ok (.iconst (-1), 1) := by decide +kernel
theorem dX5_vowOf_3 : decode cX5_vowOf 3 = .ok (.ixor, 1) := by decide +kernel
theorem dX5_vowOf_4 : decode cX5_vowOf 4 = .ok (.iand, 1) := by decide +kernel
theorem dX5_vowOf_5 : decode cX5_vowOf 5 = .ok (.bipush 63, 2) := by decide +kernel
theorem dX5_vowOf_7 : decode cX5_vowOf 7 = .ok (.iand, 1) := by decide +kernel
theorem dX5_vowOf_8 : decode cX5_vowOf 8 = .ok (.istore_n 3, 1) := by decide +kernel
theorem dX5_vowOf_9 : decode cX5_vowOf 9 = .ok (.iconst 2, 1) := by decide +kernel
theorem dX5_vowOf_10 : decode cX5_vowOf 10 = .ok (.aload_n 0, 1) := by decide +kernel
theorem dX5_vowOf_11 : decode cX5_vowOf 11 = .ok (.getfield 9, 3) := by decide +kernel
theorem dX5_vowOf_14 : decode cX5_vowOf 14 = .ok (.iload_n 2, 1) := by decide +kernel
theorem dX5_vowOf_15 : decode cX5_vowOf 15 = .ok (.bipush 63, 2) := by decide +kernel
theorem dX5_vowOf_17 : decode cX5_vowOf 17 = .ok (.iand, 1) := by decide +kernel
theorem dX5_vowOf_18 : decode cX5_vowOf 18 = .ok (.iaload, 1) := by decide +kernel
theorem dX5_vowOf_19 : decode cX5_vowOf 19 = .ok (.imul, 1) := by decide +kernel
theorem dX5_vowOf_20 : decode cX5_vowOf 20 = .ok (.aload_n 0, 1) := by decide +kernel
theorem dX5_vowOf_21 : decode cX5_vowOf 21 = .ok (.getfield 9, 3) := by decide +kernel
theorem dX5_vowOf_24 : decode cX5_vowOf 24 = .ok (.iload_n 3, 1) := by decide +kernel
theorem dX5_vowOf_25 : decode cX5_vowOf 25 = .ok (.iaload, 1) := by decide +kernel
theorem dX5_vowOf_26 : decode cX5_vowOf 26 = .ok (.iadd, 1) := by decide +kernel
theorem dX5_vowOf_27 : decode cX5_vowOf 27 = .ok (.ireturn, 1) := by decide +kernel
theorem dX5_breaks_0 : decode cX5_breaks 0 = .ok (.iload_n 1, 1) := by decide +kernel
theorem dX5_breaks_1 : decode cX5_breaks 1 = .ok (.invokestatic 34, 3) := by decide +kernel
theorem dX5_breaks_4 : decode cX5_breaks 4 = .ok (.ifCond .eq 33, 3) := by decide +kernel
theorem dX5_breaks_7 : decode cX5_breaks 7 = .ok (.iload_n 2, 1) := by decide +kernel
theorem dX5_breaks_8 : decode cX5_breaks 8 = .ok (.iconst 0, 1) := by decide +kernel
theorem dX5_breaks_9 : decode cX5_breaks 9 = .ok (.sipush 728, 3) := by decide +kernel
theorem dX5_breaks_12 : decode cX5_breaks 12 = .ok (.invokestatic 38, 3) := by decide +kernel
theorem dX5_breaks_15 : decode cX5_breaks 15 = .ok (.ifCond .eq 22, 3) := by decide +kernel
theorem dX5_breaks_18 : decode cX5_breaks 18 = .ok (.aload_n 0, 1) := by decide +kernel
theorem dX5_breaks_19 : decode cX5_breaks 19 = .ok (.getfield 15, 3) := by decide +kernel
theorem dX5_breaks_22 : decode cX5_breaks 22 = .ok (.iload_n 2, 1) := by decide +kernel
theorem dX5_breaks_23 : decode cX5_breaks 23 = .ok (.laload, 1) := by decide +kernel
theorem dX5_breaks_24 : decode cX5_breaks 24 = .ok (.iload_n 1, 1) := by decide +kernel
theorem dX5_breaks_25 : decode cX5_breaks 25 = .ok (.lushr, 1) := by decide +kernel
theorem dX5_breaks_26 : decode cX5_breaks 26 = .ok (.lconst 1, 1) := by decide +kernel
theorem dX5_breaks_27 : decode cX5_breaks 27 = .ok (.land, 1) := by decide +kernel
theorem dX5_breaks_28 : decode cX5_breaks 28 = .ok (.lconst 0, 1) := by decide +kernel
theorem dX5_breaks_29 : decode cX5_breaks 29 = .ok (.lcmp, 1) := by decide +kernel
theorem dX5_breaks_30 : decode cX5_breaks 30 = .ok (.ifCond .eq 7, 3) := by decide +kernel
theorem dX5_breaks_33 : decode cX5_breaks 33 = .ok (.iconst 1, 1) := by decide +kernel
theorem dX5_breaks_34 : decode cX5_breaks 34 = .ok (.goto 4, 3) := by decide +kernel
theorem dX5_breaks_37 : decode cX5_breaks 37 = .ok (.iconst 0, 1) := by decide +kernel
theorem dX5_breaks_38 : decode cX5_breaks 38 = .ok (.ireturn, 1) := by decide +kernel
theorem dX5_refit_0 : decode cX5_refit 0 = .ok (.lconst 0, 1) := by decide +kernel
theorem dX5_refit_1 : decode cX5_refit 1 = .ok (.lstore_n 2, 1) := by decide +kernel
theorem dX5_refit_2 : decode cX5_refit 2 = .ok (.lconst 0, 1) := by decide +kernel
theorem dX5_refit_3 : decode cX5_refit 3 = .ok (.lstore 4, 2) := by decide +kernel
theorem dX5_refit_5 : decode cX5_refit 5 = .ok (.iconst 0, 1) := by decide +kernel
theorem dX5_refit_6 : decode cX5_refit 6 = .ok (.istore 6, 2) := by decide +kernel
theorem dX5_refit_8 : decode cX5_refit 8 = .ok (.iload 6, 2) := by decide +kernel
theorem dX5_refit_10 : decode cX5_refit 10 = .ok (.aload_n 1, 1) := by decide +kernel
theorem dX5_refit_11 : decode cX5_refit 11 = .ok (.invokevirtual 42, 3) := by decide +kernel
theorem dX5_refit_14 : decode cX5_refit 14 = .ok (.if_icmp .ge 48, 3) := by decide +kernel
theorem dX5_refit_17 : decode cX5_refit 17 = .ok (.lconst 1, 1) := by decide +kernel
theorem dX5_refit_18 : decode cX5_refit 18 = .ok (.aload_n 1, 1) := by decide +kernel
theorem dX5_refit_19 : decode cX5_refit 19 = .ok (.iload 6, 2) := by decide +kernel
theorem dX5_refit_21 : decode cX5_refit 21 = .ok (.invokevirtual 48, 3) := by decide +kernel
theorem dX5_refit_24 : decode cX5_refit 24 = .ok (.iconst 2, 1) := by decide +kernel
theorem dX5_refit_25 : decode cX5_refit 25 = .ok (.idiv, 1) := by decide +kernel
theorem dX5_refit_26 : decode cX5_refit 26 = .ok (.lshl, 1) := by decide +kernel
theorem dX5_refit_27 : decode cX5_refit 27 = .ok (.lstore 7, 2) := by decide +kernel
theorem dX5_refit_29 : decode cX5_refit 29 = .ok (.aload_n 1, 1) := by decide +kernel
theorem dX5_refit_30 : decode cX5_refit 30 = .ok (.iload 6, 2) := by decide +kernel
theorem dX5_refit_32 : decode cX5_refit 32 = .ok (.invokevirtual 48, 3) := by decide +kernel
theorem dX5_refit_35 : decode cX5_refit 35 = .ok (.iconst 2, 1) := by decide +kernel
theorem dX5_refit_36 : decode cX5_refit 36 = .ok (.irem, 1) := by decide +kernel
theorem dX5_refit_37 : decode cX5_refit 37 = .ok (.iconst 1, 1) := by decide +kernel
theorem dX5_refit_38 : decode cX5_refit 38 = .ok (.if_icmp .ne 11, 3) := by decide +kernel
theorem dX5_refit_41 : decode cX5_refit 41 = .ok (.lload_n 2, 1) := by decide +kernel
theorem dX5_refit_42 : decode cX5_refit 42 = .ok (.lload 7, 2) := by decide +kernel
theorem dX5_refit_44 : decode cX5_refit 44 = .ok (.lor, 1) := by decide +kernel
theorem dX5_refit_45 : decode cX5_refit 45 = .ok (.lstore_n 2, 1) := by decide +kernel
theorem dX5_refit_46 : decode cX5_refit 46 = .ok (.goto 10, 3) := by decide +kernel
theorem dX5_refit_49 : decode cX5_refit 49 = .ok (.lload 4, 2) := by decide +kernel
theorem dX5_refit_51 : decode cX5_refit 51 = .ok (.lload 7, 2) := by decide +kernel
theorem dX5_refit_53 : decode cX5_refit 53 = .ok (.lor, 1) := by decide +kernel
theorem dX5_refit_54 : decode cX5_refit 54 = .ok (.lstore 4, 2) := by decide +kernel
theorem dX5_refit_56 : decode cX5_refit 56 = .ok (.iinc 6 1, 3) := by decide +kernel
theorem dX5_refit_59 : decode cX5_refit 59 = .ok (.goto (-51), 3) := by decide +kernel
theorem dX5_refit_62 : decode cX5_refit 62 = .ok (.iconst 0, 1) := by decide +kernel
theorem dX5_refit_63 : decode cX5_refit 63 = .ok (.istore 6, 2) := by decide +kernel
theorem dX5_refit_65 : decode cX5_refit 65 = .ok (.iload 6, 2) := by decide +kernel
theorem dX5_refit_67 : decode cX5_refit 67 = .ok (.bipush 64, 2) := by decide +kernel
theorem dX5_refit_69 : decode cX5_refit 69 = .ok (.if_icmp .ge 17, 3) := by decide +kernel
theorem dX5_refit_72 : decode cX5_refit 72 = .ok (.aload_n 0, 1) := by decide +kernel
theorem dX5_refit_73 : decode cX5_refit 73 = .ok (.getfield 27, 3) := by decide +kernel
theorem dX5_refit_76 : decode cX5_refit 76 = .ok (.iload 6, 2) := by decide +kernel
theorem dX5_refit_78 : decode cX5_refit 78 = .ok (.iconst (-1), 1) := by decide +kernel
theorem dX5_refit_79 : decode cX5_refit 79 = .ok (.iastore, 1) := by decide +kernel
theorem dX5_refit_80 : decode cX5_refit 80 = .ok (.iinc 6 1, 3) := by decide +kernel
theorem dX5_refit_83 : decode cX5_refit 83 = .ok (.goto (-18), 3) := by decide +kernel
theorem dX5_refit_86 : decode cX5_refit 86 = .ok (.aload_n 0, 1) := by decide +kernel
theorem dX5_refit_87 : decode cX5_refit 87 = .ok (.iconst 0, 1) := by decide +kernel
theorem dX5_refit_88 : decode cX5_refit 88 = .ok (.putfield 23, 3) := by decide +kernel
theorem dX5_refit_91 : decode cX5_refit 91 = .ok (.iconst 0, 1) := by decide +kernel
theorem dX5_refit_92 : decode cX5_refit 92 = .ok (.istore 6, 2) := by decide +kernel
theorem dX5_refit_94 : decode cX5_refit 94 = .ok (.iload 6, 2) := by decide +kernel
theorem dX5_refit_96 : decode cX5_refit 96 = .ok (.sipush 729, 3) := by decide +kernel
theorem dX5_refit_99 : decode cX5_refit 99 = .ok (.if_icmp .ge 74, 3) := by decide +kernel
theorem dX5_refit_102 : decode cX5_refit 102 = .ok (.aload_n 0, 1) := by decide +kernel
theorem dX5_refit_103 : decode cX5_refit 103 = .ok (.getfield 19, 3) := by decide +kernel
theorem dX5_refit_106 : decode cX5_refit 106 = .ok (.iload 6, 2) := by decide +kernel
theorem dX5_refit_108 : decode cX5_refit 108 = .ok (.aload_n 0, 1) := by decide +kernel
theorem dX5_refit_109 : decode cX5_refit 109 = .ok (.getfield 15, 3) := by decide +kernel
theorem dX5_refit_112 : decode cX5_refit 112 = .ok (.iload 6, 2) := by decide +kernel
theorem dX5_refit_114 : decode cX5_refit 114 = .ok (.laload, 1) := by decide +kernel
theorem dX5_refit_115 : decode cX5_refit 115 = .ok (.lload_n 2, 1) := by decide +kernel
theorem dX5_refit_116 : decode cX5_refit 116 = .ok (.land, 1) := by decide +kernel
theorem dX5_refit_117 : decode cX5_refit 117 = .ok (.lload_n 2, 1) := by decide +kernel
theorem dX5_refit_118 : decode cX5_refit 118 = .ok (.lcmp, 1) := by decide +kernel
theorem dX5_refit_119 : decode cX5_refit 119 = .ok (.ifCond .ne 22, 3) := by decide +kernel
theorem dX5_refit_122 : decode cX5_refit 122 = .ok (.aload_n 0, 1) := by decide +kernel
theorem dX5_refit_123 : decode cX5_refit 123 = .ok (.getfield 15, 3) := by decide +kernel
theorem dX5_refit_126 : decode cX5_refit 126 = .ok (.iload 6, 2) := by decide +kernel
theorem dX5_refit_128 : decode cX5_refit 128 = .ok (.laload, 1) := by decide +kernel
theorem dX5_refit_129 : decode cX5_refit 129 = .ok (.lload 4, 2) := by decide +kernel
theorem dX5_refit_131 : decode cX5_refit 131 = .ok (.land, 1) := by decide +kernel
theorem dX5_refit_132 : decode cX5_refit 132 = .ok (.lconst 0, 1) := by decide +kernel
theorem dX5_refit_133 : decode cX5_refit 133 = .ok (.lcmp, 1) := by decide +kernel
theorem dX5_refit_134 : decode cX5_refit 134 = .ok (.ifCond .ne 7, 3) := by decide +kernel
theorem dX5_refit_137 : decode cX5_refit 137 = .ok (.iconst 1, 1) := by decide +kernel
theorem dX5_refit_138 : decode cX5_refit 138 = .ok (.goto 4, 3) := by decide +kernel
theorem dX5_refit_141 : decode cX5_refit 141 = .ok (.iconst 0, 1) := by decide +kernel
theorem dX5_refit_142 : decode cX5_refit 142 = .ok (.bastore, 1) := by decide +kernel
theorem dX5_refit_143 : decode cX5_refit 143 = .ok (.aload_n 0, 1) := by decide +kernel
theorem dX5_refit_144 : decode cX5_refit 144 = .ok (.dup, 1) := by decide +kernel
theorem dX5_refit_145 : decode cX5_refit 145 = .ok (.getfield 23, 3) := by decide +kernel
theorem dX5_refit_148 : decode cX5_refit 148 = .ok (.aload_n 0, 1) := by decide +kernel
theorem dX5_refit_149 : decode cX5_refit 149 = .ok (.getfield 19, 3) := by decide +kernel
theorem dX5_refit_152 : decode cX5_refit 152 = .ok (.iload 6, 2) := by decide +kernel
theorem dX5_refit_154 : decode cX5_refit 154 = .ok (.baload, 1) := by decide +kernel
theorem dX5_refit_155 : decode cX5_refit 155 = .ok (.ifCond .eq 7, 3) := by decide +kernel
theorem dX5_refit_158 : decode cX5_refit 158 = .ok (.iconst 1, 1) := by decide +kernel
theorem dX5_refit_159 : decode cX5_refit 159 = .ok (.goto 4, 3) := by decide +kernel
theorem dX5_refit_162 : decode cX5_refit 162 = .ok (.iconst 0, 1) := by decide +kernel
theorem dX5_refit_163 : decode cX5_refit 163 = .ok (.iadd, 1) := by decide +kernel
theorem dX5_refit_164 : decode cX5_refit 164 = .ok (.putfield 23, 3) := by decide +kernel
theorem dX5_refit_167 : decode cX5_refit 167 = .ok (.iinc 6 1, 3) := by decide +kernel
theorem dX5_refit_170 : decode cX5_refit 170 = .ok (.goto (-76), 3) := by decide +kernel
theorem dX5_refit_173 : decode cX5_refit 173 = .ok (.return_, 1) := by decide +kernel
theorem dX5_fitting_0 : decode cX5_fitting 0 = .ok (.aload_n 0, 1) := by decide +kernel
theorem dX5_fitting_1 : decode cX5_fitting 1 = .ok (.getfield 23, 3) := by decide +kernel
theorem dX5_fitting_4 : decode cX5_fitting 4 = .ok (.ireturn, 1) := by decide +kernel
theorem dX5_broken_0 : decode cX5_broken 0 = .ok (.iload_n 1, 1) := by decide +kernel
theorem dX5_broken_1 : decode cX5_broken 1 = .ok (.invokestatic 34, 3) := by decide +kernel
theorem dX5_broken_4 : decode cX5_broken 4 = .ok (.ifCond .ne 5, 3) := by decide +kernel
theorem dX5_broken_7 : decode cX5_broken 7 = .ok (.iconst 0, 1) := by decide +kernel
theorem dX5_broken_8 : decode cX5_broken 8 = .ok (.ireturn, 1) := by decide +kernel
theorem dX5_broken_9 : decode cX5_broken 9 = .ok (.aload_n 0, 1) := by decide +kernel
theorem dX5_broken_10 : decode cX5_broken 10 = .ok (.getfield 27, 3) := by decide +kernel
theorem dX5_broken_13 : decode cX5_broken 13 = .ok (.iload_n 1, 1) := by decide +kernel
theorem dX5_broken_14 : decode cX5_broken 14 = .ok (.iaload, 1) := by decide +kernel
theorem dX5_broken_15 : decode cX5_broken 15 = .ok (.ifCond .ge 14, 3) := by decide +kernel
theorem dX5_broken_18 : decode cX5_broken 18 = .ok (.aload_n 0, 1) := by decide +kernel
theorem dX5_broken_19 : decode cX5_broken 19 = .ok (.getfield 27, 3) := by decide +kernel
theorem dX5_broken_22 : decode cX5_broken 22 = .ok (.iload_n 1, 1) := by decide +kernel
theorem dX5_broken_23 : decode cX5_broken 23 = .ok (.aload_n 0, 1) := by decide +kernel
theorem dX5_broken_24 : decode cX5_broken 24 = .ok (.iload_n 1, 1) := by decide +kernel
theorem dX5_broken_25 : decode cX5_broken 25 = .ok (.invokevirtual 52, 3) := by decide +kernel
theorem dX5_broken_28 : decode cX5_broken 28 = .ok (.iastore, 1) := by decide +kernel
theorem dX5_broken_29 : decode cX5_broken 29 = .ok (.aload_n 0, 1) := by decide +kernel
theorem dX5_broken_30 : decode cX5_broken 30 = .ok (.getfield 27, 3) := by decide +kernel
theorem dX5_broken_33 : decode cX5_broken 33 = .ok (.iload_n 1, 1) := by decide +kernel
theorem dX5_broken_34 : decode cX5_broken 34 = .ok (.iaload, 1) := by decide +kernel
theorem dX5_broken_35 : decode cX5_broken 35 = .ok (.ireturn, 1) := by decide +kernel
theorem dX5_countBroken_0 : decode cX5_countBroken 0 = .ok (.iconst 0, 1) := by decide +kernel
theorem dX5_countBroken_1 : decode cX5_countBroken 1 = .ok (.istore_n 2, 1) := by decide +kernel
theorem dX5_countBroken_2 : decode cX5_countBroken 2 = .ok (.iconst 0, 1) := by decide +kernel
theorem dX5_countBroken_3 : decode cX5_countBroken 3 = .ok (.istore_n 3, 1) := by decide +kernel
theorem dX5_countBroken_4 : decode cX5_countBroken 4 = .ok (.iload_n 3, 1) := by decide +kernel
theorem dX5_countBroken_5 : decode cX5_countBroken 5 = .ok (.bipush 64, 2) := by decide +kernel
theorem dX5_countBroken_7 : decode cX5_countBroken 7 = .ok (.if_icmp .ge 43, 3) := by decide +kernel
theorem dX5_countBroken_10 : decode cX5_countBroken 10 = .ok (.aload_n 0, 1) := by decide +kernel
theorem dX5_countBroken_11 : decode cX5_countBroken 11 = .ok (.iload_n 1, 1) := by decide +kernel
theorem dX5_countBroken_12 : decode cX5_countBroken 12 = .ok (.iload_n 3, 1) := by decide +kernel
theorem dX5_countBroken_13 : decode cX5_countBroken 13 = .ok (.invokevirtual 30, 3) := by decide +kernel
theorem dX5_countBroken_16 : decode cX5_countBroken 16 = .ok (.istore 4, 2) := by decide +kernel
theorem dX5_countBroken_18 : decode cX5_countBroken 18 = .ok (.iload 4, 2) := by decide +kernel
theorem dX5_countBroken_20 : decode cX5_countBroken 20 = .ok (.ifCond .lt 24, 3) := by decide +kernel
theorem dX5_countBroken_23 : decode cX5_countBroken 23 = .ok (.iload 4, 2) := by decide +kernel
theorem dX5_countBroken_25 : decode cX5_countBroken 25 = .ok (.sipush 729, 3) := by decide +kernel
theorem dX5_countBroken_28 : decode cX5_countBroken 28 = .ok (.if_icmp .ge 16, 3) := by decide +kernel
theorem dX5_countBroken_31 : decode cX5_countBroken 31 = .ok (.aload_n 0, 1) := by decide +kernel
theorem dX5_countBroken_32 : decode cX5_countBroken 32 = .ok (.getfield 19, 3) := by decide +kernel
theorem dX5_countBroken_35 : decode cX5_countBroken 35 = .ok (.iload 4, 2) := by decide +kernel
theorem dX5_countBroken_37 : decode cX5_countBroken 37 = .ok (.baload, 1) := by decide +kernel
theorem dX5_countBroken_38 : decode cX5_countBroken 38 = .ok (.ifCond .eq 6, 3) := by decide +kernel
theorem dX5_countBroken_41 : decode cX5_countBroken 41 = .ok (.iinc 2 1, 3) := by decide +kernel
theorem dX5_countBroken_44 : decode cX5_countBroken 44 = .ok (.iinc 3 1, 3) := by decide +kernel
theorem dX5_countBroken_47 : decode cX5_countBroken 47 = .ok (.goto (-43), 3) := by decide +kernel
theorem dX5_countBroken_50 : decode cX5_countBroken 50 = .ok (.iload_n 2, 1) := by decide +kernel
theorem dX5_countBroken_51 : decode cX5_countBroken 51 = .ok (.ireturn, 1) := by decide +kernel
theorem dX5_least_0 : decode cX5_least 0 = .ok (.iconst 0, 1) := by decide +kernel
theorem dX5_least_1 : decode cX5_least 1 = .ok (.istore_n 1, 1) := by decide +kernel
theorem dX5_least_2 : decode cX5_least 2 = .ok (.iload_n 1, 1) := by decide +kernel
theorem dX5_least_3 : decode cX5_least 3 = .ok (.sipush 729, 3) := by decide +kernel
theorem dX5_least_6 : decode cX5_least 6 = .ok (.if_icmp .ge 20, 3) := by decide +kernel
theorem dX5_least_9 : decode cX5_least 9 = .ok (.aload_n 0, 1) := by decide +kernel
theorem dX5_least_10 : decode cX5_least 10 = .ok (.getfield 19, 3) := by decide +kernel
theorem dX5_least_13 : decode cX5_least 13 = .ok (.iload_n 1, 1) := by decide +kernel
theorem dX5_least_14 : decode cX5_least 14 = .ok (.baload, 1) := by decide +kernel
theorem dX5_least_15 : decode cX5_least 15 = .ok (.ifCond .eq 5, 3) := by decide +kernel
theorem dX5_least_18 : decode cX5_least 18 = .ok (.iload_n 1, 1) := by decide +kernel
theorem dX5_least_19 : decode cX5_least 19 = .ok (.ireturn, 1) := by decide +kernel
theorem dX5_least_20 : decode cX5_least 20 = .ok (.iinc 1 1, 3) := by decide +kernel
theorem dX5_least_23 : decode cX5_least 23 = .ok (.goto (-21), 3) := by decide +kernel
theorem dX5_least_26 : decode cX5_least 26 = .ok (.iconst (-1), 1) := by decide +kernel
theorem dX5_least_27 : decode cX5_least 27 = .ok (.ireturn, 1) := by decide +kernel
theorem dX5_settled_0 : decode cX5_settled 0 = .ok (.iconst 0, 1) := by decide +kernel
theorem dX5_settled_1 : decode cX5_settled 1 = .ok (.istore_n 2, 1) := by decide +kernel
theorem dX5_settled_2 : decode cX5_settled 2 = .ok (.iload_n 1, 1) := by decide +kernel
theorem dX5_settled_3 : decode cX5_settled 3 = .ok (.istore_n 3, 1) := by decide +kernel
theorem dX5_settled_4 : decode cX5_settled 4 = .ok (.iconst 0, 1) := by decide +kernel
theorem dX5_settled_5 : decode cX5_settled 5 = .ok (.istore 4, 2) := by decide +kernel
theorem dX5_settled_7 : decode cX5_settled 7 = .ok (.iload 4, 2) := by decide +kernel
theorem dX5_settled_9 : decode cX5_settled 9 = .ok (.bipush 6, 2) := by decide +kernel
theorem dX5_settled_11 : decode cX5_settled 11 = .ok (.if_icmp .ge 28, 3) := by decide +kernel
theorem dX5_settled_14 : decode cX5_settled 14 = .ok (.iload_n 2, 1) := by decide +kernel
theorem dX5_settled_15 : decode cX5_settled 15 = .ok (.iload_n 3, 1) := by decide +kernel
theorem dX5_settled_16 : decode cX5_settled 16 = .ok (.iconst 3, 1) := by decide +kernel
theorem dX5_settled_17 : decode cX5_settled 17 = .ok (.irem, 1) := by decide +kernel
theorem dX5_settled_18 : decode cX5_settled 18 = .ok (.iconst 2, 1) := by decide +kernel
theorem dX5_settled_19 : decode cX5_settled 19 = .ok (.if_icmp .ne 7, 3) := by decide +kernel
theorem dX5_settled_22 : decode cX5_settled 22 = .ok (.iconst 0, 1) := by decide +kernel
theorem dX5_settled_23 : decode cX5_settled 23 = .ok (.goto 4, 3) := by decide +kernel
theorem dX5_settled_26 : decode cX5_settled 26 = .ok (.iconst 1, 1) := by decide +kernel
theorem dX5_settled_27 : decode cX5_settled 27 = .ok (.iadd, 1) := by decide +kernel
theorem dX5_settled_28 : decode cX5_settled 28 = .ok (.istore_n 2, 1) := by decide +kernel
theorem dX5_settled_29 : decode cX5_settled 29 = .ok (.iload_n 3, 1) := by decide +kernel
theorem dX5_settled_30 : decode cX5_settled 30 = .ok (.iconst 3, 1) := by decide +kernel
theorem dX5_settled_31 : decode cX5_settled 31 = .ok (.idiv, 1) := by decide +kernel
theorem dX5_settled_32 : decode cX5_settled 32 = .ok (.istore_n 3, 1) := by decide +kernel
theorem dX5_settled_33 : decode cX5_settled 33 = .ok (.iinc 4 1, 3) := by decide +kernel
theorem dX5_settled_36 : decode cX5_settled 36 = .ok (.goto (-29), 3) := by decide +kernel
theorem dX5_settled_39 : decode cX5_settled 39 = .ok (.iload_n 2, 1) := by decide +kernel
theorem dX5_settled_40 : decode cX5_settled 40 = .ok (.ireturn, 1) := by decide +kernel
