theorem dX8_doesShun_143 : decode cX8_doesShun 143 = .ok (.iconst 2, 1) := by decide +kernel
theorem dX8_doesShun_144 : decode cX8_doesShun 144 = .ok (.irem, 1) := by decide +kernel
theorem dX8_doesShun_145 : decode cX8_doesShun 145 = .ok (.if_icmp .ne 7, 3) := by decide +kernel
theorem dX8_doesShun_148 : decode cX8_doesShun 148 = .ok (.iconst 1, 1) := by decide +kernel
theorem dX8_doesShun_149 : decode cX8_doesShun 149 = .ok (.goto 4, 3) := by decide +kernel
theorem dX8_doesShun_152 : decode cX8_doesShun 152 = .ok (.iconst 0, 1) := by decide +kernel
theorem dX8_doesShun_153 : decode cX8_doesShun 153 = .ok (.ireturn, 1) := by decide +kernel
theorem dX8_doesShun_154 : decode cX8_doesShun 154 = .ok (.iload 6, 2) := by decide +kernel
theorem dX8_doesShun_156 : decode cX8_doesShun 156 = .ok (.ifCond .eq 16, 3) := by decide +kernel
theorem dX8_doesShun_159 : decode cX8_doesShun 159 = .ok (.iload 4, 2) := by decide +kernel
theorem dX8_doesShun_161 : decode cX8_doesShun 161 = .ok (.aload_n 0, 1) := by decide +kernel
theorem dX8_doesShun_162 : decode cX8_doesShun 162 = .ok (.getfield 70, 3) := by decide +kernel
theorem dX8_doesShun_165 : decode cX8_doesShun 165 = .ok (.if_icmp .ne 7, 3) := by decide +kernel
theorem dX8_doesShun_168 : decode cX8_doesShun 168 = .ok (.iconst 1, 1) := by decide +kernel
theorem dX8_doesShun_169 : decode cX8_doesShun 169 = .ok (.goto 4, 3) := by decide +kernel
theorem dX8_doesShun_172 : decode cX8_doesShun 172 = .ok (.iconst 0, 1) := by decide +kernel
theorem dX8_doesShun_173 : decode cX8_doesShun 173 = .ok (.ireturn, 1) := by decide +kernel
theorem dX8_doesShun_174 : decode cX8_doesShun 174 = .ok (.iload_n 2, 1) := by decide +kernel
theorem dX8_doesShun_175 : decode cX8_doesShun 175 = .ok (.iload_n 3, 1) := by decide +kernel
theorem dX8_doesShun_176 : decode cX8_doesShun 176 = .ok (.if_icmp .ne 7, 3) := by decide +kernel
theorem dX8_doesShun_179 : decode cX8_doesShun 179 = .ok (.iconst 1, 1) := by decide +kernel
theorem dX8_doesShun_180 : decode cX8_doesShun 180 = .ok (.goto 4, 3) := by decide +kernel
theorem dX8_doesShun_183 : decode cX8_doesShun 183 = .ok (.iconst 0, 1) := by decide +kernel
theorem dX8_doesShun_184 : decode cX8_doesShun 184 = .ok (.ireturn, 1) := by decide +kernel
theorem dX8_doesShun_185 : decode cX8_doesShun 185 = .ok (.iload 5, 2) := by decide +kernel
theorem dX8_doesShun_187 : decode cX8_doesShun 187 = .ok (.ireturn, 1) := by decide +kernel
theorem dX8_tellsOf_0 : decode cX8_tellsOf 0 = .ok (.iload_n 2, 1) := by decide +kernel
theorem dX8_tellsOf_1 : decode cX8_tellsOf 1 = .ok (.i2l, 1) := by decide +kernel
theorem dX8_tellsOf_2 : decode cX8_tellsOf 2 = .ok (.invokestatic 89, 3) := by decide +kernel
theorem dX8_tellsOf_5 : decode cX8_tellsOf 5 = .ok (.aload_n 0, 1) := by decide +kernel
theorem dX8_tellsOf_6 : decode cX8_tellsOf 6 = .ok (.iload_n 1, 1) := by decide +kernel
theorem dX8_tellsOf_7 : decode cX8_tellsOf 7 = .ok (.iconst 1, 1) := by decide +kernel
theorem dX8_tellsOf_8 : decode cX8_tellsOf 8 = .ok (.invokevirtual 81, 3) := by decide +kernel
theorem dX8_tellsOf_11 : decode cX8_tellsOf 11 = .ok (.iadd, 1) := by decide +kernel
theorem dX8_tellsOf_12 : decode cX8_tellsOf 12 = .ok (.istore_n 3, 1) := by decide +kernel
theorem dX8_tellsOf_13 : decode cX8_tellsOf 13 = .ok (.aload_n 0, 1) := by decide +kernel
theorem dX8_tellsOf_14 : decode cX8_tellsOf 14 = .ok (.iload_n 1, 1) := by decide +kernel
theorem dX8_tellsOf_15 : decode cX8_tellsOf 15 = .ok (.iconst 0, 1) := by decide +kernel
theorem dX8_tellsOf_16 : decode cX8_tellsOf 16 = .ok (.invokevirtual 81, 3) := by decide +kernel
theorem dX8_tellsOf_19 : decode cX8_tellsOf 19 = .ok (.tableswitch 68 1 6 #[37, 41, 68, 47, 49, 57], 37) := by decide +kernel
theorem dX8_tellsOf_56 : decode cX8_tellsOf 56 = .ok (.iload_n 3, 1) := by decide +kernel
theorem dX8_tellsOf_57 : decode cX8_tellsOf 57 = .ok (.iconst 2, 1) := by decide +kernel
theorem dX8_tellsOf_58 : decode cX8_tellsOf 58 = .ok (.idiv, 1) := by decide +kernel
theorem dX8_tellsOf_59 : decode cX8_tellsOf 59 = .ok (.ireturn, 1) := by decide +kernel
theorem dX8_tellsOf_60 : decode cX8_tellsOf 60 = .ok (.iload_n 3, 1) := by decide +kernel
theorem dX8_tellsOf_61 : decode cX8_tellsOf 61 = .ok (.iload_n 2, 1) := by decide +kernel
theorem dX8_tellsOf_62 : decode cX8_tellsOf 62 = .ok (.iconst 5, 1) := by decide +kernel
theorem dX8_tellsOf_63 : decode cX8_tellsOf 63 = .ok (.irem, 1) := by decide +kernel
theorem dX8_tellsOf_64 : decode cX8_tellsOf 64 = .ok (.iadd, 1) := by decide +kernel
theorem dX8_tellsOf_65 : decode cX8_tellsOf 65 = .ok (.ireturn, 1) := by decide +kernel
theorem dX8_tellsOf_66 : decode cX8_tellsOf 66 = .ok (.iconst 0, 1) := by decide +kernel
theorem dX8_tellsOf_67 : decode cX8_tellsOf 67 = .ok (.ireturn, 1) := by decide +kernel
theorem dX8_tellsOf_68 : decode cX8_tellsOf 68 = .ok (.iload_n 3, 1) := by decide +kernel
theorem dX8_tellsOf_69 : decode cX8_tellsOf 69 = .ok (.iload_n 2, 1) := by decide +kernel
theorem dX8_tellsOf_70 : decode cX8_tellsOf 70 = .ok (.iconst 5, 1) := by decide +kernel
theorem dX8_tellsOf_71 : decode cX8_tellsOf 71 = .ok (.irem, 1) := by decide +kernel
theorem dX8_tellsOf_72 : decode cX8_tellsOf 72 = .ok (.iadd, 1) := by decide +kernel
theorem dX8_tellsOf_73 : decode cX8_tellsOf 73 = .ok (.iconst 1, 1) := by decide +kernel
theorem dX8_tellsOf_74 : decode cX8_tellsOf 74 = .ok (.isub, 1) := by decide +kernel
theorem dX8_tellsOf_75 : decode cX8_tellsOf 75 = .ok (.ireturn, 1) := by decide +kernel
theorem dX8_tellsOf_76 : decode cX8_tellsOf 76 = .ok (.iload_n 3, 1) := by decide +kernel
theorem dX8_tellsOf_77 : decode cX8_tellsOf 77 = .ok (.aload_n 0, 1) := by decide +kernel
theorem dX8_tellsOf_78 : decode cX8_tellsOf 78 = .ok (.getfield 9, 3) := by decide +kernel
theorem dX8_tellsOf_81 : decode cX8_tellsOf 81 = .ok (.iconst 0, 1) := by decide +kernel
theorem dX8_tellsOf_82 : decode cX8_tellsOf 82 = .ok (.iaload, 1) := by decide +kernel
theorem dX8_tellsOf_83 : decode cX8_tellsOf 83 = .ok (.iconst 3, 1) := by decide +kernel
theorem dX8_tellsOf_84 : decode cX8_tellsOf 84 = .ok (.irem, 1) := by decide +kernel
theorem dX8_tellsOf_85 : decode cX8_tellsOf 85 = .ok (.iadd, 1) := by decide +kernel
theorem dX8_tellsOf_86 : decode cX8_tellsOf 86 = .ok (.ireturn, 1) := by decide +kernel
theorem dX8_tellsOf_87 : decode cX8_tellsOf 87 = .ok (.iload_n 3, 1) := by decide +kernel
theorem dX8_tellsOf_88 : decode cX8_tellsOf 88 = .ok (.ireturn, 1) := by decide +kernel
theorem dX8_doesAvoid_0 : decode cX8_doesAvoid 0 = .ok (.aload_n 0, 1) := by decide +kernel
theorem dX8_doesAvoid_1 : decode cX8_doesAvoid 1 = .ok (.iload_n 1, 1) := by decide +kernel
theorem dX8_doesAvoid_2 : decode cX8_doesAvoid 2 = .ok (.iload_n 2, 1) := by decide +kernel
theorem dX8_doesAvoid_3 : decode cX8_doesAvoid 3 = .ok (.invokevirtual 93, 3) := by decide +kernel
theorem dX8_doesAvoid_6 : decode cX8_doesAvoid 6 = .ok (.istore_n 3, 1) := by decide +kernel
theorem dX8_doesAvoid_7 : decode cX8_doesAvoid 7 = .ok (.aload_n 0, 1) := by decide +kernel
theorem dX8_doesAvoid_8 : decode cX8_doesAvoid 8 = .ok (.iconst 0, 1) := by decide +kernel
theorem dX8_doesAvoid_9 : decode cX8_doesAvoid 9 = .ok (.iload_n 3, 1) := by decide +kernel
theorem dX8_doesAvoid_10 : decode cX8_doesAvoid 10 = .ok (.ifCond .eq 7, 3) := by decide +kernel
theorem dX8_doesAvoid_13 : decode cX8_doesAvoid 13 = .ok (.iconst 1, 1) := by decide +kernel
theorem dX8_doesAvoid_14 : decode cX8_doesAvoid 14 = .ok (.goto 4, 3) := by decide +kernel
theorem dX8_doesAvoid_17 : decode cX8_doesAvoid 17 = .ok (.iconst 0, 1) := by decide +kernel
theorem dX8_doesAvoid_18 : decode cX8_doesAvoid 18 = .ok (.aload_n 0, 1) := by decide +kernel
theorem dX8_doesAvoid_19 : decode cX8_doesAvoid 19 = .ok (.getfield 36, 3) := by decide +kernel
theorem dX8_doesAvoid_22 : decode cX8_doesAvoid 22 = .ok (.iload_n 2, 1) := by decide +kernel
theorem dX8_doesAvoid_23 : decode cX8_doesAvoid 23 = .ok (.iaload, 1) := by decide +kernel
theorem dX8_doesAvoid_24 : decode cX8_doesAvoid 24 = .ok (.aload_n 0, 1) := by decide +kernel
theorem dX8_doesAvoid_25 : decode cX8_doesAvoid 25 = .ok (.getfield 70, 3) := by decide +kernel
theorem dX8_doesAvoid_28 : decode cX8_doesAvoid 28 = .ok (.invokevirtual 96, 3) := by decide +kernel
theorem dX8_doesAvoid_31 : decode cX8_doesAvoid 31 = .ok (.iconst 1, 1) := by decide +kernel
theorem dX8_doesAvoid_32 : decode cX8_doesAvoid 32 = .ok (.if_icmp .ne 7, 3) := by decide +kernel
theorem dX8_doesAvoid_35 : decode cX8_doesAvoid 35 = .ok (.iconst 1, 1) := by decide +kernel
theorem dX8_doesAvoid_36 : decode cX8_doesAvoid 36 = .ok (.goto 4, 3) := by decide +kernel
theorem dX8_doesAvoid_39 : decode cX8_doesAvoid 39 = .ok (.iconst 0, 1) := by decide +kernel
theorem dX8_doesAvoid_40 : decode cX8_doesAvoid 40 = .ok (.ireturn, 1) := by decide +kernel
theorem dX8_talkOf_0 : decode cX8_talkOf 0 = .ok (.aload_n 0, 1) := by decide +kernel
theorem dX8_talkOf_1 : decode cX8_talkOf 1 = .ok (.iconst 1, 1) := by decide +kernel
theorem dX8_talkOf_2 : decode cX8_talkOf 2 = .ok (.aload_n 0, 1) := by decide +kernel
theorem dX8_talkOf_3 : decode cX8_talkOf 3 = .ok (.iload_n 1, 1) := by decide +kernel
theorem dX8_talkOf_4 : decode cX8_talkOf 4 = .ok (.iload_n 2, 1) := by decide +kernel
theorem dX8_talkOf_5 : decode cX8_talkOf 5 = .ok (.invokevirtual 100, 3) := by decide +kernel
theorem dX8_talkOf_8 : decode cX8_talkOf 8 = .ok (.iload_n 2, 1) := by decide +kernel
theorem dX8_talkOf_9 : decode cX8_talkOf 9 = .ok (.aload_n 0, 1) := by decide +kernel
theorem dX8_talkOf_10 : decode cX8_talkOf 10 = .ok (.getfield 9, 3) := by decide +kernel
theorem dX8_talkOf_13 : decode cX8_talkOf 13 = .ok (.iconst 0, 1) := by decide +kernel
theorem dX8_talkOf_14 : decode cX8_talkOf 14 = .ok (.iaload, 1) := by decide +kernel
theorem dX8_talkOf_15 : decode cX8_talkOf 15 = .ok (.bipush 7, 2) := by decide +kernel
theorem dX8_talkOf_17 : decode cX8_talkOf 17 = .ok (.irem, 1) := by decide +kernel
theorem dX8_talkOf_18 : decode cX8_talkOf 18 = .ok (.invokevirtual 96, 3) := by decide +kernel
theorem dX8_talkOf_21 : decode cX8_talkOf 21 = .ok (.ireturn, 1) := by decide +kernel
theorem dX8_isKm_0 : decode cX8_isKm 0 = .ok (.iload_n 0, 1) := by decide +kernel
theorem dX8_isKm_1 : decode cX8_isKm 1 = .ok (.iconst 0, 1) := by decide +kernel
theorem dX8_isKm_2 : decode cX8_isKm 2 = .ok (.bipush 69, 2) := by decide +kernel
theorem dX8_isKm_4 : decode cX8_isKm 4 = .ok (.invokestatic 59, 3) := by decide +kernel
theorem dX8_isKm_7 : decode cX8_isKm 7 = .ok (.ireturn, 1) := by decide +kernel
theorem dX8_brother_0 : decode cX8_brother 0 = .ok (.iload_n 1, 1) := by decide +kernel
theorem dX8_brother_1 : decode cX8_brother 1 = .ok (.invokestatic 103, 3) := by decide +kernel
theorem dX8_brother_4 : decode cX8_brother 4 = .ok (.ifCond .ne 10, 3) := by decide +kernel
theorem dX8_brother_7 : decode cX8_brother 7 = .ok (.aload_n 0, 1) := by decide +kernel
theorem dX8_brother_8 : decode cX8_brother 8 = .ok (.ldc 106, 2) := by decide +kernel
theorem dX8_brother_10 : decode cX8_brother 10 = .ok (.invokevirtual 107, 3) := by decide +kernel
theorem dX8_brother_13 : decode cX8_brother 13 = .ok (.ireturn, 1) := by decide +kernel
theorem dX8_brother_14 : decode cX8_brother 14 = .ok (.aload_n 0, 1) := by decide +kernel
theorem dX8_brother_15 : decode cX8_brother 15 = .ok (.getfield 9, 3) := by decide +kernel
theorem dX8_brother_18 : decode cX8_brother 18 = .ok (.iconst 2, 1) := by decide +kernel
theorem dX8_brother_19 : decode cX8_brother 19 = .ok (.iaload, 1) := by decide +kernel
theorem dX8_brother_20 : decode cX8_brother 20 = .ok (.istore_n 2, 1) := by decide +kernel
theorem dX8_brother_21 : decode cX8_brother 21 = .ok (.iload_n 2, 1) := by decide +kernel
theorem dX8_brother_22 : decode cX8_brother 22 = .ok (.bipush 6, 2) := by decide +kernel
theorem dX8_brother_24 : decode cX8_brother 24 = .ok (.if_icmp .ne 10, 3) := by decide +kernel
theorem dX8_brother_27 : decode cX8_brother 27 = .ok (.aload_n 0, 1) := by decide +kernel
theorem dX8_brother_28 : decode cX8_brother 28 = .ok (.ldc 110, 2) := by decide +kernel
theorem dX8_brother_30 : decode cX8_brother 30 = .ok (.invokevirtual 107, 3) := by decide +kernel
theorem dX8_brother_33 : decode cX8_brother 33 = .ok (.ireturn, 1) := by decide +kernel
theorem dX8_brother_34 : decode cX8_brother 34 = .ok (.aload_n 0, 1) := by decide +kernel
theorem dX8_brother_35 : decode cX8_brother 35 = .ok (.getfield 9, 3) := by decide +kernel
theorem dX8_brother_38 : decode cX8_brother 38 = .ok (.iconst 2, 1) := by decide +kernel
theorem dX8_brother_39 : decode cX8_brother 39 = .ok (.dup2, 1) := by decide +kernel
theorem dX8_brother_40 : decode cX8_brother 40 = .ok (.iaload, 1) := by decide +kernel
theorem dX8_brother_41 : decode cX8_brother 41 = .ok (.iconst 1, 1) := by decide +kernel
theorem dX8_brother_42 : decode cX8_brother 42 = .ok (.iadd, 1) := by decide +kernel
theorem dX8_brother_43 : decode cX8_brother 43 = .ok (.iastore, 1) := by decide +kernel
theorem dX8_brother_44 : decode cX8_brother 44 = .ok (.aload_n 0, 1) := by decide +kernel
theorem dX8_brother_45 : decode cX8_brother 45 = .ok (.getfield 9, 3) := by decide +kernel
theorem dX8_brother_48 : decode cX8_brother 48 = .ok (.bipush 8, 2) := by decide +kernel
theorem dX8_brother_50 : decode cX8_brother 50 = .ok (.iconst 3, 1) := by decide +kernel
theorem dX8_brother_51 : decode cX8_brother 51 = .ok (.iload_n 2, 1) := by decide +kernel
theorem dX8_brother_52 : decode cX8_brother 52 = .ok (.imul, 1) := by decide +kernel
theorem dX8_brother_53 : decode cX8_brother 53 = .ok (.iadd, 1) := by decide +kernel
theorem dX8_brother_54 : decode cX8_brother 54 = .ok (.iload_n 1, 1) := by decide +kernel
theorem dX8_brother_55 : decode cX8_brother 55 = .ok (.bipush 10, 2) := by decide +kernel
theorem dX8_brother_57 : decode cX8_brother 57 = .ok (.idiv, 1) := by decide +kernel
theorem dX8_brother_58 : decode cX8_brother 58 = .ok (.iastore, 1) := by decide +kernel
theorem dX8_brother_59 : decode cX8_brother 59 = .ok (.aload_n 0, 1) := by decide +kernel
theorem dX8_brother_60 : decode cX8_brother 60 = .ok (.getfield 9, 3) := by decide +kernel
theorem dX8_brother_63 : decode cX8_brother 63 = .ok (.bipush 8, 2) := by decide +kernel
theorem dX8_brother_65 : decode cX8_brother 65 = .ok (.iconst 3, 1) := by decide +kernel
theorem dX8_brother_66 : decode cX8_brother 66 = .ok (.iload_n 2, 1) := by decide +kernel
theorem dX8_brother_67 : decode cX8_brother 67 = .ok (.imul, 1) := by decide +kernel
theorem dX8_brother_68 : decode cX8_brother 68 = .ok (.iadd, 1) := by decide +kernel
theorem dX8_brother_69 : decode cX8_brother 69 = .ok (.iconst 1, 1) := by decide +kernel
theorem dX8_brother_70 : decode cX8_brother 70 = .ok (.iadd, 1) := by decide +kernel
theorem dX8_brother_71 : decode cX8_brother 71 = .ok (.iload_n 1, 1) := by decide +kernel
theorem dX8_brother_72 : decode cX8_brother 72 = .ok (.bipush 10, 2) := by decide +kernel
theorem dX8_brother_74 : decode cX8_brother 74 = .ok (.irem, 1) := by decide +kernel
theorem dX8_brother_75 : decode cX8_brother 75 = .ok (.iastore, 1) := by decide +kernel
theorem dX8_brother_76 : decode cX8_brother 76 = .ok (.aload_n 0, 1) := by decide +kernel
theorem dX8_brother_77 : decode cX8_brother 77 = .ok (.getfield 9, 3) := by decide +kernel
theorem dX8_brother_80 : decode cX8_brother 80 = .ok (.bipush 8, 2) := by decide +kernel
theorem dX8_brother_82 : decode cX8_brother 82 = .ok (.iconst 3, 1) := by decide +kernel
theorem dX8_brother_83 : decode cX8_brother 83 = .ok (.iload_n 2, 1) := by decide +kernel
theorem dX8_brother_84 : decode cX8_brother 84 = .ok (.imul, 1) := by decide +kernel
theorem dX8_brother_85 : decode cX8_brother 85 = .ok (.iadd, 1) := by decide +kernel
theorem dX8_brother_86 : decode cX8_brother 86 = .ok (.iconst 2, 1) := by decide +kernel
theorem dX8_brother_87 : decode cX8_brother 87 = .ok (.iadd, 1) := by decide +kernel
theorem dX8_brother_88 : decode cX8_brother 88 = .ok (.iconst 0, 1) := by decide +kernel
theorem dX8_brother_89 : decode cX8_brother 89 = .ok (.iastore, 1) := by decide +kernel
theorem dX8_brother_90 : decode cX8_brother 90 = .ok (.iload_n 2, 1) := by decide +kernel
theorem dX8_brother_91 : decode cX8_brother 91 = .ok (.ireturn, 1) := by decide +kernel
theorem dX8_avoided_0 : decode cX8_avoided 0 = .ok (.iconst 0, 1) := by decide +kernel
theorem dX8_avoided_1 : decode cX8_avoided 1 = .ok (.istore_n 2, 1) := by decide +kernel
theorem dX8_avoided_2 : decode cX8_avoided 2 = .ok (.iconst 0, 1) := by decide +kernel
theorem dX8_avoided_3 : decode cX8_avoided 3 = .ok (.istore_n 3, 1) := by decide +kernel
theorem dX8_avoided_4 : decode cX8_avoided 4 = .ok (.iload_n 3, 1) := by decide +kernel
theorem dX8_avoided_5 : decode cX8_avoided 5 = .ok (.bipush 64, 2) := by decide +kernel
theorem dX8_avoided_7 : decode cX8_avoided 7 = .ok (.if_icmp .ge 26, 3) := by decide +kernel
theorem dX8_avoided_10 : decode cX8_avoided 10 = .ok (.iload_n 2, 1) := by decide +kernel
theorem dX8_avoided_11 : decode cX8_avoided 11 = .ok (.aload_n 0, 1) := by decide +kernel
theorem dX8_avoided_12 : decode cX8_avoided 12 = .ok (.iload_n 1, 1) := by decide +kernel
theorem dX8_avoided_13 : decode cX8_avoided 13 = .ok (.iload_n 3, 1) := by decide +kernel
theorem dX8_avoided_14 : decode cX8_avoided 14 = .ok (.invokevirtual 111, 3) := by decide +kernel
theorem dX8_avoided_17 : decode cX8_avoided 17 = .ok (.ifCond .eq 7, 3) := by decide +kernel
theorem dX8_avoided_20 : decode cX8_avoided 20 = .ok (.iconst 1, 1) := by decide +kernel
theorem dX8_avoided_21 : decode cX8_avoided 21 = .ok (.goto 4, 3) := by decide +kernel
theorem dX8_avoided_24 : decode cX8_avoided 24 = .ok (.iconst 0, 1) := by decide +kernel
theorem dX8_avoided_25 : decode cX8_avoided 25 = .ok (.iadd, 1) := by decide +kernel
theorem dX8_avoided_26 : decode cX8_avoided 26 = .ok (.istore_n 2, 1) := by decide +kernel
theorem dX8_avoided_27 : decode cX8_avoided 27 = .ok (.iinc 3 1, 3) := by decide +kernel
theorem dX8_avoided_30 : decode cX8_avoided 30 = .ok (.goto (-26), 3) := by decide +kernel
theorem dX8_avoided_33 : decode cX8_avoided 33 = .ok (.iload_n 2, 1) := by decide +kernel
theorem dX8_avoided_34 : decode cX8_avoided 34 = .ok (.ireturn, 1) := by decide +kernel
theorem dX8_brotherIs_0 : decode cX8_brotherIs 0 = .ok (.aload_n 0, 1) := by decide +kernel
theorem dX8_brotherIs_1 : decode cX8_brotherIs 1 = .ok (.iload_n 1, 1) := by decide +kernel
theorem dX8_brotherIs_2 : decode cX8_brotherIs 2 = .ok (.invokevirtual 114, 3) := by decide +kernel
theorem dX8_brotherIs_5 : decode cX8_brotherIs 5 = .ok (.ifCond .eq 12, 3) := by decide +kernel
theorem dX8_brotherIs_8 : decode cX8_brotherIs 8 = .ok (.iload_n 2, 1) := by decide +kernel
theorem dX8_brotherIs_9 : decode cX8_brotherIs 9 = .ok (.iconst 0, 1) := by decide +kernel
theorem dX8_brotherIs_10 : decode cX8_brotherIs 10 = .ok (.iconst 3, 1) := by decide +kernel
theorem dX8_brotherIs_11 : decode cX8_brotherIs 11 = .ok (.invokestatic 59, 3) := by decide +kernel
theorem dX8_brotherIs_14 : decode cX8_brotherIs 14 = .ok (.ifCond .ne 10, 3) := by decide +kernel
theorem dX8_brotherIs_17 : decode cX8_brotherIs 17 = .ok (.aload_n 0, 1) := by decide +kernel
theorem dX8_brotherIs_18 : decode cX8_brotherIs 18 = .ok (.ldc 106, 2) := by decide +kernel
theorem dX8_brotherIs_20 : decode cX8_brotherIs 20 = .ok (.invokevirtual 107, 3) := by decide +kernel
theorem dX8_brotherIs_23 : decode cX8_brotherIs 23 = .ok (.ireturn, 1) := by decide +kernel
theorem dX8_brotherIs_24 : decode cX8_brotherIs 24 = .ok (.iload_n 2, 1) := by decide +kernel
theorem dX8_brotherIs_25 : decode cX8_brotherIs 25 = .ok (.iconst 3, 1) := by decide +kernel
theorem dX8_brotherIs_26 : decode cX8_brotherIs 26 = .ok (.if_icmp .ge 12, 3) := by decide +kernel
theorem dX8_brotherIs_29 : decode cX8_brotherIs 29 = .ok (.aload_n 0, 1) := by decide +kernel
theorem dX8_brotherIs_30 : decode cX8_brotherIs 30 = .ok (.iload_n 1, 1) := by decide +kernel
theorem dX8_brotherIs_31 : decode cX8_brotherIs 31 = .ok (.iload_n 2, 1) := by decide +kernel
theorem dX8_brotherIs_32 : decode cX8_brotherIs 32 = .ok (.invokevirtual 81, 3) := by decide +kernel
theorem dX8_brotherIs_35 : decode cX8_brotherIs 35 = .ok (.goto 8, 3) := by decide +kernel
theorem dX8_brotherIs_38 : decode cX8_brotherIs 38 = .ok (.aload_n 0, 1) := by decide +kernel
theorem dX8_brotherIs_39 : decode cX8_brotherIs 39 = .ok (.iload_n 1, 1) := by decide +kernel
theorem dX8_brotherIs_40 : decode cX8_brotherIs 40 = .ok (.invokevirtual 117, 3) := by decide +kernel
theorem dX8_brotherIs_43 : decode cX8_brotherIs 43 = .ok (.ireturn, 1) := by decide +kernel
theorem dX8_become_0 : decode cX8_become 0 = .ok (.aload_n 0, 1) := by decide +kernel
theorem dX8_become_1 : decode cX8_become 1 = .ok (.iload_n 1, 1) := by decide +kernel
theorem dX8_become_2 : decode cX8_become 2 = .ok (.invokevirtual 114, 3) := by decide +kernel
theorem dX8_become_5 : decode cX8_become 5 = .ok (.ifCond .eq 10, 3) := by decide +kernel
theorem dX8_become_8 : decode cX8_become 8 = .ok (.iload_n 2, 1) := by decide +kernel
theorem dX8_become_9 : decode cX8_become 9 = .ok (.invokestatic 103, 3) := by decide +kernel
theorem dX8_become_12 : decode cX8_become 12 = .ok (.ifCond .ne 10, 3) := by decide +kernel
theorem dX8_become_15 : decode cX8_become 15 = .ok (.aload_n 0, 1) := by decide +kernel
theorem dX8_become_16 : decode cX8_become 16 = .ok (.ldc 106, 2) := by decide +kernel
theorem dX8_become_18 : decode cX8_become 18 = .ok (.invokevirtual 107, 3) := by decide +kernel
theorem dX8_become_21 : decode cX8_become 21 = .ok (.ireturn, 1) := by decide +kernel
theorem dX8_become_22 : decode cX8_become 22 = .ok (.aload_n 0, 1) := by decide +kernel
theorem dX8_become_23 : decode cX8_become 23 = .ok (.getfield 9, 3) := by decide +kernel
theorem dX8_become_26 : decode cX8_become 26 = .ok (.bipush 8, 2) := by decide +kernel
theorem dX8_become_28 : decode cX8_become 28 = .ok (.iconst 3, 1) := by decide +kernel
theorem dX8_become_29 : decode cX8_become 29 = .ok (.iload_n 1, 1) := by decide +kernel
theorem dX8_become_30 : decode cX8_become 30 = .ok (.imul, 1) := by decide +kernel
theorem dX8_become_31 : decode cX8_become 31 = .ok (.iadd, 1) := by decide +kernel
theorem dX8_become_32 : decode cX8_become 32 = .ok (.iconst 1, 1) := by decide +kernel
theorem dX8_become_33 : decode cX8_become 33 = .ok (.iadd, 1) := by decide +kernel
theorem dX8_become_34 : decode cX8_become 34 = .ok (.iload_n 2, 1) := by decide +kernel
theorem dX8_become_35 : decode cX8_become 35 = .ok (.bipush 10, 2) := by decide +kernel
theorem dX8_become_37 : decode cX8_become 37 = .ok (.irem, 1) := by decide +kernel
theorem dX8_become_38 : decode cX8_become 38 = .ok (.iastore, 1) := by decide +kernel
theorem dX8_become_39 : decode cX8_become 39 = .ok (.aload_n 0, 1) := by decide +kernel
theorem dX8_become_40 : decode cX8_become 40 = .ok (.bipush 8, 2) := by decide +kernel
theorem dX8_become_42 : decode cX8_become 42 = .ok (.iconst 3, 1) := by decide +kernel
theorem dX8_become_43 : decode cX8_become 43 = .ok (.iload_n 1, 1) := by decide +kernel
theorem dX8_become_44 : decode cX8_become 44 = .ok (.imul, 1) := by decide +kernel
theorem dX8_become_45 : decode cX8_become 45 = .ok (.iadd, 1) := by decide +kernel
theorem dX8_become_46 : decode cX8_become 46 = .ok (.iload_n 2, 1) := by decide +kernel
theorem dX8_become_47 : decode cX8_become 47 = .ok (.bipush 10, 2) := by decide +kernel
theorem dX8_become_49 : decode cX8_become 49 = .ok (.idiv, 1) := by decide +kernel
theorem dX8_become_50 : decode cX8_become 50 = .ok (.invokevirtual 120, 3) := by decide +kernel
theorem dX8_become_53 : decode cX8_become 53 = .ok (.ireturn, 1) := by decide +kernel
theorem dX8_as_0 : decode cX8_as 0 = .ok (.aload_n 0, 1) := by decide +kernel
theorem dX8_as_1 : decode cX8_as 1 = .ok (.iload_n 1, 1) := by decide +kernel
theorem dX8_as_2 : decode cX8_as 2 = .ok (.invokevirtual 114, 3) := by decide +kernel
theorem dX8_as_5 : decode cX8_as 5 = .ok (.ifCond .eq 13, 3) := by decide +kernel
theorem dX8_as_8 : decode cX8_as 8 = .ok (.iload_n 2, 1) := by decide +kernel
theorem dX8_as_9 : decode cX8_as 9 = .ok (.iconst 0, 1) := by decide +kernel
theorem dX8_as_10 : decode cX8_as 10 = .ok (.bipush 6, 2) := by decide +kernel
theorem dX8_as_12 : decode cX8_as 12 = .ok (.invokestatic 59, 3) := by decide +kernel
theorem dX8_as_15 : decode cX8_as 15 = .ok (.ifCond .ne 10, 3) := by decide +kernel
theorem dX8_as_18 : decode cX8_as 18 = .ok (.aload_n 0, 1) := by decide +kernel
theorem dX8_as_19 : decode cX8_as 19 = .ok (.ldc 106, 2) := by decide +kernel
theorem dX8_as_21 : decode cX8_as 21 = .ok (.invokevirtual 107, 3) := by decide +kernel
theorem dX8_as_24 : decode cX8_as 24 = .ok (.ireturn, 1) := by decide +kernel
theorem dX8_as_25 : decode cX8_as 25 = .ok (.aload_n 0, 1) := by decide +kernel
theorem dX8_as_26 : decode cX8_as 26 = .ok (.iload_n 1, 1) := by decide +kernel
theorem dX8_as_27 : decode cX8_as 27 = .ok (.iconst 0, 1) := by decide +kernel
theorem dX8_as_28 : decode cX8_as 28 = .ok (.invokevirtual 81, 3) := by decide +kernel
theorem dX8_as_31 : decode cX8_as 31 = .ok (.istore_n 3, 1) := by decide +kernel
theorem dX8_as_32 : decode cX8_as 32 = .ok (.iload_n 2, 1) := by decide +kernel
theorem dX8_as_33 : decode cX8_as 33 = .ok (.ifCond .eq 28, 3) := by decide +kernel
theorem dX8_as_36 : decode cX8_as 36 = .ok (.iload_n 2, 1) := by decide +kernel
theorem dX8_as_37 : decode cX8_as 37 = .ok (.iload_n 3, 1) := by decide +kernel
theorem dX8_as_38 : decode cX8_as 38 = .ok (.if_icmp .eq 23, 3) := by decide +kernel
theorem dX8_as_41 : decode cX8_as 41 = .ok (.iload_n 2, 1) := by decide +kernel
theorem dX8_as_42 : decode cX8_as 42 = .ok (.iconst 1, 1) := by decide +kernel
theorem dX8_as_43 : decode cX8_as 43 = .ok (.if_icmp .ne 8, 3) := by decide +kernel
theorem dX8_as_46 : decode cX8_as 46 = .ok (.iload_n 3, 1) := by decide +kernel
theorem dX8_as_47 : decode cX8_as 47 = .ok (.iconst 4, 1) := by decide +kernel
theorem dX8_as_48 : decode cX8_as 48 = .ok (.if_icmp .eq 13, 3) := by decide +kernel
theorem dX8_as_51 : decode cX8_as 51 = .ok (.iload_n 2, 1) := by decide +kernel
theorem dX8_as_52 : decode cX8_as 52 = .ok (.iconst 2, 1) := by decide +kernel
theorem dX8_as_53 : decode cX8_as 53 = .ok (.if_icmp .ne 12, 3) := by decide +kernel
theorem dX8_as_56 : decode cX8_as 56 = .ok (.iload_n 3, 1) := by decide +kernel
theorem dX8_as_57 : decode cX8_as 57 = .ok (.iconst 5, 1) := by decide +kernel
theorem dX8_as_58 : decode cX8_as 58 = .ok (.if_icmp .ne 7, 3) := by decide +kernel
theorem dX8_as_61 : decode cX8_as 61 = .ok (.iconst 1, 1) := by decide +kernel
theorem dX8_as_62 : decode cX8_as 62 = .ok (.goto 4, 3) := by decide +kernel
theorem dX8_as_65 : decode cX8_as 65 = .ok (.iconst 0, 1) := by decide +kernel
theorem dX8_as_66 : decode cX8_as 66 = .ok (.istore 4, 2) := by decide +kernel
theorem dX8_as_68 : decode cX8_as 68 = .ok (.iload 4, 2) := by decide +kernel
theorem dX8_as_70 : decode cX8_as 70 = .ok (.ifCond .eq 12, 3) := by decide +kernel
theorem dX8_as_73 : decode cX8_as 73 = .ok (.aload_n 0, 1) := by decide +kernel
theorem dX8_as_74 : decode cX8_as 74 = .ok (.iload_n 1, 1) := by decide +kernel
theorem dX8_as_75 : decode cX8_as 75 = .ok (.iconst 1, 1) := by decide +kernel
theorem dX8_as_76 : decode cX8_as 76 = .ok (.invokevirtual 81, 3) := by decide +kernel
theorem dX8_as_79 : decode cX8_as 79 = .ok (.goto 9, 3) := by decide +kernel
theorem dX8_as_82 : decode cX8_as 82 = .ok (.aload_n 0, 1) := by decide +kernel
theorem dX8_as_83 : decode cX8_as 83 = .ok (.ldc 123, 2) := by decide +kernel
theorem dX8_as_85 : decode cX8_as 85 = .ok (.invokevirtual 107, 3) := by decide +kernel
theorem dX8_as_88 : decode cX8_as 88 = .ok (.ireturn, 1) := by decide +kernel
theorem dX8_avoids_0 : decode cX8_avoids 0 = .ok (.aload_n 0, 1) := by decide +kernel
theorem dX8_avoids_1 : decode cX8_avoids 1 = .ok (.iload_n 1, 1) := by decide +kernel
theorem dX8_avoids_2 : decode cX8_avoids 2 = .ok (.invokevirtual 114, 3) := by decide +kernel
theorem dX8_avoids_5 : decode cX8_avoids 5 = .ok (.ifCond .eq 10, 3) := by decide +kernel
theorem dX8_avoids_8 : decode cX8_avoids 8 = .ok (.iload_n 2, 1) := by decide +kernel
theorem dX8_avoids_9 : decode cX8_avoids 9 = .ok (.invokestatic 124, 3) := by decide +kernel
theorem dX8_avoids_12 : decode cX8_avoids 12 = .ok (.ifCond .ne 10, 3) := by decide +kernel
theorem dX8_avoids_15 : decode cX8_avoids 15 = .ok (.aload_n 0, 1) := by decide +kernel
theorem dX8_avoids_16 : decode cX8_avoids 16 = .ok (.ldc 106, 2) := by decide +kernel
theorem dX8_avoids_18 : decode cX8_avoids 18 = .ok (.invokevirtual 107, 3) := by decide +kernel
theorem dX8_avoids_21 : decode cX8_avoids 21 = .ok (.ireturn, 1) := by decide +kernel
theorem dX8_avoids_22 : decode cX8_avoids 22 = .ok (.aload_n 0, 1) := by decide +kernel
theorem dX8_avoids_23 : decode cX8_avoids 23 = .ok (.iload_n 1, 1) := by decide +kernel
theorem dX8_avoids_24 : decode cX8_avoids 24 = .ok (.iload_n 2, 1) := by decide +kernel
theorem dX8_avoids_25 : decode cX8_avoids 25 = .ok (.invokevirtual 111, 3) := by decide +kernel
theorem dX8_avoids_28 : decode cX8_avoids 28 = .ok (.ifCond .eq 7, 3) := by decide +kernel
theorem dX8_avoids_31 : decode cX8_avoids 31 = .ok (.iconst 1, 1) := by decide +kernel
theorem dX8_avoids_32 : decode cX8_avoids 32 = .ok (.goto 4, 3) := by decide +kernel
theorem dX8_avoids_35 : decode cX8_avoids 35 = .ok (.iconst 0, 1) := by decide +kernel
theorem dX8_avoids_36 : decode cX8_avoids 36 = .ok (.ireturn, 1) := by decide +kernel
theorem dX8_talk_0 : decode cX8_talk 0 = .ok (.aload_n 0, 1) := by decide +kernel
theorem dX8_talk_1 : decode cX8_talk 1 = .ok (.iload_n 1, 1) := by decide +kernel
theorem dX8_talk_2 : decode cX8_talk 2 = .ok (.invokevirtual 114, 3) := by decide +kernel
theorem dX8_talk_5 : decode cX8_talk 5 = .ok (.ifCond .eq 19, 3) := by decide +kernel
theorem dX8_talk_8 : decode cX8_talk 8 = .ok (.iload_n 2, 1) := by decide +kernel
theorem dX8_talk_9 : decode cX8_talk 9 = .ok (.invokestatic 124, 3) := by decide +kernel
theorem dX8_talk_12 : decode cX8_talk 12 = .ok (.ifCond .eq 12, 3) := by decide +kernel
theorem dX8_talk_15 : decode cX8_talk 15 = .ok (.aload_n 0, 1) := by decide +kernel
theorem dX8_talk_16 : decode cX8_talk 16 = .ok (.iload_n 1, 1) := by decide +kernel
theorem dX8_talk_17 : decode cX8_talk 17 = .ok (.iload_n 2, 1) := by decide +kernel
theorem dX8_talk_18 : decode cX8_talk 18 = .ok (.invokevirtual 127, 3) := by decide +kernel
theorem dX8_talk_21 : decode cX8_talk 21 = .ok (.goto 9, 3) := by decide +kernel
theorem dX8_talk_24 : decode cX8_talk 24 = .ok (.aload_n 0, 1) := by decide +kernel
theorem dX8_talk_25 : decode cX8_talk 25 = .ok (.ldc 106, 2) := by decide +kernel
theorem dX8_talk_27 : decode cX8_talk 27 = .ok (.invokevirtual 107, 3) := by decide +kernel
theorem dX8_talk_30 : decode cX8_talk 30 = .ok (.ireturn, 1) := by decide +kernel
theorem dX8_vow_0 : decode cX8_vow 0 = .ok (.iload_n 1, 1) := by decide +kernel
theorem dX8_vow_1 : decode cX8_vow 1 = .ok (.iconst 0, 1) := by decide +kernel
theorem dX8_vow_2 : decode cX8_vow 2 = .ok (.sipush 728, 3) := by decide +kernel
theorem dX8_vow_5 : decode cX8_vow 5 = .ok (.invokestatic 59, 3) := by decide +kernel
theorem dX8_vow_8 : decode cX8_vow 8 = .ok (.ifCond .eq 12, 3) := by decide +kernel
theorem dX8_vow_11 : decode cX8_vow 11 = .ok (.aload_n 0, 1) := by decide +kernel
theorem dX8_vow_12 : decode cX8_vow 12 = .ok (.iconst 5, 1) := by decide +kernel
theorem dX8_vow_13 : decode cX8_vow 13 = .ok (.iload_n 1, 1) := by decide +kernel
theorem dX8_vow_14 : decode cX8_vow 14 = .ok (.invokevirtual 120, 3) := by decide +kernel
theorem dX8_vow_17 : decode cX8_vow 17 = .ok (.goto 9, 3) := by decide +kernel
theorem dX8_vow_20 : decode cX8_vow 20 = .ok (.aload_n 0, 1) := by decide +kernel
theorem dX8_vow_21 : decode cX8_vow 21 = .ok (.ldc 106, 2) := by decide +kernel
theorem dX8_vow_23 : decode cX8_vow 23 = .ok (.invokevirtual 107, 3) := by decide +kernel
theorem dX8_vow_26 : decode cX8_vow 26 = .ok (.ireturn, 1) := by decide +kernel
theorem dX8_sign_0 : decode cX8_sign 0 = .ok (.iload_n 1, 1) := by decide +kernel
theorem dX8_sign_1 : decode cX8_sign 1 = .ok (.invokestatic 124, 3) := by decide +kernel
theorem dX8_sign_4 : decode cX8_sign 4 = .ok (.ifCond .eq 12, 3) := by decide +kernel
theorem dX8_sign_7 : decode cX8_sign 7 = .ok (.iload_n 2, 1) := by decide +kernel
theorem dX8_sign_8 : decode cX8_sign 8 = .ok (.iconst 0, 1) := by decide +kernel
theorem dX8_sign_9 : decode cX8_sign 9 = .ok (.iconst 1, 1) := by decide +kernel
theorem dX8_sign_10 : decode cX8_sign 10 = .ok (.invokestatic 59, 3) := by decide +kernel
theorem dX8_sign_13 : decode cX8_sign 13 = .ok (.ifCond .ne 10, 3) := by decide +kernel
theorem dX8_sign_16 : decode cX8_sign 16 = .ok (.aload_n 0, 1) := by decide +kernel
theorem dX8_sign_17 : decode cX8_sign 17 = .ok (.ldc 106, 2) := by decide +kernel
theorem dX8_sign_19 : decode cX8_sign 19 = .ok (.invokevirtual 107, 3) := by decide +kernel
theorem dX8_sign_22 : decode cX8_sign 22 = .ok (.ireturn, 1) := by decide +kernel
theorem dX8_sign_23 : decode cX8_sign 23 = .ok (.aload_n 0, 1) := by decide +kernel
theorem dX8_sign_24 : decode cX8_sign 24 = .ok (.getfield 9, 3) := by decide +kernel
theorem dX8_sign_27 : decode cX8_sign 27 = .ok (.iconst 3, 1) := by decide +kernel
theorem dX8_sign_28 : decode cX8_sign 28 = .ok (.iaload, 1) := by decide +kernel
theorem dX8_sign_29 : decode cX8_sign 29 = .ok (.bipush 24, 2) := by decide +kernel
theorem dX8_sign_31 : decode cX8_sign 31 = .ok (.if_icmp .ne 10, 3) := by decide +kernel
theorem dX8_sign_34 : decode cX8_sign 34 = .ok (.aload_n 0, 1) := by decide +kernel
theorem dX8_sign_35 : decode cX8_sign 35 = .ok (.ldc 110, 2) := by decide +kernel
theorem dX8_sign_37 : decode cX8_sign 37 = .ok (.invokevirtual 107, 3) := by decide +kernel
theorem dX8_sign_40 : decode cX8_sign 40 = .ok (.ireturn, 1) := by decide +kernel
theorem dX8_sign_41 : decode cX8_sign 41 = .ok (.aload_n 0, 1) := by decide +kernel
theorem dX8_sign_42 : decode cX8_sign 42 = .ok (.iload_n 1, 1) := by decide +kernel
theorem dX8_sign_43 : decode cX8_sign 43 = .ok (.iload_n 2, 1) := by decide +kernel
theorem dX8_sign_44 : decode cX8_sign 44 = .ok (.invokevirtual 130, 3) := by decide +kernel
theorem dX8_sign_47 : decode cX8_sign 47 = .ok (.aload_n 0, 1) := by decide +kernel
theorem dX8_sign_48 : decode cX8_sign 48 = .ok (.invokevirtual 134, 3) := by decide +kernel
theorem dX8_sign_51 : decode cX8_sign 51 = .ok (.ireturn, 1) := by decide +kernel
theorem dX8_forget_0 : decode cX8_forget 0 = .ok (.iload_n 1, 1) := by decide +kernel
theorem dX8_forget_1 : decode cX8_forget 1 = .ok (.iconst 0, 1) := by decide +kernel
theorem dX8_forget_2 : decode cX8_forget 2 = .ok (.aload_n 0, 1) := by decide +kernel
theorem dX8_forget_3 : decode cX8_forget 3 = .ok (.getfield 9, 3) := by decide +kernel
theorem dX8_forget_6 : decode cX8_forget 6 = .ok (.iconst 3, 1) := by decide +kernel
theorem dX8_forget_7 : decode cX8_forget 7 = .ok (.iaload, 1) := by decide +kernel
theorem dX8_forget_8 : decode cX8_forget 8 = .ok (.invokestatic 59, 3) := by decide +kernel
theorem dX8_forget_11 : decode cX8_forget 11 = .ok (.ifCond .ne 10, 3) := by decide +kernel
theorem dX8_forget_14 : decode cX8_forget 14 = .ok (.aload_n 0, 1) := by decide +kernel
theorem dX8_forget_15 : decode cX8_forget 15 = .ok (.ldc 106, 2) := by decide +kernel
theorem dX8_forget_17 : decode cX8_forget 17 = .ok (.invokevirtual 107, 3) := by decide +kernel
theorem dX8_forget_20 : decode cX8_forget 20 = .ok (.ireturn, 1) := by decide +kernel
theorem dX8_forget_21 : decode cX8_forget 21 = .ok (.aload_n 0, 1) := by decide +kernel
theorem dX8_forget_22 : decode cX8_forget 22 = .ok (.getfield 9, 3) := by decide +kernel
theorem dX8_forget_25 : decode cX8_forget 25 = .ok (.iconst 3, 1) := by decide +kernel
theorem dX8_forget_26 : decode cX8_forget 26 = .ok (.dup2, 1) := by decide +kernel
theorem dX8_forget_27 : decode cX8_forget 27 = .ok (.iaload, 1) := by decide +kernel
theorem dX8_forget_28 : decode cX8_forget 28 = .ok (.iload_n 1, 1) := by decide +kernel
theorem dX8_forget_29 : decode cX8_forget 29 = .ok (.isub, 1) := by decide +kernel
theorem dX8_forget_30 : decode cX8_forget 30 = .ok (.iastore, 1) := by decide +kernel
theorem dX8_forget_31 : decode cX8_forget 31 = .ok (.aload_n 0, 1) := by decide +kernel
theorem dX8_forget_32 : decode cX8_forget 32 = .ok (.iconst 0, 1) := by decide +kernel
theorem dX8_forget_33 : decode cX8_forget 33 = .ok (.putfield 66, 3) := by decide +kernel
theorem dX8_forget_36 : decode cX8_forget 36 = .ok (.aload_n 0, 1) := by decide +kernel
theorem dX8_forget_37 : decode cX8_forget 37 = .ok (.invokevirtual 134, 3) := by decide +kernel
theorem dX8_forget_40 : decode cX8_forget 40 = .ok (.ireturn, 1) := by decide +kernel
theorem dX8_says_0 : decode cX8_says 0 = .ok (.aload_n 0, 1) := by decide +kernel
theorem dX8_says_1 : decode cX8_says 1 = .ok (.aload_n 0, 1) := by decide +kernel
theorem dX8_says_2 : decode cX8_says 2 = .ok (.getfield 9, 3) := by decide +kernel
theorem dX8_says_5 : decode cX8_says 5 = .ok (.iconst 5, 1) := by decide +kernel
theorem dX8_says_6 : decode cX8_says 6 = .ok (.iaload, 1) := by decide +kernel
theorem dX8_says_7 : decode cX8_says 7 = .ok (.iload_n 2, 1) := by decide +kernel
theorem dX8_says_8 : decode cX8_says 8 = .ok (.invokevirtual 63, 3) := by decide +kernel
theorem dX8_says_11 : decode cX8_says 11 = .ok (.iload_n 3, 1) := by decide +kernel
theorem dX8_says_12 : decode cX8_says 12 = .ok (.if_icmp .eq 7, 3) := by decide +kernel
theorem dX8_says_15 : decode cX8_says 15 = .ok (.iconst 1, 1) := by decide +kernel
theorem dX8_says_16 : decode cX8_says 16 = .ok (.goto 4, 3) := by decide +kernel
theorem dX8_says_19 : decode cX8_says 19 = .ok (.iconst 0, 1) := by decide +kernel
theorem dX8_says_20 : decode cX8_says 20 = .ok (.istore 4, 2) := by decide +kernel
theorem dX8_says_22 : decode cX8_says 22 = .ok (.bipush 8, 2) := by decide +kernel
theorem dX8_says_24 : decode cX8_says 24 = .ok (.iconst 3, 1) := by decide +kernel
theorem dX8_says_25 : decode cX8_says 25 = .ok (.iload_n 1, 1) := by decide +kernel
theorem dX8_says_26 : decode cX8_says 26 = .ok (.imul, 1) := by decide +kernel
theorem dX8_says_27 : decode cX8_says 27 = .ok (.iadd, 1) := by decide +kernel
theorem dX8_says_28 : decode cX8_says 28 = .ok (.iconst 2, 1) := by decide +kernel
theorem dX8_says_29 : decode cX8_says 29 = .ok (.iadd, 1) := by decide +kernel
theorem dX8_says_30 : decode cX8_says 30 = .ok (.istore 5, 2) := by decide +kernel
theorem dX8_says_32 : decode cX8_says 32 = .ok (.aload_n 0, 1) := by decide +kernel
theorem dX8_says_33 : decode cX8_says 33 = .ok (.getfield 9, 3) := by decide +kernel
theorem dX8_says_36 : decode cX8_says 36 = .ok (.iconst 4, 1) := by decide +kernel
theorem dX8_says_37 : decode cX8_says 37 = .ok (.aload_n 0, 1) := by decide +kernel
theorem dX8_says_38 : decode cX8_says 38 = .ok (.getfield 9, 3) := by decide +kernel
theorem dX8_says_41 : decode cX8_says 41 = .ok (.iconst 4, 1) := by decide +kernel
theorem dX8_says_42 : decode cX8_says 42 = .ok (.iaload, 1) := by decide +kernel
theorem dX8_says_43 : decode cX8_says 43 = .ok (.aload_n 0, 1) := by decide +kernel
theorem dX8_says_44 : decode cX8_says 44 = .ok (.iload_n 1, 1) := by decide +kernel
theorem dX8_says_45 : decode cX8_says 45 = .ok (.iload_n 2, 1) := by decide +kernel
theorem dX8_says_46 : decode cX8_says 46 = .ok (.invokevirtual 127, 3) := by decide +kernel
theorem dX8_says_49 : decode cX8_says 49 = .ok (.iadd, 1) := by decide +kernel
theorem dX8_says_50 : decode cX8_says 50 = .ok (.iconst 0, 1) := by decide +kernel
theorem dX8_says_51 : decode cX8_says 51 = .ok (.ldc 138, 2) := by decide +kernel
theorem dX8_says_53 : decode cX8_says 53 = .ok (.invokestatic 139, 3) := by decide +kernel
theorem dX8_says_56 : decode cX8_says 56 = .ok (.iastore, 1) := by decide +kernel
theorem dX8_says_57 : decode cX8_says 57 = .ok (.aload_n 0, 1) := by decide +kernel
theorem dX8_says_58 : decode cX8_says 58 = .ok (.getfield 9, 3) := by decide +kernel
theorem dX8_says_61 : decode cX8_says 61 = .ok (.iload 5, 2) := by decide +kernel
theorem dX8_says_63 : decode cX8_says 63 = .ok (.aload_n 0, 1) := by decide +kernel
theorem dX8_says_64 : decode cX8_says 64 = .ok (.getfield 9, 3) := by decide +kernel
theorem dX8_says_67 : decode cX8_says 67 = .ok (.iload 5, 2) := by decide +kernel
theorem dX8_says_69 : decode cX8_says 69 = .ok (.iaload, 1) := by decide +kernel
theorem dX8_says_70 : decode cX8_says 70 = .ok (.iconst 1, 1) := by decide +kernel
theorem dX8_says_71 : decode cX8_says 71 = .ok (.iadd, 1) := by decide +kernel
theorem dX8_says_72 : decode cX8_says 72 = .ok (.iconst 0, 1) := by decide +kernel
theorem dX8_says_73 : decode cX8_says 73 = .ok (.ldc 138, 2) := by decide +kernel
theorem dX8_says_75 : decode cX8_says 75 = .ok (.invokestatic 139, 3) := by decide +kernel
theorem dX8_says_78 : decode cX8_says 78 = .ok (.iastore, 1) := by decide +kernel
theorem dX8_says_79 : decode cX8_says 79 = .ok (.aload_n 0, 1) := by decide +kernel
theorem dX8_says_80 : decode cX8_says 80 = .ok (.getfield 9, 3) := by decide +kernel
theorem dX8_says_83 : decode cX8_says 83 = .ok (.iconst 3, 1) := by decide +kernel
theorem dX8_says_84 : decode cX8_says 84 = .ok (.iaload, 1) := by decide +kernel
theorem dX8_says_85 : decode cX8_says 85 = .ok (.bipush 24, 2) := by decide +kernel
theorem dX8_says_87 : decode cX8_says 87 = .ok (.if_icmp .ge 10, 3) := by decide +kernel
theorem dX8_says_90 : decode cX8_says 90 = .ok (.aload_n 0, 1) := by decide +kernel
theorem dX8_says_91 : decode cX8_says 91 = .ok (.iload_n 2, 1) := by decide +kernel
theorem dX8_says_92 : decode cX8_says 92 = .ok (.iload 4, 2) := by decide +kernel
theorem dX8_says_94 : decode cX8_says 94 = .ok (.invokevirtual 130, 3) := by decide +kernel
theorem dX8_says_97 : decode cX8_says 97 = .ok (.iload 4, 2) := by decide +kernel
theorem dX8_says_99 : decode cX8_says 99 = .ok (.ireturn, 1) := by decide +kernel
theorem dX8_say_0 : decode cX8_say 0 = .ok (.aload_n 0, 1) := by decide +kernel
theorem dX8_say_1 : decode cX8_say 1 = .ok (.iload_n 1, 1) := by decide +kernel
theorem dX8_say_2 : decode cX8_say 2 = .ok (.invokevirtual 114, 3) := by decide +kernel
theorem dX8_say_5 : decode cX8_say 5 = .ok (.ifCond .eq 10, 3) := by decide +kernel
theorem dX8_say_8 : decode cX8_say 8 = .ok (.iload_n 2, 1) := by decide +kernel
theorem dX8_say_9 : decode cX8_say 9 = .ok (.invokestatic 124, 3) := by decide +kernel
theorem dX8_say_12 : decode cX8_say 12 = .ok (.ifCond .ne 10, 3) := by decide +kernel
theorem dX8_say_15 : decode cX8_say 15 = .ok (.aload_n 0, 1) := by decide +kernel
theorem dX8_say_16 : decode cX8_say 16 = .ok (.ldc 106, 2) := by decide +kernel
theorem dX8_say_18 : decode cX8_say 18 = .ok (.invokevirtual 107, 3) := by decide +kernel
theorem dX8_say_21 : decode cX8_say 21 = .ok (.ireturn, 1) := by decide +kernel
theorem dX8_say_22 : decode cX8_say 22 = .ok (.aload_n 0, 1) := by decide +kernel
theorem dX8_say_23 : decode cX8_say 23 = .ok (.iload_n 1, 1) := by decide +kernel
theorem dX8_say_24 : decode cX8_say 24 = .ok (.iload_n 2, 1) := by decide +kernel
theorem dX8_say_25 : decode cX8_say 25 = .ok (.invokevirtual 111, 3) := by decide +kernel
theorem dX8_say_28 : decode cX8_say 28 = .ok (.ifCond .eq 12, 3) := by decide +kernel
theorem dX8_say_31 : decode cX8_say 31 = .ok (.aload_n 0, 1) := by decide +kernel
theorem dX8_say_32 : decode cX8_say 32 = .ok (.ldc 143, 2) := by decide +kernel
theorem dX8_say_34 : decode cX8_say 34 = .ok (.invokevirtual 107, 3) := by decide +kernel
theorem dX8_say_37 : decode cX8_say 37 = .ok (.goto 10, 3) := by decide +kernel
theorem dX8_say_40 : decode cX8_say 40 = .ok (.aload_n 0, 1) := by decide +kernel
theorem dX8_say_41 : decode cX8_say 41 = .ok (.iload_n 1, 1) := by decide +kernel
theorem dX8_say_42 : decode cX8_say 42 = .ok (.iload_n 2, 1) := by decide +kernel
theorem dX8_say_43 : decode cX8_say 43 = .ok (.iconst 0, 1) := by decide +kernel
theorem dX8_say_44 : decode cX8_say 44 = .ok (.invokevirtual 144, 3) := by decide +kernel
theorem dX8_say_47 : decode cX8_say 47 = .ok (.ireturn, 1) := by decide +kernel
theorem dX8_feed_0 : decode cX8_feed 0 = .ok (.iload_n 3, 1) := by decide +kernel
theorem dX8_feed_1 : decode cX8_feed 1 = .ok (.iconst 1, 1) := by decide +kernel
theorem dX8_feed_2 : decode cX8_feed 2 = .ok (.bipush 8, 2) := by decide +kernel
theorem dX8_feed_4 : decode cX8_feed 4 = .ok (.invokestatic 59, 3) := by decide +kernel
theorem dX8_feed_7 : decode cX8_feed 7 = .ok (.ifCond .ne 10, 3) := by decide +kernel
theorem dX8_feed_10 : decode cX8_feed 10 = .ok (.aload_n 0, 1) := by decide +kernel
theorem dX8_feed_11 : decode cX8_feed 11 = .ok (.ldc 106, 2) := by decide +kernel
theorem dX8_feed_13 : decode cX8_feed 13 = .ok (.invokevirtual 107, 3) := by decide +kernel
theorem dX8_feed_16 : decode cX8_feed 16 = .ok (.ireturn, 1) := by decide +kernel
theorem dX8_feed_17 : decode cX8_feed 17 = .ok (.aload_n 0, 1) := by decide +kernel
theorem dX8_feed_18 : decode cX8_feed 18 = .ok (.getfield 9, 3) := by decide +kernel
theorem dX8_feed_21 : decode cX8_feed 21 = .ok (.bipush 6, 2) := by decide +kernel
theorem dX8_feed_23 : decode cX8_feed 23 = .ok (.iaload, 1) := by decide +kernel
theorem dX8_feed_24 : decode cX8_feed 24 = .ok (.iload_n 3, 1) := by decide +kernel
theorem dX8_feed_25 : decode cX8_feed 25 = .ok (.iadd, 1) := by decide +kernel
theorem dX8_feed_26 : decode cX8_feed 26 = .ok (.bipush 60, 2) := by decide +kernel
theorem dX8_feed_28 : decode cX8_feed 28 = .ok (.if_icmp .le 10, 3) := by decide +kernel
theorem dX8_feed_31 : decode cX8_feed 31 = .ok (.aload_n 0, 1) := by decide +kernel
theorem dX8_feed_32 : decode cX8_feed 32 = .ok (.ldc 110, 2) := by decide +kernel
theorem dX8_feed_34 : decode cX8_feed 34 = .ok (.invokevirtual 107, 3) := by decide +kernel
theorem dX8_feed_37 : decode cX8_feed 37 = .ok (.ireturn, 1) := by decide +kernel
theorem dX8_feed_38 : decode cX8_feed 38 = .ok (.iconst 0, 1) := by decide +kernel
theorem dX8_feed_39 : decode cX8_feed 39 = .ok (.istore 4, 2) := by decide +kernel
theorem dX8_feed_41 : decode cX8_feed 41 = .ok (.iload 4, 2) := by decide +kernel
theorem dX8_feed_43 : decode cX8_feed 43 = .ok (.iload_n 3, 1) := by decide +kernel
theorem dX8_feed_44 : decode cX8_feed 44 = .ok (.if_icmp .ge 47, 3) := by decide +kernel
theorem dX8_feed_47 : decode cX8_feed 47 = .ok (.aload_n 0, 1) := by decide +kernel
theorem dX8_feed_48 : decode cX8_feed 48 = .ok (.getfield 9, 3) := by decide +kernel
theorem dX8_feed_51 : decode cX8_feed 51 = .ok (.bipush 74, 2) := by decide +kernel
theorem dX8_feed_53 : decode cX8_feed 53 = .ok (.aload_n 0, 1) := by decide +kernel
theorem dX8_feed_54 : decode cX8_feed 54 = .ok (.getfield 9, 3) := by decide +kernel
theorem dX8_feed_57 : decode cX8_feed 57 = .ok (.bipush 6, 2) := by decide +kernel
theorem dX8_feed_59 : decode cX8_feed 59 = .ok (.iaload, 1) := by decide +kernel
theorem dX8_feed_60 : decode cX8_feed 60 = .ok (.iadd, 1) := by decide +kernel
theorem dX8_feed_61 : decode cX8_feed 61 = .ok (.lload_n 1, 1) := by decide +kernel
theorem dX8_feed_62 : decode cX8_feed 62 = .ok (.bipush 8, 2) := by decide +kernel
theorem dX8_feed_64 : decode cX8_feed 64 = .ok (.iload 4, 2) := by decide +kernel
theorem dX8_feed_66 : decode cX8_feed 66 = .ok (.imul, 1) := by decide +kernel
theorem dX8_feed_67 : decode cX8_feed 67 = .ok (.lshr, 1) := by decide +kernel
theorem dX8_feed_68 : decode cX8_feed 68 = .ok (.ldc2_w 148, 3) := by decide +kernel
theorem dX8_feed_71 : decode cX8_feed 71 = .ok (.land, 1) := by decide +kernel
theorem dX8_feed_72 : decode cX8_feed 72 = .ok (.l2i, 1) := by decide +kernel
theorem dX8_feed_73 : decode cX8_feed 73 = .ok (.iastore, 1) := by decide +kernel
theorem dX8_feed_74 : decode cX8_feed 74 = .ok (.aload_n 0, 1) := by decide +kernel
theorem dX8_feed_75 : decode cX8_feed 75 = .ok (.getfield 9, 3) := by decide +kernel
theorem dX8_feed_78 : decode cX8_feed 78 = .ok (.bipush 6, 2) := by decide +kernel
theorem dX8_feed_80 : decode cX8_feed 80 = .ok (.dup2, 1) := by decide +kernel
theorem dX8_feed_81 : decode cX8_feed 81 = .ok (.iaload, 1) := by decide +kernel
theorem dX8_feed_82 : decode cX8_feed 82 = .ok (.iconst 1, 1) := by decide +kernel
theorem dX8_feed_83 : decode cX8_feed 83 = .ok (.iadd, 1) := by decide +kernel
theorem dX8_feed_84 : decode cX8_feed 84 = .ok (.iastore, 1) := by decide +kernel
theorem dX8_feed_85 : decode cX8_feed 85 = .ok (.iinc 4 1, 3) := by decide +kernel
theorem dX8_feed_88 : decode cX8_feed 88 = .ok (.goto (-47), 3) := by decide +kernel
theorem dX8_feed_91 : decode cX8_feed 91 = .ok (.aload_n 0, 1) := by decide +kernel
theorem dX8_feed_92 : decode cX8_feed 92 = .ok (.getfield 9, 3) := by decide +kernel
theorem dX8_feed_95 : decode cX8_feed 95 = .ok (.bipush 6, 2) := by decide +kernel
theorem dX8_feed_97 : decode cX8_feed 97 = .ok (.iaload, 1) := by decide +kernel
theorem dX8_feed_98 : decode cX8_feed 98 = .ok (.ireturn, 1) := by decide +kernel
theorem dX8_look_0 : decode cX8_look 0 = .ok (.aload_n 0, 1) := by decide +kernel
theorem dX8_look_1 : decode cX8_look 1 = .ok (.getfield 150, 3) := by decide +kernel
theorem dX8_look_4 : decode cX8_look 4 = .ok (.aload_n 0, 1) := by decide +kernel
theorem dX8_look_5 : decode cX8_look 5 = .ok (.getfield 9, 3) := by decide +kernel
theorem dX8_look_8 : decode cX8_look 8 = .ok (.bipush 6, 2) := by decide +kernel
theorem dX8_look_10 : decode cX8_look 10 = .ok (.iaload, 1) := by decide +kernel
theorem dX8_look_11 : decode cX8_look 11 = .ok (.if_icmp .ge 18, 3) := by decide +kernel
theorem dX8_look_14 : decode cX8_look 14 = .ok (.aload_n 0, 1) := by decide +kernel
theorem dX8_look_15 : decode cX8_look 15 = .ok (.getfield 9, 3) := by decide +kernel
theorem dX8_look_18 : decode cX8_look 18 = .ok (.bipush 74, 2) := by decide +kernel
theorem dX8_look_20 : decode cX8_look 20 = .ok (.aload_n 0, 1) := by decide +kernel
theorem dX8_look_21 : decode cX8_look 21 = .ok (.getfield 150, 3) := by decide +kernel
theorem dX8_look_24 : decode cX8_look 24 = .ok (.iadd, 1) := by decide +kernel
theorem dX8_look_25 : decode cX8_look 25 = .ok (.iaload, 1) := by decide +kernel
theorem dX8_look_26 : decode cX8_look 26 = .ok (.goto 4, 3) := by decide +kernel
theorem dX8_look_29 : decode cX8_look 29 = .ok (.iconst (-1), 1) := by decide +kernel
theorem dX8_look_30 : decode cX8_look 30 = .ok (.ireturn, 1) := by decide +kernel
theorem dX8_lays_0 : decode cX8_lays 0 = .ok (.aload_n 0, 1) := by decide +kernel
theorem dX8_lays_1 : decode cX8_lays 1 = .ok (.getfield 153, 3) := by decide +kernel
theorem dX8_lays_4 : decode cX8_lays 4 = .ok (.aload_n 0, 1) := by decide +kernel
theorem dX8_lays_5 : decode cX8_lays 5 = .ok (.getfield 39, 3) := by decide +kernel
theorem dX8_lays_8 : decode cX8_lays 8 = .ok (.arraylength, 1) := by decide +kernel
theorem dX8_lays_9 : decode cX8_lays 9 = .ok (.if_icmp .ge 33, 3) := by decide +kernel
theorem dX8_lays_12 : decode cX8_lays 12 = .ok (.aload_n 0, 1) := by decide +kernel
theorem dX8_lays_13 : decode cX8_lays 13 = .ok (.getfield 39, 3) := by decide +kernel
theorem dX8_lays_16 : decode cX8_lays 16 = .ok (.aload_n 0, 1) := by decide +kernel
theorem dX8_lays_17 : decode cX8_lays 17 = .ok (.getfield 153, 3) := by decide +kernel
theorem dX8_lays_20 : decode cX8_lays 20 = .ok (.iload_n 1, 1) := by decide +kernel
theorem dX8_lays_21 : decode cX8_lays 21 = .ok (.iastore, 1) := by decide +kernel
theorem dX8_lays_22 : decode cX8_lays 22 = .ok (.aload_n 0, 1) := by decide +kernel
theorem dX8_lays_23 : decode cX8_lays 23 = .ok (.getfield 42, 3) := by decide +kernel
theorem dX8_lays_26 : decode cX8_lays 26 = .ok (.aload_n 0, 1) := by decide +kernel
theorem dX8_lays_27 : decode cX8_lays 27 = .ok (.getfield 153, 3) := by decide +kernel
theorem dX8_lays_30 : decode cX8_lays 30 = .ok (.iload_n 2, 1) := by decide +kernel
theorem dX8_lays_31 : decode cX8_lays 31 = .ok (.iastore, 1) := by decide +kernel
theorem dX8_lays_32 : decode cX8_lays 32 = .ok (.aload_n 0, 1) := by decide +kernel
theorem dX8_lays_33 : decode cX8_lays 33 = .ok (.dup, 1) := by decide +kernel
theorem dX8_lays_34 : decode cX8_lays 34 = .ok (.getfield 153, 3) := by decide +kernel
theorem dX8_lays_37 : decode cX8_lays 37 = .ok (.iconst 1, 1) := by decide +kernel
theorem dX8_lays_38 : decode cX8_lays 38 = .ok (.iadd, 1) := by decide +kernel
theorem dX8_lays_39 : decode cX8_lays 39 = .ok (.putfield 153, 3) := by decide +kernel
theorem dX8_lays_42 : decode cX8_lays 42 = .ok (.return_, 1) := by decide +kernel
theorem dX8_nameOf_0 : decode cX8_nameOf 0 = .ok (.iload_n 1, 1) := by decide +kernel
theorem dX8_nameOf_1 : decode cX8_nameOf 1 = .ok (.tableswitch 162 97 116 #[95, 95, 162, 128, 162, 95, 162, 162, 162, 162, 162, 162, 162, 162, 162, 162, 162, 162, 128, 128], 95) := by decide +kernel
theorem dX8_nameOf_96 : decode cX8_nameOf 96 = .ok (.aload_n 0, 1) := by decide +kernel
theorem dX8_nameOf_97 : decode cX8_nameOf 97 = .ok (.getfield 156, 3) := by decide +kernel
theorem dX8_nameOf_100 : decode cX8_nameOf 100 = .ok (.ifCond .eq 7, 3) := by decide +kernel
theorem dX8_nameOf_103 : decode cX8_nameOf 103 = .ok (.iconst (-1), 1) := by decide +kernel
theorem dX8_nameOf_104 : decode cX8_nameOf 104 = .ok (.goto 24, 3) := by decide +kernel
theorem dX8_nameOf_107 : decode cX8_nameOf 107 = .ok (.iload_n 1, 1) := by decide +kernel
theorem dX8_nameOf_108 : decode cX8_nameOf 108 = .ok (.bipush 97, 2) := by decide +kernel
theorem dX8_nameOf_110 : decode cX8_nameOf 110 = .ok (.if_icmp .ne 7, 3) := by decide +kernel
theorem dX8_nameOf_113 : decode cX8_nameOf 113 = .ok (.iconst 0, 1) := by decide +kernel
theorem dX8_nameOf_114 : decode cX8_nameOf 114 = .ok (.goto 14, 3) := by decide +kernel
theorem dX8_nameOf_117 : decode cX8_nameOf 117 = .ok (.iload_n 1, 1) := by decide +kernel
theorem dX8_nameOf_118 : decode cX8_nameOf 118 = .ok (.bipush 98, 2) := by decide +kernel
theorem dX8_nameOf_120 : decode cX8_nameOf 120 = .ok (.if_icmp .ne 7, 3) := by decide +kernel
theorem dX8_nameOf_123 : decode cX8_nameOf 123 = .ok (.iconst 1, 1) := by decide +kernel
theorem dX8_nameOf_124 : decode cX8_nameOf 124 = .ok (.goto 4, 3) := by decide +kernel
theorem dX8_nameOf_127 : decode cX8_nameOf 127 = .ok (.iconst 2, 1) := by decide +kernel
theorem dX8_nameOf_128 : decode cX8_nameOf 128 = .ok (.ireturn, 1) := by decide +kernel
theorem dX8_nameOf_129 : decode cX8_nameOf 129 = .ok (.aload_n 0, 1) := by decide +kernel
theorem dX8_nameOf_130 : decode cX8_nameOf 130 = .ok (.getfield 156, 3) := by decide +kernel
theorem dX8_nameOf_133 : decode cX8_nameOf 133 = .ok (.iconst 1, 1) := by decide +kernel
theorem dX8_nameOf_134 : decode cX8_nameOf 134 = .ok (.if_icmp .eq 7, 3) := by decide +kernel
theorem dX8_nameOf_137 : decode cX8_nameOf 137 = .ok (.iconst (-1), 1) := by decide +kernel
theorem dX8_nameOf_138 : decode cX8_nameOf 138 = .ok (.goto 24, 3) := by decide +kernel
theorem dX8_nameOf_141 : decode cX8_nameOf 141 = .ok (.iload_n 1, 1) := by decide +kernel
theorem dX8_nameOf_142 : decode cX8_nameOf 142 = .ok (.bipush 116, 2) := by decide +kernel
theorem dX8_nameOf_144 : decode cX8_nameOf 144 = .ok (.if_icmp .ne 7, 3) := by decide +kernel
theorem dX8_nameOf_147 : decode cX8_nameOf 147 = .ok (.iconst 0, 1) := by decide +kernel
theorem dX8_nameOf_148 : decode cX8_nameOf 148 = .ok (.goto 14, 3) := by decide +kernel
theorem dX8_nameOf_151 : decode cX8_nameOf 151 = .ok (.iload_n 1, 1) := by decide +kernel
theorem dX8_nameOf_152 : decode cX8_nameOf 152 = .ok (.bipush 115, 2) := by decide +kernel
theorem dX8_nameOf_154 : decode cX8_nameOf 154 = .ok (.if_icmp .ne 7, 3) := by decide +kernel
theorem dX8_nameOf_157 : decode cX8_nameOf 157 = .ok (.iconst 1, 1) := by decide +kernel
theorem dX8_nameOf_158 : decode cX8_nameOf 158 = .ok (.goto 4, 3) := by decide +kernel
theorem dX8_nameOf_161 : decode cX8_nameOf 161 = .ok (.iconst 2, 1) := by decide +kernel
theorem dX8_nameOf_162 : decode cX8_nameOf 162 = .ok (.ireturn, 1) := by decide +kernel
theorem dX8_nameOf_163 : decode cX8_nameOf 163 = .ok (.iconst (-1), 1) := by decide +kernel
theorem dX8_nameOf_164 : decode cX8_nameOf 164 = .ok (.ireturn, 1) := by decide +kernel
theorem dX8_number_0 : decode cX8_number 0 = .ok (.iconst 0, 1) := by decide +kernel
theorem dX8_number_1 : decode cX8_number 1 = .ok (.istore_n 1, 1) := by decide +kernel
theorem dX8_number_2 : decode cX8_number 2 = .ok (.iconst 0, 1) := by decide +kernel
theorem dX8_number_3 : decode cX8_number 3 = .ok (.istore_n 2, 1) := by decide +kernel
theorem dX8_number_4 : decode cX8_number 4 = .ok (.iload_n 2, 1) := by decide +kernel
theorem dX8_number_5 : decode cX8_number 5 = .ok (.iconst 4, 1) := by decide +kernel
theorem dX8_number_6 : decode cX8_number 6 = .ok (.if_icmp .ge 46, 3) := by decide +kernel
theorem dX8_number_9 : decode cX8_number 9 = .ok (.aload_n 0, 1) := by decide +kernel
theorem dX8_number_10 : decode cX8_number 10 = .ok (.invokevirtual 159, 3) := by decide +kernel
theorem dX8_number_13 : decode cX8_number 13 = .ok (.bipush 48, 2) := by decide +kernel
theorem dX8_number_15 : decode cX8_number 15 = .ok (.bipush 57, 2) := by decide +kernel
theorem dX8_number_17 : decode cX8_number 17 = .ok (.invokestatic 59, 3) := by decide +kernel
theorem dX8_number_20 : decode cX8_number 20 = .ok (.ifCond .eq 32, 3) := by decide +kernel
theorem dX8_number_23 : decode cX8_number 23 = .ok (.bipush 10, 2) := by decide +kernel
theorem dX8_number_25 : decode cX8_number 25 = .ok (.iload_n 1, 1) := by decide +kernel
theorem dX8_number_26 : decode cX8_number 26 = .ok (.imul, 1) := by decide +kernel
theorem dX8_number_27 : decode cX8_number 27 = .ok (.aload_n 0, 1) := by decide +kernel
theorem dX8_number_28 : decode cX8_number 28 = .ok (.invokevirtual 159, 3) := by decide +kernel
theorem dX8_number_31 : decode cX8_number 31 = .ok (.iadd, 1) := by decide +kernel
theorem dX8_number_32 : decode cX8_number 32 = .ok (.bipush 48, 2) := by decide +kernel
theorem dX8_number_34 : decode cX8_number 34 = .ok (.isub, 1) := by decide +kernel
theorem dX8_number_35 : decode cX8_number 35 = .ok (.istore_n 1, 1) := by decide +kernel
theorem dX8_number_36 : decode cX8_number 36 = .ok (.aload_n 0, 1) := by decide +kernel
theorem dX8_number_37 : decode cX8_number 37 = .ok (.dup, 1) := by decide +kernel
theorem dX8_number_38 : decode cX8_number 38 = .ok (.getfield 150, 3) := by decide +kernel
theorem dX8_number_41 : decode cX8_number 41 = .ok (.iconst 1, 1) := by decide +kernel
theorem dX8_number_42 : decode cX8_number 42 = .ok (.iadd, 1) := by decide +kernel
theorem dX8_number_43 : decode cX8_number 43 = .ok (.putfield 150, 3) := by decide +kernel
theorem dX8_number_46 : decode cX8_number 46 = .ok (.iinc 2 1, 3) := by decide +kernel
theorem dX8_number_49 : decode cX8_number 49 = .ok (.goto (-45), 3) := by decide +kernel
theorem dX8_number_52 : decode cX8_number 52 = .ok (.aload_n 0, 1) := by decide +kernel
theorem dX8_number_53 : decode cX8_number 53 = .ok (.iload_n 2, 1) := by decide +kernel
theorem dX8_number_54 : decode cX8_number 54 = .ok (.ifCond .ne 7, 3) := by decide +kernel
theorem dX8_number_57 : decode cX8_number 57 = .ok (.iconst 1, 1) := by decide +kernel
theorem dX8_number_58 : decode cX8_number 58 = .ok (.goto 4, 3) := by decide +kernel
theorem dX8_number_61 : decode cX8_number 61 = .ok (.iconst 0, 1) := by decide +kernel
theorem dX8_number_62 : decode cX8_number 62 = .ok (.putfield 162, 3) := by decide +kernel
theorem dX8_number_65 : decode cX8_number 65 = .ok (.aload_n 0, 1) := by decide +kernel
theorem dX8_number_66 : decode cX8_number 66 = .ok (.iconst 1, 1) := by decide +kernel
theorem dX8_number_67 : decode cX8_number 67 = .ok (.iload_n 1, 1) := by decide +kernel
theorem dX8_number_68 : decode cX8_number 68 = .ok (.invokevirtual 165, 3) := by decide +kernel
theorem dX8_number_71 : decode cX8_number 71 = .ok (.return_, 1) := by decide +kernel
theorem dX8_opens_0 : decode cX8_opens 0 = .ok (.aload_n 0, 1) := by decide +kernel
theorem dX8_opens_1 : decode cX8_opens 1 = .ok (.getfield 168, 3) := by decide +kernel
theorem dX8_opens_4 : decode cX8_opens 4 = .ok (.iconst 5, 1) := by decide +kernel
theorem dX8_opens_5 : decode cX8_opens 5 = .ok (.if_icmp .ne 9, 3) := by decide +kernel
theorem dX8_opens_8 : decode cX8_opens 8 = .ok (.aload_n 0, 1) := by decide +kernel
theorem dX8_opens_9 : decode cX8_opens 9 = .ok (.iconst 1, 1) := by decide +kernel
theorem dX8_opens_10 : decode cX8_opens 10 = .ok (.putfield 162, 3) := by decide +kernel
theorem dX8_opens_13 : decode cX8_opens 13 = .ok (.return_, 1) := by decide +kernel
theorem dX8_opens_14 : decode cX8_opens 14 = .ok (.aload_n 0, 1) := by decide +kernel
theorem dX8_opens_15 : decode cX8_opens 15 = .ok (.dup, 1) := by decide +kernel
theorem dX8_opens_16 : decode cX8_opens 16 = .ok (.getfield 168, 3) := by decide +kernel
theorem dX8_opens_19 : decode cX8_opens 19 = .ok (.iconst 1, 1) := by decide +kernel
theorem dX8_opens_20 : decode cX8_opens 20 = .ok (.iadd, 1) := by decide +kernel
theorem dX8_opens_21 : decode cX8_opens 21 = .ok (.putfield 168, 3) := by decide +kernel
theorem dX8_opens_24 : decode cX8_opens 24 = .ok (.aload_n 0, 1) := by decide +kernel
theorem dX8_opens_25 : decode cX8_opens 25 = .ok (.dup, 1) := by decide +kernel
theorem dX8_opens_26 : decode cX8_opens 26 = .ok (.getfield 150, 3) := by decide +kernel
theorem dX8_opens_29 : decode cX8_opens 29 = .ok (.iconst 1, 1) := by decide +kernel
theorem dX8_opens_30 : decode cX8_opens 30 = .ok (.iadd, 1) := by decide +kernel
theorem dX8_opens_31 : decode cX8_opens 31 = .ok (.putfield 150, 3) := by decide +kernel
theorem dX8_opens_34 : decode cX8_opens 34 = .ok (.iload_n 1, 1) := by decide +kernel
theorem dX8_opens_35 : decode cX8_opens 35 = .ok (.bipush 33, 2) := by decide +kernel
theorem dX8_opens_37 : decode cX8_opens 37 = .ok (.if_icmp .ne 16, 3) := by decide +kernel
theorem dX8_opens_40 : decode cX8_opens 40 = .ok (.aload_n 0, 1) := by decide +kernel
theorem dX8_opens_41 : decode cX8_opens 41 = .ok (.invokevirtual 171, 3) := by decide +kernel
theorem dX8_opens_44 : decode cX8_opens 44 = .ok (.aload_n 0, 1) := by decide +kernel
theorem dX8_opens_45 : decode cX8_opens 45 = .ok (.iconst 3, 1) := by decide +kernel
theorem dX8_opens_46 : decode cX8_opens 46 = .ok (.iconst 0, 1) := by decide +kernel
theorem dX8_opens_47 : decode cX8_opens 47 = .ok (.invokevirtual 165, 3) := by decide +kernel
theorem dX8_opens_50 : decode cX8_opens 50 = .ok (.goto 53, 3) := by decide +kernel
theorem dX8_opens_53 : decode cX8_opens 53 = .ok (.aload_n 0, 1) := by decide +kernel
theorem dX8_opens_54 : decode cX8_opens 54 = .ok (.invokevirtual 174, 3) := by decide +kernel
theorem dX8_opens_57 : decode cX8_opens 57 = .ok (.aload_n 0, 1) := by decide +kernel
theorem dX8_opens_58 : decode cX8_opens 58 = .ok (.aload_n 0, 1) := by decide +kernel
theorem dX8_opens_59 : decode cX8_opens 59 = .ok (.getfield 162, 3) := by decide +kernel
theorem dX8_opens_62 : decode cX8_opens 62 = .ok (.ifCond .ne 12, 3) := by decide +kernel
theorem dX8_opens_65 : decode cX8_opens 65 = .ok (.aload_n 0, 1) := by decide +kernel
theorem dX8_opens_66 : decode cX8_opens 66 = .ok (.invokevirtual 159, 3) := by decide +kernel
theorem dX8_opens_69 : decode cX8_opens 69 = .ok (.bipush 41, 2) := by decide +kernel
theorem dX8_opens_71 : decode cX8_opens 71 = .ok (.if_icmp .eq 7, 3) := by decide +kernel
theorem dX8_opens_74 : decode cX8_opens 74 = .ok (.iconst 1, 1) := by decide +kernel
theorem dX8_opens_75 : decode cX8_opens 75 = .ok (.goto 4, 3) := by decide +kernel
theorem dX8_opens_78 : decode cX8_opens 78 = .ok (.iconst 0, 1) := by decide +kernel
theorem dX8_opens_79 : decode cX8_opens 79 = .ok (.putfield 162, 3) := by decide +kernel
theorem dX8_opens_82 : decode cX8_opens 82 = .ok (.aload_n 0, 1) := by decide +kernel
theorem dX8_opens_83 : decode cX8_opens 83 = .ok (.dup, 1) := by decide +kernel
theorem dX8_opens_84 : decode cX8_opens 84 = .ok (.getfield 150, 3) := by decide +kernel
theorem dX8_opens_87 : decode cX8_opens 87 = .ok (.aload_n 0, 1) := by decide +kernel
theorem dX8_opens_88 : decode cX8_opens 88 = .ok (.getfield 162, 3) := by decide +kernel
theorem dX8_opens_91 : decode cX8_opens 91 = .ok (.ifCond .eq 7, 3) := by decide +kernel
theorem dX8_opens_94 : decode cX8_opens 94 = .ok (.iconst 0, 1) := by decide +kernel
theorem dX8_opens_95 : decode cX8_opens 95 = .ok (.goto 4, 3) := by decide +kernel
theorem dX8_opens_98 : decode cX8_opens 98 = .ok (.iconst 1, 1) := by decide +kernel
theorem dX8_opens_99 : decode cX8_opens 99 = .ok (.iadd, 1) := by decide +kernel
theorem dX8_opens_100 : decode cX8_opens 100 = .ok (.putfield 150, 3) := by decide +kernel
theorem dX8_opens_103 : decode cX8_opens 103 = .ok (.aload_n 0, 1) := by decide +kernel
theorem dX8_opens_104 : decode cX8_opens 104 = .ok (.dup, 1) := by decide +kernel
theorem dX8_opens_105 : decode cX8_opens 105 = .ok (.getfield 168, 3) := by decide +kernel
theorem dX8_opens_108 : decode cX8_opens 108 = .ok (.iconst 1, 1) := by decide +kernel
theorem dX8_opens_109 : decode cX8_opens 109 = .ok (.isub, 1) := by decide +kernel
theorem dX8_opens_110 : decode cX8_opens 110 = .ok (.putfield 168, 3) := by decide +kernel
theorem dX8_opens_113 : decode cX8_opens 113 = .ok (.return_, 1) := by decide +kernel
theorem dX8_one_0 : decode cX8_one 0 = .ok (.aload_n 0, 1) := by decide +kernel
theorem dX8_one_1 : decode cX8_one 1 = .ok (.invokevirtual 159, 3) := by decide +kernel
theorem dX8_one_4 : decode cX8_one 4 = .ok (.istore_n 1, 1) := by decide +kernel
theorem dX8_one_5 : decode cX8_one 5 = .ok (.aload_n 0, 1) := by decide +kernel
theorem dX8_one_6 : decode cX8_one 6 = .ok (.iload_n 1, 1) := by decide +kernel
theorem dX8_one_7 : decode cX8_one 7 = .ok (.invokevirtual 177, 3) := by decide +kernel
theorem dX8_one_10 : decode cX8_one 10 = .ok (.istore_n 2, 1) := by decide +kernel
theorem dX8_one_11 : decode cX8_one 11 = .ok (.iload_n 2, 1) := by decide +kernel
theorem dX8_one_12 : decode cX8_one 12 = .ok (.ifCond .lt 22, 3) := by decide +kernel
theorem dX8_one_15 : decode cX8_one 15 = .ok (.aload_n 0, 1) := by decide +kernel
theorem dX8_one_16 : decode cX8_one 16 = .ok (.dup, 1) := by decide +kernel
theorem dX8_one_17 : decode cX8_one 17 = .ok (.getfield 150, 3) := by decide +kernel
theorem dX8_one_20 : decode cX8_one 20 = .ok (.iconst 1, 1) := by decide +kernel
theorem dX8_one_21 : decode cX8_one 21 = .ok (.iadd, 1) := by decide +kernel
theorem dX8_one_22 : decode cX8_one 22 = .ok (.putfield 150, 3) := by decide +kernel
theorem dX8_one_25 : decode cX8_one 25 = .ok (.aload_n 0, 1) := by decide +kernel
theorem dX8_one_26 : decode cX8_one 26 = .ok (.iconst 2, 1) := by decide +kernel
theorem dX8_one_27 : decode cX8_one 27 = .ok (.iload_n 2, 1) := by decide +kernel
theorem dX8_one_28 : decode cX8_one 28 = .ok (.invokevirtual 165, 3) := by decide +kernel
theorem dX8_one_31 : decode cX8_one 31 = .ok (.goto 27, 3) := by decide +kernel
theorem dX8_one_34 : decode cX8_one 34 = .ok (.iload_n 1, 1) := by decide +kernel
theorem dX8_one_35 : decode cX8_one 35 = .ok (.bipush 33, 2) := by decide +kernel
theorem dX8_one_37 : decode cX8_one 37 = .ok (.if_icmp .eq 9, 3) := by decide +kernel
theorem dX8_one_40 : decode cX8_one 40 = .ok (.iload_n 1, 1) := by decide +kernel
theorem dX8_one_41 : decode cX8_one 41 = .ok (.bipush 40, 2) := by decide +kernel
theorem dX8_one_43 : decode cX8_one 43 = .ok (.if_icmp .ne 11, 3) := by decide +kernel
theorem dX8_one_46 : decode cX8_one 46 = .ok (.aload_n 0, 1) := by decide +kernel
theorem dX8_one_47 : decode cX8_one 47 = .ok (.iload_n 1, 1) := by decide +kernel
theorem dX8_one_48 : decode cX8_one 48 = .ok (.invokevirtual 180, 3) := by decide +kernel
theorem dX8_one_51 : decode cX8_one 51 = .ok (.goto 7, 3) := by decide +kernel
theorem dX8_one_54 : decode cX8_one 54 = .ok (.aload_n 0, 1) := by decide +kernel
theorem dX8_one_55 : decode cX8_one 55 = .ok (.invokevirtual 184, 3) := by decide +kernel
theorem dX8_one_58 : decode cX8_one 58 = .ok (.return_, 1) := by decide +kernel
theorem dX8_times_0 : decode cX8_times 0 = .ok (.aload_n 0, 1) := by decide +kernel
theorem dX8_times_1 : decode cX8_times 1 = .ok (.invokevirtual 171, 3) := by decide +kernel
theorem dX8_times_4 : decode cX8_times 4 = .ok (.aload_n 0, 1) := by decide +kernel
theorem dX8_times_5 : decode cX8_times 5 = .ok (.getfield 162, 3) := by decide +kernel
theorem dX8_times_8 : decode cX8_times 8 = .ok (.ifCond .ne 58, 3) := by decide +kernel
theorem dX8_times_11 : decode cX8_times 11 = .ok (.aload_n 0, 1) := by decide +kernel
theorem dX8_times_12 : decode cX8_times 12 = .ok (.invokevirtual 159, 3) := by decide +kernel
theorem dX8_times_15 : decode cX8_times 15 = .ok (.bipush 42, 2) := by decide +kernel
theorem dX8_times_17 : decode cX8_times 17 = .ok (.if_icmp .eq 21, 3) := by decide +kernel
theorem dX8_times_20 : decode cX8_times 20 = .ok (.aload_n 0, 1) := by decide +kernel
theorem dX8_times_21 : decode cX8_times 21 = .ok (.invokevirtual 159, 3) := by decide +kernel
theorem dX8_times_24 : decode cX8_times 24 = .ok (.bipush 47, 2) := by decide +kernel
theorem dX8_times_26 : decode cX8_times 26 = .ok (.if_icmp .eq 12, 3) := by decide +kernel
theorem dX8_times_29 : decode cX8_times 29 = .ok (.aload_n 0, 1) := by decide +kernel
theorem dX8_times_30 : decode cX8_times 30 = .ok (.invokevirtual 159, 3) := by decide +kernel
theorem dX8_times_33 : decode cX8_times 33 = .ok (.bipush 37, 2) := by decide +kernel
theorem dX8_times_35 : decode cX8_times 35 = .ok (.if_icmp .ne 31, 3) := by decide +kernel
theorem dX8_times_38 : decode cX8_times 38 = .ok (.aload_n 0, 1) := by decide +kernel
theorem dX8_times_39 : decode cX8_times 39 = .ok (.invokevirtual 159, 3) := by decide +kernel
theorem dX8_times_42 : decode cX8_times 42 = .ok (.istore_n 1, 1) := by decide +kernel
theorem dX8_times_43 : decode cX8_times 43 = .ok (.aload_n 0, 1) := by decide +kernel
theorem dX8_times_44 : decode cX8_times 44 = .ok (.dup, 1) := by decide +kernel
theorem dX8_times_45 : decode cX8_times 45 = .ok (.getfield 150, 3) := by decide +kernel
theorem dX8_times_48 : decode cX8_times 48 = .ok (.iconst 1, 1) := by decide +kernel
theorem dX8_times_49 : decode cX8_times 49 = .ok (.iadd, 1) := by decide +kernel
theorem dX8_times_50 : decode cX8_times 50 = .ok (.putfield 150, 3) := by decide +kernel
theorem dX8_times_53 : decode cX8_times 53 = .ok (.aload_n 0, 1) := by decide +kernel
theorem dX8_times_54 : decode cX8_times 54 = .ok (.invokevirtual 171, 3) := by decide +kernel
theorem dX8_times_57 : decode cX8_times 57 = .ok (.aload_n 0, 1) := by decide +kernel
theorem dX8_times_58 : decode cX8_times 58 = .ok (.iload_n 1, 1) := by decide +kernel
theorem dX8_times_59 : decode cX8_times 59 = .ok (.iconst 0, 1) := by decide +kernel
theorem dX8_times_60 : decode cX8_times 60 = .ok (.invokevirtual 165, 3) := by decide +kernel
theorem dX8_times_63 : decode cX8_times 63 = .ok (.goto (-59), 3) := by decide +kernel
theorem dX8_times_66 : decode cX8_times 66 = .ok (.return_, 1) := by decide +kernel
theorem dX8_sum_0 : decode cX8_sum 0 = .ok (.aload_n 0, 1) := by decide +kernel
theorem dX8_sum_1 : decode cX8_sum 1 = .ok (.invokevirtual 187, 3) := by decide +kernel
theorem dX8_sum_4 : decode cX8_sum 4 = .ok (.aload_n 0, 1) := by decide +kernel
theorem dX8_sum_5 : decode cX8_sum 5 = .ok (.getfield 162, 3) := by decide +kernel
theorem dX8_sum_8 : decode cX8_sum 8 = .ok (.ifCond .ne 49, 3) := by decide +kernel
theorem dX8_sum_11 : decode cX8_sum 11 = .ok (.aload_n 0, 1) := by decide +kernel
theorem dX8_sum_12 : decode cX8_sum 12 = .ok (.invokevirtual 159, 3) := by decide +kernel
theorem dX8_sum_15 : decode cX8_sum 15 = .ok (.bipush 43, 2) := by decide +kernel
theorem dX8_sum_17 : decode cX8_sum 17 = .ok (.if_icmp .eq 12, 3) := by decide +kernel
theorem dX8_sum_20 : decode cX8_sum 20 = .ok (.aload_n 0, 1) := by decide +kernel
theorem dX8_sum_21 : decode cX8_sum 21 = .ok (.invokevirtual 159, 3) := by decide +kernel
theorem dX8_sum_24 : decode cX8_sum 24 = .ok (.bipush 45, 2) := by decide +kernel
theorem dX8_sum_26 : decode cX8_sum 26 = .ok (.if_icmp .ne 31, 3) := by decide +kernel
theorem dX8_sum_29 : decode cX8_sum 29 = .ok (.aload_n 0, 1) := by decide +kernel
theorem dX8_sum_30 : decode cX8_sum 30 = .ok (.invokevirtual 159, 3) := by decide +kernel
theorem dX8_sum_33 : decode cX8_sum 33 = .ok (.istore_n 1, 1) := by decide +kernel
theorem dX8_sum_34 : decode cX8_sum 34 = .ok (.aload_n 0, 1) := by decide +kernel
theorem dX8_sum_35 : decode cX8_sum 35 = .ok (.dup, 1) := by decide +kernel
theorem dX8_sum_36 : decode cX8_sum 36 = .ok (.getfield 150, 3) := by decide +kernel
theorem dX8_sum_39 : decode cX8_sum 39 = .ok (.iconst 1, 1) := by decide +kernel
theorem dX8_sum_40 : decode cX8_sum 40 = .ok (.iadd, 1) := by decide +kernel
theorem dX8_sum_41 : decode cX8_sum 41 = .ok (.putfield 150, 3) := by decide +kernel
theorem dX8_sum_44 : decode cX8_sum 44 = .ok (.aload_n 0, 1) := by decide +kernel
theorem dX8_sum_45 : decode cX8_sum 45 = .ok (.invokevirtual 187, 3) := by decide +kernel
theorem dX8_sum_48 : decode cX8_sum 48 = .ok (.aload_n 0, 1) := by decide +kernel
theorem dX8_sum_49 : decode cX8_sum 49 = .ok (.iload_n 1, 1) := by decide +kernel
theorem dX8_sum_50 : decode cX8_sum 50 = .ok (.iconst 0, 1) := by decide +kernel
theorem dX8_sum_51 : decode cX8_sum 51 = .ok (.invokevirtual 165, 3) := by decide +kernel
theorem dX8_sum_54 : decode cX8_sum 54 = .ok (.goto (-50), 3) := by decide +kernel
theorem dX8_sum_57 : decode cX8_sum 57 = .ok (.return_, 1) := by decide +kernel
theorem dX8_compares_0 : decode cX8_compares 0 = .ok (.aload_n 0, 1) := by decide +kernel
theorem dX8_compares_1 : decode cX8_compares 1 = .ok (.invokevirtual 190, 3) := by decide +kernel
theorem dX8_compares_4 : decode cX8_compares 4 = .ok (.aload_n 0, 1) := by decide +kernel
theorem dX8_compares_5 : decode cX8_compares 5 = .ok (.invokevirtual 159, 3) := by decide +kernel
theorem dX8_compares_8 : decode cX8_compares 8 = .ok (.istore_n 1, 1) := by decide +kernel
theorem dX8_compares_9 : decode cX8_compares 9 = .ok (.aload_n 0, 1) := by decide +kernel
theorem dX8_compares_10 : decode cX8_compares 10 = .ok (.getfield 162, 3) := by decide +kernel
theorem dX8_compares_13 : decode cX8_compares 13 = .ok (.ifCond .ne 41, 3) := by decide +kernel
theorem dX8_compares_16 : decode cX8_compares 16 = .ok (.iload_n 1, 1) := by decide +kernel
theorem dX8_compares_17 : decode cX8_compares 17 = .ok (.bipush 60, 2) := by decide +kernel
theorem dX8_compares_19 : decode cX8_compares 19 = .ok (.if_icmp .eq 15, 3) := by decide +kernel
theorem dX8_compares_22 : decode cX8_compares 22 = .ok (.iload_n 1, 1) := by decide +kernel
theorem dX8_compares_23 : decode cX8_compares 23 = .ok (.bipush 61, 2) := by decide +kernel
theorem dX8_compares_25 : decode cX8_compares 25 = .ok (.if_icmp .eq 9, 3) := by decide +kernel
theorem dX8_compares_28 : decode cX8_compares 28 = .ok (.iload_n 1, 1) := by decide +kernel
theorem dX8_compares_29 : decode cX8_compares 29 = .ok (.bipush 62, 2) := by decide +kernel
theorem dX8_compares_31 : decode cX8_compares 31 = .ok (.if_icmp .ne 23, 3) := by decide +kernel
theorem dX8_compares_34 : decode cX8_compares 34 = .ok (.aload_n 0, 1) := by decide +kernel
theorem dX8_compares_35 : decode cX8_compares 35 = .ok (.dup, 1) := by decide +kernel
theorem dX8_compares_36 : decode cX8_compares 36 = .ok (.getfield 150, 3) := by decide +kernel
theorem dX8_compares_39 : decode cX8_compares 39 = .ok (.iconst 1, 1) := by decide +kernel
theorem dX8_compares_40 : decode cX8_compares 40 = .ok (.iadd, 1) := by decide +kernel
theorem dX8_compares_41 : decode cX8_compares 41 = .ok (.putfield 150, 3) := by decide +kernel
theorem dX8_compares_44 : decode cX8_compares 44 = .ok (.aload_n 0, 1) := by decide +kernel
theorem dX8_compares_45 : decode cX8_compares 45 = .ok (.invokevirtual 190, 3) := by decide +kernel
theorem dX8_compares_48 : decode cX8_compares 48 = .ok (.aload_n 0, 1) := by decide +kernel
theorem dX8_compares_49 : decode cX8_compares 49 = .ok (.iload_n 1, 1) := by decide +kernel
theorem dX8_compares_50 : decode cX8_compares 50 = .ok (.iconst 0, 1) := by decide +kernel
theorem dX8_compares_51 : decode cX8_compares 51 = .ok (.invokevirtual 165, 3) := by decide +kernel
theorem dX8_compares_54 : decode cX8_compares 54 = .ok (.return_, 1) := by decide +kernel
theorem dX8_all_0 : decode cX8_all 0 = .ok (.aload_n 0, 1) := by decide +kernel
theorem dX8_all_1 : decode cX8_all 1 = .ok (.invokevirtual 193, 3) := by decide +kernel
theorem dX8_all_4 : decode cX8_all 4 = .ok (.aload_n 0, 1) := by decide +kernel
theorem dX8_all_5 : decode cX8_all 5 = .ok (.getfield 162, 3) := by decide +kernel
theorem dX8_all_8 : decode cX8_all 8 = .ok (.ifCond .ne 36, 3) := by decide +kernel
theorem dX8_all_11 : decode cX8_all 11 = .ok (.aload_n 0, 1) := by decide +kernel
theorem dX8_all_12 : decode cX8_all 12 = .ok (.invokevirtual 159, 3) := by decide +kernel
theorem dX8_all_15 : decode cX8_all 15 = .ok (.bipush 38, 2) := by decide +kernel
theorem dX8_all_17 : decode cX8_all 17 = .ok (.if_icmp .ne 27, 3) := by decide +kernel
theorem dX8_all_20 : decode cX8_all 20 = .ok (.aload_n 0, 1) := by decide +kernel
theorem dX8_all_21 : decode cX8_all 21 = .ok (.dup, 1) := by decide +kernel
theorem dX8_all_22 : decode cX8_all 22 = .ok (.getfield 150, 3) := by decide +kernel
theorem dX8_all_25 : decode cX8_all 25 = .ok (.iconst 1, 1) := by decide +kernel
theorem dX8_all_26 : decode cX8_all 26 = .ok (.iadd, 1) := by decide +kernel
theorem dX8_all_27 : decode cX8_all 27 = .ok (.putfield 150, 3) := by decide +kernel
theorem dX8_all_30 : decode cX8_all 30 = .ok (.aload_n 0, 1) := by decide +kernel
theorem dX8_all_31 : decode cX8_all 31 = .ok (.invokevirtual 193, 3) := by decide +kernel
theorem dX8_all_34 : decode cX8_all 34 = .ok (.aload_n 0, 1) := by decide +kernel
theorem dX8_all_35 : decode cX8_all 35 = .ok (.bipush 38, 2) := by decide +kernel
theorem dX8_all_37 : decode cX8_all 37 = .ok (.iconst 0, 1) := by decide +kernel
theorem dX8_all_38 : decode cX8_all 38 = .ok (.invokevirtual 165, 3) := by decide +kernel
theorem dX8_all_41 : decode cX8_all 41 = .ok (.goto (-37), 3) := by decide +kernel
theorem dX8_all_44 : decode cX8_all 44 = .ok (.return_, 1) := by decide +kernel
theorem dX8_any_0 : decode cX8_any 0 = .ok (.aload_n 0, 1) := by decide +kernel
theorem dX8_any_1 : decode cX8_any 1 = .ok (.invokevirtual 196, 3) := by decide +kernel
theorem dX8_any_4 : decode cX8_any 4 = .ok (.aload_n 0, 1) := by decide +kernel
theorem dX8_any_5 : decode cX8_any 5 = .ok (.getfield 162, 3) := by decide +kernel
theorem dX8_any_8 : decode cX8_any 8 = .ok (.ifCond .ne 36, 3) := by decide +kernel
theorem dX8_any_11 : decode cX8_any 11 = .ok (.aload_n 0, 1) := by decide +kernel
theorem dX8_any_12 : decode cX8_any 12 = .ok (.invokevirtual 159, 3) := by decide +kernel
theorem dX8_any_15 : decode cX8_any 15 = .ok (.bipush 124, 2) := by decide +kernel
theorem dX8_any_17 : decode cX8_any 17 = .ok (.if_icmp .ne 27, 3) := by decide +kernel
theorem dX8_any_20 : decode cX8_any 20 = .ok (.aload_n 0, 1) := by decide +kernel
theorem dX8_any_21 : decode cX8_any 21 = .ok (.dup, 1) := by decide +kernel
theorem dX8_any_22 : decode cX8_any 22 = .ok (.getfield 150, 3) := by decide +kernel
theorem dX8_any_25 : decode cX8_any 25 = .ok (.iconst 1, 1) := by decide +kernel
theorem dX8_any_26 : decode cX8_any 26 = .ok (.iadd, 1) := by decide +kernel
theorem dX8_any_27 : decode cX8_any 27 = .ok (.putfield 150, 3) := by decide +kernel
theorem dX8_any_30 : decode cX8_any 30 = .ok (.aload_n 0, 1) := by decide +kernel
theorem dX8_any_31 : decode cX8_any 31 = .ok (.invokevirtual 196, 3) := by decide +kernel
theorem dX8_any_34 : decode cX8_any 34 = .ok (.aload_n 0, 1) := by decide +kernel
theorem dX8_any_35 : decode cX8_any 35 = .ok (.bipush 124, 2) := by decide +kernel
theorem dX8_any_37 : decode cX8_any 37 = .ok (.iconst 0, 1) := by decide +kernel
theorem dX8_any_38 : decode cX8_any 38 = .ok (.invokevirtual 165, 3) := by decide +kernel
theorem dX8_any_41 : decode cX8_any 41 = .ok (.goto (-37), 3) := by decide +kernel
theorem dX8_any_44 : decode cX8_any 44 = .ok (.return_, 1) := by decide +kernel
theorem dX8_text_0 : decode cX8_text 0 = .ok (.iload_n 1, 1) := by decide +kernel
theorem dX8_text_1 : decode cX8_text 1 = .ok (.iconst 0, 1) := by decide +kernel
theorem dX8_text_2 : decode cX8_text 2 = .ok (.iconst 1, 1) := by decide +kernel
theorem dX8_text_3 : decode cX8_text 3 = .ok (.invokestatic 59, 3) := by decide +kernel
theorem dX8_text_6 : decode cX8_text 6 = .ok (.ifCond .ne 10, 3) := by decide +kernel
theorem dX8_text_9 : decode cX8_text 9 = .ok (.aload_n 0, 1) := by decide +kernel
theorem dX8_text_10 : decode cX8_text 10 = .ok (.ldc 106, 2) := by decide +kernel
theorem dX8_text_12 : decode cX8_text 12 = .ok (.invokevirtual 107, 3) := by decide +kernel
theorem dX8_text_15 : decode cX8_text 15 = .ok (.ireturn, 1) := by decide +kernel
theorem dX8_text_16 : decode cX8_text 16 = .ok (.aload_n 0, 1) := by decide +kernel
theorem dX8_text_17 : decode cX8_text 17 = .ok (.iload_n 1, 1) := by decide +kernel
theorem dX8_text_18 : decode cX8_text 18 = .ok (.putfield 156, 3) := by decide +kernel
theorem dX8_text_21 : decode cX8_text 21 = .ok (.aload_n 0, 1) := by decide +kernel
theorem dX8_text_22 : decode cX8_text 22 = .ok (.iconst 0, 1) := by decide +kernel
theorem dX8_text_23 : decode cX8_text 23 = .ok (.putfield 153, 3) := by decide +kernel
theorem dX8_text_26 : decode cX8_text 26 = .ok (.aload_n 0, 1) := by decide +kernel
theorem dX8_text_27 : decode cX8_text 27 = .ok (.iconst 0, 1) := by decide +kernel
theorem dX8_text_28 : decode cX8_text 28 = .ok (.putfield 150, 3) := by decide +kernel
theorem dX8_text_31 : decode cX8_text 31 = .ok (.aload_n 0, 1) := by decide +kernel
theorem dX8_text_32 : decode cX8_text 32 = .ok (.iconst 0, 1) := by decide +kernel
theorem dX8_text_33 : decode cX8_text 33 = .ok (.putfield 168, 3) := by decide +kernel
theorem dX8_text_36 : decode cX8_text 36 = .ok (.aload_n 0, 1) := by decide +kernel
theorem dX8_text_37 : decode cX8_text 37 = .ok (.iconst 0, 1) := by decide +kernel
theorem dX8_text_38 : decode cX8_text 38 = .ok (.putfield 162, 3) := by decide +kernel
theorem dX8_text_41 : decode cX8_text 41 = .ok (.aload_n 0, 1) := by decide +kernel
theorem dX8_text_42 : decode cX8_text 42 = .ok (.invokevirtual 174, 3) := by decide +kernel
theorem dX8_text_45 : decode cX8_text 45 = .ok (.aload_n 0, 1) := by decide +kernel
theorem dX8_text_46 : decode cX8_text 46 = .ok (.aload_n 0, 1) := by decide +kernel
theorem dX8_text_47 : decode cX8_text 47 = .ok (.getfield 162, 3) := by decide +kernel
theorem dX8_text_50 : decode cX8_text 50 = .ok (.ifCond .ne 17, 3) := by decide +kernel
theorem dX8_text_53 : decode cX8_text 53 = .ok (.aload_n 0, 1) := by decide +kernel
theorem dX8_text_54 : decode cX8_text 54 = .ok (.getfield 150, 3) := by decide +kernel
theorem dX8_text_57 : decode cX8_text 57 = .ok (.aload_n 0, 1) := by decide +kernel
theorem dX8_text_58 : decode cX8_text 58 = .ok (.getfield 9, 3) := by decide +kernel
theorem dX8_text_61 : decode cX8_text 61 = .ok (.bipush 6, 2) := by decide +kernel
theorem dX8_text_63 : decode cX8_text 63 = .ok (.iaload, 1) := by decide +kernel
theorem dX8_text_64 : decode cX8_text 64 = .ok (.if_icmp .ge 7, 3) := by decide +kernel
theorem dX8_text_67 : decode cX8_text 67 = .ok (.iconst 1, 1) := by decide +kernel
theorem dX8_text_68 : decode cX8_text 68 = .ok (.goto 4, 3) := by decide +kernel
theorem dX8_text_71 : decode cX8_text 71 = .ok (.iconst 0, 1) := by decide +kernel
theorem dX8_text_72 : decode cX8_text 72 = .ok (.putfield 162, 3) := by decide +kernel
theorem dX8_text_75 : decode cX8_text 75 = .ok (.aload_n 0, 1) := by decide +kernel
theorem dX8_text_76 : decode cX8_text 76 = .ok (.getfield 9, 3) := by decide +kernel
theorem dX8_text_79 : decode cX8_text 79 = .ok (.bipush 6, 2) := by decide +kernel
theorem dX8_text_81 : decode cX8_text 81 = .ok (.iconst 0, 1) := by decide +kernel
theorem dX8_text_82 : decode cX8_text 82 = .ok (.iastore, 1) := by decide +kernel
theorem dX8_text_83 : decode cX8_text 83 = .ok (.aload_n 0, 1) := by decide +kernel
theorem dX8_text_84 : decode cX8_text 84 = .ok (.getfield 162, 3) := by decide +kernel
theorem dX8_text_87 : decode cX8_text 87 = .ok (.ifCond .eq 11, 3) := by decide +kernel
theorem dX8_text_90 : decode cX8_text 90 = .ok (.bipush (-10), 2) := by decide +kernel
theorem dX8_text_92 : decode cX8_text 92 = .ok (.aload_n 0, 1) := by decide +kernel
theorem dX8_text_93 : decode cX8_text 93 = .ok (.getfield 150, 3) := by decide +kernel
theorem dX8_text_96 : decode cX8_text 96 = .ok (.isub, 1) := by decide +kernel
theorem dX8_text_97 : decode cX8_text 97 = .ok (.ireturn, 1) := by decide +kernel
theorem dX8_text_98 : decode cX8_text 98 = .ok (.sipush 158, 3) := by decide +kernel
theorem dX8_text_101 : decode cX8_text 101 = .ok (.bipush 121, 2) := by decide +kernel
theorem dX8_text_103 : decode cX8_text 103 = .ok (.iload_n 1, 1) := by decide +kernel
theorem dX8_text_104 : decode cX8_text 104 = .ok (.imul, 1) := by decide +kernel
theorem dX8_text_105 : decode cX8_text 105 = .ok (.iadd, 1) := by decide +kernel
theorem dX8_text_106 : decode cX8_text 106 = .ok (.istore_n 2, 1) := by decide +kernel
theorem dX8_text_107 : decode cX8_text 107 = .ok (.aload_n 0, 1) := by decide +kernel
theorem dX8_text_108 : decode cX8_text 108 = .ok (.getfield 9, 3) := by decide +kernel
theorem dX8_text_111 : decode cX8_text 111 = .ok (.iload_n 2, 1) := by decide +kernel
theorem dX8_text_112 : decode cX8_text 112 = .ok (.aload_n 0, 1) := by decide +kernel
theorem dX8_text_113 : decode cX8_text 113 = .ok (.getfield 153, 3) := by decide +kernel
theorem dX8_text_116 : decode cX8_text 116 = .ok (.iastore, 1) := by decide +kernel
theorem dX8_text_117 : decode cX8_text 117 = .ok (.iconst 0, 1) := by decide +kernel
theorem dX8_text_118 : decode cX8_text 118 = .ok (.istore_n 3, 1) := by decide +kernel
theorem dX8_text_119 : decode cX8_text 119 = .ok (.iload_n 3, 1) := by decide +kernel
theorem dX8_text_120 : decode cX8_text 120 = .ok (.aload_n 0, 1) := by decide +kernel
theorem dX8_text_121 : decode cX8_text 121 = .ok (.getfield 153, 3) := by decide +kernel
theorem dX8_text_124 : decode cX8_text 124 = .ok (.if_icmp .ge 42, 3) := by decide +kernel
theorem dX8_text_127 : decode cX8_text 127 = .ok (.aload_n 0, 1) := by decide +kernel
theorem dX8_text_128 : decode cX8_text 128 = .ok (.getfield 9, 3) := by decide +kernel
theorem dX8_text_131 : decode cX8_text 131 = .ok (.iload_n 2, 1) := by decide +kernel
theorem dX8_text_132 : decode cX8_text 132 = .ok (.iconst 1, 1) := by decide +kernel
theorem dX8_text_133 : decode cX8_text 133 = .ok (.iadd, 1) := by decide +kernel
theorem dX8_text_134 : decode cX8_text 134 = .ok (.iload_n 3, 1) := by decide +kernel
theorem dX8_text_135 : decode cX8_text 135 = .ok (.iadd, 1) := by decide +kernel
theorem dX8_text_136 : decode cX8_text 136 = .ok (.aload_n 0, 1) := by decide +kernel
theorem dX8_text_137 : decode cX8_text 137 = .ok (.getfield 39, 3) := by decide +kernel
theorem dX8_text_140 : decode cX8_text 140 = .ok (.iload_n 3, 1) := by decide +kernel
theorem dX8_text_141 : decode cX8_text 141 = .ok (.iaload, 1) := by decide +kernel
theorem dX8_text_142 : decode cX8_text 142 = .ok (.iastore, 1) := by decide +kernel
theorem dX8_text_143 : decode cX8_text 143 = .ok (.aload_n 0, 1) := by decide +kernel
theorem dX8_text_144 : decode cX8_text 144 = .ok (.getfield 9, 3) := by decide +kernel
theorem dX8_text_147 : decode cX8_text 147 = .ok (.iload_n 2, 1) := by decide +kernel
theorem dX8_text_148 : decode cX8_text 148 = .ok (.bipush 61, 2) := by decide +kernel
theorem dX8_text_150 : decode cX8_text 150 = .ok (.iadd, 1) := by decide +kernel
theorem dX8_text_151 : decode cX8_text 151 = .ok (.iload_n 3, 1) := by decide +kernel
theorem dX8_text_152 : decode cX8_text 152 = .ok (.iadd, 1) := by decide +kernel
theorem dX8_text_153 : decode cX8_text 153 = .ok (.aload_n 0, 1) := by decide +kernel
theorem dX8_text_154 : decode cX8_text 154 = .ok (.getfield 42, 3) := by decide +kernel
theorem dX8_text_157 : decode cX8_text 157 = .ok (.iload_n 3, 1) := by decide +kernel
theorem dX8_text_158 : decode cX8_text 158 = .ok (.iaload, 1) := by decide +kernel
theorem dX8_text_159 : decode cX8_text 159 = .ok (.iastore, 1) := by decide +kernel
theorem dX8_text_160 : decode cX8_text 160 = .ok (.iinc 3 1, 3) := by decide +kernel
theorem dX8_text_163 : decode cX8_text 163 = .ok (.goto (-44), 3) := by decide +kernel
theorem dX8_text_166 : decode cX8_text 166 = .ok (.iconst 1, 1) := by decide +kernel
theorem dX8_text_167 : decode cX8_text 167 = .ok (.ireturn, 1) := by decide +kernel
theorem dX8_untell_0 : decode cX8_untell 0 = .ok (.iload_n 1, 1) := by decide +kernel
theorem dX8_untell_1 : decode cX8_untell 1 = .ok (.iconst 0, 1) := by decide +kernel
theorem dX8_untell_2 : decode cX8_untell 2 = .ok (.iconst 1, 1) := by decide +kernel
theorem dX8_untell_3 : decode cX8_untell 3 = .ok (.invokestatic 59, 3) := by decide +kernel
theorem dX8_untell_6 : decode cX8_untell 6 = .ok (.ifCond .ne 10, 3) := by decide +kernel
theorem dX8_untell_9 : decode cX8_untell 9 = .ok (.aload_n 0, 1) := by decide +kernel
theorem dX8_untell_10 : decode cX8_untell 10 = .ok (.ldc 106, 2) := by decide +kernel
theorem dX8_untell_12 : decode cX8_untell 12 = .ok (.invokevirtual 107, 3) := by decide +kernel
theorem dX8_untell_15 : decode cX8_untell 15 = .ok (.ireturn, 1) := by decide +kernel
theorem dX8_untell_16 : decode cX8_untell 16 = .ok (.aload_n 0, 1) := by decide +kernel
theorem dX8_untell_17 : decode cX8_untell 17 = .ok (.sipush 158, 3) := by decide +kernel
theorem dX8_untell_20 : decode cX8_untell 20 = .ok (.bipush 121, 2) := by decide +kernel
theorem dX8_untell_22 : decode cX8_untell 22 = .ok (.iload_n 1, 1) := by decide +kernel
theorem dX8_untell_23 : decode cX8_untell 23 = .ok (.imul, 1) := by decide +kernel
theorem dX8_untell_24 : decode cX8_untell 24 = .ok (.iadd, 1) := by decide +kernel
theorem dX8_untell_25 : decode cX8_untell 25 = .ok (.iconst 0, 1) := by decide +kernel
theorem dX8_untell_26 : decode cX8_untell 26 = .ok (.invokevirtual 120, 3) := by decide +kernel
theorem dX8_untell_29 : decode cX8_untell 29 = .ok (.ifCond .le 7, 3) := by decide +kernel
theorem dX8_untell_32 : decode cX8_untell 32 = .ok (.iconst 1, 1) := by decide +kernel
theorem dX8_untell_33 : decode cX8_untell 33 = .ok (.goto 4, 3) := by decide +kernel
theorem dX8_untell_36 : decode cX8_untell 36 = .ok (.iconst 0, 1) := by decide +kernel
theorem dX8_untell_37 : decode cX8_untell 37 = .ok (.ireturn, 1) := by decide +kernel
theorem dX8_twoOf_0 : decode cX8_twoOf 0 = .ok (.iload_n 0, 1) := by decide +kernel
theorem dX8_twoOf_1 : decode cX8_twoOf 1 = .ok (.tableswitch 202 37 62 #[143, 188, 202, 202, 202, 127, 119, 202, 123, 202, 131, 202, 202, 202, 202, 202, 202, 202, 202, 202, 202, 202, 202, 155, 166, 177], 119) := by decide +kernel
theorem dX8_twoOf_120 : decode cX8_twoOf 120 = .ok (.iload_n 1, 1) := by decide +kernel
theorem dX8_twoOf_121 : decode cX8_twoOf 121 = .ok (.iload_n 2, 1) := by decide +kernel
theorem dX8_twoOf_122 : decode cX8_twoOf 122 = .ok (.iadd, 1) := by decide +kernel
theorem dX8_twoOf_123 : decode cX8_twoOf 123 = .ok (.ireturn, 1) := by decide +kernel
theorem dX8_twoOf_124 : decode cX8_twoOf 124 = .ok (.iload_n 1, 1) := by decide +kernel
theorem dX8_twoOf_125 : decode cX8_twoOf 125 = .ok (.iload_n 2, 1) := by decide +kernel
theorem dX8_twoOf_126 : decode cX8_twoOf 126 = .ok (.isub, 1) := by decide +kernel
theorem dX8_twoOf_127 : decode cX8_twoOf 127 = .ok (.ireturn, 1) := by decide +kernel
theorem dX8_twoOf_128 : decode cX8_twoOf 128 = .ok (.iload_n 1, 1) := by decide +kernel
theorem dX8_twoOf_129 : decode cX8_twoOf 129 = .ok (.iload_n 2, 1) := by decide +kernel
theorem dX8_twoOf_130 : decode cX8_twoOf 130 = .ok (.imul, 1) := by decide +kernel
theorem dX8_twoOf_131 : decode cX8_twoOf 131 = .ok (.ireturn, 1) := by decide +kernel
theorem dX8_twoOf_132 : decode cX8_twoOf 132 = .ok (.iload_n 2, 1) := by decide +kernel
theorem dX8_twoOf_133 : decode cX8_twoOf 133 = .ok (.ifCond .ne 7, 3) := by decide +kernel
theorem dX8_twoOf_136 : decode cX8_twoOf 136 = .ok (.iconst 0, 1) := by decide +kernel
theorem dX8_twoOf_137 : decode cX8_twoOf 137 = .ok (.goto 6, 3) := by decide +kernel
theorem dX8_twoOf_140 : decode cX8_twoOf 140 = .ok (.iload_n 1, 1) := by decide +kernel
theorem dX8_twoOf_141 : decode cX8_twoOf 141 = .ok (.iload_n 2, 1) := by decide +kernel
theorem dX8_twoOf_142 : decode cX8_twoOf 142 = .ok (.idiv, 1) := by decide +kernel
theorem dX8_twoOf_143 : decode cX8_twoOf 143 = .ok (.ireturn, 1) := by decide +kernel
theorem dX8_twoOf_144 : decode cX8_twoOf 144 = .ok (.iload_n 2, 1) := by decide +kernel
theorem dX8_twoOf_145 : decode cX8_twoOf 145 = .ok (.ifCond .ne 7, 3) := by decide +kernel
theorem dX8_twoOf_148 : decode cX8_twoOf 148 = .ok (.iconst 0, 1) := by decide +kernel
theorem dX8_twoOf_149 : decode cX8_twoOf 149 = .ok (.goto 6, 3) := by decide +kernel
theorem dX8_twoOf_152 : decode cX8_twoOf 152 = .ok (.iload_n 1, 1) := by decide +kernel
theorem dX8_twoOf_153 : decode cX8_twoOf 153 = .ok (.iload_n 2, 1) := by decide +kernel
theorem dX8_twoOf_154 : decode cX8_twoOf 154 = .ok (.irem, 1) := by decide +kernel
theorem dX8_twoOf_155 : decode cX8_twoOf 155 = .ok (.ireturn, 1) := by decide +kernel
theorem dX8_twoOf_156 : decode cX8_twoOf 156 = .ok (.iload_n 1, 1) := by decide +kernel
theorem dX8_twoOf_157 : decode cX8_twoOf 157 = .ok (.iload_n 2, 1) := by decide +kernel
theorem dX8_twoOf_158 : decode cX8_twoOf 158 = .ok (.if_icmp .ge 7, 3) := by decide +kernel
theorem dX8_twoOf_161 : decode cX8_twoOf 161 = .ok (.iconst 1, 1) := by decide +kernel
theorem dX8_twoOf_162 : decode cX8_twoOf 162 = .ok (.goto 4, 3) := by decide +kernel
theorem dX8_twoOf_165 : decode cX8_twoOf 165 = .ok (.iconst 0, 1) := by decide +kernel
theorem dX8_twoOf_166 : decode cX8_twoOf 166 = .ok (.ireturn, 1) := by decide +kernel
theorem dX8_twoOf_167 : decode cX8_twoOf 167 = .ok (.iload_n 1, 1) := by decide +kernel
theorem dX8_twoOf_168 : decode cX8_twoOf 168 = .ok (.iload_n 2, 1) := by decide +kernel
theorem dX8_twoOf_169 : decode cX8_twoOf 169 = .ok (.if_icmp .ne 7, 3) := by decide +kernel
theorem dX8_twoOf_172 : decode cX8_twoOf 172 = .ok (.iconst 1, 1) := by decide +kernel
theorem dX8_twoOf_173 : decode cX8_twoOf 173 = .ok (.goto 4, 3) := by decide +kernel
theorem dX8_twoOf_176 : decode cX8_twoOf 176 = .ok (.iconst 0, 1) := by decide +kernel
theorem dX8_twoOf_177 : decode cX8_twoOf 177 = .ok (.ireturn, 1) := by decide +kernel
theorem dX8_twoOf_178 : decode cX8_twoOf 178 = .ok (.iload_n 1, 1) := by decide +kernel
theorem dX8_twoOf_179 : decode cX8_twoOf 179 = .ok (.iload_n 2, 1) := by decide +kernel
theorem dX8_twoOf_180 : decode cX8_twoOf 180 = .ok (.if_icmp .le 7, 3) := by decide +kernel
theorem dX8_twoOf_183 : decode cX8_twoOf 183 = .ok (.iconst 1, 1) := by decide +kernel
theorem dX8_twoOf_184 : decode cX8_twoOf 184 = .ok (.goto 4, 3) := by decide +kernel
theorem dX8_twoOf_187 : decode cX8_twoOf 187 = .ok (.iconst 0, 1) := by decide +kernel
theorem dX8_twoOf_188 : decode cX8_twoOf 188 = .ok (.ireturn, 1) := by decide +kernel
theorem dX8_twoOf_189 : decode cX8_twoOf 189 = .ok (.iload_n 1, 1) := by decide +kernel
theorem dX8_twoOf_190 : decode cX8_twoOf 190 = .ok (.ifCond .eq 11, 3) := by decide +kernel
theorem dX8_twoOf_193 : decode cX8_twoOf 193 = .ok (.iload_n 2, 1) := by decide +kernel
theorem dX8_twoOf_194 : decode cX8_twoOf 194 = .ok (.ifCond .eq 7, 3) := by decide +kernel
theorem dX8_twoOf_197 : decode cX8_twoOf 197 = .ok (.iconst 1, 1) := by decide +kernel
theorem dX8_twoOf_198 : decode cX8_twoOf 198 = .ok (.goto 4, 3) := by decide +kernel
theorem dX8_twoOf_201 : decode cX8_twoOf 201 = .ok (.iconst 0, 1) := by decide +kernel
theorem dX8_twoOf_202 : decode cX8_twoOf 202 = .ok (.ireturn, 1) := by decide +kernel
theorem dX8_twoOf_203 : decode cX8_twoOf 203 = .ok (.iload_n 1, 1) := by decide +kernel
theorem dX8_twoOf_204 : decode cX8_twoOf 204 = .ok (.ifCond .ne 7, 3) := by decide +kernel
theorem dX8_twoOf_207 : decode cX8_twoOf 207 = .ok (.iload_n 2, 1) := by decide +kernel
theorem dX8_twoOf_208 : decode cX8_twoOf 208 = .ok (.ifCond .eq 7, 3) := by decide +kernel
theorem dX8_twoOf_211 : decode cX8_twoOf 211 = .ok (.iconst 1, 1) := by decide +kernel
theorem dX8_twoOf_212 : decode cX8_twoOf 212 = .ok (.goto 4, 3) := by decide +kernel
theorem dX8_twoOf_215 : decode cX8_twoOf 215 = .ok (.iconst 0, 1) := by decide +kernel
theorem dX8_twoOf_216 : decode cX8_twoOf 216 = .ok (.ireturn, 1) := by decide +kernel
theorem dX8_works_0 : decode cX8_works 0 = .ok (.iconst 0, 1) := by decide +kernel
theorem dX8_works_1 : decode cX8_works 1 = .ok (.istore_n 2, 1) := by decide +kernel
theorem dX8_works_2 : decode cX8_works 2 = .ok (.iconst 0, 1) := by decide +kernel
theorem dX8_works_3 : decode cX8_works 3 = .ok (.istore_n 3, 1) := by decide +kernel
theorem dX8_works_4 : decode cX8_works 4 = .ok (.iload_n 3, 1) := by decide +kernel
theorem dX8_works_5 : decode cX8_works 5 = .ok (.aload_n 0, 1) := by decide +kernel
theorem dX8_works_6 : decode cX8_works 6 = .ok (.getfield 9, 3) := by decide +kernel
theorem dX8_works_9 : decode cX8_works 9 = .ok (.iload_n 1, 1) := by decide +kernel
theorem dX8_works_10 : decode cX8_works 10 = .ok (.iaload, 1) := by decide +kernel
theorem dX8_works_11 : decode cX8_works 11 = .ok (.if_icmp .ge 144, 3) := by decide +kernel
theorem dX8_works_14 : decode cX8_works 14 = .ok (.aload_n 0, 1) := by decide +kernel
theorem dX8_works_15 : decode cX8_works 15 = .ok (.getfield 9, 3) := by decide +kernel
theorem dX8_works_18 : decode cX8_works 18 = .ok (.iload_n 1, 1) := by decide +kernel
theorem dX8_works_19 : decode cX8_works 19 = .ok (.iconst 1, 1) := by decide +kernel
theorem dX8_works_20 : decode cX8_works 20 = .ok (.iadd, 1) := by decide +kernel
theorem dX8_works_21 : decode cX8_works 21 = .ok (.iload_n 3, 1) := by decide +kernel
theorem dX8_works_22 : decode cX8_works 22 = .ok (.iadd, 1) := by decide +kernel
theorem dX8_works_23 : decode cX8_works 23 = .ok (.iaload, 1) := by decide +kernel
theorem dX8_works_24 : decode cX8_works 24 = .ok (.istore 4, 2) := by decide +kernel
theorem dX8_works_26 : decode cX8_works 26 = .ok (.iload 4, 2) := by decide +kernel
theorem dX8_works_28 : decode cX8_works 28 = .ok (.iconst 1, 1) := by decide +kernel
theorem dX8_works_29 : decode cX8_works 29 = .ok (.if_icmp .eq 9, 3) := by decide +kernel
theorem dX8_works_32 : decode cX8_works 32 = .ok (.iload 4, 2) := by decide +kernel
theorem dX8_works_34 : decode cX8_works 34 = .ok (.iconst 2, 1) := by decide +kernel
theorem dX8_works_35 : decode cX8_works 35 = .ok (.if_icmp .ne 51, 3) := by decide +kernel
theorem dX8_works_38 : decode cX8_works 38 = .ok (.aload_n 0, 1) := by decide +kernel
theorem dX8_works_39 : decode cX8_works 39 = .ok (.getfield 48, 3) := by decide +kernel
theorem dX8_works_42 : decode cX8_works 42 = .ok (.iload_n 2, 1) := by decide +kernel
theorem dX8_works_43 : decode cX8_works 43 = .ok (.iload 4, 2) := by decide +kernel
theorem dX8_works_45 : decode cX8_works 45 = .ok (.iconst 1, 1) := by decide +kernel
theorem dX8_works_46 : decode cX8_works 46 = .ok (.if_icmp .ne 17, 3) := by decide +kernel
theorem dX8_works_49 : decode cX8_works 49 = .ok (.aload_n 0, 1) := by decide +kernel
theorem dX8_works_50 : decode cX8_works 50 = .ok (.getfield 9, 3) := by decide +kernel
theorem dX8_works_53 : decode cX8_works 53 = .ok (.iload_n 1, 1) := by decide +kernel
theorem dX8_works_54 : decode cX8_works 54 = .ok (.bipush 61, 2) := by decide +kernel
theorem dX8_works_56 : decode cX8_works 56 = .ok (.iadd, 1) := by decide +kernel
theorem dX8_works_57 : decode cX8_works 57 = .ok (.iload_n 3, 1) := by decide +kernel
theorem dX8_works_58 : decode cX8_works 58 = .ok (.iadd, 1) := by decide +kernel
theorem dX8_works_59 : decode cX8_works 59 = .ok (.iaload, 1) := by decide +kernel
theorem dX8_works_60 : decode cX8_works 60 = .ok (.goto 19, 3) := by decide +kernel
theorem dX8_works_63 : decode cX8_works 63 = .ok (.aload_n 0, 1) := by decide +kernel
theorem dX8_works_64 : decode cX8_works 64 = .ok (.getfield 45, 3) := by decide +kernel
theorem dX8_works_67 : decode cX8_works 67 = .ok (.aload_n 0, 1) := by decide +kernel
theorem dX8_works_68 : decode cX8_works 68 = .ok (.getfield 9, 3) := by decide +kernel
theorem dX8_works_71 : decode cX8_works 71 = .ok (.iload_n 1, 1) := by decide +kernel
theorem dX8_works_72 : decode cX8_works 72 = .ok (.bipush 61, 2) := by decide +kernel
theorem dX8_works_74 : decode cX8_works 74 = .ok (.iadd, 1) := by decide +kernel
theorem dX8_works_75 : decode cX8_works 75 = .ok (.iload_n 3, 1) := by decide +kernel
theorem dX8_works_76 : decode cX8_works 76 = .ok (.iadd, 1) := by decide +kernel
theorem dX8_works_77 : decode cX8_works 77 = .ok (.iaload, 1) := by decide +kernel
theorem dX8_works_78 : decode cX8_works 78 = .ok (.iaload, 1) := by decide +kernel
theorem dX8_works_79 : decode cX8_works 79 = .ok (.iastore, 1) := by decide +kernel
theorem dX8_works_80 : decode cX8_works 80 = .ok (.iinc 2 1, 3) := by decide +kernel
theorem dX8_works_83 : decode cX8_works 83 = .ok (.goto 66, 3) := by decide +kernel
theorem dX8_works_86 : decode cX8_works 86 = .ok (.iload 4, 2) := by decide +kernel
theorem dX8_works_88 : decode cX8_works 88 = .ok (.iconst 3, 1) := by decide +kernel
theorem dX8_works_89 : decode cX8_works 89 = .ok (.if_icmp .ne 30, 3) := by decide +kernel
theorem dX8_works_92 : decode cX8_works 92 = .ok (.aload_n 0, 1) := by decide +kernel
theorem dX8_works_93 : decode cX8_works 93 = .ok (.getfield 48, 3) := by decide +kernel
theorem dX8_works_96 : decode cX8_works 96 = .ok (.iload_n 2, 1) := by decide +kernel
theorem dX8_works_97 : decode cX8_works 97 = .ok (.iconst 1, 1) := by decide +kernel
theorem dX8_works_98 : decode cX8_works 98 = .ok (.isub, 1) := by decide +kernel
theorem dX8_works_99 : decode cX8_works 99 = .ok (.aload_n 0, 1) := by decide +kernel
theorem dX8_works_100 : decode cX8_works 100 = .ok (.getfield 48, 3) := by decide +kernel
theorem dX8_works_103 : decode cX8_works 103 = .ok (.iload_n 2, 1) := by decide +kernel
theorem dX8_works_104 : decode cX8_works 104 = .ok (.iconst 1, 1) := by decide +kernel
theorem dX8_works_105 : decode cX8_works 105 = .ok (.isub, 1) := by decide +kernel
theorem dX8_works_106 : decode cX8_works 106 = .ok (.iaload, 1) := by decide +kernel
theorem dX8_works_107 : decode cX8_works 107 = .ok (.ifCond .ne 7, 3) := by decide +kernel
theorem dX8_works_110 : decode cX8_works 110 = .ok (.iconst 1, 1) := by decide +kernel
theorem dX8_works_111 : decode cX8_works 111 = .ok (.goto 4, 3) := by decide +kernel
theorem dX8_works_114 : decode cX8_works 114 = .ok (.iconst 0, 1) := by decide +kernel
theorem dX8_works_115 : decode cX8_works 115 = .ok (.iastore, 1) := by decide +kernel
theorem dX8_works_116 : decode cX8_works 116 = .ok (.goto 33, 3) := by decide +kernel
theorem dX8_works_119 : decode cX8_works 119 = .ok (.iinc 2 (-1), 3) := by decide +kernel
theorem dX8_works_122 : decode cX8_works 122 = .ok (.aload_n 0, 1) := by decide +kernel
theorem dX8_works_123 : decode cX8_works 123 = .ok (.getfield 48, 3) := by decide +kernel
theorem dX8_works_126 : decode cX8_works 126 = .ok (.iload_n 2, 1) := by decide +kernel
theorem dX8_works_127 : decode cX8_works 127 = .ok (.iconst 1, 1) := by decide +kernel
theorem dX8_works_128 : decode cX8_works 128 = .ok (.isub, 1) := by decide +kernel
theorem dX8_works_129 : decode cX8_works 129 = .ok (.iload 4, 2) := by decide +kernel
theorem dX8_works_131 : decode cX8_works 131 = .ok (.aload_n 0, 1) := by decide +kernel
theorem dX8_works_132 : decode cX8_works 132 = .ok (.getfield 48, 3) := by decide +kernel
theorem dX8_works_135 : decode cX8_works 135 = .ok (.iload_n 2, 1) := by decide +kernel
theorem dX8_works_136 : decode cX8_works 136 = .ok (.iconst 1, 1) := by decide +kernel
theorem dX8_works_137 : decode cX8_works 137 = .ok (.isub, 1) := by decide +kernel
theorem dX8_works_138 : decode cX8_works 138 = .ok (.iaload, 1) := by decide +kernel
theorem dX8_works_139 : decode cX8_works 139 = .ok (.aload_n 0, 1) := by decide +kernel
theorem dX8_works_140 : decode cX8_works 140 = .ok (.getfield 48, 3) := by decide +kernel
theorem dX8_works_143 : decode cX8_works 143 = .ok (.iload_n 2, 1) := by decide +kernel
theorem dX8_works_144 : decode cX8_works 144 = .ok (.iaload, 1) := by decide +kernel
theorem dX8_works_145 : decode cX8_works 145 = .ok (.invokestatic 199, 3) := by decide +kernel
theorem dX8_works_148 : decode cX8_works 148 = .ok (.iastore, 1) := by decide +kernel
theorem dX8_works_149 : decode cX8_works 149 = .ok (.iinc 3 1, 3) := by decide +kernel
theorem dX8_works_152 : decode cX8_works 152 = .ok (.goto (-148), 3) := by decide +kernel
theorem dX8_works_155 : decode cX8_works 155 = .ok (.aload_n 0, 1) := by decide +kernel
theorem dX8_works_156 : decode cX8_works 156 = .ok (.getfield 48, 3) := by decide +kernel
theorem dX8_works_159 : decode cX8_works 159 = .ok (.iconst 0, 1) := by decide +kernel
theorem dX8_works_160 : decode cX8_works 160 = .ok (.iaload, 1) := by decide +kernel
theorem dX8_works_161 : decode cX8_works 161 = .ok (.ireturn, 1) := by decide +kernel
theorem dX8_gives_0 : decode cX8_gives 0 = .ok (.sipush 158, 3) := by decide +kernel
theorem dX8_gives_3 : decode cX8_gives 3 = .ok (.bipush 121, 2) := by decide +kernel
theorem dX8_gives_5 : decode cX8_gives 5 = .ok (.iload_n 1, 1) := by decide +kernel
theorem dX8_gives_6 : decode cX8_gives 6 = .ok (.imul, 1) := by decide +kernel
theorem dX8_gives_7 : decode cX8_gives 7 = .ok (.iadd, 1) := by decide +kernel
theorem dX8_gives_8 : decode cX8_gives 8 = .ok (.istore 5, 2) := by decide +kernel
theorem dX8_gives_10 : decode cX8_gives 10 = .ok (.aload_n 0, 1) := by decide +kernel
theorem dX8_gives_11 : decode cX8_gives 11 = .ok (.getfield 45, 3) := by decide +kernel
theorem dX8_gives_14 : decode cX8_gives 14 = .ok (.iconst 0, 1) := by decide +kernel
theorem dX8_gives_15 : decode cX8_gives 15 = .ok (.iload_n 2, 1) := by decide +kernel
theorem dX8_gives_16 : decode cX8_gives 16 = .ok (.iastore, 1) := by decide +kernel
theorem dX8_gives_17 : decode cX8_gives 17 = .ok (.aload_n 0, 1) := by decide +kernel
theorem dX8_gives_18 : decode cX8_gives 18 = .ok (.getfield 45, 3) := by decide +kernel
theorem dX8_gives_21 : decode cX8_gives 21 = .ok (.iconst 1, 1) := by decide +kernel
theorem dX8_gives_22 : decode cX8_gives 22 = .ok (.iload_n 3, 1) := by decide +kernel
theorem dX8_gives_23 : decode cX8_gives 23 = .ok (.iastore, 1) := by decide +kernel
theorem dX8_gives_24 : decode cX8_gives 24 = .ok (.aload_n 0, 1) := by decide +kernel
theorem dX8_gives_25 : decode cX8_gives 25 = .ok (.getfield 45, 3) := by decide +kernel
theorem dX8_gives_28 : decode cX8_gives 28 = .ok (.iconst 2, 1) := by decide +kernel
theorem dX8_gives_29 : decode cX8_gives 29 = .ok (.iload 4, 2) := by decide +kernel
theorem dX8_gives_31 : decode cX8_gives 31 = .ok (.iastore, 1) := by decide +kernel
theorem dX8_gives_32 : decode cX8_gives 32 = .ok (.aload_n 0, 1) := by decide +kernel
theorem dX8_gives_33 : decode cX8_gives 33 = .ok (.getfield 9, 3) := by decide +kernel
theorem dX8_gives_36 : decode cX8_gives 36 = .ok (.iload 5, 2) := by decide +kernel
theorem dX8_gives_38 : decode cX8_gives 38 = .ok (.iaload, 1) := by decide +kernel
theorem dX8_gives_39 : decode cX8_gives 39 = .ok (.ifCond .le 12, 3) := by decide +kernel
theorem dX8_gives_42 : decode cX8_gives 42 = .ok (.aload_n 0, 1) := by decide +kernel
theorem dX8_gives_43 : decode cX8_gives 43 = .ok (.iload 5, 2) := by decide +kernel
theorem dX8_gives_45 : decode cX8_gives 45 = .ok (.invokevirtual 202, 3) := by decide +kernel
theorem dX8_gives_48 : decode cX8_gives 48 = .ok (.goto 4, 3) := by decide +kernel
theorem dX8_gives_51 : decode cX8_gives 51 = .ok (.iload_n 2, 1) := by decide +kernel
theorem dX8_gives_52 : decode cX8_gives 52 = .ok (.istore 6, 2) := by decide +kernel
theorem dX8_gives_54 : decode cX8_gives 54 = .ok (.iload_n 1, 1) := by decide +kernel
theorem dX8_gives_55 : decode cX8_gives 55 = .ok (.ifCond .ne 13, 3) := by decide +kernel
theorem dX8_gives_58 : decode cX8_gives 58 = .ok (.iload 6, 2) := by decide +kernel
theorem dX8_gives_60 : decode cX8_gives 60 = .ok (.iconst 0, 1) := by decide +kernel
theorem dX8_gives_61 : decode cX8_gives 61 = .ok (.iconst 1, 1) := by decide +kernel
theorem dX8_gives_62 : decode cX8_gives 62 = .ok (.invokestatic 139, 3) := by decide +kernel
theorem dX8_gives_65 : decode cX8_gives 65 = .ok (.goto 11, 3) := by decide +kernel
theorem dX8_gives_68 : decode cX8_gives 68 = .ok (.iload 6, 2) := by decide +kernel
theorem dX8_gives_70 : decode cX8_gives 70 = .ok (.iconst 0, 1) := by decide +kernel
theorem dX8_gives_71 : decode cX8_gives 71 = .ok (.bipush 99, 2) := by decide +kernel
theorem dX8_gives_73 : decode cX8_gives 73 = .ok (.invokestatic 139, 3) := by decide +kernel
theorem dX8_gives_76 : decode cX8_gives 76 = .ok (.ireturn, 1) := by decide +kernel
theorem dX8_law_0 : decode cX8_law 0 = .ok (.iload_n 1, 1) := by decide +kernel
theorem dX8_law_1 : decode cX8_law 1 = .ok (.iconst 0, 1) := by decide +kernel
theorem dX8_law_2 : decode cX8_law 2 = .ok (.iconst 1, 1) := by decide +kernel
theorem dX8_law_3 : decode cX8_law 3 = .ok (.invokestatic 59, 3) := by decide +kernel
theorem dX8_law_6 : decode cX8_law 6 = .ok (.ifCond .eq 15, 3) := by decide +kernel
theorem dX8_law_9 : decode cX8_law 9 = .ok (.aload_n 0, 1) := by decide +kernel
theorem dX8_law_10 : decode cX8_law 10 = .ok (.iload_n 1, 1) := by decide +kernel
theorem dX8_law_11 : decode cX8_law 11 = .ok (.iload_n 2, 1) := by decide +kernel
theorem dX8_law_12 : decode cX8_law 12 = .ok (.iload_n 3, 1) := by decide +kernel
theorem dX8_law_13 : decode cX8_law 13 = .ok (.iload 4, 2) := by decide +kernel
theorem dX8_law_15 : decode cX8_law 15 = .ok (.invokevirtual 96, 3) := by decide +kernel
theorem dX8_law_18 : decode cX8_law 18 = .ok (.goto 9, 3) := by decide +kernel
theorem dX8_law_21 : decode cX8_law 21 = .ok (.aload_n 0, 1) := by decide +kernel
theorem dX8_law_22 : decode cX8_law 22 = .ok (.ldc 106, 2) := by decide +kernel
theorem dX8_law_24 : decode cX8_law 24 = .ok (.invokevirtual 107, 3) := by decide +kernel
theorem dX8_law_27 : decode cX8_law 27 = .ok (.ireturn, 1) := by decide +kernel
theorem dX8_draw_0 : decode cX8_draw 0 = .ok (.aload_n 0, 1) := by decide +kernel
theorem dX8_draw_1 : decode cX8_draw 1 = .ok (.getfield 9, 3) := by decide +kernel
theorem dX8_draw_4 : decode cX8_draw 4 = .ok (.iconst 1, 1) := by decide +kernel
theorem dX8_draw_5 : decode cX8_draw 5 = .ok (.aload_n 0, 1) := by decide +kernel
theorem dX8_draw_6 : decode cX8_draw 6 = .ok (.getfield 9, 3) := by decide +kernel
theorem dX8_draw_9 : decode cX8_draw 9 = .ok (.iconst 1, 1) := by decide +kernel
theorem dX8_draw_10 : decode cX8_draw 10 = .ok (.iaload, 1) := by decide +kernel
theorem dX8_draw_11 : decode cX8_draw 11 = .ok (.ldc 205, 2) := by decide +kernel
theorem dX8_draw_13 : decode cX8_draw 13 = .ok (.imul, 1) := by decide +kernel
theorem dX8_draw_14 : decode cX8_draw 14 = .ok (.sipush 12345, 3) := by decide +kernel
theorem dX8_draw_17 : decode cX8_draw 17 = .ok (.iadd, 1) := by decide +kernel
theorem dX8_draw_18 : decode cX8_draw 18 = .ok (.iastore, 1) := by decide +kernel
theorem dX8_draw_19 : decode cX8_draw 19 = .ok (.aload_n 0, 1) := by decide +kernel
theorem dX8_draw_20 : decode cX8_draw 20 = .ok (.getfield 9, 3) := by decide +kernel
theorem dX8_draw_23 : decode cX8_draw 23 = .ok (.iconst 1, 1) := by decide +kernel
theorem dX8_draw_24 : decode cX8_draw 24 = .ok (.iaload, 1) := by decide +kernel
theorem dX8_draw_25 : decode cX8_draw 25 = .ok (.bipush 8, 2) := by decide +kernel
theorem dX8_draw_27 : decode cX8_draw 27 = .ok (.iushr, 1) := by decide +kernel
theorem dX8_draw_28 : decode cX8_draw 28 = .ok (.ireturn, 1) := by decide +kernel
theorem dX8_drawn_0 : decode cX8_drawn 0 = .ok (.iconst 0, 1) := by decide +kernel
theorem dX8_drawn_1 : decode cX8_drawn 1 = .ok (.istore_n 1, 1) := by decide +kernel
theorem dX8_drawn_2 : decode cX8_drawn 2 = .ok (.aload_n 0, 1) := by decide +kernel
theorem dX8_drawn_3 : decode cX8_drawn 3 = .ok (.getfield 9, 3) := by decide +kernel
theorem dX8_drawn_6 : decode cX8_drawn 6 = .ok (.iconst 2, 1) := by decide +kernel
theorem dX8_drawn_7 : decode cX8_drawn 7 = .ok (.iaload, 1) := by decide +kernel
theorem dX8_drawn_8 : decode cX8_drawn 8 = .ok (.ifCond .le 62, 3) := by decide +kernel
theorem dX8_drawn_11 : decode cX8_drawn 11 = .ok (.aload_n 0, 1) := by decide +kernel
theorem dX8_drawn_12 : decode cX8_drawn 12 = .ok (.invokevirtual 206, 3) := by decide +kernel
theorem dX8_drawn_15 : decode cX8_drawn 15 = .ok (.aload_n 0, 1) := by decide +kernel
theorem dX8_drawn_16 : decode cX8_drawn 16 = .ok (.getfield 9, 3) := by decide +kernel
