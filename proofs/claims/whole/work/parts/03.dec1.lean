theorem dX10_readJob_61 : decode cX10_readJob 61 = .ok (.ireturn, 1) := by decide +kernel
theorem dX10_readJob_62 : decode cX10_readJob 62 = .ok (.aload_n 0, 1) := by decide +kernel
theorem dX10_readJob_63 : decode cX10_readJob 63 = .ok (.getfield 30, 3) := by decide +kernel
theorem dX10_readJob_66 : decode cX10_readJob 66 = .ok (.getfield 167, 3) := by decide +kernel
theorem dX10_readJob_69 : decode cX10_readJob 69 = .ok (.iload_n 1, 1) := by decide +kernel
theorem dX10_readJob_70 : decode cX10_readJob 70 = .ok (.iload_n 2, 1) := by decide +kernel
theorem dX10_readJob_71 : decode cX10_readJob 71 = .ok (.iastore, 1) := by decide +kernel
theorem dX10_readJob_72 : decode cX10_readJob 72 = .ok (.iconst 0, 1) := by decide +kernel
theorem dX10_readJob_73 : decode cX10_readJob 73 = .ok (.istore_n 3, 1) := by decide +kernel
theorem dX10_readJob_74 : decode cX10_readJob 74 = .ok (.iload_n 3, 1) := by decide +kernel
theorem dX10_readJob_75 : decode cX10_readJob 75 = .ok (.iconst 4, 1) := by decide +kernel
theorem dX10_readJob_76 : decode cX10_readJob 76 = .ok (.if_icmp .ge 103, 3) := by decide +kernel
theorem dX10_readJob_79 : decode cX10_readJob 79 = .ok (.iload_n 3, 1) := by decide +kernel
theorem dX10_readJob_80 : decode cX10_readJob 80 = .ok (.ifCond .eq 13, 3) := by decide +kernel
theorem dX10_readJob_83 : decode cX10_readJob 83 = .ok (.aload_n 0, 1) := by decide +kernel
theorem dX10_readJob_84 : decode cX10_readJob 84 = .ok (.getfield 9, 3) := by decide +kernel
theorem dX10_readJob_87 : decode cX10_readJob 87 = .ok (.invokevirtual 170, 3) := by decide +kernel
theorem dX10_readJob_90 : decode cX10_readJob 90 = .ok (.ifCond .eq 89, 3) := by decide +kernel
theorem dX10_readJob_93 : decode cX10_readJob 93 = .ok (.aload_n 0, 1) := by decide +kernel
theorem dX10_readJob_94 : decode cX10_readJob 94 = .ok (.iconst 0, 1) := by decide +kernel
theorem dX10_readJob_95 : decode cX10_readJob 95 = .ok (.iconst (-1), 1) := by decide +kernel
theorem dX10_readJob_96 : decode cX10_readJob 96 = .ok (.invokevirtual 155, 3) := by decide +kernel
theorem dX10_readJob_99 : decode cX10_readJob 99 = .ok (.istore 4, 2) := by decide +kernel
theorem dX10_readJob_101 : decode cX10_readJob 101 = .ok (.iload 4, 2) := by decide +kernel
theorem dX10_readJob_103 : decode cX10_readJob 103 = .ok (.iconst (-1), 1) := by decide +kernel
theorem dX10_readJob_104 : decode cX10_readJob 104 = .ok (.if_icmp .ne 7, 3) := by decide +kernel
theorem dX10_readJob_107 : decode cX10_readJob 107 = .ok (.iconst (-1), 1) := by decide +kernel
theorem dX10_readJob_108 : decode cX10_readJob 108 = .ok (.goto 13, 3) := by decide +kernel
theorem dX10_readJob_111 : decode cX10_readJob 111 = .ok (.aload_n 0, 1) := by decide +kernel
theorem dX10_readJob_112 : decode cX10_readJob 112 = .ok (.getfield 9, 3) := by decide +kernel
theorem dX10_readJob_115 : decode cX10_readJob 115 = .ok (.iconst 1, 1) := by decide +kernel
theorem dX10_readJob_116 : decode cX10_readJob 116 = .ok (.bipush 9, 2) := by decide +kernel
theorem dX10_readJob_118 : decode cX10_readJob 118 = .ok (.invokevirtual 136, 3) := by decide +kernel
theorem dX10_readJob_121 : decode cX10_readJob 121 = .ok (.istore 5, 2) := by decide +kernel
theorem dX10_readJob_123 : decode cX10_readJob 123 = .ok (.iload 5, 2) := by decide +kernel
theorem dX10_readJob_125 : decode cX10_readJob 125 = .ok (.iconst (-1), 1) := by decide +kernel
theorem dX10_readJob_126 : decode cX10_readJob 126 = .ok (.if_icmp .ne 5, 3) := by decide +kernel
theorem dX10_readJob_129 : decode cX10_readJob 129 = .ok (.iconst 0, 1) := by decide +kernel
theorem dX10_readJob_130 : decode cX10_readJob 130 = .ok (.ireturn, 1) := by decide +kernel
theorem dX10_readJob_131 : decode cX10_readJob 131 = .ok (.aload_n 0, 1) := by decide +kernel
theorem dX10_readJob_132 : decode cX10_readJob 132 = .ok (.getfield 30, 3) := by decide +kernel
theorem dX10_readJob_135 : decode cX10_readJob 135 = .ok (.getfield 173, 3) := by decide +kernel
theorem dX10_readJob_138 : decode cX10_readJob 138 = .ok (.iload_n 1, 1) := by decide +kernel
theorem dX10_readJob_139 : decode cX10_readJob 139 = .ok (.iconst 4, 1) := by decide +kernel
theorem dX10_readJob_140 : decode cX10_readJob 140 = .ok (.imul, 1) := by decide +kernel
theorem dX10_readJob_141 : decode cX10_readJob 141 = .ok (.iload_n 3, 1) := by decide +kernel
theorem dX10_readJob_142 : decode cX10_readJob 142 = .ok (.iadd, 1) := by decide +kernel
theorem dX10_readJob_143 : decode cX10_readJob 143 = .ok (.iload 4, 2) := by decide +kernel
theorem dX10_readJob_145 : decode cX10_readJob 145 = .ok (.iastore, 1) := by decide +kernel
theorem dX10_readJob_146 : decode cX10_readJob 146 = .ok (.aload_n 0, 1) := by decide +kernel
theorem dX10_readJob_147 : decode cX10_readJob 147 = .ok (.getfield 30, 3) := by decide +kernel
theorem dX10_readJob_150 : decode cX10_readJob 150 = .ok (.getfield 176, 3) := by decide +kernel
theorem dX10_readJob_153 : decode cX10_readJob 153 = .ok (.iload_n 1, 1) := by decide +kernel
theorem dX10_readJob_154 : decode cX10_readJob 154 = .ok (.iconst 4, 1) := by decide +kernel
theorem dX10_readJob_155 : decode cX10_readJob 155 = .ok (.imul, 1) := by decide +kernel
theorem dX10_readJob_156 : decode cX10_readJob 156 = .ok (.iload_n 3, 1) := by decide +kernel
theorem dX10_readJob_157 : decode cX10_readJob 157 = .ok (.iadd, 1) := by decide +kernel
theorem dX10_readJob_158 : decode cX10_readJob 158 = .ok (.iload 5, 2) := by decide +kernel
theorem dX10_readJob_160 : decode cX10_readJob 160 = .ok (.iastore, 1) := by decide +kernel
theorem dX10_readJob_161 : decode cX10_readJob 161 = .ok (.aload_n 0, 1) := by decide +kernel
theorem dX10_readJob_162 : decode cX10_readJob 162 = .ok (.getfield 30, 3) := by decide +kernel
theorem dX10_readJob_165 : decode cX10_readJob 165 = .ok (.getfield 179, 3) := by decide +kernel
theorem dX10_readJob_168 : decode cX10_readJob 168 = .ok (.iload_n 1, 1) := by decide +kernel
theorem dX10_readJob_169 : decode cX10_readJob 169 = .ok (.iload_n 3, 1) := by decide +kernel
theorem dX10_readJob_170 : decode cX10_readJob 170 = .ok (.iconst 1, 1) := by decide +kernel
theorem dX10_readJob_171 : decode cX10_readJob 171 = .ok (.iadd, 1) := by decide +kernel
theorem dX10_readJob_172 : decode cX10_readJob 172 = .ok (.iastore, 1) := by decide +kernel
theorem dX10_readJob_173 : decode cX10_readJob 173 = .ok (.iinc 3 1, 3) := by decide +kernel
theorem dX10_readJob_176 : decode cX10_readJob 176 = .ok (.goto (-102), 3) := by decide +kernel
theorem dX10_readJob_179 : decode cX10_readJob 179 = .ok (.aload_n 0, 1) := by decide +kernel
theorem dX10_readJob_180 : decode cX10_readJob 180 = .ok (.getfield 9, 3) := by decide +kernel
theorem dX10_readJob_183 : decode cX10_readJob 183 = .ok (.invokevirtual 170, 3) := by decide +kernel
theorem dX10_readJob_186 : decode cX10_readJob 186 = .ok (.ifCond .eq 22, 3) := by decide +kernel
theorem dX10_readJob_189 : decode cX10_readJob 189 = .ok (.aload_n 0, 1) := by decide +kernel
theorem dX10_readJob_190 : decode cX10_readJob 190 = .ok (.getfield 9, 3) := by decide +kernel
theorem dX10_readJob_193 : decode cX10_readJob 193 = .ok (.bipush 6, 2) := by decide +kernel
theorem dX10_readJob_195 : decode cX10_readJob 195 = .ok (.aload_n 0, 1) := by decide +kernel
theorem dX10_readJob_196 : decode cX10_readJob 196 = .ok (.getfield 9, 3) := by decide +kernel
theorem dX10_readJob_199 : decode cX10_readJob 199 = .ok (.getfield 47, 3) := by decide +kernel
theorem dX10_readJob_202 : decode cX10_readJob 202 = .ok (.invokevirtual 50, 3) := by decide +kernel
theorem dX10_readJob_205 : decode cX10_readJob 205 = .ok (.ifCond .eq 7, 3) := by decide +kernel
theorem dX10_readJob_208 : decode cX10_readJob 208 = .ok (.iconst 1, 1) := by decide +kernel
theorem dX10_readJob_209 : decode cX10_readJob 209 = .ok (.goto 4, 3) := by decide +kernel
theorem dX10_readJob_212 : decode cX10_readJob 212 = .ok (.iconst 0, 1) := by decide +kernel
theorem dX10_readJob_213 : decode cX10_readJob 213 = .ok (.ireturn, 1) := by decide +kernel
theorem dX10_readServes_0 : decode cX10_readServes 0 = .ok (.aload_n 0, 1) := by decide +kernel
theorem dX10_readServes_1 : decode cX10_readServes 1 = .ok (.getfield 9, 3) := by decide +kernel
theorem dX10_readServes_4 : decode cX10_readServes 4 = .ok (.invokevirtual 130, 3) := by decide +kernel
theorem dX10_readServes_7 : decode cX10_readServes 7 = .ok (.aload_n 0, 1) := by decide +kernel
theorem dX10_readServes_8 : decode cX10_readServes 8 = .ok (.iconst 0, 1) := by decide +kernel
theorem dX10_readServes_9 : decode cX10_readServes 9 = .ok (.iconst (-1), 1) := by decide +kernel
theorem dX10_readServes_10 : decode cX10_readServes 10 = .ok (.invokevirtual 155, 3) := by decide +kernel
theorem dX10_readServes_13 : decode cX10_readServes 13 = .ok (.istore_n 1, 1) := by decide +kernel
theorem dX10_readServes_14 : decode cX10_readServes 14 = .ok (.iload_n 1, 1) := by decide +kernel
theorem dX10_readServes_15 : decode cX10_readServes 15 = .ok (.iconst (-1), 1) := by decide +kernel
theorem dX10_readServes_16 : decode cX10_readServes 16 = .ok (.if_icmp .eq 15, 3) := by decide +kernel
theorem dX10_readServes_19 : decode cX10_readServes 19 = .ok (.aload_n 0, 1) := by decide +kernel
theorem dX10_readServes_20 : decode cX10_readServes 20 = .ok (.getfield 9, 3) := by decide +kernel
theorem dX10_readServes_23 : decode cX10_readServes 23 = .ok (.bipush 12, 2) := by decide +kernel
theorem dX10_readServes_25 : decode cX10_readServes 25 = .ok (.invokevirtual 133, 3) := by decide +kernel
theorem dX10_readServes_28 : decode cX10_readServes 28 = .ok (.ifCond .ne 5, 3) := by decide +kernel
theorem dX10_readServes_31 : decode cX10_readServes 31 = .ok (.iconst 0, 1) := by decide +kernel
theorem dX10_readServes_32 : decode cX10_readServes 32 = .ok (.ireturn, 1) := by decide +kernel
theorem dX10_readServes_33 : decode cX10_readServes 33 = .ok (.aload_n 0, 1) := by decide +kernel
theorem dX10_readServes_34 : decode cX10_readServes 34 = .ok (.iconst 0, 1) := by decide +kernel
theorem dX10_readServes_35 : decode cX10_readServes 35 = .ok (.iload_n 1, 1) := by decide +kernel
theorem dX10_readServes_36 : decode cX10_readServes 36 = .ok (.invokevirtual 155, 3) := by decide +kernel
theorem dX10_readServes_39 : decode cX10_readServes 39 = .ok (.istore_n 2, 1) := by decide +kernel
theorem dX10_readServes_40 : decode cX10_readServes 40 = .ok (.iload_n 2, 1) := by decide +kernel
theorem dX10_readServes_41 : decode cX10_readServes 41 = .ok (.iconst (-1), 1) := by decide +kernel
theorem dX10_readServes_42 : decode cX10_readServes 42 = .ok (.if_icmp .eq 15, 3) := by decide +kernel
theorem dX10_readServes_45 : decode cX10_readServes 45 = .ok (.aload_n 0, 1) := by decide +kernel
theorem dX10_readServes_46 : decode cX10_readServes 46 = .ok (.getfield 9, 3) := by decide +kernel
theorem dX10_readServes_49 : decode cX10_readServes 49 = .ok (.bipush 13, 2) := by decide +kernel
theorem dX10_readServes_51 : decode cX10_readServes 51 = .ok (.invokevirtual 133, 3) := by decide +kernel
theorem dX10_readServes_54 : decode cX10_readServes 54 = .ok (.ifCond .ne 5, 3) := by decide +kernel
theorem dX10_readServes_57 : decode cX10_readServes 57 = .ok (.iconst 0, 1) := by decide +kernel
theorem dX10_readServes_58 : decode cX10_readServes 58 = .ok (.ireturn, 1) := by decide +kernel
theorem dX10_readServes_59 : decode cX10_readServes 59 = .ok (.aload_n 0, 1) := by decide +kernel
theorem dX10_readServes_60 : decode cX10_readServes 60 = .ok (.getfield 9, 3) := by decide +kernel
theorem dX10_readServes_63 : decode cX10_readServes 63 = .ok (.iconst 1, 1) := by decide +kernel
theorem dX10_readServes_64 : decode cX10_readServes 64 = .ok (.bipush 99, 2) := by decide +kernel
theorem dX10_readServes_66 : decode cX10_readServes 66 = .ok (.invokevirtual 136, 3) := by decide +kernel
theorem dX10_readServes_69 : decode cX10_readServes 69 = .ok (.istore_n 3, 1) := by decide +kernel
theorem dX10_readServes_70 : decode cX10_readServes 70 = .ok (.iload_n 3, 1) := by decide +kernel
theorem dX10_readServes_71 : decode cX10_readServes 71 = .ok (.iconst (-1), 1) := by decide +kernel
theorem dX10_readServes_72 : decode cX10_readServes 72 = .ok (.if_icmp .eq 15, 3) := by decide +kernel
theorem dX10_readServes_75 : decode cX10_readServes 75 = .ok (.iload_n 1, 1) := by decide +kernel
theorem dX10_readServes_76 : decode cX10_readServes 76 = .ok (.bipush 6, 2) := by decide +kernel
theorem dX10_readServes_78 : decode cX10_readServes 78 = .ok (.if_icmp .ge 9, 3) := by decide +kernel
theorem dX10_readServes_81 : decode cX10_readServes 81 = .ok (.iload_n 2, 1) := by decide +kernel
theorem dX10_readServes_82 : decode cX10_readServes 82 = .ok (.bipush 6, 2) := by decide +kernel
theorem dX10_readServes_84 : decode cX10_readServes 84 = .ok (.if_icmp .lt 5, 3) := by decide +kernel
theorem dX10_readServes_87 : decode cX10_readServes 87 = .ok (.iconst 0, 1) := by decide +kernel
theorem dX10_readServes_88 : decode cX10_readServes 88 = .ok (.ireturn, 1) := by decide +kernel
theorem dX10_readServes_89 : decode cX10_readServes 89 = .ok (.aload_n 0, 1) := by decide +kernel
theorem dX10_readServes_90 : decode cX10_readServes 90 = .ok (.getfield 30, 3) := by decide +kernel
theorem dX10_readServes_93 : decode cX10_readServes 93 = .ok (.getfield 182, 3) := by decide +kernel
theorem dX10_readServes_96 : decode cX10_readServes 96 = .ok (.iload_n 1, 1) := by decide +kernel
theorem dX10_readServes_97 : decode cX10_readServes 97 = .ok (.bipush 6, 2) := by decide +kernel
theorem dX10_readServes_99 : decode cX10_readServes 99 = .ok (.imul, 1) := by decide +kernel
theorem dX10_readServes_100 : decode cX10_readServes 100 = .ok (.iload_n 2, 1) := by decide +kernel
theorem dX10_readServes_101 : decode cX10_readServes 101 = .ok (.iadd, 1) := by decide +kernel
theorem dX10_readServes_102 : decode cX10_readServes 102 = .ok (.iload_n 3, 1) := by decide +kernel
theorem dX10_readServes_103 : decode cX10_readServes 103 = .ok (.iastore, 1) := by decide +kernel
theorem dX10_readServes_104 : decode cX10_readServes 104 = .ok (.iconst 1, 1) := by decide +kernel
theorem dX10_readServes_105 : decode cX10_readServes 105 = .ok (.ireturn, 1) := by decide +kernel
theorem dX10_readSetting_0 : decode cX10_readSetting 0 = .ok (.aload_n 0, 1) := by decide +kernel
theorem dX10_readSetting_1 : decode cX10_readSetting 1 = .ok (.getfield 9, 3) := by decide +kernel
theorem dX10_readSetting_4 : decode cX10_readSetting 4 = .ok (.invokevirtual 130, 3) := by decide +kernel
theorem dX10_readSetting_7 : decode cX10_readSetting 7 = .ok (.aload_n 0, 1) := by decide +kernel
theorem dX10_readSetting_8 : decode cX10_readSetting 8 = .ok (.getfield 9, 3) := by decide +kernel
theorem dX10_readSetting_11 : decode cX10_readSetting 11 = .ok (.iload_n 1, 1) := by decide +kernel
theorem dX10_readSetting_12 : decode cX10_readSetting 12 = .ok (.bipush 16, 2) := by decide +kernel
theorem dX10_readSetting_14 : decode cX10_readSetting 14 = .ok (.if_icmp .ne 7, 3) := by decide +kernel
theorem dX10_readSetting_17 : decode cX10_readSetting 17 = .ok (.iconst 1, 1) := by decide +kernel
theorem dX10_readSetting_18 : decode cX10_readSetting 18 = .ok (.goto 4, 3) := by decide +kernel
theorem dX10_readSetting_21 : decode cX10_readSetting 21 = .ok (.iconst 0, 1) := by decide +kernel
theorem dX10_readSetting_22 : decode cX10_readSetting 22 = .ok (.bipush 100, 2) := by decide +kernel
theorem dX10_readSetting_24 : decode cX10_readSetting 24 = .ok (.invokevirtual 136, 3) := by decide +kernel
theorem dX10_readSetting_27 : decode cX10_readSetting 27 = .ok (.istore_n 2, 1) := by decide +kernel
theorem dX10_readSetting_28 : decode cX10_readSetting 28 = .ok (.iload_n 2, 1) := by decide +kernel
theorem dX10_readSetting_29 : decode cX10_readSetting 29 = .ok (.iconst (-1), 1) := by decide +kernel
theorem dX10_readSetting_30 : decode cX10_readSetting 30 = .ok (.if_icmp .ne 5, 3) := by decide +kernel
theorem dX10_readSetting_33 : decode cX10_readSetting 33 = .ok (.iconst 0, 1) := by decide +kernel
theorem dX10_readSetting_34 : decode cX10_readSetting 34 = .ok (.ireturn, 1) := by decide +kernel
theorem dX10_readSetting_35 : decode cX10_readSetting 35 = .ok (.iload_n 1, 1) := by decide +kernel
theorem dX10_readSetting_36 : decode cX10_readSetting 36 = .ok (.bipush 16, 2) := by decide +kernel
theorem dX10_readSetting_38 : decode cX10_readSetting 38 = .ok (.if_icmp .ne 14, 3) := by decide +kernel
theorem dX10_readSetting_41 : decode cX10_readSetting 41 = .ok (.aload_n 0, 1) := by decide +kernel
theorem dX10_readSetting_42 : decode cX10_readSetting 42 = .ok (.getfield 30, 3) := by decide +kernel
theorem dX10_readSetting_45 : decode cX10_readSetting 45 = .ok (.iload_n 2, 1) := by decide +kernel
theorem dX10_readSetting_46 : decode cX10_readSetting 46 = .ok (.putfield 185, 3) := by decide +kernel
theorem dX10_readSetting_49 : decode cX10_readSetting 49 = .ok (.goto 28, 3) := by decide +kernel
theorem dX10_readSetting_52 : decode cX10_readSetting 52 = .ok (.iload_n 1, 1) := by decide +kernel
theorem dX10_readSetting_53 : decode cX10_readSetting 53 = .ok (.bipush 18, 2) := by decide +kernel
theorem dX10_readSetting_55 : decode cX10_readSetting 55 = .ok (.if_icmp .ne 14, 3) := by decide +kernel
theorem dX10_readSetting_58 : decode cX10_readSetting 58 = .ok (.aload_n 0, 1) := by decide +kernel
theorem dX10_readSetting_59 : decode cX10_readSetting 59 = .ok (.getfield 30, 3) := by decide +kernel
theorem dX10_readSetting_62 : decode cX10_readSetting 62 = .ok (.iload_n 2, 1) := by decide +kernel
theorem dX10_readSetting_63 : decode cX10_readSetting 63 = .ok (.putfield 188, 3) := by decide +kernel
theorem dX10_readSetting_66 : decode cX10_readSetting 66 = .ok (.goto 11, 3) := by decide +kernel
theorem dX10_readSetting_69 : decode cX10_readSetting 69 = .ok (.aload_n 0, 1) := by decide +kernel
theorem dX10_readSetting_70 : decode cX10_readSetting 70 = .ok (.getfield 30, 3) := by decide +kernel
theorem dX10_readSetting_73 : decode cX10_readSetting 73 = .ok (.iload_n 2, 1) := by decide +kernel
theorem dX10_readSetting_74 : decode cX10_readSetting 74 = .ok (.putfield 191, 3) := by decide +kernel
theorem dX10_readSetting_77 : decode cX10_readSetting 77 = .ok (.iconst 1, 1) := by decide +kernel
theorem dX10_readSetting_78 : decode cX10_readSetting 78 = .ok (.ireturn, 1) := by decide +kernel
theorem dX10_readSmith_0 : decode cX10_readSmith 0 = .ok (.aload_n 0, 1) := by decide +kernel
theorem dX10_readSmith_1 : decode cX10_readSmith 1 = .ok (.getfield 9, 3) := by decide +kernel
theorem dX10_readSmith_4 : decode cX10_readSmith 4 = .ok (.invokevirtual 130, 3) := by decide +kernel
theorem dX10_readSmith_7 : decode cX10_readSmith 7 = .ok (.aload_n 0, 1) := by decide +kernel
theorem dX10_readSmith_8 : decode cX10_readSmith 8 = .ok (.getfield 9, 3) := by decide +kernel
theorem dX10_readSmith_11 : decode cX10_readSmith 11 = .ok (.iconst 0, 1) := by decide +kernel
theorem dX10_readSmith_12 : decode cX10_readSmith 12 = .ok (.sipush 9999, 3) := by decide +kernel
theorem dX10_readSmith_15 : decode cX10_readSmith 15 = .ok (.invokevirtual 136, 3) := by decide +kernel
theorem dX10_readSmith_18 : decode cX10_readSmith 18 = .ok (.istore_n 1, 1) := by decide +kernel
theorem dX10_readSmith_19 : decode cX10_readSmith 19 = .ok (.iload_n 1, 1) := by decide +kernel
theorem dX10_readSmith_20 : decode cX10_readSmith 20 = .ok (.iconst (-1), 1) := by decide +kernel
theorem dX10_readSmith_21 : decode cX10_readSmith 21 = .ok (.if_icmp .eq 14, 3) := by decide +kernel
theorem dX10_readSmith_24 : decode cX10_readSmith 24 = .ok (.aload_n 0, 1) := by decide +kernel
theorem dX10_readSmith_25 : decode cX10_readSmith 25 = .ok (.getfield 9, 3) := by decide +kernel
theorem dX10_readSmith_28 : decode cX10_readSmith 28 = .ok (.iconst 2, 1) := by decide +kernel
theorem dX10_readSmith_29 : decode cX10_readSmith 29 = .ok (.invokevirtual 133, 3) := by decide +kernel
theorem dX10_readSmith_32 : decode cX10_readSmith 32 = .ok (.ifCond .ne 5, 3) := by decide +kernel
theorem dX10_readSmith_35 : decode cX10_readSmith 35 = .ok (.iconst 0, 1) := by decide +kernel
theorem dX10_readSmith_36 : decode cX10_readSmith 36 = .ok (.ireturn, 1) := by decide +kernel
theorem dX10_readSmith_37 : decode cX10_readSmith 37 = .ok (.aload_n 0, 1) := by decide +kernel
theorem dX10_readSmith_38 : decode cX10_readSmith 38 = .ok (.getfield 9, 3) := by decide +kernel
theorem dX10_readSmith_41 : decode cX10_readSmith 41 = .ok (.iload_n 1, 1) := by decide +kernel
theorem dX10_readSmith_42 : decode cX10_readSmith 42 = .ok (.invokestatic 140, 3) := by decide +kernel
theorem dX10_readSmith_45 : decode cX10_readSmith 45 = .ok (.bipush 30, 2) := by decide +kernel
theorem dX10_readSmith_47 : decode cX10_readSmith 47 = .ok (.invokevirtual 136, 3) := by decide +kernel
theorem dX10_readSmith_50 : decode cX10_readSmith 50 = .ok (.istore_n 2, 1) := by decide +kernel
theorem dX10_readSmith_51 : decode cX10_readSmith 51 = .ok (.iload_n 2, 1) := by decide +kernel
theorem dX10_readSmith_52 : decode cX10_readSmith 52 = .ok (.iconst (-1), 1) := by decide +kernel
theorem dX10_readSmith_53 : decode cX10_readSmith 53 = .ok (.if_icmp .ne 5, 3) := by decide +kernel
theorem dX10_readSmith_56 : decode cX10_readSmith 56 = .ok (.iconst 0, 1) := by decide +kernel
theorem dX10_readSmith_57 : decode cX10_readSmith 57 = .ok (.ireturn, 1) := by decide +kernel
theorem dX10_readSmith_58 : decode cX10_readSmith 58 = .ok (.aload_n 0, 1) := by decide +kernel
theorem dX10_readSmith_59 : decode cX10_readSmith 59 = .ok (.getfield 30, 3) := by decide +kernel
theorem dX10_readSmith_62 : decode cX10_readSmith 62 = .ok (.iload_n 1, 1) := by decide +kernel
theorem dX10_readSmith_63 : decode cX10_readSmith 63 = .ok (.putfield 194, 3) := by decide +kernel
theorem dX10_readSmith_66 : decode cX10_readSmith 66 = .ok (.aload_n 0, 1) := by decide +kernel
theorem dX10_readSmith_67 : decode cX10_readSmith 67 = .ok (.getfield 30, 3) := by decide +kernel
theorem dX10_readSmith_70 : decode cX10_readSmith 70 = .ok (.iload_n 2, 1) := by decide +kernel
theorem dX10_readSmith_71 : decode cX10_readSmith 71 = .ok (.putfield 197, 3) := by decide +kernel
theorem dX10_readSmith_74 : decode cX10_readSmith 74 = .ok (.iconst 1, 1) := by decide +kernel
theorem dX10_readSmith_75 : decode cX10_readSmith 75 = .ok (.ireturn, 1) := by decide +kernel
theorem dX10_isNameHere_0 : decode cX10_isNameHere 0 = .ok (.aload_n 0, 1) := by decide +kernel
theorem dX10_isNameHere_1 : decode cX10_isNameHere 1 = .ok (.getfield 9, 3) := by decide +kernel
theorem dX10_isNameHere_4 : decode cX10_isNameHere 4 = .ok (.getfield 43, 3) := by decide +kernel
theorem dX10_isNameHere_7 : decode cX10_isNameHere 7 = .ok (.iconst 1, 1) := by decide +kernel
theorem dX10_isNameHere_8 : decode cX10_isNameHere 8 = .ok (.if_icmp .ne 14, 3) := by decide +kernel
theorem dX10_isNameHere_11 : decode cX10_isNameHere 11 = .ok (.aload_n 0, 1) := by decide +kernel
theorem dX10_isNameHere_12 : decode cX10_isNameHere 12 = .ok (.getfield 9, 3) := by decide +kernel
theorem dX10_isNameHere_15 : decode cX10_isNameHere 15 = .ok (.getfield 65, 3) := by decide +kernel
theorem dX10_isNameHere_18 : decode cX10_isNameHere 18 = .ok (.iconst (-1), 1) := by decide +kernel
theorem dX10_isNameHere_19 : decode cX10_isNameHere 19 = .ok (.if_icmp .eq 13, 3) := by decide +kernel
theorem dX10_isNameHere_22 : decode cX10_isNameHere 22 = .ok (.aload_n 0, 1) := by decide +kernel
theorem dX10_isNameHere_23 : decode cX10_isNameHere 23 = .ok (.getfield 9, 3) := by decide +kernel
theorem dX10_isNameHere_26 : decode cX10_isNameHere 26 = .ok (.invokevirtual 62, 3) := by decide +kernel
theorem dX10_isNameHere_29 : decode cX10_isNameHere 29 = .ok (.ifCond .eq 7, 3) := by decide +kernel
theorem dX10_isNameHere_32 : decode cX10_isNameHere 32 = .ok (.iconst 1, 1) := by decide +kernel
theorem dX10_isNameHere_33 : decode cX10_isNameHere 33 = .ok (.goto 4, 3) := by decide +kernel
theorem dX10_isNameHere_36 : decode cX10_isNameHere 36 = .ok (.iconst 0, 1) := by decide +kernel
theorem dX10_isNameHere_37 : decode cX10_isNameHere 37 = .ok (.ireturn, 1) := by decide +kernel
theorem dX10_takeNewName_0 : decode cX10_takeNewName 0 = .ok (.aload_n 0, 1) := by decide +kernel
theorem dX10_takeNewName_1 : decode cX10_takeNewName 1 = .ok (.invokevirtual 200, 3) := by decide +kernel
theorem dX10_takeNewName_4 : decode cX10_takeNewName 4 = .ok (.ifCond .ne 5, 3) := by decide +kernel
theorem dX10_takeNewName_7 : decode cX10_takeNewName 7 = .ok (.iconst (-1), 1) := by decide +kernel
theorem dX10_takeNewName_8 : decode cX10_takeNewName 8 = .ok (.ireturn, 1) := by decide +kernel
theorem dX10_takeNewName_9 : decode cX10_takeNewName 9 = .ok (.aload_n 0, 1) := by decide +kernel
theorem dX10_takeNewName_10 : decode cX10_takeNewName 10 = .ok (.getfield 30, 3) := by decide +kernel
theorem dX10_takeNewName_13 : decode cX10_takeNewName 13 = .ok (.aload_n 0, 1) := by decide +kernel
theorem dX10_takeNewName_14 : decode cX10_takeNewName 14 = .ok (.getfield 9, 3) := by decide +kernel
theorem dX10_takeNewName_17 : decode cX10_takeNewName 17 = .ok (.getfield 203, 3) := by decide +kernel
theorem dX10_takeNewName_20 : decode cX10_takeNewName 20 = .ok (.invokevirtual 206, 3) := by decide +kernel
theorem dX10_takeNewName_23 : decode cX10_takeNewName 23 = .ok (.ifCond .eq 21, 3) := by decide +kernel
theorem dX10_takeNewName_26 : decode cX10_takeNewName 26 = .ok (.aload_n 0, 1) := by decide +kernel
theorem dX10_takeNewName_27 : decode cX10_takeNewName 27 = .ok (.getfield 9, 3) := by decide +kernel
theorem dX10_takeNewName_30 : decode cX10_takeNewName 30 = .ok (.iconst 2, 1) := by decide +kernel
theorem dX10_takeNewName_31 : decode cX10_takeNewName 31 = .ok (.aload_n 0, 1) := by decide +kernel
theorem dX10_takeNewName_32 : decode cX10_takeNewName 32 = .ok (.getfield 9, 3) := by decide +kernel
theorem dX10_takeNewName_35 : decode cX10_takeNewName 35 = .ok (.getfield 47, 3) := by decide +kernel
theorem dX10_takeNewName_38 : decode cX10_takeNewName 38 = .ok (.invokevirtual 50, 3) := by decide +kernel
theorem dX10_takeNewName_41 : decode cX10_takeNewName 41 = .ok (.pop, 1) := by decide +kernel
theorem dX10_takeNewName_42 : decode cX10_takeNewName 42 = .ok (.iconst (-1), 1) := by decide +kernel
theorem dX10_takeNewName_43 : decode cX10_takeNewName 43 = .ok (.ireturn, 1) := by decide +kernel
theorem dX10_takeNewName_44 : decode cX10_takeNewName 44 = .ok (.aload_n 0, 1) := by decide +kernel
theorem dX10_takeNewName_45 : decode cX10_takeNewName 45 = .ok (.getfield 30, 3) := by decide +kernel
theorem dX10_takeNewName_48 : decode cX10_takeNewName 48 = .ok (.iload_n 1, 1) := by decide +kernel
theorem dX10_takeNewName_49 : decode cX10_takeNewName 49 = .ok (.aload_n 0, 1) := by decide +kernel
theorem dX10_takeNewName_50 : decode cX10_takeNewName 50 = .ok (.getfield 9, 3) := by decide +kernel
theorem dX10_takeNewName_53 : decode cX10_takeNewName 53 = .ok (.getfield 203, 3) := by decide +kernel
theorem dX10_takeNewName_56 : decode cX10_takeNewName 56 = .ok (.invokevirtual 209, 3) := by decide +kernel
theorem dX10_takeNewName_59 : decode cX10_takeNewName 59 = .ok (.istore_n 2, 1) := by decide +kernel
theorem dX10_takeNewName_60 : decode cX10_takeNewName 60 = .ok (.aload_n 0, 1) := by decide +kernel
theorem dX10_takeNewName_61 : decode cX10_takeNewName 61 = .ok (.getfield 9, 3) := by decide +kernel
theorem dX10_takeNewName_64 : decode cX10_takeNewName 64 = .ok (.invokevirtual 130, 3) := by decide +kernel
theorem dX10_takeNewName_67 : decode cX10_takeNewName 67 = .ok (.iload_n 2, 1) := by decide +kernel
theorem dX10_takeNewName_68 : decode cX10_takeNewName 68 = .ok (.ireturn, 1) := by decide +kernel
theorem dX10_takeNameOf_0 : decode cX10_takeNameOf 0 = .ok (.aload_n 0, 1) := by decide +kernel
theorem dX10_takeNameOf_1 : decode cX10_takeNameOf 1 = .ok (.invokevirtual 200, 3) := by decide +kernel
theorem dX10_takeNameOf_4 : decode cX10_takeNameOf 4 = .ok (.ifCond .ne 5, 3) := by decide +kernel
theorem dX10_takeNameOf_7 : decode cX10_takeNameOf 7 = .ok (.iconst (-1), 1) := by decide +kernel
theorem dX10_takeNameOf_8 : decode cX10_takeNameOf 8 = .ok (.ireturn, 1) := by decide +kernel
theorem dX10_takeNameOf_9 : decode cX10_takeNameOf 9 = .ok (.aload_n 0, 1) := by decide +kernel
theorem dX10_takeNameOf_10 : decode cX10_takeNameOf 10 = .ok (.getfield 30, 3) := by decide +kernel
theorem dX10_takeNameOf_13 : decode cX10_takeNameOf 13 = .ok (.iload_n 1, 1) := by decide +kernel
theorem dX10_takeNameOf_14 : decode cX10_takeNameOf 14 = .ok (.aload_n 0, 1) := by decide +kernel
theorem dX10_takeNameOf_15 : decode cX10_takeNameOf 15 = .ok (.getfield 9, 3) := by decide +kernel
theorem dX10_takeNameOf_18 : decode cX10_takeNameOf 18 = .ok (.getfield 203, 3) := by decide +kernel
theorem dX10_takeNameOf_21 : decode cX10_takeNameOf 21 = .ok (.invokevirtual 212, 3) := by decide +kernel
theorem dX10_takeNameOf_24 : decode cX10_takeNameOf 24 = .ok (.istore_n 3, 1) := by decide +kernel
theorem dX10_takeNameOf_25 : decode cX10_takeNameOf 25 = .ok (.iload_n 3, 1) := by decide +kernel
theorem dX10_takeNameOf_26 : decode cX10_takeNameOf 26 = .ok (.iconst (-1), 1) := by decide +kernel
theorem dX10_takeNameOf_27 : decode cX10_takeNameOf 27 = .ok (.if_icmp .eq 8, 3) := by decide +kernel
theorem dX10_takeNameOf_30 : decode cX10_takeNameOf 30 = .ok (.iload_n 3, 1) := by decide +kernel
theorem dX10_takeNameOf_31 : decode cX10_takeNameOf 31 = .ok (.iload_n 2, 1) := by decide +kernel
theorem dX10_takeNameOf_32 : decode cX10_takeNameOf 32 = .ok (.if_icmp .ne 21, 3) := by decide +kernel
theorem dX10_takeNameOf_35 : decode cX10_takeNameOf 35 = .ok (.aload_n 0, 1) := by decide +kernel
theorem dX10_takeNameOf_36 : decode cX10_takeNameOf 36 = .ok (.getfield 9, 3) := by decide +kernel
theorem dX10_takeNameOf_39 : decode cX10_takeNameOf 39 = .ok (.iconst 3, 1) := by decide +kernel
theorem dX10_takeNameOf_40 : decode cX10_takeNameOf 40 = .ok (.aload_n 0, 1) := by decide +kernel
theorem dX10_takeNameOf_41 : decode cX10_takeNameOf 41 = .ok (.getfield 9, 3) := by decide +kernel
theorem dX10_takeNameOf_44 : decode cX10_takeNameOf 44 = .ok (.getfield 47, 3) := by decide +kernel
theorem dX10_takeNameOf_47 : decode cX10_takeNameOf 47 = .ok (.invokevirtual 50, 3) := by decide +kernel
theorem dX10_takeNameOf_50 : decode cX10_takeNameOf 50 = .ok (.pop, 1) := by decide +kernel
theorem dX10_takeNameOf_51 : decode cX10_takeNameOf 51 = .ok (.iconst (-1), 1) := by decide +kernel
theorem dX10_takeNameOf_52 : decode cX10_takeNameOf 52 = .ok (.ireturn, 1) := by decide +kernel
theorem dX10_takeNameOf_53 : decode cX10_takeNameOf 53 = .ok (.aload_n 0, 1) := by decide +kernel
theorem dX10_takeNameOf_54 : decode cX10_takeNameOf 54 = .ok (.getfield 9, 3) := by decide +kernel
theorem dX10_takeNameOf_57 : decode cX10_takeNameOf 57 = .ok (.invokevirtual 130, 3) := by decide +kernel
theorem dX10_takeNameOf_60 : decode cX10_takeNameOf 60 = .ok (.iload_n 3, 1) := by decide +kernel
theorem dX10_takeNameOf_61 : decode cX10_takeNameOf 61 = .ok (.ireturn, 1) := by decide +kernel
theorem dX11_init_0 : decode cX11_init 0 = .ok (.aload_n 0, 1) := by decide +kernel
theorem dX11_init_1 : decode cX11_init 1 = .ok (.invokespecial 1, 3) := by decide +kernel
theorem dX11_init_4 : decode cX11_init 4 = .ok (.aload_n 0, 1) := by decide +kernel
theorem dX11_init_5 : decode cX11_init 5 = .ok (.sipush 1600, 3) := by decide +kernel
theorem dX11_init_8 : decode cX11_init 8 = .ok (.newarray .int, 2) := by decide +kernel
theorem dX11_init_10 : decode cX11_init 10 = .ok (.putfield 9, 3) := by decide +kernel
theorem dX11_init_13 : decode cX11_init 13 = .ok (.aload_n 0, 1) := by decide +kernel
theorem dX11_init_14 : decode cX11_init 14 = .ok (.new 13, 3) := by decide +kernel
theorem dX11_init_17 : decode cX11_init 17 = .ok (.dup, 1) := by decide +kernel
theorem dX11_init_18 : decode cX11_init 18 = .ok (.invokespecial 15, 3) := by decide +kernel
theorem dX11_init_21 : decode cX11_init 21 = .ok (.putfield 16, 3) := by decide +kernel
theorem dX11_init_24 : decode cX11_init 24 = .ok (.aload_n 0, 1) := by decide +kernel
theorem dX11_init_25 : decode cX11_init 25 = .ok (.new 13, 3) := by decide +kernel
theorem dX11_init_28 : decode cX11_init 28 = .ok (.dup, 1) := by decide +kernel
theorem dX11_init_29 : decode cX11_init 29 = .ok (.invokespecial 15, 3) := by decide +kernel
theorem dX11_init_32 : decode cX11_init 32 = .ok (.putfield 20, 3) := by decide +kernel
theorem dX11_init_35 : decode cX11_init 35 = .ok (.aload_n 0, 1) := by decide +kernel
theorem dX11_init_36 : decode cX11_init 36 = .ok (.new 23, 3) := by decide +kernel
theorem dX11_init_39 : decode cX11_init 39 = .ok (.dup, 1) := by decide +kernel
theorem dX11_init_40 : decode cX11_init 40 = .ok (.invokespecial 25, 3) := by decide +kernel
theorem dX11_init_43 : decode cX11_init 43 = .ok (.putfield 26, 3) := by decide +kernel
theorem dX11_init_46 : decode cX11_init 46 = .ok (.aload_n 0, 1) := by decide +kernel
theorem dX11_init_47 : decode cX11_init 47 = .ok (.new 30, 3) := by decide +kernel
theorem dX11_init_50 : decode cX11_init 50 = .ok (.dup, 1) := by decide +kernel
theorem dX11_init_51 : decode cX11_init 51 = .ok (.invokespecial 32, 3) := by decide +kernel
theorem dX11_init_54 : decode cX11_init 54 = .ok (.putfield 33, 3) := by decide +kernel
theorem dX11_init_57 : decode cX11_init 57 = .ok (.aload_n 0, 1) := by decide +kernel
theorem dX11_init_58 : decode cX11_init 58 = .ok (.new 37, 3) := by decide +kernel
theorem dX11_init_61 : decode cX11_init 61 = .ok (.dup, 1) := by decide +kernel
theorem dX11_init_62 : decode cX11_init 62 = .ok (.aload_n 0, 1) := by decide +kernel
theorem dX11_init_63 : decode cX11_init 63 = .ok (.getfield 16, 3) := by decide +kernel
theorem dX11_init_66 : decode cX11_init 66 = .ok (.aload_n 0, 1) := by decide +kernel
theorem dX11_init_67 : decode cX11_init 67 = .ok (.getfield 26, 3) := by decide +kernel
theorem dX11_init_70 : decode cX11_init 70 = .ok (.aload_n 0, 1) := by decide +kernel
theorem dX11_init_71 : decode cX11_init 71 = .ok (.getfield 33, 3) := by decide +kernel
theorem dX11_init_74 : decode cX11_init 74 = .ok (.invokespecial 39, 3) := by decide +kernel
theorem dX11_init_77 : decode cX11_init 77 = .ok (.putfield 42, 3) := by decide +kernel
theorem dX11_init_80 : decode cX11_init 80 = .ok (.aload_n 0, 1) := by decide +kernel
theorem dX11_init_81 : decode cX11_init 81 = .ok (.new 46, 3) := by decide +kernel
theorem dX11_init_84 : decode cX11_init 84 = .ok (.dup, 1) := by decide +kernel
theorem dX11_init_85 : decode cX11_init 85 = .ok (.aload_n 0, 1) := by decide +kernel
theorem dX11_init_86 : decode cX11_init 86 = .ok (.getfield 16, 3) := by decide +kernel
theorem dX11_init_89 : decode cX11_init 89 = .ok (.aload_n 0, 1) := by decide +kernel
theorem dX11_init_90 : decode cX11_init 90 = .ok (.getfield 26, 3) := by decide +kernel
theorem dX11_init_93 : decode cX11_init 93 = .ok (.aload_n 0, 1) := by decide +kernel
theorem dX11_init_94 : decode cX11_init 94 = .ok (.getfield 33, 3) := by decide +kernel
theorem dX11_init_97 : decode cX11_init 97 = .ok (.invokespecial 48, 3) := by decide +kernel
theorem dX11_init_100 : decode cX11_init 100 = .ok (.putfield 49, 3) := by decide +kernel
theorem dX11_init_103 : decode cX11_init 103 = .ok (.aload_n 0, 1) := by decide +kernel
theorem dX11_init_104 : decode cX11_init 104 = .ok (.new 53, 3) := by decide +kernel
theorem dX11_init_107 : decode cX11_init 107 = .ok (.dup, 1) := by decide +kernel
theorem dX11_init_108 : decode cX11_init 108 = .ok (.aload_n 0, 1) := by decide +kernel
theorem dX11_init_109 : decode cX11_init 109 = .ok (.getfield 9, 3) := by decide +kernel
theorem dX11_init_112 : decode cX11_init 112 = .ok (.invokespecial 55, 3) := by decide +kernel
theorem dX11_init_115 : decode cX11_init 115 = .ok (.putfield 58, 3) := by decide +kernel
theorem dX11_init_118 : decode cX11_init 118 = .ok (.aload_n 0, 1) := by decide +kernel
theorem dX11_init_119 : decode cX11_init 119 = .ok (.new 62, 3) := by decide +kernel
theorem dX11_init_122 : decode cX11_init 122 = .ok (.dup, 1) := by decide +kernel
theorem dX11_init_123 : decode cX11_init 123 = .ok (.aload_n 0, 1) := by decide +kernel
theorem dX11_init_124 : decode cX11_init 124 = .ok (.getfield 58, 3) := by decide +kernel
theorem dX11_init_127 : decode cX11_init 127 = .ok (.aload_n 0, 1) := by decide +kernel
theorem dX11_init_128 : decode cX11_init 128 = .ok (.getfield 20, 3) := by decide +kernel
theorem dX11_init_131 : decode cX11_init 131 = .ok (.invokespecial 64, 3) := by decide +kernel
theorem dX11_init_134 : decode cX11_init 134 = .ok (.putfield 67, 3) := by decide +kernel
theorem dX11_init_137 : decode cX11_init 137 = .ok (.aload_n 0, 1) := by decide +kernel
theorem dX11_init_138 : decode cX11_init 138 = .ok (.new 71, 3) := by decide +kernel
theorem dX11_init_141 : decode cX11_init 141 = .ok (.dup, 1) := by decide +kernel
theorem dX11_init_142 : decode cX11_init 142 = .ok (.invokespecial 73, 3) := by decide +kernel
theorem dX11_init_145 : decode cX11_init 145 = .ok (.putfield 74, 3) := by decide +kernel
theorem dX11_init_148 : decode cX11_init 148 = .ok (.aload_n 0, 1) := by decide +kernel
theorem dX11_init_149 : decode cX11_init 149 = .ok (.new 78, 3) := by decide +kernel
theorem dX11_init_152 : decode cX11_init 152 = .ok (.dup, 1) := by decide +kernel
theorem dX11_init_153 : decode cX11_init 153 = .ok (.invokespecial 80, 3) := by decide +kernel
theorem dX11_init_156 : decode cX11_init 156 = .ok (.putfield 81, 3) := by decide +kernel
theorem dX11_init_159 : decode cX11_init 159 = .ok (.aload_n 0, 1) := by decide +kernel
theorem dX11_init_160 : decode cX11_init 160 = .ok (.bipush 61, 2) := by decide +kernel
theorem dX11_init_162 : decode cX11_init 162 = .ok (.newarray .int, 2) := by decide +kernel
theorem dX11_init_164 : decode cX11_init 164 = .ok (.putfield 85, 3) := by decide +kernel
theorem dX11_init_167 : decode cX11_init 167 = .ok (.aload_n 0, 1) := by decide +kernel
theorem dX11_init_168 : decode cX11_init 168 = .ok (.bipush 6, 2) := by decide +kernel
theorem dX11_init_170 : decode cX11_init 170 = .ok (.newarray .int, 2) := by decide +kernel
theorem dX11_init_172 : decode cX11_init 172 = .ok (.putfield 88, 3) := by decide +kernel
theorem dX11_init_175 : decode cX11_init 175 = .ok (.aload_n 0, 1) := by decide +kernel
theorem dX11_init_176 : decode cX11_init 176 = .ok (.iconst 1, 1) := by decide +kernel
theorem dX11_init_177 : decode cX11_init 177 = .ok (.putfield 91, 3) := by decide +kernel
theorem dX11_init_180 : decode cX11_init 180 = .ok (.return_, 1) := by decide +kernel
theorem dX11_feed_0 : decode cX11_feed 0 = .ok (.aload_n 0, 1) := by decide +kernel
theorem dX11_feed_1 : decode cX11_feed 1 = .ok (.getfield 95, 3) := by decide +kernel
theorem dX11_feed_4 : decode cX11_feed 4 = .ok (.bipush 20, 2) := by decide +kernel
theorem dX11_feed_6 : decode cX11_feed 6 = .ok (.iadd, 1) := by decide +kernel
theorem dX11_feed_7 : decode cX11_feed 7 = .ok (.sipush 1600, 3) := by decide +kernel
theorem dX11_feed_10 : decode cX11_feed 10 = .ok (.if_icmp .le 9, 3) := by decide +kernel
theorem dX11_feed_13 : decode cX11_feed 13 = .ok (.aload_n 0, 1) := by decide +kernel
theorem dX11_feed_14 : decode cX11_feed 14 = .ok (.iconst 0, 1) := by decide +kernel
theorem dX11_feed_15 : decode cX11_feed 15 = .ok (.invokevirtual 98, 3) := by decide +kernel
theorem dX11_feed_18 : decode cX11_feed 18 = .ok (.ireturn, 1) := by decide +kernel
theorem dX11_feed_19 : decode cX11_feed 19 = .ok (.aload_n 0, 1) := by decide +kernel
theorem dX11_feed_20 : decode cX11_feed 20 = .ok (.iload_n 1, 1) := by decide +kernel
theorem dX11_feed_21 : decode cX11_feed 21 = .ok (.invokevirtual 102, 3) := by decide +kernel
theorem dX11_feed_24 : decode cX11_feed 24 = .ok (.aload_n 0, 1) := by decide +kernel
theorem dX11_feed_25 : decode cX11_feed 25 = .ok (.iload_n 2, 1) := by decide +kernel
theorem dX11_feed_26 : decode cX11_feed 26 = .ok (.invokevirtual 102, 3) := by decide +kernel
theorem dX11_feed_29 : decode cX11_feed 29 = .ok (.aload_n 0, 1) := by decide +kernel
theorem dX11_feed_30 : decode cX11_feed 30 = .ok (.iload_n 3, 1) := by decide +kernel
theorem dX11_feed_31 : decode cX11_feed 31 = .ok (.invokevirtual 102, 3) := by decide +kernel
theorem dX11_feed_34 : decode cX11_feed 34 = .ok (.aload_n 0, 1) := by decide +kernel
theorem dX11_feed_35 : decode cX11_feed 35 = .ok (.iload 4, 2) := by decide +kernel
theorem dX11_feed_37 : decode cX11_feed 37 = .ok (.invokevirtual 102, 3) := by decide +kernel
theorem dX11_feed_40 : decode cX11_feed 40 = .ok (.aload_n 0, 1) := by decide +kernel
theorem dX11_feed_41 : decode cX11_feed 41 = .ok (.iload 5, 2) := by decide +kernel
theorem dX11_feed_43 : decode cX11_feed 43 = .ok (.invokevirtual 102, 3) := by decide +kernel
theorem dX11_feed_46 : decode cX11_feed 46 = .ok (.aload_n 0, 1) := by decide +kernel
theorem dX11_feed_47 : decode cX11_feed 47 = .ok (.getfield 95, 3) := by decide +kernel
theorem dX11_feed_50 : decode cX11_feed 50 = .ok (.ireturn, 1) := by decide +kernel
theorem dX11_end_0 : decode cX11_end 0 = .ok (.iload_n 1, 1) := by decide +kernel
theorem dX11_end_1 : decode cX11_end 1 = .ok (.ifCond .lt 11, 3) := by decide +kernel
theorem dX11_end_4 : decode cX11_end 4 = .ok (.iload_n 1, 1) := by decide +kernel
theorem dX11_end_5 : decode cX11_end 5 = .ok (.aload_n 0, 1) := by decide +kernel
theorem dX11_end_6 : decode cX11_end 6 = .ok (.getfield 95, 3) := by decide +kernel
theorem dX11_end_9 : decode cX11_end 9 = .ok (.if_icmp .le 9, 3) := by decide +kernel
theorem dX11_end_12 : decode cX11_end 12 = .ok (.aload_n 0, 1) := by decide +kernel
theorem dX11_end_13 : decode cX11_end 13 = .ok (.iconst 0, 1) := by decide +kernel
theorem dX11_end_14 : decode cX11_end 14 = .ok (.invokevirtual 106, 3) := by decide +kernel
theorem dX11_end_17 : decode cX11_end 17 = .ok (.ireturn, 1) := by decide +kernel
theorem dX11_end_18 : decode cX11_end 18 = .ok (.aload_n 0, 1) := by decide +kernel
theorem dX11_end_19 : decode cX11_end 19 = .ok (.iload_n 1, 1) := by decide +kernel
theorem dX11_end_20 : decode cX11_end 20 = .ok (.putfield 95, 3) := by decide +kernel
theorem dX11_end_23 : decode cX11_end 23 = .ok (.iconst 1, 1) := by decide +kernel
theorem dX11_end_24 : decode cX11_end 24 = .ok (.ireturn, 1) := by decide +kernel
theorem dX11_year_0 : decode cX11_year 0 = .ok (.aload_n 0, 1) := by decide +kernel
theorem dX11_year_1 : decode cX11_year 1 = .ok (.invokevirtual 110, 3) := by decide +kernel
theorem dX11_year_4 : decode cX11_year 4 = .ok (.istore_n 1, 1) := by decide +kernel
theorem dX11_year_5 : decode cX11_year 5 = .ok (.aload_n 0, 1) := by decide +kernel
theorem dX11_year_6 : decode cX11_year 6 = .ok (.getfield 67, 3) := by decide +kernel
theorem dX11_year_9 : decode cX11_year 9 = .ok (.aload_n 0, 1) := by decide +kernel
theorem dX11_year_10 : decode cX11_year 10 = .ok (.getfield 20, 3) := by decide +kernel
theorem dX11_year_13 : decode cX11_year 13 = .ok (.iload_n 1, 1) := by decide +kernel
theorem dX11_year_14 : decode cX11_year 14 = .ok (.invokevirtual 114, 3) := by decide +kernel
theorem dX11_year_17 : decode cX11_year 17 = .ok (.istore_n 2, 1) := by decide +kernel
theorem dX11_year_18 : decode cX11_year 18 = .ok (.iload_n 2, 1) := by decide +kernel
theorem dX11_year_19 : decode cX11_year 19 = .ok (.iconst (-1), 1) := by decide +kernel
theorem dX11_year_20 : decode cX11_year 20 = .ok (.if_icmp .ne 9, 3) := by decide +kernel
theorem dX11_year_23 : decode cX11_year 23 = .ok (.aload_n 0, 1) := by decide +kernel
theorem dX11_year_24 : decode cX11_year 24 = .ok (.iconst 1, 1) := by decide +kernel
theorem dX11_year_25 : decode cX11_year 25 = .ok (.invokevirtual 98, 3) := by decide +kernel
theorem dX11_year_28 : decode cX11_year 28 = .ok (.ireturn, 1) := by decide +kernel
theorem dX11_year_29 : decode cX11_year 29 = .ok (.aload_n 0, 1) := by decide +kernel
theorem dX11_year_30 : decode cX11_year 30 = .ok (.getfield 16, 3) := by decide +kernel
theorem dX11_year_33 : decode cX11_year 33 = .ok (.astore_n 3, 1) := by decide +kernel
theorem dX11_year_34 : decode cX11_year 34 = .ok (.aload_n 0, 1) := by decide +kernel
theorem dX11_year_35 : decode cX11_year 35 = .ok (.aload_n 0, 1) := by decide +kernel
theorem dX11_year_36 : decode cX11_year 36 = .ok (.getfield 20, 3) := by decide +kernel
theorem dX11_year_39 : decode cX11_year 39 = .ok (.putfield 16, 3) := by decide +kernel
theorem dX11_year_42 : decode cX11_year 42 = .ok (.aload_n 0, 1) := by decide +kernel
theorem dX11_year_43 : decode cX11_year 43 = .ok (.aload_n 3, 1) := by decide +kernel
theorem dX11_year_44 : decode cX11_year 44 = .ok (.putfield 20, 3) := by decide +kernel
theorem dX11_year_47 : decode cX11_year 47 = .ok (.aload_n 0, 1) := by decide +kernel
theorem dX11_year_48 : decode cX11_year 48 = .ok (.getfield 26, 3) := by decide +kernel
theorem dX11_year_51 : decode cX11_year 51 = .ok (.aload_n 0, 1) := by decide +kernel
theorem dX11_year_52 : decode cX11_year 52 = .ok (.getfield 16, 3) := by decide +kernel
theorem dX11_year_55 : decode cX11_year 55 = .ok (.invokevirtual 118, 3) := by decide +kernel
theorem dX11_year_58 : decode cX11_year 58 = .ok (.aload_n 0, 1) := by decide +kernel
theorem dX11_year_59 : decode cX11_year 59 = .ok (.getfield 33, 3) := by decide +kernel
theorem dX11_year_62 : decode cX11_year 62 = .ok (.invokevirtual 122, 3) := by decide +kernel
theorem dX11_year_65 : decode cX11_year 65 = .ok (.aload_n 0, 1) := by decide +kernel
theorem dX11_year_66 : decode cX11_year 66 = .ok (.iconst 0, 1) := by decide +kernel
theorem dX11_year_67 : decode cX11_year 67 = .ok (.putfield 125, 3) := by decide +kernel
theorem dX11_year_70 : decode cX11_year 70 = .ok (.aload_n 0, 1) := by decide +kernel
theorem dX11_year_71 : decode cX11_year 71 = .ok (.getfield 49, 3) := by decide +kernel
theorem dX11_year_74 : decode cX11_year 74 = .ok (.aload_n 0, 1) := by decide +kernel
theorem dX11_year_75 : decode cX11_year 75 = .ok (.getfield 16, 3) := by decide +kernel
theorem dX11_year_78 : decode cX11_year 78 = .ok (.invokevirtual 128, 3) := by decide +kernel
theorem dX11_year_81 : decode cX11_year 81 = .ok (.iload_n 2, 1) := by decide +kernel
theorem dX11_year_82 : decode cX11_year 82 = .ok (.ireturn, 1) := by decide +kernel
theorem dX11_fault_0 : decode cX11_fault 0 = .ok (.iload_n 1, 1) := by decide +kernel
theorem dX11_fault_1 : decode cX11_fault 1 = .ok (.lookupswitch 43 #[(0, 27), (1, 35)], 27) := by decide +kernel
theorem dX11_fault_28 : decode cX11_fault 28 = .ok (.aload_n 0, 1) := by decide +kernel
theorem dX11_fault_29 : decode cX11_fault 29 = .ok (.getfield 58, 3) := by decide +kernel
theorem dX11_fault_32 : decode cX11_fault 32 = .ok (.getfield 131, 3) := by decide +kernel
theorem dX11_fault_35 : decode cX11_fault 35 = .ok (.ireturn, 1) := by decide +kernel
theorem dX11_fault_36 : decode cX11_fault 36 = .ok (.aload_n 0, 1) := by decide +kernel
theorem dX11_fault_37 : decode cX11_fault 37 = .ok (.getfield 58, 3) := by decide +kernel
theorem dX11_fault_40 : decode cX11_fault 40 = .ok (.getfield 134, 3) := by decide +kernel
theorem dX11_fault_43 : decode cX11_fault 43 = .ok (.ireturn, 1) := by decide +kernel
theorem dX11_fault_44 : decode cX11_fault 44 = .ok (.iconst (-1), 1) := by decide +kernel
theorem dX11_fault_45 : decode cX11_fault 45 = .ok (.ireturn, 1) := by decide +kernel
theorem dX11_has_0 : decode cX11_has 0 = .ok (.iload_n 1, 1) := by decide +kernel
theorem dX11_has_1 : decode cX11_has 1 = .ok (.tableswitch 145 0 12 #[67, 67, 67, 67, 76, 84, 92, 103, 114, 119, 124, 132, 140], 67) := by decide +kernel
theorem dX11_has_68 : decode cX11_has 68 = .ok (.aload_n 0, 1) := by decide +kernel
theorem dX11_has_69 : decode cX11_has 69 = .ok (.getfield 16, 3) := by decide +kernel
theorem dX11_has_72 : decode cX11_has 72 = .ok (.iload_n 1, 1) := by decide +kernel
theorem dX11_has_73 : decode cX11_has 73 = .ok (.invokevirtual 137, 3) := by decide +kernel
theorem dX11_has_76 : decode cX11_has 76 = .ok (.ireturn, 1) := by decide +kernel
theorem dX11_has_77 : decode cX11_has 77 = .ok (.aload_n 0, 1) := by decide +kernel
theorem dX11_has_78 : decode cX11_has 78 = .ok (.getfield 26, 3) := by decide +kernel
theorem dX11_has_81 : decode cX11_has 81 = .ok (.getfield 140, 3) := by decide +kernel
theorem dX11_has_84 : decode cX11_has 84 = .ok (.ireturn, 1) := by decide +kernel
theorem dX11_has_85 : decode cX11_has 85 = .ok (.aload_n 0, 1) := by decide +kernel
theorem dX11_has_86 : decode cX11_has 86 = .ok (.getfield 26, 3) := by decide +kernel
theorem dX11_has_89 : decode cX11_has 89 = .ok (.getfield 143, 3) := by decide +kernel
theorem dX11_has_92 : decode cX11_has 92 = .ok (.ireturn, 1) := by decide +kernel
theorem dX11_has_93 : decode cX11_has 93 = .ok (.aload_n 0, 1) := by decide +kernel
theorem dX11_has_94 : decode cX11_has 94 = .ok (.getfield 26, 3) := by decide +kernel
theorem dX11_has_97 : decode cX11_has 97 = .ok (.getfield 146, 3) := by decide +kernel
theorem dX11_has_100 : decode cX11_has 100 = .ok (.invokestatic 149, 3) := by decide +kernel
theorem dX11_has_103 : decode cX11_has 103 = .ok (.ireturn, 1) := by decide +kernel
theorem dX11_has_104 : decode cX11_has 104 = .ok (.aload_n 0, 1) := by decide +kernel
theorem dX11_has_105 : decode cX11_has 105 = .ok (.getfield 26, 3) := by decide +kernel
theorem dX11_has_108 : decode cX11_has 108 = .ok (.getfield 154, 3) := by decide +kernel
theorem dX11_has_111 : decode cX11_has 111 = .ok (.invokestatic 149, 3) := by decide +kernel
theorem dX11_has_114 : decode cX11_has 114 = .ok (.ireturn, 1) := by decide +kernel
theorem dX11_has_115 : decode cX11_has 115 = .ok (.aload_n 0, 1) := by decide +kernel
theorem dX11_has_116 : decode cX11_has 116 = .ok (.invokevirtual 157, 3) := by decide +kernel
theorem dX11_has_119 : decode cX11_has 119 = .ok (.ireturn, 1) := by decide +kernel
theorem dX11_has_120 : decode cX11_has 120 = .ok (.aload_n 0, 1) := by decide +kernel
theorem dX11_has_121 : decode cX11_has 121 = .ok (.invokevirtual 160, 3) := by decide +kernel
theorem dX11_has_124 : decode cX11_has 124 = .ok (.ireturn, 1) := by decide +kernel
theorem dX11_has_125 : decode cX11_has 125 = .ok (.aload_n 0, 1) := by decide +kernel
theorem dX11_has_126 : decode cX11_has 126 = .ok (.getfield 26, 3) := by decide +kernel
theorem dX11_has_129 : decode cX11_has 129 = .ok (.getfield 163, 3) := by decide +kernel
theorem dX11_has_132 : decode cX11_has 132 = .ok (.ireturn, 1) := by decide +kernel
theorem dX11_has_133 : decode cX11_has 133 = .ok (.aload_n 0, 1) := by decide +kernel
theorem dX11_has_134 : decode cX11_has 134 = .ok (.getfield 33, 3) := by decide +kernel
theorem dX11_has_137 : decode cX11_has 137 = .ok (.getfield 166, 3) := by decide +kernel
theorem dX11_has_140 : decode cX11_has 140 = .ok (.ireturn, 1) := by decide +kernel
theorem dX11_has_141 : decode cX11_has 141 = .ok (.aload_n 0, 1) := by decide +kernel
theorem dX11_has_142 : decode cX11_has 142 = .ok (.getfield 91, 3) := by decide +kernel
theorem dX11_has_145 : decode cX11_has 145 = .ok (.ireturn, 1) := by decide +kernel
theorem dX11_has_146 : decode cX11_has 146 = .ok (.iconst (-1), 1) := by decide +kernel
theorem dX11_has_147 : decode cX11_has 147 = .ok (.ireturn, 1) := by decide +kernel
theorem dX11_letter_0 : decode cX11_letter 0 = .ok (.aload_n 0, 1) := by decide +kernel
theorem dX11_letter_1 : decode cX11_letter 1 = .ok (.getfield 16, 3) := by decide +kernel
theorem dX11_letter_4 : decode cX11_letter 4 = .ok (.iload_n 1, 1) := by decide +kernel
theorem dX11_letter_5 : decode cX11_letter 5 = .ok (.iload_n 2, 1) := by decide +kernel
theorem dX11_letter_6 : decode cX11_letter 6 = .ok (.invokevirtual 169, 3) := by decide +kernel
theorem dX11_letter_9 : decode cX11_letter 9 = .ok (.ifCond .eq 13, 3) := by decide +kernel
theorem dX11_letter_12 : decode cX11_letter 12 = .ok (.iload_n 3, 1) := by decide +kernel
theorem dX11_letter_13 : decode cX11_letter 13 = .ok (.ifCond .lt 9, 3) := by decide +kernel
theorem dX11_letter_16 : decode cX11_letter 16 = .ok (.iload_n 3, 1) := by decide +kernel
theorem dX11_letter_17 : decode cX11_letter 17 = .ok (.bipush 6, 2) := by decide +kernel
theorem dX11_letter_19 : decode cX11_letter 19 = .ok (.if_icmp .lt 5, 3) := by decide +kernel
theorem dX11_letter_22 : decode cX11_letter 22 = .ok (.iconst (-1), 1) := by decide +kernel
theorem dX11_letter_23 : decode cX11_letter 23 = .ok (.ireturn, 1) := by decide +kernel
theorem dX11_letter_24 : decode cX11_letter 24 = .ok (.aload_n 0, 1) := by decide +kernel
theorem dX11_letter_25 : decode cX11_letter 25 = .ok (.getfield 16, 3) := by decide +kernel
theorem dX11_letter_28 : decode cX11_letter 28 = .ok (.iload_n 1, 1) := by decide +kernel
theorem dX11_letter_29 : decode cX11_letter 29 = .ok (.iload_n 2, 1) := by decide +kernel
theorem dX11_letter_30 : decode cX11_letter 30 = .ok (.invokevirtual 173, 3) := by decide +kernel
theorem dX11_letter_33 : decode cX11_letter 33 = .ok (.iload_n 3, 1) := by decide +kernel
theorem dX11_letter_34 : decode cX11_letter 34 = .ok (.invokestatic 177, 3) := by decide +kernel
theorem dX11_letter_37 : decode cX11_letter 37 = .ok (.ireturn, 1) := by decide +kernel
theorem dX11_kind_0 : decode cX11_kind 0 = .ok (.aload_n 0, 1) := by decide +kernel
theorem dX11_kind_1 : decode cX11_kind 1 = .ok (.getfield 16, 3) := by decide +kernel
theorem dX11_kind_4 : decode cX11_kind 4 = .ok (.iconst 0, 1) := by decide +kernel
theorem dX11_kind_5 : decode cX11_kind 5 = .ok (.iload_n 1, 1) := by decide +kernel
theorem dX11_kind_6 : decode cX11_kind 6 = .ok (.invokevirtual 169, 3) := by decide +kernel
theorem dX11_kind_9 : decode cX11_kind 9 = .ok (.ifCond .ne 5, 3) := by decide +kernel
theorem dX11_kind_12 : decode cX11_kind 12 = .ok (.iconst (-1), 1) := by decide +kernel
theorem dX11_kind_13 : decode cX11_kind 13 = .ok (.ireturn, 1) := by decide +kernel
theorem dX11_kind_14 : decode cX11_kind 14 = .ok (.iload_n 2, 1) := by decide +kernel
theorem dX11_kind_15 : decode cX11_kind 15 = .ok (.tableswitch 102 0 4 #[33, 43, 53, 62, 86], 33) := by decide +kernel
theorem dX11_kind_48 : decode cX11_kind 48 = .ok (.aload_n 0, 1) := by decide +kernel
theorem dX11_kind_49 : decode cX11_kind 49 = .ok (.getfield 16, 3) := by decide +kernel
theorem dX11_kind_52 : decode cX11_kind 52 = .ok (.getfield 180, 3) := by decide +kernel
theorem dX11_kind_55 : decode cX11_kind 55 = .ok (.iload_n 1, 1) := by decide +kernel
theorem dX11_kind_56 : decode cX11_kind 56 = .ok (.iaload, 1) := by decide +kernel
theorem dX11_kind_57 : decode cX11_kind 57 = .ok (.ireturn, 1) := by decide +kernel
theorem dX11_kind_58 : decode cX11_kind 58 = .ok (.aload_n 0, 1) := by decide +kernel
theorem dX11_kind_59 : decode cX11_kind 59 = .ok (.getfield 16, 3) := by decide +kernel
theorem dX11_kind_62 : decode cX11_kind 62 = .ok (.getfield 183, 3) := by decide +kernel
theorem dX11_kind_65 : decode cX11_kind 65 = .ok (.iload_n 1, 1) := by decide +kernel
theorem dX11_kind_66 : decode cX11_kind 66 = .ok (.iaload, 1) := by decide +kernel
theorem dX11_kind_67 : decode cX11_kind 67 = .ok (.ireturn, 1) := by decide +kernel
theorem dX11_kind_68 : decode cX11_kind 68 = .ok (.aload_n 0, 1) := by decide +kernel
theorem dX11_kind_69 : decode cX11_kind 69 = .ok (.getfield 16, 3) := by decide +kernel
theorem dX11_kind_72 : decode cX11_kind 72 = .ok (.iload_n 1, 1) := by decide +kernel
theorem dX11_kind_73 : decode cX11_kind 73 = .ok (.invokevirtual 186, 3) := by decide +kernel
theorem dX11_kind_76 : decode cX11_kind 76 = .ok (.ireturn, 1) := by decide +kernel
theorem dX11_kind_77 : decode cX11_kind 77 = .ok (.aload_n 0, 1) := by decide +kernel
theorem dX11_kind_78 : decode cX11_kind 78 = .ok (.getfield 16, 3) := by decide +kernel
theorem dX11_kind_81 : decode cX11_kind 81 = .ok (.iload_n 1, 1) := by decide +kernel
theorem dX11_kind_82 : decode cX11_kind 82 = .ok (.aload_n 0, 1) := by decide +kernel
theorem dX11_kind_83 : decode cX11_kind 83 = .ok (.getfield 26, 3) := by decide +kernel
theorem dX11_kind_86 : decode cX11_kind 86 = .ok (.getfield 140, 3) := by decide +kernel
theorem dX11_kind_89 : decode cX11_kind 89 = .ok (.invokevirtual 189, 3) := by decide +kernel
theorem dX11_kind_92 : decode cX11_kind 92 = .ok (.ifCond .ne 7, 3) := by decide +kernel
theorem dX11_kind_95 : decode cX11_kind 95 = .ok (.iconst 1, 1) := by decide +kernel
theorem dX11_kind_96 : decode cX11_kind 96 = .ok (.goto 4, 3) := by decide +kernel
theorem dX11_kind_99 : decode cX11_kind 99 = .ok (.iconst 0, 1) := by decide +kernel
theorem dX11_kind_100 : decode cX11_kind 100 = .ok (.ireturn, 1) := by decide +kernel
theorem dX11_kind_101 : decode cX11_kind 101 = .ok (.aload_n 0, 1) := by decide +kernel
theorem dX11_kind_102 : decode cX11_kind 102 = .ok (.getfield 16, 3) := by decide +kernel
theorem dX11_kind_105 : decode cX11_kind 105 = .ok (.iload_n 1, 1) := by decide +kernel
theorem dX11_kind_106 : decode cX11_kind 106 = .ok (.aload_n 0, 1) := by decide +kernel
theorem dX11_kind_107 : decode cX11_kind 107 = .ok (.getfield 26, 3) := by decide +kernel
theorem dX11_kind_110 : decode cX11_kind 110 = .ok (.getfield 140, 3) := by decide +kernel
theorem dX11_kind_113 : decode cX11_kind 113 = .ok (.invokevirtual 189, 3) := by decide +kernel
theorem dX11_kind_116 : decode cX11_kind 116 = .ok (.ireturn, 1) := by decide +kernel
theorem dX11_kind_117 : decode cX11_kind 117 = .ok (.iconst (-1), 1) := by decide +kernel
theorem dX11_kind_118 : decode cX11_kind 118 = .ok (.ireturn, 1) := by decide +kernel
theorem dX11_tool_0 : decode cX11_tool 0 = .ok (.aload_n 0, 1) := by decide +kernel
theorem dX11_tool_1 : decode cX11_tool 1 = .ok (.getfield 16, 3) := by decide +kernel
theorem dX11_tool_4 : decode cX11_tool 4 = .ok (.iconst 1, 1) := by decide +kernel
theorem dX11_tool_5 : decode cX11_tool 5 = .ok (.iload_n 1, 1) := by decide +kernel
theorem dX11_tool_6 : decode cX11_tool 6 = .ok (.invokevirtual 169, 3) := by decide +kernel
theorem dX11_tool_9 : decode cX11_tool 9 = .ok (.ifCond .ne 5, 3) := by decide +kernel
theorem dX11_tool_12 : decode cX11_tool 12 = .ok (.iconst (-1), 1) := by decide +kernel
theorem dX11_tool_13 : decode cX11_tool 13 = .ok (.ireturn, 1) := by decide +kernel
theorem dX11_tool_14 : decode cX11_tool 14 = .ok (.iload_n 2, 1) := by decide +kernel
theorem dX11_tool_15 : decode cX11_tool 15 = .ok (.tableswitch 73 0 3 #[29, 39, 49, 61], 29) := by decide +kernel
theorem dX11_tool_44 : decode cX11_tool 44 = .ok (.aload_n 0, 1) := by decide +kernel
theorem dX11_tool_45 : decode cX11_tool 45 = .ok (.getfield 16, 3) := by decide +kernel
theorem dX11_tool_48 : decode cX11_tool 48 = .ok (.getfield 192, 3) := by decide +kernel
theorem dX11_tool_51 : decode cX11_tool 51 = .ok (.iload_n 1, 1) := by decide +kernel
theorem dX11_tool_52 : decode cX11_tool 52 = .ok (.iaload, 1) := by decide +kernel
theorem dX11_tool_53 : decode cX11_tool 53 = .ok (.ireturn, 1) := by decide +kernel
theorem dX11_tool_54 : decode cX11_tool 54 = .ok (.aload_n 0, 1) := by decide +kernel
theorem dX11_tool_55 : decode cX11_tool 55 = .ok (.getfield 26, 3) := by decide +kernel
theorem dX11_tool_58 : decode cX11_tool 58 = .ok (.getfield 195, 3) := by decide +kernel
theorem dX11_tool_61 : decode cX11_tool 61 = .ok (.iload_n 1, 1) := by decide +kernel
theorem dX11_tool_62 : decode cX11_tool 62 = .ok (.iaload, 1) := by decide +kernel
theorem dX11_tool_63 : decode cX11_tool 63 = .ok (.ireturn, 1) := by decide +kernel
theorem dX11_tool_64 : decode cX11_tool 64 = .ok (.aload_n 0, 1) := by decide +kernel
theorem dX11_tool_65 : decode cX11_tool 65 = .ok (.getfield 26, 3) := by decide +kernel
theorem dX11_tool_68 : decode cX11_tool 68 = .ok (.getfield 146, 3) := by decide +kernel
theorem dX11_tool_71 : decode cX11_tool 71 = .ok (.iload_n 1, 1) := by decide +kernel
theorem dX11_tool_72 : decode cX11_tool 72 = .ok (.ishr, 1) := by decide +kernel
theorem dX11_tool_73 : decode cX11_tool 73 = .ok (.iconst 1, 1) := by decide +kernel
theorem dX11_tool_74 : decode cX11_tool 74 = .ok (.iand, 1) := by decide +kernel
theorem dX11_tool_75 : decode cX11_tool 75 = .ok (.ireturn, 1) := by decide +kernel
theorem dX11_tool_76 : decode cX11_tool 76 = .ok (.aload_n 0, 1) := by decide +kernel
theorem dX11_tool_77 : decode cX11_tool 77 = .ok (.getfield 26, 3) := by decide +kernel
theorem dX11_tool_80 : decode cX11_tool 80 = .ok (.getfield 154, 3) := by decide +kernel
theorem dX11_tool_83 : decode cX11_tool 83 = .ok (.iload_n 1, 1) := by decide +kernel
theorem dX11_tool_84 : decode cX11_tool 84 = .ok (.ishr, 1) := by decide +kernel
theorem dX11_tool_85 : decode cX11_tool 85 = .ok (.iconst 1, 1) := by decide +kernel
theorem dX11_tool_86 : decode cX11_tool 86 = .ok (.iand, 1) := by decide +kernel
theorem dX11_tool_87 : decode cX11_tool 87 = .ok (.ireturn, 1) := by decide +kernel
theorem dX11_tool_88 : decode cX11_tool 88 = .ok (.iconst (-1), 1) := by decide +kernel
theorem dX11_tool_89 : decode cX11_tool 89 = .ok (.ireturn, 1) := by decide +kernel
theorem dX11_knows_0 : decode cX11_knows 0 = .ok (.aload_n 0, 1) := by decide +kernel
theorem dX11_knows_1 : decode cX11_knows 1 = .ok (.getfield 16, 3) := by decide +kernel
theorem dX11_knows_4 : decode cX11_knows 4 = .ok (.iconst 2, 1) := by decide +kernel
theorem dX11_knows_5 : decode cX11_knows 5 = .ok (.iload_n 1, 1) := by decide +kernel
theorem dX11_knows_6 : decode cX11_knows 6 = .ok (.invokevirtual 169, 3) := by decide +kernel
theorem dX11_knows_9 : decode cX11_knows 9 = .ok (.ifCond .eq 15, 3) := by decide +kernel
theorem dX11_knows_12 : decode cX11_knows 12 = .ok (.aload_n 0, 1) := by decide +kernel
theorem dX11_knows_13 : decode cX11_knows 13 = .ok (.getfield 16, 3) := by decide +kernel
theorem dX11_knows_16 : decode cX11_knows 16 = .ok (.iconst 1, 1) := by decide +kernel
theorem dX11_knows_17 : decode cX11_knows 17 = .ok (.iload_n 2, 1) := by decide +kernel
theorem dX11_knows_18 : decode cX11_knows 18 = .ok (.invokevirtual 169, 3) := by decide +kernel
theorem dX11_knows_21 : decode cX11_knows 21 = .ok (.ifCond .ne 5, 3) := by decide +kernel
theorem dX11_knows_24 : decode cX11_knows 24 = .ok (.iconst (-1), 1) := by decide +kernel
theorem dX11_knows_25 : decode cX11_knows 25 = .ok (.ireturn, 1) := by decide +kernel
theorem dX11_knows_26 : decode cX11_knows 26 = .ok (.aload_n 0, 1) := by decide +kernel
theorem dX11_knows_27 : decode cX11_knows 27 = .ok (.getfield 26, 3) := by decide +kernel
theorem dX11_knows_30 : decode cX11_knows 30 = .ok (.iload_n 1, 1) := by decide +kernel
theorem dX11_knows_31 : decode cX11_knows 31 = .ok (.iload_n 2, 1) := by decide +kernel
theorem dX11_knows_32 : decode cX11_knows 32 = .ok (.invokevirtual 198, 3) := by decide +kernel
theorem dX11_knows_35 : decode cX11_knows 35 = .ok (.ireturn, 1) := by decide +kernel
theorem dX11_job_0 : decode cX11_job 0 = .ok (.aload_n 0, 1) := by decide +kernel
theorem dX11_job_1 : decode cX11_job 1 = .ok (.getfield 16, 3) := by decide +kernel
theorem dX11_job_4 : decode cX11_job 4 = .ok (.iconst 3, 1) := by decide +kernel
theorem dX11_job_5 : decode cX11_job 5 = .ok (.iload_n 1, 1) := by decide +kernel
theorem dX11_job_6 : decode cX11_job 6 = .ok (.invokevirtual 169, 3) := by decide +kernel
theorem dX11_job_9 : decode cX11_job 9 = .ok (.ifCond .ne 5, 3) := by decide +kernel
theorem dX11_job_12 : decode cX11_job 12 = .ok (.iconst (-1), 1) := by decide +kernel
theorem dX11_job_13 : decode cX11_job 13 = .ok (.ireturn, 1) := by decide +kernel
theorem dX11_job_14 : decode cX11_job 14 = .ok (.iload_n 2, 1) := by decide +kernel
theorem dX11_job_15 : decode cX11_job 15 = .ok (.tableswitch 72 0 3 #[29, 39, 49, 59], 29) := by decide +kernel
theorem dX11_job_44 : decode cX11_job 44 = .ok (.aload_n 0, 1) := by decide +kernel
theorem dX11_job_45 : decode cX11_job 45 = .ok (.getfield 26, 3) := by decide +kernel
theorem dX11_job_48 : decode cX11_job 48 = .ok (.getfield 201, 3) := by decide +kernel
theorem dX11_job_51 : decode cX11_job 51 = .ok (.iload_n 1, 1) := by decide +kernel
theorem dX11_job_52 : decode cX11_job 52 = .ok (.iaload, 1) := by decide +kernel
theorem dX11_job_53 : decode cX11_job 53 = .ok (.ireturn, 1) := by decide +kernel
theorem dX11_job_54 : decode cX11_job 54 = .ok (.aload_n 0, 1) := by decide +kernel
theorem dX11_job_55 : decode cX11_job 55 = .ok (.getfield 16, 3) := by decide +kernel
theorem dX11_job_58 : decode cX11_job 58 = .ok (.getfield 204, 3) := by decide +kernel
theorem dX11_job_61 : decode cX11_job 61 = .ok (.iload_n 1, 1) := by decide +kernel
theorem dX11_job_62 : decode cX11_job 62 = .ok (.iaload, 1) := by decide +kernel
theorem dX11_job_63 : decode cX11_job 63 = .ok (.ireturn, 1) := by decide +kernel
theorem dX11_job_64 : decode cX11_job 64 = .ok (.aload_n 0, 1) := by decide +kernel
theorem dX11_job_65 : decode cX11_job 65 = .ok (.getfield 26, 3) := by decide +kernel
theorem dX11_job_68 : decode cX11_job 68 = .ok (.getfield 207, 3) := by decide +kernel
theorem dX11_job_71 : decode cX11_job 71 = .ok (.iload_n 1, 1) := by decide +kernel
theorem dX11_job_72 : decode cX11_job 72 = .ok (.iaload, 1) := by decide +kernel
theorem dX11_job_73 : decode cX11_job 73 = .ok (.ireturn, 1) := by decide +kernel
theorem dX11_job_74 : decode cX11_job 74 = .ok (.aload_n 0, 1) := by decide +kernel
theorem dX11_job_75 : decode cX11_job 75 = .ok (.getfield 26, 3) := by decide +kernel
theorem dX11_job_78 : decode cX11_job 78 = .ok (.iload_n 1, 1) := by decide +kernel
theorem dX11_job_79 : decode cX11_job 79 = .ok (.aload_n 0, 1) := by decide +kernel
theorem dX11_job_80 : decode cX11_job 80 = .ok (.getfield 16, 3) := by decide +kernel
theorem dX11_job_83 : decode cX11_job 83 = .ok (.invokevirtual 210, 3) := by decide +kernel
theorem dX11_job_86 : decode cX11_job 86 = .ok (.ireturn, 1) := by decide +kernel
theorem dX11_job_87 : decode cX11_job 87 = .ok (.iload_n 2, 1) := by decide +kernel
theorem dX11_job_88 : decode cX11_job 88 = .ok (.bipush 20, 2) := by decide +kernel
theorem dX11_job_90 : decode cX11_job 90 = .ok (.if_icmp .ge 18, 3) := by decide +kernel
theorem dX11_job_93 : decode cX11_job 93 = .ok (.aload_n 0, 1) := by decide +kernel
theorem dX11_job_94 : decode cX11_job 94 = .ok (.getfield 16, 3) := by decide +kernel
theorem dX11_job_97 : decode cX11_job 97 = .ok (.iload_n 1, 1) := by decide +kernel
theorem dX11_job_98 : decode cX11_job 98 = .ok (.iload_n 2, 1) := by decide +kernel
theorem dX11_job_99 : decode cX11_job 99 = .ok (.bipush 10, 2) := by decide +kernel
theorem dX11_job_101 : decode cX11_job 101 = .ok (.isub, 1) := by decide +kernel
theorem dX11_job_102 : decode cX11_job 102 = .ok (.invokevirtual 214, 3) := by decide +kernel
theorem dX11_job_105 : decode cX11_job 105 = .ok (.goto 15, 3) := by decide +kernel
theorem dX11_job_108 : decode cX11_job 108 = .ok (.aload_n 0, 1) := by decide +kernel
theorem dX11_job_109 : decode cX11_job 109 = .ok (.getfield 16, 3) := by decide +kernel
theorem dX11_job_112 : decode cX11_job 112 = .ok (.iload_n 1, 1) := by decide +kernel
theorem dX11_job_113 : decode cX11_job 113 = .ok (.iload_n 2, 1) := by decide +kernel
theorem dX11_job_114 : decode cX11_job 114 = .ok (.bipush 20, 2) := by decide +kernel
theorem dX11_job_116 : decode cX11_job 116 = .ok (.isub, 1) := by decide +kernel
theorem dX11_job_117 : decode cX11_job 117 = .ok (.invokevirtual 217, 3) := by decide +kernel
theorem dX11_job_120 : decode cX11_job 120 = .ok (.ireturn, 1) := by decide +kernel
theorem dX11_later_0 : decode cX11_later 0 = .ok (.iload_n 2, 1) := by decide +kernel
theorem dX11_later_1 : decode cX11_later 1 = .ok (.iconst (-1), 1) := by decide +kernel
theorem dX11_later_2 : decode cX11_later 2 = .ok (.if_icmp .eq 15, 3) := by decide +kernel
theorem dX11_later_5 : decode cX11_later 5 = .ok (.aload_n 0, 1) := by decide +kernel
theorem dX11_later_6 : decode cX11_later 6 = .ok (.getfield 16, 3) := by decide +kernel
theorem dX11_later_9 : decode cX11_later 9 = .ok (.iconst 3, 1) := by decide +kernel
theorem dX11_later_10 : decode cX11_later 10 = .ok (.iload_n 2, 1) := by decide +kernel
theorem dX11_later_11 : decode cX11_later 11 = .ok (.invokevirtual 169, 3) := by decide +kernel
theorem dX11_later_14 : decode cX11_later 14 = .ok (.ifCond .eq 7, 3) := by decide +kernel
theorem dX11_later_17 : decode cX11_later 17 = .ok (.iconst 1, 1) := by decide +kernel
theorem dX11_later_18 : decode cX11_later 18 = .ok (.goto 4, 3) := by decide +kernel
theorem dX11_later_21 : decode cX11_later 21 = .ok (.iconst 0, 1) := by decide +kernel
theorem dX11_later_22 : decode cX11_later 22 = .ok (.istore_n 3, 1) := by decide +kernel
theorem dX11_later_23 : decode cX11_later 23 = .ok (.iload_n 3, 1) := by decide +kernel
theorem dX11_later_24 : decode cX11_later 24 = .ok (.ifCond .eq 17, 3) := by decide +kernel
theorem dX11_later_27 : decode cX11_later 27 = .ok (.iload_n 1, 1) := by decide +kernel
theorem dX11_later_28 : decode cX11_later 28 = .ok (.ifCond .eq 15, 3) := by decide +kernel
theorem dX11_later_31 : decode cX11_later 31 = .ok (.aload_n 0, 1) := by decide +kernel
theorem dX11_later_32 : decode cX11_later 32 = .ok (.iload_n 1, 1) := by decide +kernel
theorem dX11_later_33 : decode cX11_later 33 = .ok (.bipush 100, 2) := by decide +kernel
theorem dX11_later_35 : decode cX11_later 35 = .ok (.invokevirtual 220, 3) := by decide +kernel
theorem dX11_later_38 : decode cX11_later 38 = .ok (.ifCond .ne 5, 3) := by decide +kernel
theorem dX11_later_41 : decode cX11_later 41 = .ok (.iconst (-1), 1) := by decide +kernel
theorem dX11_later_42 : decode cX11_later 42 = .ok (.ireturn, 1) := by decide +kernel
theorem dX11_later_43 : decode cX11_later 43 = .ok (.aload_n 0, 1) := by decide +kernel
theorem dX11_later_44 : decode cX11_later 44 = .ok (.getfield 49, 3) := by decide +kernel
theorem dX11_later_47 : decode cX11_later 47 = .ok (.iload_n 1, 1) := by decide +kernel
theorem dX11_later_48 : decode cX11_later 48 = .ok (.iload_n 2, 1) := by decide +kernel
theorem dX11_later_49 : decode cX11_later 49 = .ok (.invokevirtual 223, 3) := by decide +kernel
theorem dX11_later_52 : decode cX11_later 52 = .ok (.ireturn, 1) := by decide +kernel
theorem dX11_done_0 : decode cX11_done 0 = .ok (.aload_n 0, 1) := by decide +kernel
theorem dX11_done_1 : decode cX11_done 1 = .ok (.getfield 16, 3) := by decide +kernel
theorem dX11_done_4 : decode cX11_done 4 = .ok (.iconst 3, 1) := by decide +kernel
theorem dX11_done_5 : decode cX11_done 5 = .ok (.iload_n 1, 1) := by decide +kernel
theorem dX11_done_6 : decode cX11_done 6 = .ok (.invokevirtual 169, 3) := by decide +kernel
theorem dX11_done_9 : decode cX11_done 9 = .ok (.ifCond .ne 5, 3) := by decide +kernel
theorem dX11_done_12 : decode cX11_done 12 = .ok (.iconst (-1), 1) := by decide +kernel
theorem dX11_done_13 : decode cX11_done 13 = .ok (.ireturn, 1) := by decide +kernel
theorem dX11_done_14 : decode cX11_done 14 = .ok (.aload_n 0, 1) := by decide +kernel
theorem dX11_done_15 : decode cX11_done 15 = .ok (.getfield 49, 3) := by decide +kernel
theorem dX11_done_18 : decode cX11_done 18 = .ok (.iload_n 1, 1) := by decide +kernel
theorem dX11_done_19 : decode cX11_done 19 = .ok (.bipush 100, 2) := by decide +kernel
theorem dX11_done_21 : decode cX11_done 21 = .ok (.sipush 999, 3) := by decide +kernel
theorem dX11_done_24 : decode cX11_done 24 = .ok (.aload_n 0, 1) := by decide +kernel
theorem dX11_done_25 : decode cX11_done 25 = .ok (.getfield 26, 3) := by decide +kernel
theorem dX11_done_28 : decode cX11_done 28 = .ok (.getfield 140, 3) := by decide +kernel
theorem dX11_done_31 : decode cX11_done 31 = .ok (.isub, 1) := by decide +kernel
theorem dX11_done_32 : decode cX11_done 32 = .ok (.invokestatic 226, 3) := by decide +kernel
theorem dX11_done_35 : decode cX11_done 35 = .ok (.invokevirtual 231, 3) := by decide +kernel
theorem dX11_done_38 : decode cX11_done 38 = .ok (.ireturn, 1) := by decide +kernel
theorem dX11_late_0 : decode cX11_late 0 = .ok (.aload_n 0, 1) := by decide +kernel
theorem dX11_late_1 : decode cX11_late 1 = .ok (.iload_n 1, 1) := by decide +kernel
theorem dX11_late_2 : decode cX11_late 2 = .ok (.bipush 100, 2) := by decide +kernel
theorem dX11_late_4 : decode cX11_late 4 = .ok (.invokevirtual 220, 3) := by decide +kernel
theorem dX11_late_7 : decode cX11_late 7 = .ok (.ifCond .eq 14, 3) := by decide +kernel
theorem dX11_late_10 : decode cX11_late 10 = .ok (.aload_n 0, 1) := by decide +kernel
theorem dX11_late_11 : decode cX11_late 11 = .ok (.getfield 49, 3) := by decide +kernel
theorem dX11_late_14 : decode cX11_late 14 = .ok (.iload_n 1, 1) := by decide +kernel
theorem dX11_late_15 : decode cX11_late 15 = .ok (.invokevirtual 234, 3) := by decide +kernel
theorem dX11_late_18 : decode cX11_late 18 = .ok (.goto 4, 3) := by decide +kernel
theorem dX11_late_21 : decode cX11_late 21 = .ok (.iconst (-1), 1) := by decide +kernel
theorem dX11_late_22 : decode cX11_late 22 = .ok (.ireturn, 1) := by decide +kernel
theorem dX11_order_0 : decode cX11_order 0 = .ok (.iload_n 2, 1) := by decide +kernel
theorem dX11_order_1 : decode cX11_order 1 = .ok (.iconst (-1), 1) := by decide +kernel
theorem dX11_order_2 : decode cX11_order 2 = .ok (.if_icmp .eq 15, 3) := by decide +kernel
theorem dX11_order_5 : decode cX11_order 5 = .ok (.aload_n 0, 1) := by decide +kernel
theorem dX11_order_6 : decode cX11_order 6 = .ok (.getfield 16, 3) := by decide +kernel
theorem dX11_order_9 : decode cX11_order 9 = .ok (.iconst 3, 1) := by decide +kernel
theorem dX11_order_10 : decode cX11_order 10 = .ok (.iload_n 2, 1) := by decide +kernel
theorem dX11_order_11 : decode cX11_order 11 = .ok (.invokevirtual 169, 3) := by decide +kernel
theorem dX11_order_14 : decode cX11_order 14 = .ok (.ifCond .eq 7, 3) := by decide +kernel
theorem dX11_order_17 : decode cX11_order 17 = .ok (.iconst 1, 1) := by decide +kernel
theorem dX11_order_18 : decode cX11_order 18 = .ok (.goto 4, 3) := by decide +kernel
theorem dX11_order_21 : decode cX11_order 21 = .ok (.iconst 0, 1) := by decide +kernel
theorem dX11_order_22 : decode cX11_order 22 = .ok (.istore_n 3, 1) := by decide +kernel
theorem dX11_order_23 : decode cX11_order 23 = .ok (.iload_n 3, 1) := by decide +kernel
theorem dX11_order_24 : decode cX11_order 24 = .ok (.ifCond .eq 13, 3) := by decide +kernel
theorem dX11_order_27 : decode cX11_order 27 = .ok (.aload_n 0, 1) := by decide +kernel
theorem dX11_order_28 : decode cX11_order 28 = .ok (.iload_n 1, 1) := by decide +kernel
theorem dX11_order_29 : decode cX11_order 29 = .ok (.bipush 30, 2) := by decide +kernel
theorem dX11_order_31 : decode cX11_order 31 = .ok (.invokevirtual 220, 3) := by decide +kernel
theorem dX11_order_34 : decode cX11_order 34 = .ok (.ifCond .ne 5, 3) := by decide +kernel
theorem dX11_order_37 : decode cX11_order 37 = .ok (.iconst (-1), 1) := by decide +kernel
theorem dX11_order_38 : decode cX11_order 38 = .ok (.ireturn, 1) := by decide +kernel
theorem dX11_order_39 : decode cX11_order 39 = .ok (.aload_n 0, 1) := by decide +kernel
theorem dX11_order_40 : decode cX11_order 40 = .ok (.getfield 49, 3) := by decide +kernel
theorem dX11_order_43 : decode cX11_order 43 = .ok (.iload_n 1, 1) := by decide +kernel
theorem dX11_order_44 : decode cX11_order 44 = .ok (.invokevirtual 237, 3) := by decide +kernel
theorem dX11_order_47 : decode cX11_order 47 = .ok (.iload_n 2, 1) := by decide +kernel
theorem dX11_order_48 : decode cX11_order 48 = .ok (.iconst (-1), 1) := by decide +kernel
theorem dX11_order_49 : decode cX11_order 49 = .ok (.if_icmp .ne 13, 3) := by decide +kernel
theorem dX11_order_52 : decode cX11_order 52 = .ok (.aload_n 0, 1) := by decide +kernel
theorem dX11_order_53 : decode cX11_order 53 = .ok (.getfield 49, 3) := by decide +kernel
theorem dX11_order_56 : decode cX11_order 56 = .ok (.getfield 240, 3) := by decide +kernel
theorem dX11_order_59 : decode cX11_order 59 = .ok (.goto 12, 3) := by decide +kernel
theorem dX11_order_62 : decode cX11_order 62 = .ok (.aload_n 0, 1) := by decide +kernel
theorem dX11_order_63 : decode cX11_order 63 = .ok (.getfield 49, 3) := by decide +kernel
theorem dX11_order_66 : decode cX11_order 66 = .ok (.getfield 243, 3) := by decide +kernel
theorem dX11_order_69 : decode cX11_order 69 = .ok (.iload_n 2, 1) := by decide +kernel
theorem dX11_order_70 : decode cX11_order 70 = .ok (.iaload, 1) := by decide +kernel
theorem dX11_order_71 : decode cX11_order 71 = .ok (.ireturn, 1) := by decide +kernel
theorem dX11_moved_0 : decode cX11_moved 0 = .ok (.aload_n 0, 1) := by decide +kernel
theorem dX11_moved_1 : decode cX11_moved 1 = .ok (.iload_n 1, 1) := by decide +kernel
theorem dX11_moved_2 : decode cX11_moved 2 = .ok (.bipush 60, 2) := by decide +kernel
theorem dX11_moved_4 : decode cX11_moved 4 = .ok (.invokevirtual 220, 3) := by decide +kernel
theorem dX11_moved_7 : decode cX11_moved 7 = .ok (.ifCond .ne 5, 3) := by decide +kernel
theorem dX11_moved_10 : decode cX11_moved 10 = .ok (.iconst (-1), 1) := by decide +kernel
theorem dX11_moved_11 : decode cX11_moved 11 = .ok (.ireturn, 1) := by decide +kernel
theorem dX11_moved_12 : decode cX11_moved 12 = .ok (.aload_n 0, 1) := by decide +kernel
theorem dX11_moved_13 : decode cX11_moved 13 = .ok (.getfield 49, 3) := by decide +kernel
theorem dX11_moved_16 : decode cX11_moved 16 = .ok (.iload_n 1, 1) := by decide +kernel
theorem dX11_moved_17 : decode cX11_moved 17 = .ok (.invokevirtual 246, 3) := by decide +kernel
theorem dX11_moved_20 : decode cX11_moved 20 = .ok (.aload_n 0, 1) := by decide +kernel
theorem dX11_moved_21 : decode cX11_moved 21 = .ok (.getfield 49, 3) := by decide +kernel
theorem dX11_moved_24 : decode cX11_moved 24 = .ok (.getfield 249, 3) := by decide +kernel
theorem dX11_moved_27 : decode cX11_moved 27 = .ok (.iconst (-1), 1) := by decide +kernel
theorem dX11_moved_28 : decode cX11_moved 28 = .ok (.if_icmp .ne 5, 3) := by decide +kernel
theorem dX11_moved_31 : decode cX11_moved 31 = .ok (.iconst (-1), 1) := by decide +kernel
theorem dX11_moved_32 : decode cX11_moved 32 = .ok (.ireturn, 1) := by decide +kernel
theorem dX11_moved_33 : decode cX11_moved 33 = .ok (.iload_n 2, 1) := by decide +kernel
theorem dX11_moved_34 : decode cX11_moved 34 = .ok (.tableswitch 50 0 2 #[26, 34, 42], 26) := by decide +kernel
theorem dX11_moved_60 : decode cX11_moved 60 = .ok (.aload_n 0, 1) := by decide +kernel
theorem dX11_moved_61 : decode cX11_moved 61 = .ok (.getfield 49, 3) := by decide +kernel
theorem dX11_moved_64 : decode cX11_moved 64 = .ok (.getfield 249, 3) := by decide +kernel
theorem dX11_moved_67 : decode cX11_moved 67 = .ok (.ireturn, 1) := by decide +kernel
theorem dX11_moved_68 : decode cX11_moved 68 = .ok (.aload_n 0, 1) := by decide +kernel
theorem dX11_moved_69 : decode cX11_moved 69 = .ok (.getfield 49, 3) := by decide +kernel
theorem dX11_moved_72 : decode cX11_moved 72 = .ok (.getfield 252, 3) := by decide +kernel
theorem dX11_moved_75 : decode cX11_moved 75 = .ok (.ireturn, 1) := by decide +kernel
theorem dX11_moved_76 : decode cX11_moved 76 = .ok (.aload_n 0, 1) := by decide +kernel
theorem dX11_moved_77 : decode cX11_moved 77 = .ok (.getfield 49, 3) := by decide +kernel
theorem dX11_moved_80 : decode cX11_moved 80 = .ok (.getfield 255, 3) := by decide +kernel
theorem dX11_moved_83 : decode cX11_moved 83 = .ok (.ireturn, 1) := by decide +kernel
theorem dX11_moved_84 : decode cX11_moved 84 = .ok (.iconst (-1), 1) := by decide +kernel
theorem dX11_moved_85 : decode cX11_moved 85 = .ok (.ireturn, 1) := by decide +kernel
theorem dX11_makeshift_0 : decode cX11_makeshift 0 = .ok (.aload_n 0, 1) := by decide +kernel
theorem dX11_makeshift_1 : decode cX11_makeshift 1 = .ok (.getfield 16, 3) := by decide +kernel
theorem dX11_makeshift_4 : decode cX11_makeshift 4 = .ok (.iconst 0, 1) := by decide +kernel
theorem dX11_makeshift_5 : decode cX11_makeshift 5 = .ok (.iload_n 1, 1) := by decide +kernel
theorem dX11_makeshift_6 : decode cX11_makeshift 6 = .ok (.invokevirtual 169, 3) := by decide +kernel
theorem dX11_makeshift_9 : decode cX11_makeshift 9 = .ok (.ifCond .eq 20, 3) := by decide +kernel
theorem dX11_makeshift_12 : decode cX11_makeshift 12 = .ok (.aload_n 0, 1) := by decide +kernel
theorem dX11_makeshift_13 : decode cX11_makeshift 13 = .ok (.getfield 16, 3) := by decide +kernel
theorem dX11_makeshift_16 : decode cX11_makeshift 16 = .ok (.iconst 0, 1) := by decide +kernel
theorem dX11_makeshift_17 : decode cX11_makeshift 17 = .ok (.iload_n 2, 1) := by decide +kernel
theorem dX11_makeshift_18 : decode cX11_makeshift 18 = .ok (.invokevirtual 169, 3) := by decide +kernel
theorem dX11_makeshift_21 : decode cX11_makeshift 21 = .ok (.ifCond .eq 8, 3) := by decide +kernel
theorem dX11_makeshift_24 : decode cX11_makeshift 24 = .ok (.iload_n 3, 1) := by decide +kernel
theorem dX11_makeshift_25 : decode cX11_makeshift 25 = .ok (.iconst (-1), 1) := by decide +kernel
theorem dX11_makeshift_26 : decode cX11_makeshift 26 = .ok (.if_icmp .ge 5, 3) := by decide +kernel
theorem dX11_makeshift_29 : decode cX11_makeshift 29 = .ok (.iconst (-1), 1) := by decide +kernel
theorem dX11_makeshift_30 : decode cX11_makeshift 30 = .ok (.ireturn, 1) := by decide +kernel
theorem dX11_makeshift_31 : decode cX11_makeshift 31 = .ok (.aload_n 0, 1) := by decide +kernel
theorem dX11_makeshift_32 : decode cX11_makeshift 32 = .ok (.getfield 16, 3) := by decide +kernel
theorem dX11_makeshift_35 : decode cX11_makeshift 35 = .ok (.iload_n 1, 1) := by decide +kernel
theorem dX11_makeshift_36 : decode cX11_makeshift 36 = .ok (.invokevirtual 258, 3) := by decide +kernel
theorem dX11_makeshift_39 : decode cX11_makeshift 39 = .ok (.iload_n 3, 1) := by decide +kernel
theorem dX11_makeshift_40 : decode cX11_makeshift 40 = .ok (.iconst (-1), 1) := by decide +kernel
theorem dX11_makeshift_41 : decode cX11_makeshift 41 = .ok (.if_icmp .ne 14, 3) := by decide +kernel
theorem dX11_makeshift_44 : decode cX11_makeshift 44 = .ok (.aload_n 0, 1) := by decide +kernel
theorem dX11_makeshift_45 : decode cX11_makeshift 45 = .ok (.getfield 16, 3) := by decide +kernel
theorem dX11_makeshift_48 : decode cX11_makeshift 48 = .ok (.iload_n 2, 1) := by decide +kernel
theorem dX11_makeshift_49 : decode cX11_makeshift 49 = .ok (.invokevirtual 261, 3) := by decide +kernel
theorem dX11_makeshift_52 : decode cX11_makeshift 52 = .ok (.goto 13, 3) := by decide +kernel
theorem dX11_makeshift_55 : decode cX11_makeshift 55 = .ok (.aload_n 0, 1) := by decide +kernel
theorem dX11_makeshift_56 : decode cX11_makeshift 56 = .ok (.getfield 16, 3) := by decide +kernel
theorem dX11_makeshift_59 : decode cX11_makeshift 59 = .ok (.iload_n 1, 1) := by decide +kernel
theorem dX11_makeshift_60 : decode cX11_makeshift 60 = .ok (.iload_n 2, 1) := by decide +kernel
theorem dX11_makeshift_61 : decode cX11_makeshift 61 = .ok (.iload_n 3, 1) := by decide +kernel
theorem dX11_makeshift_62 : decode cX11_makeshift 62 = .ok (.invokevirtual 264, 3) := by decide +kernel
theorem dX11_makeshift_65 : decode cX11_makeshift 65 = .ok (.ireturn, 1) := by decide +kernel
theorem dX11_hangs_0 : decode cX11_hangs 0 = .ok (.aload_n 0, 1) := by decide +kernel
theorem dX11_hangs_1 : decode cX11_hangs 1 = .ok (.getfield 16, 3) := by decide +kernel
theorem dX11_hangs_4 : decode cX11_hangs 4 = .ok (.iconst 3, 1) := by decide +kernel
theorem dX11_hangs_5 : decode cX11_hangs 5 = .ok (.iload_n 1, 1) := by decide +kernel
theorem dX11_hangs_6 : decode cX11_hangs 6 = .ok (.invokevirtual 169, 3) := by decide +kernel
theorem dX11_hangs_9 : decode cX11_hangs 9 = .ok (.ifCond .eq 13, 3) := by decide +kernel
theorem dX11_hangs_12 : decode cX11_hangs 12 = .ok (.aload_n 0, 1) := by decide +kernel
theorem dX11_hangs_13 : decode cX11_hangs 13 = .ok (.iload_n 2, 1) := by decide +kernel
theorem dX11_hangs_14 : decode cX11_hangs 14 = .ok (.bipush 60, 2) := by decide +kernel
theorem dX11_hangs_16 : decode cX11_hangs 16 = .ok (.invokevirtual 220, 3) := by decide +kernel
theorem dX11_hangs_19 : decode cX11_hangs 19 = .ok (.ifCond .ne 5, 3) := by decide +kernel
theorem dX11_hangs_22 : decode cX11_hangs 22 = .ok (.iconst (-1), 1) := by decide +kernel
theorem dX11_hangs_23 : decode cX11_hangs 23 = .ok (.ireturn, 1) := by decide +kernel
theorem dX11_hangs_24 : decode cX11_hangs 24 = .ok (.aload_n 0, 1) := by decide +kernel
theorem dX11_hangs_25 : decode cX11_hangs 25 = .ok (.getfield 49, 3) := by decide +kernel
theorem dX11_hangs_28 : decode cX11_hangs 28 = .ok (.iload_n 1, 1) := by decide +kernel
theorem dX11_hangs_29 : decode cX11_hangs 29 = .ok (.iload_n 2, 1) := by decide +kernel
theorem dX11_hangs_30 : decode cX11_hangs 30 = .ok (.invokevirtual 268, 3) := by decide +kernel
theorem dX11_hangs_33 : decode cX11_hangs 33 = .ok (.ireturn, 1) := by decide +kernel
theorem dX11_guard_0 : decode cX11_guard 0 = .ok (.aload_n 0, 1) := by decide +kernel
theorem dX11_guard_1 : decode cX11_guard 1 = .ok (.getfield 16, 3) := by decide +kernel
theorem dX11_guard_4 : decode cX11_guard 4 = .ok (.iconst 3, 1) := by decide +kernel
theorem dX11_guard_5 : decode cX11_guard 5 = .ok (.iload_n 1, 1) := by decide +kernel
theorem dX11_guard_6 : decode cX11_guard 6 = .ok (.invokevirtual 169, 3) := by decide +kernel
theorem dX11_guard_9 : decode cX11_guard 9 = .ok (.ifCond .eq 13, 3) := by decide +kernel
theorem dX11_guard_12 : decode cX11_guard 12 = .ok (.aload_n 0, 1) := by decide +kernel
theorem dX11_guard_13 : decode cX11_guard 13 = .ok (.iload_n 2, 1) := by decide +kernel
theorem dX11_guard_14 : decode cX11_guard 14 = .ok (.bipush 30, 2) := by decide +kernel
theorem dX11_guard_16 : decode cX11_guard 16 = .ok (.invokevirtual 220, 3) := by decide +kernel
theorem dX11_guard_19 : decode cX11_guard 19 = .ok (.ifCond .ne 5, 3) := by decide +kernel
theorem dX11_guard_22 : decode cX11_guard 22 = .ok (.iconst (-1), 1) := by decide +kernel
theorem dX11_guard_23 : decode cX11_guard 23 = .ok (.ireturn, 1) := by decide +kernel
theorem dX11_guard_24 : decode cX11_guard 24 = .ok (.aload_n 0, 1) := by decide +kernel
theorem dX11_guard_25 : decode cX11_guard 25 = .ok (.getfield 49, 3) := by decide +kernel
theorem dX11_guard_28 : decode cX11_guard 28 = .ok (.iload_n 1, 1) := by decide +kernel
theorem dX11_guard_29 : decode cX11_guard 29 = .ok (.iload_n 2, 1) := by decide +kernel
theorem dX11_guard_30 : decode cX11_guard 30 = .ok (.invokevirtual 271, 3) := by decide +kernel
theorem dX11_guard_33 : decode cX11_guard 33 = .ok (.ireturn, 1) := by decide +kernel
theorem dX11_loan_0 : decode cX11_loan 0 = .ok (.aload_n 0, 1) := by decide +kernel
theorem dX11_loan_1 : decode cX11_loan 1 = .ok (.getfield 16, 3) := by decide +kernel
theorem dX11_loan_4 : decode cX11_loan 4 = .ok (.iconst 2, 1) := by decide +kernel
theorem dX11_loan_5 : decode cX11_loan 5 = .ok (.iload_n 1, 1) := by decide +kernel
theorem dX11_loan_6 : decode cX11_loan 6 = .ok (.invokevirtual 169, 3) := by decide +kernel
theorem dX11_loan_9 : decode cX11_loan 9 = .ok (.ifCond .eq 15, 3) := by decide +kernel
theorem dX11_loan_12 : decode cX11_loan 12 = .ok (.aload_n 0, 1) := by decide +kernel
theorem dX11_loan_13 : decode cX11_loan 13 = .ok (.getfield 16, 3) := by decide +kernel
theorem dX11_loan_16 : decode cX11_loan 16 = .ok (.iconst 1, 1) := by decide +kernel
theorem dX11_loan_17 : decode cX11_loan 17 = .ok (.iload_n 1, 1) := by decide +kernel
theorem dX11_loan_18 : decode cX11_loan 18 = .ok (.invokevirtual 169, 3) := by decide +kernel
theorem dX11_loan_21 : decode cX11_loan 21 = .ok (.ifCond .ne 5, 3) := by decide +kernel
theorem dX11_loan_24 : decode cX11_loan 24 = .ok (.iconst (-1), 1) := by decide +kernel
theorem dX11_loan_25 : decode cX11_loan 25 = .ok (.ireturn, 1) := by decide +kernel
theorem dX11_loan_26 : decode cX11_loan 26 = .ok (.aload_n 0, 1) := by decide +kernel
theorem dX11_loan_27 : decode cX11_loan 27 = .ok (.getfield 74, 3) := by decide +kernel
theorem dX11_loan_30 : decode cX11_loan 30 = .ok (.aload_n 0, 1) := by decide +kernel
theorem dX11_loan_31 : decode cX11_loan 31 = .ok (.getfield 16, 3) := by decide +kernel
theorem dX11_loan_34 : decode cX11_loan 34 = .ok (.aload_n 0, 1) := by decide +kernel
theorem dX11_loan_35 : decode cX11_loan 35 = .ok (.getfield 26, 3) := by decide +kernel
theorem dX11_loan_38 : decode cX11_loan 38 = .ok (.invokevirtual 274, 3) := by decide +kernel
theorem dX11_loan_41 : decode cX11_loan 41 = .ok (.iload_n 2, 1) := by decide +kernel
theorem dX11_loan_42 : decode cX11_loan 42 = .ok (.tableswitch 56 0 2 #[26, 36, 46], 26) := by decide +kernel
theorem dX11_loan_68 : decode cX11_loan 68 = .ok (.aload_n 0, 1) := by decide +kernel
theorem dX11_loan_69 : decode cX11_loan 69 = .ok (.getfield 74, 3) := by decide +kernel
theorem dX11_loan_72 : decode cX11_loan 72 = .ok (.getfield 278, 3) := by decide +kernel
theorem dX11_loan_75 : decode cX11_loan 75 = .ok (.iload_n 1, 1) := by decide +kernel
theorem dX11_loan_76 : decode cX11_loan 76 = .ok (.iaload, 1) := by decide +kernel
theorem dX11_loan_77 : decode cX11_loan 77 = .ok (.ireturn, 1) := by decide +kernel
theorem dX11_loan_78 : decode cX11_loan 78 = .ok (.aload_n 0, 1) := by decide +kernel
theorem dX11_loan_79 : decode cX11_loan 79 = .ok (.getfield 74, 3) := by decide +kernel
theorem dX11_loan_82 : decode cX11_loan 82 = .ok (.getfield 281, 3) := by decide +kernel
theorem dX11_loan_85 : decode cX11_loan 85 = .ok (.iload_n 1, 1) := by decide +kernel
theorem dX11_loan_86 : decode cX11_loan 86 = .ok (.iaload, 1) := by decide +kernel
theorem dX11_loan_87 : decode cX11_loan 87 = .ok (.ireturn, 1) := by decide +kernel
theorem dX11_loan_88 : decode cX11_loan 88 = .ok (.aload_n 0, 1) := by decide +kernel
theorem dX11_loan_89 : decode cX11_loan 89 = .ok (.getfield 74, 3) := by decide +kernel
theorem dX11_loan_92 : decode cX11_loan 92 = .ok (.getfield 282, 3) := by decide +kernel
theorem dX11_loan_95 : decode cX11_loan 95 = .ok (.iload_n 1, 1) := by decide +kernel
theorem dX11_loan_96 : decode cX11_loan 96 = .ok (.iaload, 1) := by decide +kernel
theorem dX11_loan_97 : decode cX11_loan 97 = .ok (.ireturn, 1) := by decide +kernel
theorem dX11_loan_98 : decode cX11_loan 98 = .ok (.iconst (-1), 1) := by decide +kernel
theorem dX11_loan_99 : decode cX11_loan 99 = .ok (.ireturn, 1) := by decide +kernel
theorem dX11_shavings_0 : decode cX11_shavings 0 = .ok (.aload_n 0, 1) := by decide +kernel
theorem dX11_shavings_1 : decode cX11_shavings 1 = .ok (.invokevirtual 110, 3) := by decide +kernel
theorem dX11_shavings_4 : decode cX11_shavings 4 = .ok (.istore_n 1, 1) := by decide +kernel
theorem dX11_shavings_5 : decode cX11_shavings 5 = .ok (.aload_n 0, 1) := by decide +kernel
theorem dX11_shavings_6 : decode cX11_shavings 6 = .ok (.iload_n 1, 1) := by decide +kernel
theorem dX11_shavings_7 : decode cX11_shavings 7 = .ok (.invokevirtual 285, 3) := by decide +kernel
theorem dX11_shavings_10 : decode cX11_shavings 10 = .ok (.ifCond .ne 9, 3) := by decide +kernel
theorem dX11_shavings_13 : decode cX11_shavings 13 = .ok (.aload_n 0, 1) := by decide +kernel
theorem dX11_shavings_14 : decode cX11_shavings 14 = .ok (.iconst 5, 1) := by decide +kernel
theorem dX11_shavings_15 : decode cX11_shavings 15 = .ok (.invokevirtual 98, 3) := by decide +kernel
theorem dX11_shavings_18 : decode cX11_shavings 18 = .ok (.ireturn, 1) := by decide +kernel
theorem dX11_shavings_19 : decode cX11_shavings 19 = .ok (.bipush 60, 2) := by decide +kernel
theorem dX11_shavings_21 : decode cX11_shavings 21 = .ok (.sipush 998, 3) := by decide +kernel
theorem dX11_shavings_24 : decode cX11_shavings 24 = .ok (.aload_n 0, 1) := by decide +kernel
theorem dX11_shavings_25 : decode cX11_shavings 25 = .ok (.getfield 26, 3) := by decide +kernel
theorem dX11_shavings_28 : decode cX11_shavings 28 = .ok (.getfield 140, 3) := by decide +kernel
theorem dX11_shavings_31 : decode cX11_shavings 31 = .ok (.isub, 1) := by decide +kernel
theorem dX11_shavings_32 : decode cX11_shavings 32 = .ok (.invokestatic 226, 3) := by decide +kernel
theorem dX11_shavings_35 : decode cX11_shavings 35 = .ok (.istore_n 2, 1) := by decide +kernel
theorem dX11_shavings_36 : decode cX11_shavings 36 = .ok (.aload_n 0, 1) := by decide +kernel
theorem dX11_shavings_37 : decode cX11_shavings 37 = .ok (.iconst 0, 1) := by decide +kernel
theorem dX11_shavings_38 : decode cX11_shavings 38 = .ok (.putfield 125, 3) := by decide +kernel
theorem dX11_shavings_41 : decode cX11_shavings 41 = .ok (.aload_n 0, 1) := by decide +kernel
theorem dX11_shavings_42 : decode cX11_shavings 42 = .ok (.getfield 49, 3) := by decide +kernel
theorem dX11_shavings_45 : decode cX11_shavings 45 = .ok (.invokevirtual 288, 3) := by decide +kernel
theorem dX11_shavings_48 : decode cX11_shavings 48 = .ok (.iconst 0, 1) := by decide +kernel
theorem dX11_shavings_49 : decode cX11_shavings 49 = .ok (.istore_n 3, 1) := by decide +kernel
theorem dX11_shavings_50 : decode cX11_shavings 50 = .ok (.iload_n 3, 1) := by decide +kernel
theorem dX11_shavings_51 : decode cX11_shavings 51 = .ok (.iload_n 2, 1) := by decide +kernel
theorem dX11_shavings_52 : decode cX11_shavings 52 = .ok (.if_icmp .gt 66, 3) := by decide +kernel
theorem dX11_shavings_55 : decode cX11_shavings 55 = .ok (.iload_n 3, 1) := by decide +kernel
theorem dX11_shavings_56 : decode cX11_shavings 56 = .ok (.bipush 60, 2) := by decide +kernel
theorem dX11_shavings_58 : decode cX11_shavings 58 = .ok (.if_icmp .gt 60, 3) := by decide +kernel
theorem dX11_shavings_61 : decode cX11_shavings 61 = .ok (.aload_n 0, 1) := by decide +kernel
theorem dX11_shavings_62 : decode cX11_shavings 62 = .ok (.getfield 49, 3) := by decide +kernel
theorem dX11_shavings_65 : decode cX11_shavings 65 = .ok (.invokevirtual 291, 3) := by decide +kernel
theorem dX11_shavings_68 : decode cX11_shavings 68 = .ok (.istore 4, 2) := by decide +kernel
theorem dX11_shavings_70 : decode cX11_shavings 70 = .ok (.aload_n 0, 1) := by decide +kernel
theorem dX11_shavings_71 : decode cX11_shavings 71 = .ok (.iload_n 1, 1) := by decide +kernel
theorem dX11_shavings_72 : decode cX11_shavings 72 = .ok (.iload 4, 2) := by decide +kernel
theorem dX11_shavings_74 : decode cX11_shavings 74 = .ok (.invokevirtual 294, 3) := by decide +kernel
theorem dX11_shavings_77 : decode cX11_shavings 77 = .ok (.ifCond .eq 35, 3) := by decide +kernel
theorem dX11_shavings_80 : decode cX11_shavings 80 = .ok (.aload_n 0, 1) := by decide +kernel
theorem dX11_shavings_81 : decode cX11_shavings 81 = .ok (.getfield 125, 3) := by decide +kernel
theorem dX11_shavings_84 : decode cX11_shavings 84 = .ok (.aload_n 0, 1) := by decide +kernel
theorem dX11_shavings_85 : decode cX11_shavings 85 = .ok (.getfield 85, 3) := by decide +kernel
theorem dX11_shavings_88 : decode cX11_shavings 88 = .ok (.arraylength, 1) := by decide +kernel
theorem dX11_shavings_89 : decode cX11_shavings 89 = .ok (.if_icmp .ge 23, 3) := by decide +kernel
theorem dX11_shavings_92 : decode cX11_shavings 92 = .ok (.aload_n 0, 1) := by decide +kernel
theorem dX11_shavings_93 : decode cX11_shavings 93 = .ok (.getfield 85, 3) := by decide +kernel
theorem dX11_shavings_96 : decode cX11_shavings 96 = .ok (.aload_n 0, 1) := by decide +kernel
theorem dX11_shavings_97 : decode cX11_shavings 97 = .ok (.getfield 125, 3) := by decide +kernel
theorem dX11_shavings_100 : decode cX11_shavings 100 = .ok (.iload_n 3, 1) := by decide +kernel
theorem dX11_shavings_101 : decode cX11_shavings 101 = .ok (.iastore, 1) := by decide +kernel
theorem dX11_shavings_102 : decode cX11_shavings 102 = .ok (.aload_n 0, 1) := by decide +kernel
theorem dX11_shavings_103 : decode cX11_shavings 103 = .ok (.dup, 1) := by decide +kernel
theorem dX11_shavings_104 : decode cX11_shavings 104 = .ok (.getfield 125, 3) := by decide +kernel
theorem dX11_shavings_107 : decode cX11_shavings 107 = .ok (.iconst 1, 1) := by decide +kernel
theorem dX11_shavings_108 : decode cX11_shavings 108 = .ok (.iadd, 1) := by decide +kernel
theorem dX11_shavings_109 : decode cX11_shavings 109 = .ok (.putfield 125, 3) := by decide +kernel
theorem dX11_shavings_112 : decode cX11_shavings 112 = .ok (.iinc 3 1, 3) := by decide +kernel
theorem dX11_shavings_115 : decode cX11_shavings 115 = .ok (.goto (-65), 3) := by decide +kernel
theorem dX11_shavings_118 : decode cX11_shavings 118 = .ok (.aload_n 0, 1) := by decide +kernel
theorem dX11_shavings_119 : decode cX11_shavings 119 = .ok (.getfield 125, 3) := by decide +kernel
theorem dX11_shavings_122 : decode cX11_shavings 122 = .ok (.ireturn, 1) := by decide +kernel
theorem dX11_when_0 : decode cX11_when 0 = .ok (.iload_n 1, 1) := by decide +kernel
theorem dX11_when_1 : decode cX11_when 1 = .ok (.ifCond .lt 29, 3) := by decide +kernel
theorem dX11_when_4 : decode cX11_when 4 = .ok (.iload_n 1, 1) := by decide +kernel
theorem dX11_when_5 : decode cX11_when 5 = .ok (.aload_n 0, 1) := by decide +kernel
theorem dX11_when_6 : decode cX11_when 6 = .ok (.getfield 125, 3) := by decide +kernel
theorem dX11_when_9 : decode cX11_when 9 = .ok (.if_icmp .ge 21, 3) := by decide +kernel
theorem dX11_when_12 : decode cX11_when 12 = .ok (.iload_n 1, 1) := by decide +kernel
theorem dX11_when_13 : decode cX11_when 13 = .ok (.aload_n 0, 1) := by decide +kernel
theorem dX11_when_14 : decode cX11_when 14 = .ok (.getfield 85, 3) := by decide +kernel
theorem dX11_when_17 : decode cX11_when 17 = .ok (.arraylength, 1) := by decide +kernel
theorem dX11_when_18 : decode cX11_when 18 = .ok (.if_icmp .ge 12, 3) := by decide +kernel
theorem dX11_when_21 : decode cX11_when 21 = .ok (.aload_n 0, 1) := by decide +kernel
theorem dX11_when_22 : decode cX11_when 22 = .ok (.getfield 85, 3) := by decide +kernel
theorem dX11_when_25 : decode cX11_when 25 = .ok (.iload_n 1, 1) := by decide +kernel
theorem dX11_when_26 : decode cX11_when 26 = .ok (.iaload, 1) := by decide +kernel
theorem dX11_when_27 : decode cX11_when 27 = .ok (.goto 4, 3) := by decide +kernel
theorem dX11_when_30 : decode cX11_when 30 = .ok (.iconst (-1), 1) := by decide +kernel
theorem dX11_when_31 : decode cX11_when 31 = .ok (.ireturn, 1) := by decide +kernel
theorem dX11_days_0 : decode cX11_days 0 = .ok (.aload_n 0, 1) := by decide +kernel
theorem dX11_days_1 : decode cX11_days 1 = .ok (.iload_n 1, 1) := by decide +kernel
theorem dX11_days_2 : decode cX11_days 2 = .ok (.bipush 100, 2) := by decide +kernel
theorem dX11_days_4 : decode cX11_days 4 = .ok (.invokevirtual 220, 3) := by decide +kernel
theorem dX11_days_7 : decode cX11_days 7 = .ok (.ifCond .ne 9, 3) := by decide +kernel
theorem dX11_days_10 : decode cX11_days 10 = .ok (.aload_n 0, 1) := by decide +kernel
theorem dX11_days_11 : decode cX11_days 11 = .ok (.iconst 2, 1) := by decide +kernel
theorem dX11_days_12 : decode cX11_days 12 = .ok (.invokevirtual 98, 3) := by decide +kernel
theorem dX11_days_15 : decode cX11_days 15 = .ok (.ireturn, 1) := by decide +kernel
theorem dX11_days_16 : decode cX11_days 16 = .ok (.aload_n 0, 1) := by decide +kernel
theorem dX11_days_17 : decode cX11_days 17 = .ok (.invokevirtual 297, 3) := by decide +kernel
theorem dX11_days_20 : decode cX11_days 20 = .ok (.aload_n 0, 1) := by decide +kernel
theorem dX11_days_21 : decode cX11_days 21 = .ok (.getfield 42, 3) := by decide +kernel
theorem dX11_days_24 : decode cX11_days 24 = .ok (.aload_n 0, 1) := by decide +kernel
theorem dX11_days_25 : decode cX11_days 25 = .ok (.getfield 16, 3) := by decide +kernel
theorem dX11_days_28 : decode cX11_days 28 = .ok (.aload_n 0, 1) := by decide +kernel
theorem dX11_days_29 : decode cX11_days 29 = .ok (.getfield 26, 3) := by decide +kernel
theorem dX11_days_32 : decode cX11_days 32 = .ok (.iconst 1, 1) := by decide +kernel
theorem dX11_days_33 : decode cX11_days 33 = .ok (.invokevirtual 300, 3) := by decide +kernel
theorem dX11_days_36 : decode cX11_days 36 = .ok (.iconst 0, 1) := by decide +kernel
theorem dX11_days_37 : decode cX11_days 37 = .ok (.istore_n 2, 1) := by decide +kernel
theorem dX11_days_38 : decode cX11_days 38 = .ok (.iload_n 2, 1) := by decide +kernel
theorem dX11_days_39 : decode cX11_days 39 = .ok (.iload_n 1, 1) := by decide +kernel
theorem dX11_days_40 : decode cX11_days 40 = .ok (.if_icmp .ge 17, 3) := by decide +kernel
theorem dX11_days_43 : decode cX11_days 43 = .ok (.aload_n 0, 1) := by decide +kernel
theorem dX11_days_44 : decode cX11_days 44 = .ok (.getfield 42, 3) := by decide +kernel
theorem dX11_days_47 : decode cX11_days 47 = .ok (.iconst 0, 1) := by decide +kernel
theorem dX11_days_48 : decode cX11_days 48 = .ok (.invokevirtual 304, 3) := by decide +kernel
theorem dX11_days_51 : decode cX11_days 51 = .ok (.iinc 2 1, 3) := by decide +kernel
theorem dX11_days_54 : decode cX11_days 54 = .ok (.goto (-16), 3) := by decide +kernel
theorem dX11_days_57 : decode cX11_days 57 = .ok (.aload_n 0, 1) := by decide +kernel
theorem dX11_days_58 : decode cX11_days 58 = .ok (.getfield 42, 3) := by decide +kernel
theorem dX11_days_61 : decode cX11_days 61 = .ok (.getfield 307, 3) := by decide +kernel
theorem dX11_days_64 : decode cX11_days 64 = .ok (.ireturn, 1) := by decide +kernel
theorem dX11_chance_0 : decode cX11_chance 0 = .ok (.aload_n 0, 1) := by decide +kernel
theorem dX11_chance_1 : decode cX11_chance 1 = .ok (.iload_n 1, 1) := by decide +kernel
theorem dX11_chance_2 : decode cX11_chance 2 = .ok (.bipush 100, 2) := by decide +kernel
theorem dX11_chance_4 : decode cX11_chance 4 = .ok (.invokevirtual 220, 3) := by decide +kernel
theorem dX11_chance_7 : decode cX11_chance 7 = .ok (.ifCond .ne 9, 3) := by decide +kernel
theorem dX11_chance_10 : decode cX11_chance 10 = .ok (.aload_n 0, 1) := by decide +kernel
theorem dX11_chance_11 : decode cX11_chance 11 = .ok (.iconst 2, 1) := by decide +kernel
theorem dX11_chance_12 : decode cX11_chance 12 = .ok (.invokevirtual 98, 3) := by decide +kernel
theorem dX11_chance_15 : decode cX11_chance 15 = .ok (.ireturn, 1) := by decide +kernel
theorem dX11_chance_16 : decode cX11_chance 16 = .ok (.aload_n 0, 1) := by decide +kernel
theorem dX11_chance_17 : decode cX11_chance 17 = .ok (.invokevirtual 297, 3) := by decide +kernel
theorem dX11_chance_20 : decode cX11_chance 20 = .ok (.aload_n 0, 1) := by decide +kernel
theorem dX11_chance_21 : decode cX11_chance 21 = .ok (.getfield 42, 3) := by decide +kernel
theorem dX11_chance_24 : decode cX11_chance 24 = .ok (.aload_n 0, 1) := by decide +kernel
theorem dX11_chance_25 : decode cX11_chance 25 = .ok (.getfield 16, 3) := by decide +kernel
theorem dX11_chance_28 : decode cX11_chance 28 = .ok (.aload_n 0, 1) := by decide +kernel
theorem dX11_chance_29 : decode cX11_chance 29 = .ok (.getfield 26, 3) := by decide +kernel
theorem dX11_chance_32 : decode cX11_chance 32 = .ok (.iconst 1, 1) := by decide +kernel
theorem dX11_chance_33 : decode cX11_chance 33 = .ok (.invokevirtual 300, 3) := by decide +kernel
theorem dX11_chance_36 : decode cX11_chance 36 = .ok (.iconst 0, 1) := by decide +kernel
theorem dX11_chance_37 : decode cX11_chance 37 = .ok (.istore_n 2, 1) := by decide +kernel
theorem dX11_chance_38 : decode cX11_chance 38 = .ok (.iconst 0, 1) := by decide +kernel
theorem dX11_chance_39 : decode cX11_chance 39 = .ok (.istore_n 3, 1) := by decide +kernel
theorem dX11_chance_40 : decode cX11_chance 40 = .ok (.iload_n 3, 1) := by decide +kernel
theorem dX11_chance_41 : decode cX11_chance 41 = .ok (.iload_n 1, 1) := by decide +kernel
theorem dX11_chance_42 : decode cX11_chance 42 = .ok (.if_icmp .ge 46, 3) := by decide +kernel
theorem dX11_chance_45 : decode cX11_chance 45 = .ok (.aload_n 0, 1) := by decide +kernel
theorem dX11_chance_46 : decode cX11_chance 46 = .ok (.bipush 100, 2) := by decide +kernel
theorem dX11_chance_48 : decode cX11_chance 48 = .ok (.invokevirtual 310, 3) := by decide +kernel
theorem dX11_chance_51 : decode cX11_chance 51 = .ok (.aload_n 0, 1) := by decide +kernel
theorem dX11_chance_52 : decode cX11_chance 52 = .ok (.getfield 16, 3) := by decide +kernel
theorem dX11_chance_55 : decode cX11_chance 55 = .ok (.getfield 313, 3) := by decide +kernel
theorem dX11_chance_58 : decode cX11_chance 58 = .ok (.if_icmp .ge 7, 3) := by decide +kernel
theorem dX11_chance_61 : decode cX11_chance 61 = .ok (.iconst 1, 1) := by decide +kernel
theorem dX11_chance_62 : decode cX11_chance 62 = .ok (.goto 4, 3) := by decide +kernel
theorem dX11_chance_65 : decode cX11_chance 65 = .ok (.iconst 0, 1) := by decide +kernel
theorem dX11_chance_66 : decode cX11_chance 66 = .ok (.istore 4, 2) := by decide +kernel
theorem dX11_chance_68 : decode cX11_chance 68 = .ok (.iload_n 2, 1) := by decide +kernel
theorem dX11_chance_69 : decode cX11_chance 69 = .ok (.iload 4, 2) := by decide +kernel
theorem dX11_chance_71 : decode cX11_chance 71 = .ok (.iadd, 1) := by decide +kernel
theorem dX11_chance_72 : decode cX11_chance 72 = .ok (.istore_n 2, 1) := by decide +kernel
theorem dX11_chance_73 : decode cX11_chance 73 = .ok (.aload_n 0, 1) := by decide +kernel
theorem dX11_chance_74 : decode cX11_chance 74 = .ok (.getfield 42, 3) := by decide +kernel
theorem dX11_chance_77 : decode cX11_chance 77 = .ok (.iload 4, 2) := by decide +kernel
theorem dX11_chance_79 : decode cX11_chance 79 = .ok (.invokevirtual 304, 3) := by decide +kernel
theorem dX11_chance_82 : decode cX11_chance 82 = .ok (.iinc 3 1, 3) := by decide +kernel
theorem dX11_chance_85 : decode cX11_chance 85 = .ok (.goto (-45), 3) := by decide +kernel
theorem dX11_chance_88 : decode cX11_chance 88 = .ok (.iload_n 2, 1) := by decide +kernel
theorem dX11_chance_89 : decode cX11_chance 89 = .ok (.ireturn, 1) := by decide +kernel
theorem dX11_hold_0 : decode cX11_hold 0 = .ok (.aload_n 0, 1) := by decide +kernel
theorem dX11_hold_1 : decode cX11_hold 1 = .ok (.getfield 16, 3) := by decide +kernel
theorem dX11_hold_4 : decode cX11_hold 4 = .ok (.iconst 1, 1) := by decide +kernel
theorem dX11_hold_5 : decode cX11_hold 5 = .ok (.iload_n 1, 1) := by decide +kernel
theorem dX11_hold_6 : decode cX11_hold 6 = .ok (.invokevirtual 169, 3) := by decide +kernel
theorem dX11_hold_9 : decode cX11_hold 9 = .ok (.ifCond .eq 16, 3) := by decide +kernel
theorem dX11_hold_12 : decode cX11_hold 12 = .ok (.iload_n 2, 1) := by decide +kernel
theorem dX11_hold_13 : decode cX11_hold 13 = .ok (.ifCond .eq 8, 3) := by decide +kernel
theorem dX11_hold_16 : decode cX11_hold 16 = .ok (.iload_n 2, 1) := by decide +kernel
theorem dX11_hold_17 : decode cX11_hold 17 = .ok (.iconst 1, 1) := by decide +kernel
theorem dX11_hold_18 : decode cX11_hold 18 = .ok (.if_icmp .ne 7, 3) := by decide +kernel
theorem dX11_hold_21 : decode cX11_hold 21 = .ok (.iconst 1, 1) := by decide +kernel
theorem dX11_hold_22 : decode cX11_hold 22 = .ok (.goto 4, 3) := by decide +kernel
theorem dX11_hold_25 : decode cX11_hold 25 = .ok (.iconst 0, 1) := by decide +kernel
theorem dX11_hold_26 : decode cX11_hold 26 = .ok (.istore_n 3, 1) := by decide +kernel
theorem dX11_hold_27 : decode cX11_hold 27 = .ok (.iload_n 3, 1) := by decide +kernel
theorem dX11_hold_28 : decode cX11_hold 28 = .ok (.ifCond .eq 18, 3) := by decide +kernel
theorem dX11_hold_31 : decode cX11_hold 31 = .ok (.aload_n 0, 1) := by decide +kernel
theorem dX11_hold_32 : decode cX11_hold 32 = .ok (.getfield 26, 3) := by decide +kernel
theorem dX11_hold_35 : decode cX11_hold 35 = .ok (.getfield 154, 3) := by decide +kernel
theorem dX11_hold_38 : decode cX11_hold 38 = .ok (.iload_n 1, 1) := by decide +kernel
theorem dX11_hold_39 : decode cX11_hold 39 = .ok (.ishr, 1) := by decide +kernel
theorem dX11_hold_40 : decode cX11_hold 40 = .ok (.iconst 1, 1) := by decide +kernel
theorem dX11_hold_41 : decode cX11_hold 41 = .ok (.iand, 1) := by decide +kernel
theorem dX11_hold_42 : decode cX11_hold 42 = .ok (.iload_n 2, 1) := by decide +kernel
theorem dX11_hold_43 : decode cX11_hold 43 = .ok (.if_icmp .ne 9, 3) := by decide +kernel
theorem dX11_hold_46 : decode cX11_hold 46 = .ok (.aload_n 0, 1) := by decide +kernel
theorem dX11_hold_47 : decode cX11_hold 47 = .ok (.iconst 3, 1) := by decide +kernel
theorem dX11_hold_48 : decode cX11_hold 48 = .ok (.invokevirtual 106, 3) := by decide +kernel
theorem dX11_hold_51 : decode cX11_hold 51 = .ok (.ireturn, 1) := by decide +kernel
theorem dX11_hold_52 : decode cX11_hold 52 = .ok (.aload_n 0, 1) := by decide +kernel
theorem dX11_hold_53 : decode cX11_hold 53 = .ok (.invokevirtual 297, 3) := by decide +kernel
theorem dX11_hold_56 : decode cX11_hold 56 = .ok (.aload_n 0, 1) := by decide +kernel
theorem dX11_hold_57 : decode cX11_hold 57 = .ok (.getfield 26, 3) := by decide +kernel
theorem dX11_hold_60 : decode cX11_hold 60 = .ok (.dup, 1) := by decide +kernel
theorem dX11_hold_61 : decode cX11_hold 61 = .ok (.getfield 154, 3) := by decide +kernel
theorem dX11_hold_64 : decode cX11_hold 64 = .ok (.iconst 1, 1) := by decide +kernel
theorem dX11_hold_65 : decode cX11_hold 65 = .ok (.iload_n 1, 1) := by decide +kernel
theorem dX11_hold_66 : decode cX11_hold 66 = .ok (.ishl, 1) := by decide +kernel
theorem dX11_hold_67 : decode cX11_hold 67 = .ok (.ixor, 1) := by decide +kernel
theorem dX11_hold_68 : decode cX11_hold 68 = .ok (.putfield 154, 3) := by decide +kernel
theorem dX11_hold_71 : decode cX11_hold 71 = .ok (.iconst 1, 1) := by decide +kernel
theorem dX11_hold_72 : decode cX11_hold 72 = .ok (.ireturn, 1) := by decide +kernel
theorem dX11_swap_0 : decode cX11_swap 0 = .ok (.aload_n 0, 1) := by decide +kernel
theorem dX11_swap_1 : decode cX11_swap 1 = .ok (.getfield 16, 3) := by decide +kernel
theorem dX11_swap_4 : decode cX11_swap 4 = .ok (.iconst 2, 1) := by decide +kernel
theorem dX11_swap_5 : decode cX11_swap 5 = .ok (.iload_n 1, 1) := by decide +kernel
theorem dX11_swap_6 : decode cX11_swap 6 = .ok (.invokevirtual 169, 3) := by decide +kernel
theorem dX11_swap_9 : decode cX11_swap 9 = .ok (.ifCond .eq 20, 3) := by decide +kernel
theorem dX11_swap_12 : decode cX11_swap 12 = .ok (.aload_n 0, 1) := by decide +kernel
theorem dX11_swap_13 : decode cX11_swap 13 = .ok (.getfield 16, 3) := by decide +kernel
theorem dX11_swap_16 : decode cX11_swap 16 = .ok (.iconst 2, 1) := by decide +kernel
theorem dX11_swap_17 : decode cX11_swap 17 = .ok (.iload_n 2, 1) := by decide +kernel
theorem dX11_swap_18 : decode cX11_swap 18 = .ok (.invokevirtual 169, 3) := by decide +kernel
theorem dX11_swap_21 : decode cX11_swap 21 = .ok (.ifCond .eq 8, 3) := by decide +kernel
theorem dX11_swap_24 : decode cX11_swap 24 = .ok (.iload_n 1, 1) := by decide +kernel
theorem dX11_swap_25 : decode cX11_swap 25 = .ok (.iload_n 2, 1) := by decide +kernel
theorem dX11_swap_26 : decode cX11_swap 26 = .ok (.if_icmp .ne 9, 3) := by decide +kernel
theorem dX11_swap_29 : decode cX11_swap 29 = .ok (.aload_n 0, 1) := by decide +kernel
theorem dX11_swap_30 : decode cX11_swap 30 = .ok (.iconst 3, 1) := by decide +kernel
theorem dX11_swap_31 : decode cX11_swap 31 = .ok (.invokevirtual 106, 3) := by decide +kernel
theorem dX11_swap_34 : decode cX11_swap 34 = .ok (.ireturn, 1) := by decide +kernel
theorem dX11_swap_35 : decode cX11_swap 35 = .ok (.aload_n 0, 1) := by decide +kernel
theorem dX11_swap_36 : decode cX11_swap 36 = .ok (.invokevirtual 297, 3) := by decide +kernel
theorem dX11_swap_39 : decode cX11_swap 39 = .ok (.aload_n 0, 1) := by decide +kernel
theorem dX11_swap_40 : decode cX11_swap 40 = .ok (.getfield 26, 3) := by decide +kernel
theorem dX11_swap_43 : decode cX11_swap 43 = .ok (.iload_n 1, 1) := by decide +kernel
theorem dX11_swap_44 : decode cX11_swap 44 = .ok (.iload_n 2, 1) := by decide +kernel
theorem dX11_swap_45 : decode cX11_swap 45 = .ok (.invokevirtual 316, 3) := by decide +kernel
theorem dX11_swap_48 : decode cX11_swap 48 = .ok (.iconst 1, 1) := by decide +kernel
theorem dX11_swap_49 : decode cX11_swap 49 = .ok (.ireturn, 1) := by decide +kernel
theorem dX11_due_0 : decode cX11_due 0 = .ok (.aload_n 0, 1) := by decide +kernel
theorem dX11_due_1 : decode cX11_due 1 = .ok (.getfield 16, 3) := by decide +kernel
theorem dX11_due_4 : decode cX11_due 4 = .ok (.iconst 3, 1) := by decide +kernel
theorem dX11_due_5 : decode cX11_due 5 = .ok (.iload_n 1, 1) := by decide +kernel
theorem dX11_due_6 : decode cX11_due 6 = .ok (.invokevirtual 169, 3) := by decide +kernel
theorem dX11_due_9 : decode cX11_due 9 = .ok (.ifCond .eq 18, 3) := by decide +kernel
theorem dX11_due_12 : decode cX11_due 12 = .ok (.iload_n 2, 1) := by decide +kernel
theorem dX11_due_13 : decode cX11_due 13 = .ok (.ifCond .lt 14, 3) := by decide +kernel
theorem dX11_due_16 : decode cX11_due 16 = .ok (.iload_n 2, 1) := by decide +kernel
theorem dX11_due_17 : decode cX11_due 17 = .ok (.sipush 999, 3) := by decide +kernel
theorem dX11_due_20 : decode cX11_due 20 = .ok (.if_icmp .gt 7, 3) := by decide +kernel
theorem dX11_due_23 : decode cX11_due 23 = .ok (.iconst 1, 1) := by decide +kernel
theorem dX11_due_24 : decode cX11_due 24 = .ok (.goto 4, 3) := by decide +kernel
theorem dX11_due_27 : decode cX11_due 27 = .ok (.iconst 0, 1) := by decide +kernel
theorem dX11_due_28 : decode cX11_due 28 = .ok (.istore_n 3, 1) := by decide +kernel
theorem dX11_due_29 : decode cX11_due 29 = .ok (.iload_n 3, 1) := by decide +kernel
theorem dX11_due_30 : decode cX11_due 30 = .ok (.ifCond .eq 16, 3) := by decide +kernel
theorem dX11_due_33 : decode cX11_due 33 = .ok (.aload_n 0, 1) := by decide +kernel
theorem dX11_due_34 : decode cX11_due 34 = .ok (.getfield 26, 3) := by decide +kernel
theorem dX11_due_37 : decode cX11_due 37 = .ok (.getfield 201, 3) := by decide +kernel
theorem dX11_due_40 : decode cX11_due 40 = .ok (.iload_n 1, 1) := by decide +kernel
theorem dX11_due_41 : decode cX11_due 41 = .ok (.iaload, 1) := by decide +kernel
theorem dX11_due_42 : decode cX11_due 42 = .ok (.iload_n 2, 1) := by decide +kernel
theorem dX11_due_43 : decode cX11_due 43 = .ok (.if_icmp .ne 9, 3) := by decide +kernel
theorem dX11_due_46 : decode cX11_due 46 = .ok (.aload_n 0, 1) := by decide +kernel
theorem dX11_due_47 : decode cX11_due 47 = .ok (.iconst 3, 1) := by decide +kernel
theorem dX11_due_48 : decode cX11_due 48 = .ok (.invokevirtual 106, 3) := by decide +kernel
theorem dX11_due_51 : decode cX11_due 51 = .ok (.ireturn, 1) := by decide +kernel
theorem dX11_due_52 : decode cX11_due 52 = .ok (.aload_n 0, 1) := by decide +kernel
theorem dX11_due_53 : decode cX11_due 53 = .ok (.invokevirtual 297, 3) := by decide +kernel
theorem dX11_due_56 : decode cX11_due 56 = .ok (.aload_n 0, 1) := by decide +kernel
theorem dX11_due_57 : decode cX11_due 57 = .ok (.getfield 26, 3) := by decide +kernel
theorem dX11_due_60 : decode cX11_due 60 = .ok (.getfield 201, 3) := by decide +kernel
theorem dX11_due_63 : decode cX11_due 63 = .ok (.iload_n 1, 1) := by decide +kernel
theorem dX11_due_64 : decode cX11_due 64 = .ok (.iload_n 2, 1) := by decide +kernel
theorem dX11_due_65 : decode cX11_due 65 = .ok (.iastore, 1) := by decide +kernel
theorem dX11_due_66 : decode cX11_due 66 = .ok (.iconst 1, 1) := by decide +kernel
theorem dX11_due_67 : decode cX11_due 67 = .ok (.ireturn, 1) := by decide +kernel
theorem dX11_undo_0 : decode cX11_undo 0 = .ok (.aload_n 0, 1) := by decide +kernel
theorem dX11_undo_1 : decode cX11_undo 1 = .ok (.getfield 33, 3) := by decide +kernel
theorem dX11_undo_4 : decode cX11_undo 4 = .ok (.aload_n 0, 1) := by decide +kernel
theorem dX11_undo_5 : decode cX11_undo 5 = .ok (.getfield 26, 3) := by decide +kernel
theorem dX11_undo_8 : decode cX11_undo 8 = .ok (.invokevirtual 320, 3) := by decide +kernel
theorem dX11_undo_11 : decode cX11_undo 11 = .ok (.ifCond .ne 9, 3) := by decide +kernel
theorem dX11_undo_14 : decode cX11_undo 14 = .ok (.aload_n 0, 1) := by decide +kernel
theorem dX11_undo_15 : decode cX11_undo 15 = .ok (.iconst 4, 1) := by decide +kernel
theorem dX11_undo_16 : decode cX11_undo 16 = .ok (.invokevirtual 106, 3) := by decide +kernel
theorem dX11_undo_19 : decode cX11_undo 19 = .ok (.ireturn, 1) := by decide +kernel
theorem dX11_undo_20 : decode cX11_undo 20 = .ok (.aload_n 0, 1) := by decide +kernel
theorem dX11_undo_21 : decode cX11_undo 21 = .ok (.getfield 49, 3) := by decide +kernel
theorem dX11_undo_24 : decode cX11_undo 24 = .ok (.invokevirtual 324, 3) := by decide +kernel
theorem dX11_undo_27 : decode cX11_undo 27 = .ok (.iconst 1, 1) := by decide +kernel
theorem dX11_undo_28 : decode cX11_undo 28 = .ok (.ireturn, 1) := by decide +kernel
theorem dX11_seed_0 : decode cX11_seed 0 = .ok (.iload_n 1, 1) := by decide +kernel
theorem dX11_seed_1 : decode cX11_seed 1 = .ok (.ifCond .ge 9, 3) := by decide +kernel
theorem dX11_seed_4 : decode cX11_seed 4 = .ok (.aload_n 0, 1) := by decide +kernel
theorem dX11_seed_5 : decode cX11_seed 5 = .ok (.iconst 5, 1) := by decide +kernel
theorem dX11_seed_6 : decode cX11_seed 6 = .ok (.invokevirtual 106, 3) := by decide +kernel
theorem dX11_seed_9 : decode cX11_seed 9 = .ok (.ireturn, 1) := by decide +kernel
theorem dX11_seed_10 : decode cX11_seed 10 = .ok (.aload_n 0, 1) := by decide +kernel
theorem dX11_seed_11 : decode cX11_seed 11 = .ok (.iload_n 1, 1) := by decide +kernel
theorem dX11_seed_12 : decode cX11_seed 12 = .ok (.putfield 91, 3) := by decide +kernel
theorem dX11_seed_15 : decode cX11_seed 15 = .ok (.iconst 1, 1) := by decide +kernel
theorem dX11_seed_16 : decode cX11_seed 16 = .ok (.ireturn, 1) := by decide +kernel
theorem dX11_kept_0 : decode cX11_kept 0 = .ok (.iload_n 1, 1) := by decide +kernel
theorem dX11_kept_1 : decode cX11_kept 1 = .ok (.ifCond .lt 14, 3) := by decide +kernel
theorem dX11_kept_4 : decode cX11_kept 4 = .ok (.iload_n 1, 1) := by decide +kernel
theorem dX11_kept_5 : decode cX11_kept 5 = .ok (.aload_n 0, 1) := by decide +kernel
theorem dX11_kept_6 : decode cX11_kept 6 = .ok (.getfield 26, 3) := by decide +kernel
theorem dX11_kept_9 : decode cX11_kept 9 = .ok (.getfield 163, 3) := by decide +kernel
theorem dX11_kept_12 : decode cX11_kept 12 = .ok (.if_icmp .lt 5, 3) := by decide +kernel
theorem dX11_kept_15 : decode cX11_kept 15 = .ok (.iconst (-1), 1) := by decide +kernel
theorem dX11_kept_16 : decode cX11_kept 16 = .ok (.ireturn, 1) := by decide +kernel
theorem dX11_kept_17 : decode cX11_kept 17 = .ok (.aload_n 0, 1) := by decide +kernel
theorem dX11_kept_18 : decode cX11_kept 18 = .ok (.getfield 33, 3) := by decide +kernel
theorem dX11_kept_21 : decode cX11_kept 21 = .ok (.iload_n 1, 1) := by decide +kernel
theorem dX11_kept_22 : decode cX11_kept 22 = .ok (.iload_n 2, 1) := by decide +kernel
theorem dX11_kept_23 : decode cX11_kept 23 = .ok (.invokevirtual 327, 3) := by decide +kernel
theorem dX11_kept_26 : decode cX11_kept 26 = .ok (.ireturn, 1) := by decide +kernel
theorem dX11_image_0 : decode cX11_image 0 = .ok (.aload_n 0, 1) := by decide +kernel
theorem dX11_image_1 : decode cX11_image 1 = .ok (.getfield 81, 3) := by decide +kernel
theorem dX11_image_4 : decode cX11_image 4 = .ok (.aload_n 0, 1) := by decide +kernel
theorem dX11_image_5 : decode cX11_image 5 = .ok (.getfield 16, 3) := by decide +kernel
theorem dX11_image_8 : decode cX11_image 8 = .ok (.aload_n 0, 1) := by decide +kernel
theorem dX11_image_9 : decode cX11_image 9 = .ok (.getfield 26, 3) := by decide +kernel
theorem dX11_image_12 : decode cX11_image 12 = .ok (.invokevirtual 330, 3) := by decide +kernel
theorem dX11_image_15 : decode cX11_image 15 = .ok (.ireturn, 1) := by decide +kernel
theorem dX11_octet_0 : decode cX11_octet 0 = .ok (.iload_n 1, 1) := by decide +kernel
theorem dX11_octet_1 : decode cX11_octet 1 = .ok (.ifCond .lt 38, 3) := by decide +kernel
theorem dX11_octet_4 : decode cX11_octet 4 = .ok (.iload_n 1, 1) := by decide +kernel
theorem dX11_octet_5 : decode cX11_octet 5 = .ok (.aload_n 0, 1) := by decide +kernel
theorem dX11_octet_6 : decode cX11_octet 6 = .ok (.getfield 81, 3) := by decide +kernel
theorem dX11_octet_9 : decode cX11_octet 9 = .ok (.getfield 334, 3) := by decide +kernel
theorem dX11_octet_12 : decode cX11_octet 12 = .ok (.if_icmp .ge 27, 3) := by decide +kernel
theorem dX11_octet_15 : decode cX11_octet 15 = .ok (.iload_n 1, 1) := by decide +kernel
theorem dX11_octet_16 : decode cX11_octet 16 = .ok (.aload_n 0, 1) := by decide +kernel
theorem dX11_octet_17 : decode cX11_octet 17 = .ok (.getfield 81, 3) := by decide +kernel
theorem dX11_octet_20 : decode cX11_octet 20 = .ok (.getfield 337, 3) := by decide +kernel
theorem dX11_octet_23 : decode cX11_octet 23 = .ok (.arraylength, 1) := by decide +kernel
theorem dX11_octet_24 : decode cX11_octet 24 = .ok (.if_icmp .ge 15, 3) := by decide +kernel
theorem dX11_octet_27 : decode cX11_octet 27 = .ok (.aload_n 0, 1) := by decide +kernel
theorem dX11_octet_28 : decode cX11_octet 28 = .ok (.getfield 81, 3) := by decide +kernel
theorem dX11_octet_31 : decode cX11_octet 31 = .ok (.getfield 337, 3) := by decide +kernel
theorem dX11_octet_34 : decode cX11_octet 34 = .ok (.iload_n 1, 1) := by decide +kernel
theorem dX11_octet_35 : decode cX11_octet 35 = .ok (.iaload, 1) := by decide +kernel
theorem dX11_octet_36 : decode cX11_octet 36 = .ok (.goto 4, 3) := by decide +kernel
theorem dX11_octet_39 : decode cX11_octet 39 = .ok (.iconst (-1), 1) := by decide +kernel
theorem dX11_octet_40 : decode cX11_octet 40 = .ok (.ireturn, 1) := by decide +kernel
theorem dX11_on_0 : decode cX11_on 0 = .ok (.aload_n 0, 1) := by decide +kernel
theorem dX11_on_1 : decode cX11_on 1 = .ok (.invokevirtual 110, 3) := by decide +kernel
theorem dX11_on_4 : decode cX11_on 4 = .ok (.istore_n 1, 1) := by decide +kernel
theorem dX11_on_5 : decode cX11_on 5 = .ok (.aload_n 0, 1) := by decide +kernel
theorem dX11_on_6 : decode cX11_on 6 = .ok (.getfield 81, 3) := by decide +kernel
theorem dX11_on_9 : decode cX11_on 9 = .ok (.aload_n 0, 1) := by decide +kernel
theorem dX11_on_10 : decode cX11_on 10 = .ok (.getfield 16, 3) := by decide +kernel
theorem dX11_on_13 : decode cX11_on 13 = .ok (.aload_n 0, 1) := by decide +kernel
theorem dX11_on_14 : decode cX11_on 14 = .ok (.getfield 9, 3) := by decide +kernel
theorem dX11_on_17 : decode cX11_on 17 = .ok (.iload_n 1, 1) := by decide +kernel
theorem dX11_on_18 : decode cX11_on 18 = .ok (.invokevirtual 340, 3) := by decide +kernel
theorem dX11_on_21 : decode cX11_on 21 = .ok (.ifCond .ne 9, 3) := by decide +kernel
theorem dX11_on_24 : decode cX11_on 24 = .ok (.aload_n 0, 1) := by decide +kernel
theorem dX11_on_25 : decode cX11_on 25 = .ok (.iconst 5, 1) := by decide +kernel
theorem dX11_on_26 : decode cX11_on 26 = .ok (.invokevirtual 106, 3) := by decide +kernel
theorem dX11_on_29 : decode cX11_on 29 = .ok (.ireturn, 1) := by decide +kernel
theorem dX11_on_30 : decode cX11_on 30 = .ok (.aload_n 0, 1) := by decide +kernel
theorem dX11_on_31 : decode cX11_on 31 = .ok (.getfield 26, 3) := by decide +kernel
theorem dX11_on_34 : decode cX11_on 34 = .ok (.aload_n 0, 1) := by decide +kernel
theorem dX11_on_35 : decode cX11_on 35 = .ok (.getfield 81, 3) := by decide +kernel
theorem dX11_on_38 : decode cX11_on 38 = .ok (.getfield 343, 3) := by decide +kernel
theorem dX11_on_41 : decode cX11_on 41 = .ok (.invokevirtual 345, 3) := by decide +kernel
theorem dX11_on_44 : decode cX11_on 44 = .ok (.aload_n 0, 1) := by decide +kernel
theorem dX11_on_45 : decode cX11_on 45 = .ok (.getfield 33, 3) := by decide +kernel
theorem dX11_on_48 : decode cX11_on 48 = .ok (.invokevirtual 122, 3) := by decide +kernel
theorem dX11_on_51 : decode cX11_on 51 = .ok (.aload_n 0, 1) := by decide +kernel
theorem dX11_on_52 : decode cX11_on 52 = .ok (.getfield 49, 3) := by decide +kernel
theorem dX11_on_55 : decode cX11_on 55 = .ok (.invokevirtual 324, 3) := by decide +kernel
theorem dX11_on_58 : decode cX11_on 58 = .ok (.iconst 1, 1) := by decide +kernel
theorem dX11_on_59 : decode cX11_on 59 = .ok (.ireturn, 1) := by decide +kernel
theorem dX11_status_0 : decode cX11_status 0 = .ok (.iload_n 1, 1) := by decide +kernel
theorem dX11_status_1 : decode cX11_status 1 = .ok (.ifCond .lt 18, 3) := by decide +kernel
theorem dX11_status_4 : decode cX11_status 4 = .ok (.iload_n 1, 1) := by decide +kernel
theorem dX11_status_5 : decode cX11_status 5 = .ok (.bipush 6, 2) := by decide +kernel
theorem dX11_status_7 : decode cX11_status 7 = .ok (.if_icmp .ge 12, 3) := by decide +kernel
theorem dX11_status_10 : decode cX11_status 10 = .ok (.aload_n 0, 1) := by decide +kernel
theorem dX11_status_11 : decode cX11_status 11 = .ok (.getfield 88, 3) := by decide +kernel
theorem dX11_status_14 : decode cX11_status 14 = .ok (.iload_n 1, 1) := by decide +kernel
theorem dX11_status_15 : decode cX11_status 15 = .ok (.iaload, 1) := by decide +kernel
theorem dX11_status_16 : decode cX11_status 16 = .ok (.goto 4, 3) := by decide +kernel
theorem dX11_status_19 : decode cX11_status 19 = .ok (.iconst (-1), 1) := by decide +kernel
theorem dX11_status_20 : decode cX11_status 20 = .ok (.ireturn, 1) := by decide +kernel
theorem dX11_refuse_0 : decode cX11_refuse 0 = .ok (.iload_n 1, 1) := by decide +kernel
theorem dX11_refuse_1 : decode cX11_refuse 1 = .ok (.ifCond .lt 19, 3) := by decide +kernel
theorem dX11_refuse_4 : decode cX11_refuse 4 = .ok (.iload_n 1, 1) := by decide +kernel
theorem dX11_refuse_5 : decode cX11_refuse 5 = .ok (.bipush 6, 2) := by decide +kernel
theorem dX11_refuse_7 : decode cX11_refuse 7 = .ok (.if_icmp .ge 13, 3) := by decide +kernel
theorem dX11_refuse_10 : decode cX11_refuse 10 = .ok (.aload_n 0, 1) := by decide +kernel
theorem dX11_refuse_11 : decode cX11_refuse 11 = .ok (.getfield 88, 3) := by decide +kernel
theorem dX11_refuse_14 : decode cX11_refuse 14 = .ok (.iload_n 1, 1) := by decide +kernel
theorem dX11_refuse_15 : decode cX11_refuse 15 = .ok (.dup2, 1) := by decide +kernel
theorem dX11_refuse_16 : decode cX11_refuse 16 = .ok (.iaload, 1) := by decide +kernel
theorem dX11_refuse_17 : decode cX11_refuse 17 = .ok (.iconst 1, 1) := by decide +kernel
theorem dX11_refuse_18 : decode cX11_refuse 18 = .ok (.iadd, 1) := by decide +kernel
theorem dX11_refuse_19 : decode cX11_refuse 19 = .ok (.iastore, 1) := by decide +kernel
theorem dX11_refuse_20 : decode cX11_refuse 20 = .ok (.iconst (-1), 1) := by decide +kernel
theorem dX11_refuse_21 : decode cX11_refuse 21 = .ok (.ireturn, 1) := by decide +kernel
theorem dX11_turnDown_0 : decode cX11_turnDown 0 = .ok (.aload_n 0, 1) := by decide +kernel
theorem dX11_turnDown_1 : decode cX11_turnDown 1 = .ok (.iload_n 1, 1) := by decide +kernel
theorem dX11_turnDown_2 : decode cX11_turnDown 2 = .ok (.invokevirtual 98, 3) := by decide +kernel
theorem dX11_turnDown_5 : decode cX11_turnDown 5 = .ok (.pop, 1) := by decide +kernel
theorem dX11_turnDown_6 : decode cX11_turnDown 6 = .ok (.iconst 0, 1) := by decide +kernel
theorem dX11_turnDown_7 : decode cX11_turnDown 7 = .ok (.ireturn, 1) := by decide +kernel
theorem dX11_putOnTape_0 : decode cX11_putOnTape 0 = .ok (.bipush 24, 2) := by decide +kernel
theorem dX11_putOnTape_2 : decode cX11_putOnTape 2 = .ok (.istore_n 2, 1) := by decide +kernel
theorem dX11_putOnTape_3 : decode cX11_putOnTape 3 = .ok (.iload_n 2, 1) := by decide +kernel
theorem dX11_putOnTape_4 : decode cX11_putOnTape 4 = .ok (.ifCond .lt 45, 3) := by decide +kernel
theorem dX11_putOnTape_7 : decode cX11_putOnTape 7 = .ok (.aload_n 0, 1) := by decide +kernel
theorem dX11_putOnTape_8 : decode cX11_putOnTape 8 = .ok (.getfield 95, 3) := by decide +kernel
theorem dX11_putOnTape_11 : decode cX11_putOnTape 11 = .ok (.sipush 1600, 3) := by decide +kernel
theorem dX11_putOnTape_14 : decode cX11_putOnTape 14 = .ok (.if_icmp .ge 29, 3) := by decide +kernel
theorem dX11_putOnTape_17 : decode cX11_putOnTape 17 = .ok (.aload_n 0, 1) := by decide +kernel
theorem dX11_putOnTape_18 : decode cX11_putOnTape 18 = .ok (.getfield 9, 3) := by decide +kernel
theorem dX11_putOnTape_21 : decode cX11_putOnTape 21 = .ok (.aload_n 0, 1) := by decide +kernel
theorem dX11_putOnTape_22 : decode cX11_putOnTape 22 = .ok (.getfield 95, 3) := by decide +kernel
theorem dX11_putOnTape_25 : decode cX11_putOnTape 25 = .ok (.iload_n 1, 1) := by decide +kernel
theorem dX11_putOnTape_26 : decode cX11_putOnTape 26 = .ok (.iload_n 2, 1) := by decide +kernel
theorem dX11_putOnTape_27 : decode cX11_putOnTape 27 = .ok (.ishr, 1) := by decide +kernel
theorem dX11_putOnTape_28 : decode cX11_putOnTape 28 = .ok (.sipush 255, 3) := by decide +kernel
theorem dX11_putOnTape_31 : decode cX11_putOnTape 31 = .ok (.iand, 1) := by decide +kernel
theorem dX11_putOnTape_32 : decode cX11_putOnTape 32 = .ok (.iastore, 1) := by decide +kernel
theorem dX11_putOnTape_33 : decode cX11_putOnTape 33 = .ok (.aload_n 0, 1) := by decide +kernel
theorem dX11_putOnTape_34 : decode cX11_putOnTape 34 = .ok (.dup, 1) := by decide +kernel
theorem dX11_putOnTape_35 : decode cX11_putOnTape 35 = .ok (.getfield 95, 3) := by decide +kernel
theorem dX11_putOnTape_38 : decode cX11_putOnTape 38 = .ok (.iconst 1, 1) := by decide +kernel
theorem dX11_putOnTape_39 : decode cX11_putOnTape 39 = .ok (.iadd, 1) := by decide +kernel
theorem dX11_putOnTape_40 : decode cX11_putOnTape 40 = .ok (.putfield 95, 3) := by decide +kernel
theorem dX11_putOnTape_43 : decode cX11_putOnTape 43 = .ok (.iinc 2 (-8), 3) := by decide +kernel
theorem dX11_putOnTape_46 : decode cX11_putOnTape 46 = .ok (.goto (-43), 3) := by decide +kernel
theorem dX11_putOnTape_49 : decode cX11_putOnTape 49 = .ok (.return_, 1) := by decide +kernel
theorem dX11_takeTape_0 : decode cX11_takeTape 0 = .ok (.aload_n 0, 1) := by decide +kernel
theorem dX11_takeTape_1 : decode cX11_takeTape 1 = .ok (.getfield 95, 3) := by decide +kernel
theorem dX11_takeTape_4 : decode cX11_takeTape 4 = .ok (.istore_n 1, 1) := by decide +kernel
theorem dX11_takeTape_5 : decode cX11_takeTape 5 = .ok (.aload_n 0, 1) := by decide +kernel
theorem dX11_takeTape_6 : decode cX11_takeTape 6 = .ok (.iconst 0, 1) := by decide +kernel
theorem dX11_takeTape_7 : decode cX11_takeTape 7 = .ok (.putfield 95, 3) := by decide +kernel
theorem dX11_takeTape_10 : decode cX11_takeTape 10 = .ok (.iload_n 1, 1) := by decide +kernel
theorem dX11_takeTape_11 : decode cX11_takeTape 11 = .ok (.ireturn, 1) := by decide +kernel
theorem dX11_canPass_0 : decode cX11_canPass 0 = .ok (.iload_n 1, 1) := by decide +kernel
theorem dX11_canPass_1 : decode cX11_canPass 1 = .ok (.iconst 1, 1) := by decide +kernel
theorem dX11_canPass_2 : decode cX11_canPass 2 = .ok (.if_icmp .lt 27, 3) := by decide +kernel
theorem dX11_canPass_5 : decode cX11_canPass 5 = .ok (.iload_n 1, 1) := by decide +kernel
theorem dX11_canPass_6 : decode cX11_canPass 6 = .ok (.iload_n 2, 1) := by decide +kernel
theorem dX11_canPass_7 : decode cX11_canPass 7 = .ok (.if_icmp .gt 22, 3) := by decide +kernel
theorem dX11_canPass_10 : decode cX11_canPass 10 = .ok (.aload_n 0, 1) := by decide +kernel
theorem dX11_canPass_11 : decode cX11_canPass 11 = .ok (.getfield 26, 3) := by decide +kernel
theorem dX11_canPass_14 : decode cX11_canPass 14 = .ok (.getfield 140, 3) := by decide +kernel
theorem dX11_canPass_17 : decode cX11_canPass 17 = .ok (.iload_n 1, 1) := by decide +kernel
theorem dX11_canPass_18 : decode cX11_canPass 18 = .ok (.iadd, 1) := by decide +kernel
theorem dX11_canPass_19 : decode cX11_canPass 19 = .ok (.sipush 999, 3) := by decide +kernel
theorem dX11_canPass_22 : decode cX11_canPass 22 = .ok (.if_icmp .gt 7, 3) := by decide +kernel
theorem dX11_canPass_25 : decode cX11_canPass 25 = .ok (.iconst 1, 1) := by decide +kernel
theorem dX11_canPass_26 : decode cX11_canPass 26 = .ok (.goto 4, 3) := by decide +kernel
theorem dX11_canPass_29 : decode cX11_canPass 29 = .ok (.iconst 0, 1) := by decide +kernel
theorem dX11_canPass_30 : decode cX11_canPass 30 = .ok (.ireturn, 1) := by decide +kernel
theorem dX11_jobsDone_0 : decode cX11_jobsDone 0 = .ok (.iconst 0, 1) := by decide +kernel
theorem dX11_jobsDone_1 : decode cX11_jobsDone 1 = .ok (.istore_n 1, 1) := by decide +kernel
theorem dX11_jobsDone_2 : decode cX11_jobsDone 2 = .ok (.iconst 0, 1) := by decide +kernel
theorem dX11_jobsDone_3 : decode cX11_jobsDone 3 = .ok (.istore_n 2, 1) := by decide +kernel
theorem dX11_jobsDone_4 : decode cX11_jobsDone 4 = .ok (.iload_n 2, 1) := by decide +kernel
theorem dX11_jobsDone_5 : decode cX11_jobsDone 5 = .ok (.aload_n 0, 1) := by decide +kernel
theorem dX11_jobsDone_6 : decode cX11_jobsDone 6 = .ok (.getfield 16, 3) := by decide +kernel
theorem dX11_jobsDone_9 : decode cX11_jobsDone 9 = .ok (.iconst 3, 1) := by decide +kernel
theorem dX11_jobsDone_10 : decode cX11_jobsDone 10 = .ok (.invokevirtual 137, 3) := by decide +kernel
theorem dX11_jobsDone_13 : decode cX11_jobsDone 13 = .ok (.if_icmp .ge 32, 3) := by decide +kernel
theorem dX11_jobsDone_16 : decode cX11_jobsDone 16 = .ok (.iload_n 1, 1) := by decide +kernel
theorem dX11_jobsDone_17 : decode cX11_jobsDone 17 = .ok (.aload_n 0, 1) := by decide +kernel
theorem dX11_jobsDone_18 : decode cX11_jobsDone 18 = .ok (.getfield 26, 3) := by decide +kernel
theorem dX11_jobsDone_21 : decode cX11_jobsDone 21 = .ok (.iload_n 2, 1) := by decide +kernel
theorem dX11_jobsDone_22 : decode cX11_jobsDone 22 = .ok (.aload_n 0, 1) := by decide +kernel
theorem dX11_jobsDone_23 : decode cX11_jobsDone 23 = .ok (.getfield 16, 3) := by decide +kernel
theorem dX11_jobsDone_26 : decode cX11_jobsDone 26 = .ok (.invokevirtual 349, 3) := by decide +kernel
theorem dX11_jobsDone_29 : decode cX11_jobsDone 29 = .ok (.ifCond .eq 7, 3) := by decide +kernel
theorem dX11_jobsDone_32 : decode cX11_jobsDone 32 = .ok (.iconst 1, 1) := by decide +kernel
theorem dX11_jobsDone_33 : decode cX11_jobsDone 33 = .ok (.goto 4, 3) := by decide +kernel
theorem dX11_jobsDone_36 : decode cX11_jobsDone 36 = .ok (.iconst 0, 1) := by decide +kernel
theorem dX11_jobsDone_37 : decode cX11_jobsDone 37 = .ok (.iadd, 1) := by decide +kernel
theorem dX11_jobsDone_38 : decode cX11_jobsDone 38 = .ok (.istore_n 1, 1) := by decide +kernel
theorem dX11_jobsDone_39 : decode cX11_jobsDone 39 = .ok (.iinc 2 1, 3) := by decide +kernel
theorem dX11_jobsDone_42 : decode cX11_jobsDone 42 = .ok (.goto (-38), 3) := by decide +kernel
theorem dX11_jobsDone_45 : decode cX11_jobsDone 45 = .ok (.iload_n 1, 1) := by decide +kernel
theorem dX11_jobsDone_46 : decode cX11_jobsDone 46 = .ok (.ireturn, 1) := by decide +kernel
theorem dX11_jobsLate_0 : decode cX11_jobsLate 0 = .ok (.iconst 0, 1) := by decide +kernel
theorem dX11_jobsLate_1 : decode cX11_jobsLate 1 = .ok (.istore_n 1, 1) := by decide +kernel
theorem dX11_jobsLate_2 : decode cX11_jobsLate 2 = .ok (.iconst 0, 1) := by decide +kernel
theorem dX11_jobsLate_3 : decode cX11_jobsLate 3 = .ok (.istore_n 2, 1) := by decide +kernel
theorem dX11_jobsLate_4 : decode cX11_jobsLate 4 = .ok (.iload_n 2, 1) := by decide +kernel
theorem dX11_jobsLate_5 : decode cX11_jobsLate 5 = .ok (.aload_n 0, 1) := by decide +kernel
theorem dX11_jobsLate_6 : decode cX11_jobsLate 6 = .ok (.getfield 16, 3) := by decide +kernel
theorem dX11_jobsLate_9 : decode cX11_jobsLate 9 = .ok (.iconst 3, 1) := by decide +kernel
theorem dX11_jobsLate_10 : decode cX11_jobsLate 10 = .ok (.invokevirtual 137, 3) := by decide +kernel
theorem dX11_jobsLate_13 : decode cX11_jobsLate 13 = .ok (.if_icmp .ge 32, 3) := by decide +kernel
theorem dX11_jobsLate_16 : decode cX11_jobsLate 16 = .ok (.iload_n 1, 1) := by decide +kernel
theorem dX11_jobsLate_17 : decode cX11_jobsLate 17 = .ok (.aload_n 0, 1) := by decide +kernel
theorem dX11_jobsLate_18 : decode cX11_jobsLate 18 = .ok (.getfield 26, 3) := by decide +kernel
theorem dX11_jobsLate_21 : decode cX11_jobsLate 21 = .ok (.iload_n 2, 1) := by decide +kernel
theorem dX11_jobsLate_22 : decode cX11_jobsLate 22 = .ok (.aload_n 0, 1) := by decide +kernel
theorem dX11_jobsLate_23 : decode cX11_jobsLate 23 = .ok (.getfield 16, 3) := by decide +kernel
theorem dX11_jobsLate_26 : decode cX11_jobsLate 26 = .ok (.invokevirtual 210, 3) := by decide +kernel
theorem dX11_jobsLate_29 : decode cX11_jobsLate 29 = .ok (.ifCond .le 7, 3) := by decide +kernel
theorem dX11_jobsLate_32 : decode cX11_jobsLate 32 = .ok (.iconst 1, 1) := by decide +kernel
theorem dX11_jobsLate_33 : decode cX11_jobsLate 33 = .ok (.goto 4, 3) := by decide +kernel
theorem dX11_jobsLate_36 : decode cX11_jobsLate 36 = .ok (.iconst 0, 1) := by decide +kernel
theorem dX11_jobsLate_37 : decode cX11_jobsLate 37 = .ok (.iadd, 1) := by decide +kernel
theorem dX11_jobsLate_38 : decode cX11_jobsLate 38 = .ok (.istore_n 1, 1) := by decide +kernel
theorem dX11_jobsLate_39 : decode cX11_jobsLate 39 = .ok (.iinc 2 1, 3) := by decide +kernel
theorem dX11_jobsLate_42 : decode cX11_jobsLate 42 = .ok (.goto (-38), 3) := by decide +kernel
theorem dX11_jobsLate_45 : decode cX11_jobsLate 45 = .ok (.iload_n 1, 1) := by decide +kernel
theorem dX11_jobsLate_46 : decode cX11_jobsLate 46 = .ok (.ireturn, 1) := by decide +kernel
theorem dX11_isShavings_0 : decode cX11_isShavings 0 = .ok (.iload_n 1, 1) := by decide +kernel
theorem dX11_isShavings_1 : decode cX11_isShavings 1 = .ok (.iconst 2, 1) := by decide +kernel
theorem dX11_isShavings_2 : decode cX11_isShavings 2 = .ok (.if_icmp .lt 15, 3) := by decide +kernel
theorem dX11_isShavings_5 : decode cX11_isShavings 5 = .ok (.iload_n 1, 1) := by decide +kernel
theorem dX11_isShavings_6 : decode cX11_isShavings 6 = .ok (.bipush 32, 2) := by decide +kernel
theorem dX11_isShavings_8 : decode cX11_isShavings 8 = .ok (.if_icmp .gt 9, 3) := by decide +kernel
theorem dX11_isShavings_11 : decode cX11_isShavings 11 = .ok (.iload_n 1, 1) := by decide +kernel
theorem dX11_isShavings_12 : decode cX11_isShavings 12 = .ok (.iconst 2, 1) := by decide +kernel
theorem dX11_isShavings_13 : decode cX11_isShavings 13 = .ok (.irem, 1) := by decide +kernel
theorem dX11_isShavings_14 : decode cX11_isShavings 14 = .ok (.ifCond .eq 5, 3) := by decide +kernel
theorem dX11_isShavings_17 : decode cX11_isShavings 17 = .ok (.iconst 0, 1) := by decide +kernel
theorem dX11_isShavings_18 : decode cX11_isShavings 18 = .ok (.ireturn, 1) := by decide +kernel
theorem dX11_isShavings_19 : decode cX11_isShavings 19 = .ok (.iconst 0, 1) := by decide +kernel
theorem dX11_isShavings_20 : decode cX11_isShavings 20 = .ok (.istore_n 2, 1) := by decide +kernel
theorem dX11_isShavings_21 : decode cX11_isShavings 21 = .ok (.iload_n 2, 1) := by decide +kernel
theorem dX11_isShavings_22 : decode cX11_isShavings 22 = .ok (.iconst 1, 1) := by decide +kernel
theorem dX11_isShavings_23 : decode cX11_isShavings 23 = .ok (.iadd, 1) := by decide +kernel
theorem dX11_isShavings_24 : decode cX11_isShavings 24 = .ok (.iload_n 1, 1) := by decide +kernel
theorem dX11_isShavings_25 : decode cX11_isShavings 25 = .ok (.if_icmp .ge 40, 3) := by decide +kernel
theorem dX11_isShavings_28 : decode cX11_isShavings 28 = .ok (.aload_n 0, 1) := by decide +kernel
theorem dX11_isShavings_29 : decode cX11_isShavings 29 = .ok (.getfield 16, 3) := by decide +kernel
theorem dX11_isShavings_32 : decode cX11_isShavings 32 = .ok (.iconst 1, 1) := by decide +kernel
theorem dX11_isShavings_33 : decode cX11_isShavings 33 = .ok (.aload_n 0, 1) := by decide +kernel
theorem dX11_isShavings_34 : decode cX11_isShavings 34 = .ok (.getfield 9, 3) := by decide +kernel
theorem dX11_isShavings_37 : decode cX11_isShavings 37 = .ok (.iload_n 2, 1) := by decide +kernel
theorem dX11_isShavings_38 : decode cX11_isShavings 38 = .ok (.iaload, 1) := by decide +kernel
theorem dX11_isShavings_39 : decode cX11_isShavings 39 = .ok (.invokevirtual 169, 3) := by decide +kernel
theorem dX11_isShavings_42 : decode cX11_isShavings 42 = .ok (.ifCond .eq 15, 3) := by decide +kernel
theorem dX11_isShavings_45 : decode cX11_isShavings 45 = .ok (.aload_n 0, 1) := by decide +kernel
theorem dX11_isShavings_46 : decode cX11_isShavings 46 = .ok (.getfield 9, 3) := by decide +kernel
theorem dX11_isShavings_49 : decode cX11_isShavings 49 = .ok (.iload_n 2, 1) := by decide +kernel
theorem dX11_isShavings_50 : decode cX11_isShavings 50 = .ok (.iconst 1, 1) := by decide +kernel
theorem dX11_isShavings_51 : decode cX11_isShavings 51 = .ok (.iadd, 1) := by decide +kernel
theorem dX11_isShavings_52 : decode cX11_isShavings 52 = .ok (.iaload, 1) := by decide +kernel
theorem dX11_isShavings_53 : decode cX11_isShavings 53 = .ok (.iconst 1, 1) := by decide +kernel
theorem dX11_isShavings_54 : decode cX11_isShavings 54 = .ok (.if_icmp .le 5, 3) := by decide +kernel
theorem dX11_isShavings_57 : decode cX11_isShavings 57 = .ok (.iconst 0, 1) := by decide +kernel
theorem dX11_isShavings_58 : decode cX11_isShavings 58 = .ok (.ireturn, 1) := by decide +kernel
theorem dX11_isShavings_59 : decode cX11_isShavings 59 = .ok (.iinc 2 2, 3) := by decide +kernel
theorem dX11_isShavings_62 : decode cX11_isShavings 62 = .ok (.goto (-41), 3) := by decide +kernel
theorem dX11_isShavings_65 : decode cX11_isShavings 65 = .ok (.iconst 1, 1) := by decide +kernel
theorem dX11_isShavings_66 : decode cX11_isShavings 66 = .ok (.ireturn, 1) := by decide +kernel
theorem dX11_fitsShavings_0 : decode cX11_fitsShavings 0 = .ok (.iconst 0, 1) := by decide +kernel
theorem dX11_fitsShavings_1 : decode cX11_fitsShavings 1 = .ok (.istore_n 3, 1) := by decide +kernel
theorem dX11_fitsShavings_2 : decode cX11_fitsShavings 2 = .ok (.iload_n 3, 1) := by decide +kernel
theorem dX11_fitsShavings_3 : decode cX11_fitsShavings 3 = .ok (.iconst 1, 1) := by decide +kernel
theorem dX11_fitsShavings_4 : decode cX11_fitsShavings 4 = .ok (.iadd, 1) := by decide +kernel
theorem dX11_fitsShavings_5 : decode cX11_fitsShavings 5 = .ok (.iload_n 1, 1) := by decide +kernel
theorem dX11_fitsShavings_6 : decode cX11_fitsShavings 6 = .ok (.if_icmp .ge 41, 3) := by decide +kernel
theorem dX11_fitsShavings_9 : decode cX11_fitsShavings 9 = .ok (.iload_n 3, 1) := by decide +kernel
theorem dX11_fitsShavings_10 : decode cX11_fitsShavings 10 = .ok (.iconst 1, 1) := by decide +kernel
theorem dX11_fitsShavings_11 : decode cX11_fitsShavings 11 = .ok (.iadd, 1) := by decide +kernel
theorem dX11_fitsShavings_12 : decode cX11_fitsShavings 12 = .ok (.sipush 1600, 3) := by decide +kernel
theorem dX11_fitsShavings_15 : decode cX11_fitsShavings 15 = .ok (.if_icmp .ge 32, 3) := by decide +kernel
theorem dX11_fitsShavings_18 : decode cX11_fitsShavings 18 = .ok (.iload_n 2, 1) := by decide +kernel
theorem dX11_fitsShavings_19 : decode cX11_fitsShavings 19 = .ok (.aload_n 0, 1) := by decide +kernel
theorem dX11_fitsShavings_20 : decode cX11_fitsShavings 20 = .ok (.getfield 9, 3) := by decide +kernel
theorem dX11_fitsShavings_23 : decode cX11_fitsShavings 23 = .ok (.iload_n 3, 1) := by decide +kernel
theorem dX11_fitsShavings_24 : decode cX11_fitsShavings 24 = .ok (.iaload, 1) := by decide +kernel
theorem dX11_fitsShavings_25 : decode cX11_fitsShavings 25 = .ok (.ishr, 1) := by decide +kernel
theorem dX11_fitsShavings_26 : decode cX11_fitsShavings 26 = .ok (.iconst 1, 1) := by decide +kernel
theorem dX11_fitsShavings_27 : decode cX11_fitsShavings 27 = .ok (.iand, 1) := by decide +kernel
theorem dX11_fitsShavings_28 : decode cX11_fitsShavings 28 = .ok (.aload_n 0, 1) := by decide +kernel
theorem dX11_fitsShavings_29 : decode cX11_fitsShavings 29 = .ok (.getfield 9, 3) := by decide +kernel
theorem dX11_fitsShavings_32 : decode cX11_fitsShavings 32 = .ok (.iload_n 3, 1) := by decide +kernel
theorem dX11_fitsShavings_33 : decode cX11_fitsShavings 33 = .ok (.iconst 1, 1) := by decide +kernel
theorem dX11_fitsShavings_34 : decode cX11_fitsShavings 34 = .ok (.iadd, 1) := by decide +kernel
theorem dX11_fitsShavings_35 : decode cX11_fitsShavings 35 = .ok (.iaload, 1) := by decide +kernel
theorem dX11_fitsShavings_36 : decode cX11_fitsShavings 36 = .ok (.if_icmp .eq 5, 3) := by decide +kernel
theorem dX11_fitsShavings_39 : decode cX11_fitsShavings 39 = .ok (.iconst 0, 1) := by decide +kernel
theorem dX11_fitsShavings_40 : decode cX11_fitsShavings 40 = .ok (.ireturn, 1) := by decide +kernel
theorem dX11_fitsShavings_41 : decode cX11_fitsShavings 41 = .ok (.iinc 3 2, 3) := by decide +kernel
theorem dX11_fitsShavings_44 : decode cX11_fitsShavings 44 = .ok (.goto (-42), 3) := by decide +kernel
theorem dX11_fitsShavings_47 : decode cX11_fitsShavings 47 = .ok (.iconst 1, 1) := by decide +kernel
theorem dX11_fitsShavings_48 : decode cX11_fitsShavings 48 = .ok (.ireturn, 1) := by decide +kernel
theorem dX11_beginAct_0 : decode cX11_beginAct 0 = .ok (.aload_n 0, 1) := by decide +kernel
theorem dX11_beginAct_1 : decode cX11_beginAct 1 = .ok (.getfield 33, 3) := by decide +kernel
theorem dX11_beginAct_4 : decode cX11_beginAct 4 = .ok (.aload_n 0, 1) := by decide +kernel
theorem dX11_beginAct_5 : decode cX11_beginAct 5 = .ok (.getfield 26, 3) := by decide +kernel
theorem dX11_beginAct_8 : decode cX11_beginAct 8 = .ok (.invokevirtual 353, 3) := by decide +kernel
theorem dX11_beginAct_11 : decode cX11_beginAct 11 = .ok (.aload_n 0, 1) := by decide +kernel
theorem dX11_beginAct_12 : decode cX11_beginAct 12 = .ok (.getfield 49, 3) := by decide +kernel
theorem dX11_beginAct_15 : decode cX11_beginAct 15 = .ok (.invokevirtual 324, 3) := by decide +kernel
theorem dX11_beginAct_18 : decode cX11_beginAct 18 = .ok (.return_, 1) := by decide +kernel
theorem dX11_draw_0 : decode cX11_draw 0 = .ok (.aload_n 0, 1) := by decide +kernel
theorem dX11_draw_1 : decode cX11_draw 1 = .ok (.ldc2_w 356, 3) := by decide +kernel
theorem dX11_draw_4 : decode cX11_draw 4 = .ok (.aload_n 0, 1) := by decide +kernel
theorem dX11_draw_5 : decode cX11_draw 5 = .ok (.getfield 91, 3) := by decide +kernel
theorem dX11_draw_8 : decode cX11_draw 8 = .ok (.i2l, 1) := by decide +kernel
theorem dX11_draw_9 : decode cX11_draw 9 = .ok (.lmul, 1) := by decide +kernel
theorem dX11_draw_10 : decode cX11_draw 10 = .ok (.ldc2_w 358, 3) := by decide +kernel
theorem dX11_draw_13 : decode cX11_draw 13 = .ok (.ladd, 1) := by decide +kernel
theorem dX11_draw_14 : decode cX11_draw 14 = .ok (.ldc2_w 360, 3) := by decide +kernel
theorem dX11_draw_17 : decode cX11_draw 17 = .ok (.land, 1) := by decide +kernel
theorem dX11_draw_18 : decode cX11_draw 18 = .ok (.l2i, 1) := by decide +kernel
theorem dX11_draw_19 : decode cX11_draw 19 = .ok (.putfield 91, 3) := by decide +kernel
theorem dX11_draw_22 : decode cX11_draw 22 = .ok (.iload_n 1, 1) := by decide +kernel
theorem dX11_draw_23 : decode cX11_draw 23 = .ok (.ifCond .le 15, 3) := by decide +kernel
theorem dX11_draw_26 : decode cX11_draw 26 = .ok (.aload_n 0, 1) := by decide +kernel
theorem dX11_draw_27 : decode cX11_draw 27 = .ok (.getfield 91, 3) := by decide +kernel
theorem dX11_draw_30 : decode cX11_draw 30 = .ok (.bipush 64, 2) := by decide +kernel
theorem dX11_draw_32 : decode cX11_draw 32 = .ok (.idiv, 1) := by decide +kernel
theorem dX11_draw_33 : decode cX11_draw 33 = .ok (.iload_n 1, 1) := by decide +kernel
theorem dX11_draw_34 : decode cX11_draw 34 = .ok (.irem, 1) := by decide +kernel
theorem dX11_draw_35 : decode cX11_draw 35 = .ok (.goto 4, 3) := by decide +kernel
theorem dX11_draw_38 : decode cX11_draw 38 = .ok (.iconst 0, 1) := by decide +kernel
theorem dX11_draw_39 : decode cX11_draw 39 = .ok (.ireturn, 1) := by decide +kernel
theorem dX12_init_0 : decode cX12_init 0 = .ok (.aload_n 0, 1) := by decide +kernel
theorem dX12_init_1 : decode cX12_init 1 = .ok (.invokespecial 1, 3) := by decide +kernel
theorem dX12_init_4 : decode cX12_init 4 = .ok (.aload_n 0, 1) := by decide +kernel
theorem dX12_init_5 : decode cX12_init 5 = .ok (.sipush 1800, 3) := by decide +kernel
theorem dX12_init_8 : decode cX12_init 8 = .ok (.newarray .int, 2) := by decide +kernel
theorem dX12_init_10 : decode cX12_init 10 = .ok (.putfield 7, 3) := by decide +kernel
theorem dX12_init_13 : decode cX12_init 13 = .ok (.aload_n 0, 1) := by decide +kernel
theorem dX12_init_14 : decode cX12_init 14 = .ok (.iconst 0, 1) := by decide +kernel
theorem dX12_init_15 : decode cX12_init 15 = .ok (.putfield 13, 3) := by decide +kernel
theorem dX12_init_18 : decode cX12_init 18 = .ok (.aload_n 0, 1) := by decide +kernel
theorem dX12_init_19 : decode cX12_init 19 = .ok (.iconst 0, 1) := by decide +kernel
theorem dX12_init_20 : decode cX12_init 20 = .ok (.putfield 17, 3) := by decide +kernel
theorem dX12_init_23 : decode cX12_init 23 = .ok (.aload_n 0, 1) := by decide +kernel
theorem dX12_init_24 : decode cX12_init 24 = .ok (.iconst 0, 1) := by decide +kernel
theorem dX12_init_25 : decode cX12_init 25 = .ok (.putfield 20, 3) := by decide +kernel
theorem dX12_init_28 : decode cX12_init 28 = .ok (.aload_n 0, 1) := by decide +kernel
theorem dX12_init_29 : decode cX12_init 29 = .ok (.iconst 0, 1) := by decide +kernel
theorem dX12_init_30 : decode cX12_init 30 = .ok (.putfield 23, 3) := by decide +kernel
theorem dX12_init_33 : decode cX12_init 33 = .ok (.aload_n 0, 1) := by decide +kernel
theorem dX12_init_34 : decode cX12_init 34 = .ok (.iconst 0, 1) := by decide +kernel
theorem dX12_init_35 : decode cX12_init 35 = .ok (.putfield 26, 3) := by decide +kernel
theorem dX12_init_38 : decode cX12_init 38 = .ok (.aload_n 0, 1) := by decide +kernel
theorem dX12_init_39 : decode cX12_init 39 = .ok (.iconst 0, 1) := by decide +kernel
theorem dX12_init_40 : decode cX12_init 40 = .ok (.putfield 29, 3) := by decide +kernel
theorem dX12_init_43 : decode cX12_init 43 = .ok (.aload_n 0, 1) := by decide +kernel
theorem dX12_init_44 : decode cX12_init 44 = .ok (.lconst 0, 1) := by decide +kernel
theorem dX12_init_45 : decode cX12_init 45 = .ok (.putfield 32, 3) := by decide +kernel
theorem dX12_init_48 : decode cX12_init 48 = .ok (.aload_n 0, 1) := by decide +kernel
theorem dX12_init_49 : decode cX12_init 49 = .ok (.iconst 0, 1) := by decide +kernel
theorem dX12_init_50 : decode cX12_init 50 = .ok (.putfield 36, 3) := by decide +kernel
theorem dX12_init_53 : decode cX12_init 53 = .ok (.aload_n 0, 1) := by decide +kernel
theorem dX12_init_54 : decode cX12_init 54 = .ok (.iconst (-1), 1) := by decide +kernel
theorem dX12_init_55 : decode cX12_init 55 = .ok (.putfield 39, 3) := by decide +kernel
theorem dX12_init_58 : decode cX12_init 58 = .ok (.aload_n 0, 1) := by decide +kernel
theorem dX12_init_59 : decode cX12_init 59 = .ok (.iconst 0, 1) := by decide +kernel
theorem dX12_init_60 : decode cX12_init 60 = .ok (.putfield 42, 3) := by decide +kernel
theorem dX12_init_63 : decode cX12_init 63 = .ok (.aload_n 0, 1) := by decide +kernel
theorem dX12_init_64 : decode cX12_init 64 = .ok (.iconst (-1), 1) := by decide +kernel
theorem dX12_init_65 : decode cX12_init 65 = .ok (.putfield 45, 3) := by decide +kernel
theorem dX12_init_68 : decode cX12_init 68 = .ok (.aload_n 0, 1) := by decide +kernel
theorem dX12_init_69 : decode cX12_init 69 = .ok (.iconst (-1), 1) := by decide +kernel
theorem dX12_init_70 : decode cX12_init 70 = .ok (.putfield 48, 3) := by decide +kernel
theorem dX12_init_73 : decode cX12_init 73 = .ok (.aload_n 0, 1) := by decide +kernel
theorem dX12_init_74 : decode cX12_init 74 = .ok (.iconst 0, 1) := by decide +kernel
theorem dX12_init_75 : decode cX12_init 75 = .ok (.putfield 51, 3) := by decide +kernel
theorem dX12_init_78 : decode cX12_init 78 = .ok (.aload_n 0, 1) := by decide +kernel
theorem dX12_init_79 : decode cX12_init 79 = .ok (.iconst 2, 1) := by decide +kernel
theorem dX12_init_80 : decode cX12_init 80 = .ok (.newarray .int, 2) := by decide +kernel
theorem dX12_init_82 : decode cX12_init 82 = .ok (.putfield 54, 3) := by decide +kernel
theorem dX12_init_85 : decode cX12_init 85 = .ok (.aload_n 0, 1) := by decide +kernel
theorem dX12_init_86 : decode cX12_init 86 = .ok (.bipush 12, 2) := by decide +kernel
theorem dX12_init_88 : decode cX12_init 88 = .ok (.newarray .int, 2) := by decide +kernel
theorem dX12_init_90 : decode cX12_init 90 = .ok (.putfield 57, 3) := by decide +kernel
theorem dX12_init_93 : decode cX12_init 93 = .ok (.aload_n 0, 1) := by decide +kernel
theorem dX12_init_94 : decode cX12_init 94 = .ok (.bipush 12, 2) := by decide +kernel
theorem dX12_init_96 : decode cX12_init 96 = .ok (.newarray .int, 2) := by decide +kernel
theorem dX12_init_98 : decode cX12_init 98 = .ok (.putfield 60, 3) := by decide +kernel
theorem dX12_init_101 : decode cX12_init 101 = .ok (.aload_n 0, 1) := by decide +kernel
theorem dX12_init_102 : decode cX12_init 102 = .ok (.iconst 2, 1) := by decide +kernel
theorem dX12_init_103 : decode cX12_init 103 = .ok (.newarray .int, 2) := by decide +kernel
theorem dX12_init_105 : decode cX12_init 105 = .ok (.putfield 63, 3) := by decide +kernel
theorem dX12_init_108 : decode cX12_init 108 = .ok (.aload_n 0, 1) := by decide +kernel
theorem dX12_init_109 : decode cX12_init 109 = .ok (.bipush 16, 2) := by decide +kernel
theorem dX12_init_111 : decode cX12_init 111 = .ok (.newarray .int, 2) := by decide +kernel
theorem dX12_init_113 : decode cX12_init 113 = .ok (.putfield 66, 3) := by decide +kernel
theorem dX12_init_116 : decode cX12_init 116 = .ok (.aload_n 0, 1) := by decide +kernel
theorem dX12_init_117 : decode cX12_init 117 = .ok (.bipush 16, 2) := by decide +kernel
theorem dX12_init_119 : decode cX12_init 119 = .ok (.newarray .int, 2) := by decide +kernel
theorem dX12_init_121 : decode cX12_init 121 = .ok (.putfield 69, 3) := by decide +kernel
theorem dX12_init_124 : decode cX12_init 124 = .ok (.aload_n 0, 1) := by decide +kernel
theorem dX12_init_125 : decode cX12_init 125 = .ok (.iconst 2, 1) := by decide +kernel
theorem dX12_init_126 : decode cX12_init 126 = .ok (.newarray .int, 2) := by decide +kernel
theorem dX12_init_128 : decode cX12_init 128 = .ok (.putfield 72, 3) := by decide +kernel
theorem dX12_init_131 : decode cX12_init 131 = .ok (.aload_n 0, 1) := by decide +kernel
theorem dX12_init_132 : decode cX12_init 132 = .ok (.bipush 96, 2) := by decide +kernel
theorem dX12_init_134 : decode cX12_init 134 = .ok (.newarray .int, 2) := by decide +kernel
theorem dX12_init_136 : decode cX12_init 136 = .ok (.putfield 75, 3) := by decide +kernel
theorem dX12_init_139 : decode cX12_init 139 = .ok (.aload_n 0, 1) := by decide +kernel
theorem dX12_init_140 : decode cX12_init 140 = .ok (.iconst 2, 1) := by decide +kernel
theorem dX12_init_141 : decode cX12_init 141 = .ok (.newarray .int, 2) := by decide +kernel
theorem dX12_init_143 : decode cX12_init 143 = .ok (.putfield 78, 3) := by decide +kernel
theorem dX12_init_146 : decode cX12_init 146 = .ok (.aload_n 0, 1) := by decide +kernel
theorem dX12_init_147 : decode cX12_init 147 = .ok (.bipush 12, 2) := by decide +kernel
theorem dX12_init_149 : decode cX12_init 149 = .ok (.newarray .int, 2) := by decide +kernel
theorem dX12_init_151 : decode cX12_init 151 = .ok (.putfield 81, 3) := by decide +kernel
theorem dX12_init_154 : decode cX12_init 154 = .ok (.aload_n 0, 1) := by decide +kernel
theorem dX12_init_155 : decode cX12_init 155 = .ok (.bipush 12, 2) := by decide +kernel
theorem dX12_init_157 : decode cX12_init 157 = .ok (.newarray .int, 2) := by decide +kernel
theorem dX12_init_159 : decode cX12_init 159 = .ok (.putfield 84, 3) := by decide +kernel
theorem dX12_init_162 : decode cX12_init 162 = .ok (.aload_n 0, 1) := by decide +kernel
theorem dX12_init_163 : decode cX12_init 163 = .ok (.bipush 48, 2) := by decide +kernel
theorem dX12_init_165 : decode cX12_init 165 = .ok (.newarray .int, 2) := by decide +kernel
theorem dX12_init_167 : decode cX12_init 167 = .ok (.putfield 87, 3) := by decide +kernel
theorem dX12_init_170 : decode cX12_init 170 = .ok (.aload_n 0, 1) := by decide +kernel
theorem dX12_init_171 : decode cX12_init 171 = .ok (.bipush 48, 2) := by decide +kernel
theorem dX12_init_173 : decode cX12_init 173 = .ok (.newarray .int, 2) := by decide +kernel
theorem dX12_init_175 : decode cX12_init 175 = .ok (.putfield 90, 3) := by decide +kernel
theorem dX12_init_178 : decode cX12_init 178 = .ok (.aload_n 0, 1) := by decide +kernel
theorem dX12_init_179 : decode cX12_init 179 = .ok (.bipush 72, 2) := by decide +kernel
theorem dX12_init_181 : decode cX12_init 181 = .ok (.newarray .int, 2) := by decide +kernel
theorem dX12_init_183 : decode cX12_init 183 = .ok (.putfield 93, 3) := by decide +kernel
theorem dX12_init_186 : decode cX12_init 186 = .ok (.aload_n 0, 1) := by decide +kernel
theorem dX12_init_187 : decode cX12_init 187 = .ok (.iconst 2, 1) := by decide +kernel
theorem dX12_init_188 : decode cX12_init 188 = .ok (.newarray .int, 2) := by decide +kernel
theorem dX12_init_190 : decode cX12_init 190 = .ok (.putfield 96, 3) := by decide +kernel
theorem dX12_init_193 : decode cX12_init 193 = .ok (.aload_n 0, 1) := by decide +kernel
theorem dX12_init_194 : decode cX12_init 194 = .ok (.iconst 2, 1) := by decide +kernel
theorem dX12_init_195 : decode cX12_init 195 = .ok (.newarray .int, 2) := by decide +kernel
theorem dX12_init_197 : decode cX12_init 197 = .ok (.putfield 99, 3) := by decide +kernel
theorem dX12_init_200 : decode cX12_init 200 = .ok (.aload_n 0, 1) := by decide +kernel
theorem dX12_init_201 : decode cX12_init 201 = .ok (.bipush 6, 2) := by decide +kernel
theorem dX12_init_203 : decode cX12_init 203 = .ok (.newarray .int, 2) := by decide +kernel
theorem dX12_init_205 : decode cX12_init 205 = .ok (.putfield 102, 3) := by decide +kernel
theorem dX12_init_208 : decode cX12_init 208 = .ok (.aload_n 0, 1) := by decide +kernel
theorem dX12_init_209 : decode cX12_init 209 = .ok (.iconst 4, 1) := by decide +kernel
theorem dX12_init_210 : decode cX12_init 210 = .ok (.newarray .int, 2) := by decide +kernel
theorem dX12_init_212 : decode cX12_init 212 = .ok (.putfield 105, 3) := by decide +kernel
theorem dX12_init_215 : decode cX12_init 215 = .ok (.aload_n 0, 1) := by decide +kernel
theorem dX12_init_216 : decode cX12_init 216 = .ok (.iconst 4, 1) := by decide +kernel
theorem dX12_init_217 : decode cX12_init 217 = .ok (.newarray .int, 2) := by decide +kernel
theorem dX12_init_219 : decode cX12_init 219 = .ok (.putfield 108, 3) := by decide +kernel
theorem dX12_init_222 : decode cX12_init 222 = .ok (.aload_n 0, 1) := by decide +kernel
theorem dX12_init_223 : decode cX12_init 223 = .ok (.sipush 3200, 3) := by decide +kernel
theorem dX12_init_226 : decode cX12_init 226 = .ok (.newarray .int, 2) := by decide +kernel
theorem dX12_init_228 : decode cX12_init 228 = .ok (.putfield 111, 3) := by decide +kernel
theorem dX12_init_231 : decode cX12_init 231 = .ok (.aload_n 0, 1) := by decide +kernel
theorem dX12_init_232 : decode cX12_init 232 = .ok (.sipush 3200, 3) := by decide +kernel
theorem dX12_init_235 : decode cX12_init 235 = .ok (.newarray .int, 2) := by decide +kernel
theorem dX12_init_237 : decode cX12_init 237 = .ok (.putfield 114, 3) := by decide +kernel
theorem dX12_init_240 : decode cX12_init 240 = .ok (.aload_n 0, 1) := by decide +kernel
theorem dX12_init_241 : decode cX12_init 241 = .ok (.bipush 12, 2) := by decide +kernel
theorem dX12_init_243 : decode cX12_init 243 = .ok (.newarray .long, 2) := by decide +kernel
theorem dX12_init_245 : decode cX12_init 245 = .ok (.putfield 117, 3) := by decide +kernel
theorem dX12_init_248 : decode cX12_init 248 = .ok (.aload_n 0, 1) := by decide +kernel
theorem dX12_init_249 : decode cX12_init 249 = .ok (.bipush 16, 2) := by decide +kernel
theorem dX12_init_251 : decode cX12_init 251 = .ok (.newarray .long, 2) := by decide +kernel
theorem dX12_init_253 : decode cX12_init 253 = .ok (.putfield 121, 3) := by decide +kernel
theorem dX12_init_256 : decode cX12_init 256 = .ok (.aload_n 0, 1) := by decide +kernel
theorem dX12_init_257 : decode cX12_init 257 = .ok (.bipush 12, 2) := by decide +kernel
theorem dX12_init_259 : decode cX12_init 259 = .ok (.newarray .long, 2) := by decide +kernel
theorem dX12_init_261 : decode cX12_init 261 = .ok (.putfield 124, 3) := by decide +kernel
theorem dX12_init_264 : decode cX12_init 264 = .ok (.aload_n 0, 1) := by decide +kernel
theorem dX12_init_265 : decode cX12_init 265 = .ok (.bipush 12, 2) := by decide +kernel
theorem dX12_init_267 : decode cX12_init 267 = .ok (.newarray .long, 2) := by decide +kernel
theorem dX12_init_269 : decode cX12_init 269 = .ok (.putfield 127, 3) := by decide +kernel
theorem dX12_init_272 : decode cX12_init 272 = .ok (.aload_n 0, 1) := by decide +kernel
theorem dX12_init_273 : decode cX12_init 273 = .ok (.iconst 0, 1) := by decide +kernel
theorem dX12_init_274 : decode cX12_init 274 = .ok (.putfield 130, 3) := by decide +kernel
theorem dX12_init_277 : decode cX12_init 277 = .ok (.aload_n 0, 1) := by decide +kernel
theorem dX12_init_278 : decode cX12_init 278 = .ok (.iconst 1, 1) := by decide +kernel
theorem dX12_init_279 : decode cX12_init 279 = .ok (.putfield 133, 3) := by decide +kernel
theorem dX12_init_282 : decode cX12_init 282 = .ok (.aload_n 0, 1) := by decide +kernel
theorem dX12_init_283 : decode cX12_init 283 = .ok (.iconst 0, 1) := by decide +kernel
theorem dX12_init_284 : decode cX12_init 284 = .ok (.putfield 136, 3) := by decide +kernel
theorem dX12_init_287 : decode cX12_init 287 = .ok (.aload_n 0, 1) := by decide +kernel
theorem dX12_init_288 : decode cX12_init 288 = .ok (.bipush 20, 2) := by decide +kernel
theorem dX12_init_290 : decode cX12_init 290 = .ok (.newarray .int, 2) := by decide +kernel
theorem dX12_init_292 : decode cX12_init 292 = .ok (.putfield 140, 3) := by decide +kernel
theorem dX12_init_295 : decode cX12_init 295 = .ok (.aload_n 0, 1) := by decide +kernel
theorem dX12_init_296 : decode cX12_init 296 = .ok (.bipush 20, 2) := by decide +kernel
theorem dX12_init_298 : decode cX12_init 298 = .ok (.newarray .int, 2) := by decide +kernel
theorem dX12_init_300 : decode cX12_init 300 = .ok (.putfield 143, 3) := by decide +kernel
theorem dX12_init_303 : decode cX12_init 303 = .ok (.aload_n 0, 1) := by decide +kernel
theorem dX12_init_304 : decode cX12_init 304 = .ok (.bipush 20, 2) := by decide +kernel
theorem dX12_init_306 : decode cX12_init 306 = .ok (.newarray .boolean, 2) := by decide +kernel
theorem dX12_init_308 : decode cX12_init 308 = .ok (.putfield 146, 3) := by decide +kernel
theorem dX12_init_311 : decode cX12_init 311 = .ok (.aload_n 0, 1) := by decide +kernel
theorem dX12_init_312 : decode cX12_init 312 = .ok (.bipush 20, 2) := by decide +kernel
theorem dX12_init_314 : decode cX12_init 314 = .ok (.newarray .int, 2) := by decide +kernel
theorem dX12_init_316 : decode cX12_init 316 = .ok (.putfield 150, 3) := by decide +kernel
theorem dX12_init_319 : decode cX12_init 319 = .ok (.aload_n 0, 1) := by decide +kernel
theorem dX12_init_320 : decode cX12_init 320 = .ok (.bipush 20, 2) := by decide +kernel
theorem dX12_init_322 : decode cX12_init 322 = .ok (.newarray .int, 2) := by decide +kernel
theorem dX12_init_324 : decode cX12_init 324 = .ok (.putfield 153, 3) := by decide +kernel
theorem dX12_init_327 : decode cX12_init 327 = .ok (.aload_n 0, 1) := by decide +kernel
theorem dX12_init_328 : decode cX12_init 328 = .ok (.iconst 0, 1) := by decide +kernel
theorem dX12_init_329 : decode cX12_init 329 = .ok (.putfield 156, 3) := by decide +kernel
theorem dX12_init_332 : decode cX12_init 332 = .ok (.aload_n 0, 1) := by decide +kernel
theorem dX12_init_333 : decode cX12_init 333 = .ok (.iconst 0, 1) := by decide +kernel
theorem dX12_init_334 : decode cX12_init 334 = .ok (.putfield 159, 3) := by decide +kernel
theorem dX12_init_337 : decode cX12_init 337 = .ok (.aload_n 0, 1) := by decide +kernel
theorem dX12_init_338 : decode cX12_init 338 = .ok (.sipush 500, 3) := by decide +kernel
theorem dX12_init_341 : decode cX12_init 341 = .ok (.newarray .int, 2) := by decide +kernel
theorem dX12_init_343 : decode cX12_init 343 = .ok (.putfield 162, 3) := by decide +kernel
theorem dX12_init_346 : decode cX12_init 346 = .ok (.aload_n 0, 1) := by decide +kernel
theorem dX12_init_347 : decode cX12_init 347 = .ok (.iconst 0, 1) := by decide +kernel
theorem dX12_init_348 : decode cX12_init 348 = .ok (.putfield 165, 3) := by decide +kernel
theorem dX12_init_351 : decode cX12_init 351 = .ok (.aload_n 0, 1) := by decide +kernel
theorem dX12_init_352 : decode cX12_init 352 = .ok (.iconst 0, 1) := by decide +kernel
theorem dX12_init_353 : decode cX12_init 353 = .ok (.putfield 168, 3) := by decide +kernel
theorem dX12_init_356 : decode cX12_init 356 = .ok (.aload_n 0, 1) := by decide +kernel
theorem dX12_init_357 : decode cX12_init 357 = .ok (.iconst 0, 1) := by decide +kernel
theorem dX12_init_358 : decode cX12_init 358 = .ok (.putfield 171, 3) := by decide +kernel
theorem dX12_init_361 : decode cX12_init 361 = .ok (.aload_n 0, 1) := by decide +kernel
theorem dX12_init_362 : decode cX12_init 362 = .ok (.bipush 6, 2) := by decide +kernel
theorem dX12_init_364 : decode cX12_init 364 = .ok (.newarray .int, 2) := by decide +kernel
theorem dX12_init_366 : decode cX12_init 366 = .ok (.putfield 174, 3) := by decide +kernel
theorem dX12_init_369 : decode cX12_init 369 = .ok (.aload_n 0, 1) := by decide +kernel
theorem dX12_init_370 : decode cX12_init 370 = .ok (.bipush 22, 2) := by decide +kernel
theorem dX12_init_372 : decode cX12_init 372 = .ok (.newarray .int, 2) := by decide +kernel
theorem dX12_init_374 : decode cX12_init 374 = .ok (.putfield 177, 3) := by decide +kernel
theorem dX12_init_377 : decode cX12_init 377 = .ok (.aload_n 0, 1) := by decide +kernel
theorem dX12_init_378 : decode cX12_init 378 = .ok (.bipush 22, 2) := by decide +kernel
theorem dX12_init_380 : decode cX12_init 380 = .ok (.newarray .int, 2) := by decide +kernel
theorem dX12_init_382 : decode cX12_init 382 = .ok (.putfield 180, 3) := by decide +kernel
theorem dX12_init_385 : decode cX12_init 385 = .ok (.aload_n 0, 1) := by decide +kernel
theorem dX12_init_386 : decode cX12_init 386 = .ok (.sipush 176, 3) := by decide +kernel
theorem dX12_init_389 : decode cX12_init 389 = .ok (.newarray .int, 2) := by decide +kernel
theorem dX12_init_391 : decode cX12_init 391 = .ok (.putfield 183, 3) := by decide +kernel
theorem dX12_init_394 : decode cX12_init 394 = .ok (.aload_n 0, 1) := by decide +kernel
theorem dX12_init_395 : decode cX12_init 395 = .ok (.bipush 22, 2) := by decide +kernel
theorem dX12_init_397 : decode cX12_init 397 = .ok (.newarray .int, 2) := by decide +kernel
theorem dX12_init_399 : decode cX12_init 399 = .ok (.putfield 186, 3) := by decide +kernel
theorem dX12_init_402 : decode cX12_init 402 = .ok (.aload_n 0, 1) := by decide +kernel
theorem dX12_init_403 : decode cX12_init 403 = .ok (.bipush 22, 2) := by decide +kernel
theorem dX12_init_405 : decode cX12_init 405 = .ok (.newarray .int, 2) := by decide +kernel
theorem dX12_init_407 : decode cX12_init 407 = .ok (.putfield 189, 3) := by decide +kernel
theorem dX12_init_410 : decode cX12_init 410 = .ok (.aload_n 0, 1) := by decide +kernel
theorem dX12_init_411 : decode cX12_init 411 = .ok (.sipush 1056, 3) := by decide +kernel
theorem dX12_init_414 : decode cX12_init 414 = .ok (.newarray .int, 2) := by decide +kernel
theorem dX12_init_416 : decode cX12_init 416 = .ok (.putfield 192, 3) := by decide +kernel
theorem dX12_init_419 : decode cX12_init 419 = .ok (.aload_n 0, 1) := by decide +kernel
theorem dX12_init_420 : decode cX12_init 420 = .ok (.sipush 132, 3) := by decide +kernel
theorem dX12_init_423 : decode cX12_init 423 = .ok (.newarray .int, 2) := by decide +kernel
theorem dX12_init_425 : decode cX12_init 425 = .ok (.putfield 195, 3) := by decide +kernel
theorem dX12_init_428 : decode cX12_init 428 = .ok (.aload_n 0, 1) := by decide +kernel
theorem dX12_init_429 : decode cX12_init 429 = .ok (.sipush 132, 3) := by decide +kernel
theorem dX12_init_432 : decode cX12_init 432 = .ok (.newarray .int, 2) := by decide +kernel
theorem dX12_init_434 : decode cX12_init 434 = .ok (.putfield 198, 3) := by decide +kernel
theorem dX12_init_437 : decode cX12_init 437 = .ok (.aload_n 0, 1) := by decide +kernel
theorem dX12_init_438 : decode cX12_init 438 = .ok (.bipush 22, 2) := by decide +kernel
theorem dX12_init_440 : decode cX12_init 440 = .ok (.newarray .int, 2) := by decide +kernel
theorem dX12_init_442 : decode cX12_init 442 = .ok (.putfield 201, 3) := by decide +kernel
theorem dX12_init_445 : decode cX12_init 445 = .ok (.aload_n 0, 1) := by decide +kernel
theorem dX12_init_446 : decode cX12_init 446 = .ok (.sipush 5280, 3) := by decide +kernel
theorem dX12_init_449 : decode cX12_init 449 = .ok (.newarray .int, 2) := by decide +kernel
theorem dX12_init_451 : decode cX12_init 451 = .ok (.putfield 204, 3) := by decide +kernel
theorem dX12_init_454 : decode cX12_init 454 = .ok (.aload_n 0, 1) := by decide +kernel
theorem dX12_init_455 : decode cX12_init 455 = .ok (.iconst 0, 1) := by decide +kernel
theorem dX12_init_456 : decode cX12_init 456 = .ok (.putfield 207, 3) := by decide +kernel
theorem dX12_init_459 : decode cX12_init 459 = .ok (.aload_n 0, 1) := by decide +kernel
theorem dX12_init_460 : decode cX12_init 460 = .ok (.iconst 0, 1) := by decide +kernel
theorem dX12_init_461 : decode cX12_init 461 = .ok (.putfield 210, 3) := by decide +kernel
theorem dX12_init_464 : decode cX12_init 464 = .ok (.aload_n 0, 1) := by decide +kernel
theorem dX12_init_465 : decode cX12_init 465 = .ok (.lconst 1, 1) := by decide +kernel
theorem dX12_init_466 : decode cX12_init 466 = .ok (.putfield 213, 3) := by decide +kernel
theorem dX12_init_469 : decode cX12_init 469 = .ok (.aload_n 0, 1) := by decide +kernel
theorem dX12_init_470 : decode cX12_init 470 = .ok (.sipush 500, 3) := by decide +kernel
theorem dX12_init_473 : decode cX12_init 473 = .ok (.newarray .long, 2) := by decide +kernel
theorem dX12_init_475 : decode cX12_init 475 = .ok (.putfield 216, 3) := by decide +kernel
theorem dX12_init_478 : decode cX12_init 478 = .ok (.aload_n 0, 1) := by decide +kernel
theorem dX12_init_479 : decode cX12_init 479 = .ok (.bipush 12, 2) := by decide +kernel
theorem dX12_init_481 : decode cX12_init 481 = .ok (.newarray .int, 2) := by decide +kernel
theorem dX12_init_483 : decode cX12_init 483 = .ok (.putfield 219, 3) := by decide +kernel
theorem dX12_init_486 : decode cX12_init 486 = .ok (.aload_n 0, 1) := by decide +kernel
theorem dX12_init_487 : decode cX12_init 487 = .ok (.iconst (-1), 1) := by decide +kernel
theorem dX12_init_488 : decode cX12_init 488 = .ok (.putfield 222, 3) := by decide +kernel
theorem dX12_init_491 : decode cX12_init 491 = .ok (.aload_n 0, 1) := by decide +kernel
theorem dX12_init_492 : decode cX12_init 492 = .ok (.iconst 0, 1) := by decide +kernel
theorem dX12_init_493 : decode cX12_init 493 = .ok (.putfield 225, 3) := by decide +kernel
theorem dX12_init_496 : decode cX12_init 496 = .ok (.aload_n 0, 1) := by decide +kernel
theorem dX12_init_497 : decode cX12_init 497 = .ok (.iconst 0, 1) := by decide +kernel
theorem dX12_init_498 : decode cX12_init 498 = .ok (.putfield 228, 3) := by decide +kernel
theorem dX12_init_501 : decode cX12_init 501 = .ok (.aload_n 0, 1) := by decide +kernel
theorem dX12_init_502 : decode cX12_init 502 = .ok (.bipush 6, 2) := by decide +kernel
theorem dX12_init_504 : decode cX12_init 504 = .ok (.newarray .int, 2) := by decide +kernel
theorem dX12_init_506 : decode cX12_init 506 = .ok (.putfield 231, 3) := by decide +kernel
theorem dX12_init_509 : decode cX12_init 509 = .ok (.aload_n 0, 1) := by decide +kernel
theorem dX12_init_510 : decode cX12_init 510 = .ok (.iconst 0, 1) := by decide +kernel
theorem dX12_init_511 : decode cX12_init 511 = .ok (.putfield 234, 3) := by decide +kernel
theorem dX12_init_514 : decode cX12_init 514 = .ok (.aload_n 0, 1) := by decide +kernel
theorem dX12_init_515 : decode cX12_init 515 = .ok (.iconst 0, 1) := by decide +kernel
theorem dX12_init_516 : decode cX12_init 516 = .ok (.putfield 237, 3) := by decide +kernel
theorem dX12_init_519 : decode cX12_init 519 = .ok (.aload_n 0, 1) := by decide +kernel
theorem dX12_init_520 : decode cX12_init 520 = .ok (.iconst 0, 1) := by decide +kernel
theorem dX12_init_521 : decode cX12_init 521 = .ok (.putfield 240, 3) := by decide +kernel
theorem dX12_init_524 : decode cX12_init 524 = .ok (.aload_n 0, 1) := by decide +kernel
theorem dX12_init_525 : decode cX12_init 525 = .ok (.bipush 6, 2) := by decide +kernel
theorem dX12_init_527 : decode cX12_init 527 = .ok (.newarray .int, 2) := by decide +kernel
theorem dX12_init_529 : decode cX12_init 529 = .ok (.putfield 243, 3) := by decide +kernel
theorem dX12_init_532 : decode cX12_init 532 = .ok (.aload_n 0, 1) := by decide +kernel
theorem dX12_init_533 : decode cX12_init 533 = .ok (.bipush 6, 2) := by decide +kernel
theorem dX12_init_535 : decode cX12_init 535 = .ok (.newarray .int, 2) := by decide +kernel
theorem dX12_init_537 : decode cX12_init 537 = .ok (.putfield 246, 3) := by decide +kernel
theorem dX12_init_540 : decode cX12_init 540 = .ok (.aload_n 0, 1) := by decide +kernel
theorem dX12_init_541 : decode cX12_init 541 = .ok (.bipush 6, 2) := by decide +kernel
theorem dX12_init_543 : decode cX12_init 543 = .ok (.newarray .int, 2) := by decide +kernel
theorem dX12_init_545 : decode cX12_init 545 = .ok (.putfield 249, 3) := by decide +kernel
theorem dX12_init_548 : decode cX12_init 548 = .ok (.aload_n 0, 1) := by decide +kernel
theorem dX12_init_549 : decode cX12_init 549 = .ok (.bipush 6, 2) := by decide +kernel
theorem dX12_init_551 : decode cX12_init 551 = .ok (.newarray .int, 2) := by decide +kernel
theorem dX12_init_553 : decode cX12_init 553 = .ok (.putfield 252, 3) := by decide +kernel
theorem dX12_init_556 : decode cX12_init 556 = .ok (.aload_n 0, 1) := by decide +kernel
theorem dX12_init_557 : decode cX12_init 557 = .ok (.bipush 6, 2) := by decide +kernel
theorem dX12_init_559 : decode cX12_init 559 = .ok (.newarray .int, 2) := by decide +kernel
theorem dX12_init_561 : decode cX12_init 561 = .ok (.putfield 255, 3) := by decide +kernel
theorem dX12_init_564 : decode cX12_init 564 = .ok (.aload_n 0, 1) := by decide +kernel
theorem dX12_init_565 : decode cX12_init 565 = .ok (.bipush 6, 2) := by decide +kernel
theorem dX12_init_567 : decode cX12_init 567 = .ok (.newarray .int, 2) := by decide +kernel
theorem dX12_init_569 : decode cX12_init 569 = .ok (.putfield 258, 3) := by decide +kernel
theorem dX12_init_572 : decode cX12_init 572 = .ok (.aload_n 0, 1) := by decide +kernel
theorem dX12_init_573 : decode cX12_init 573 = .ok (.bipush 6, 2) := by decide +kernel
theorem dX12_init_575 : decode cX12_init 575 = .ok (.newarray .int, 2) := by decide +kernel
theorem dX12_init_577 : decode cX12_init 577 = .ok (.putfield 261, 3) := by decide +kernel
theorem dX12_init_580 : decode cX12_init 580 = .ok (.aload_n 0, 1) := by decide +kernel
theorem dX12_init_581 : decode cX12_init 581 = .ok (.iconst 0, 1) := by decide +kernel
theorem dX12_init_582 : decode cX12_init 582 = .ok (.putfield 264, 3) := by decide +kernel
theorem dX12_init_585 : decode cX12_init 585 = .ok (.aload_n 0, 1) := by decide +kernel
theorem dX12_init_586 : decode cX12_init 586 = .ok (.bipush 61, 2) := by decide +kernel
theorem dX12_init_588 : decode cX12_init 588 = .ok (.newarray .int, 2) := by decide +kernel
theorem dX12_init_590 : decode cX12_init 590 = .ok (.putfield 267, 3) := by decide +kernel
theorem dX12_init_593 : decode cX12_init 593 = .ok (.aload_n 0, 1) := by decide +kernel
theorem dX12_init_594 : decode cX12_init 594 = .ok (.bipush 110, 2) := by decide +kernel
theorem dX12_init_596 : decode cX12_init 596 = .ok (.newarray .int, 2) := by decide +kernel
theorem dX12_init_598 : decode cX12_init 598 = .ok (.putfield 270, 3) := by decide +kernel
theorem dX12_init_601 : decode cX12_init 601 = .ok (.aload_n 0, 1) := by decide +kernel
theorem dX12_init_602 : decode cX12_init 602 = .ok (.iconst 0, 1) := by decide +kernel
theorem dX12_init_603 : decode cX12_init 603 = .ok (.putfield 273, 3) := by decide +kernel
theorem dX12_init_606 : decode cX12_init 606 = .ok (.iconst 0, 1) := by decide +kernel
theorem dX12_init_607 : decode cX12_init 607 = .ok (.istore_n 1, 1) := by decide +kernel
theorem dX12_init_608 : decode cX12_init 608 = .ok (.iload_n 1, 1) := by decide +kernel
theorem dX12_init_609 : decode cX12_init 609 = .ok (.iconst 4, 1) := by decide +kernel
theorem dX12_init_610 : decode cX12_init 610 = .ok (.if_icmp .ge 16, 3) := by decide +kernel
theorem dX12_init_613 : decode cX12_init 613 = .ok (.aload_n 0, 1) := by decide +kernel
theorem dX12_init_614 : decode cX12_init 614 = .ok (.getfield 105, 3) := by decide +kernel
theorem dX12_init_617 : decode cX12_init 617 = .ok (.iload_n 1, 1) := by decide +kernel
theorem dX12_init_618 : decode cX12_init 618 = .ok (.iconst (-1), 1) := by decide +kernel
theorem dX12_init_619 : decode cX12_init 619 = .ok (.iastore, 1) := by decide +kernel
theorem dX12_init_620 : decode cX12_init 620 = .ok (.iinc 1 1, 3) := by decide +kernel
theorem dX12_init_623 : decode cX12_init 623 = .ok (.goto (-15), 3) := by decide +kernel
theorem dX12_init_626 : decode cX12_init 626 = .ok (.iconst 0, 1) := by decide +kernel
theorem dX12_init_627 : decode cX12_init 627 = .ok (.istore_n 1, 1) := by decide +kernel
theorem dX12_init_628 : decode cX12_init 628 = .ok (.iload_n 1, 1) := by decide +kernel
theorem dX12_init_629 : decode cX12_init 629 = .ok (.iconst 2, 1) := by decide +kernel
theorem dX12_init_630 : decode cX12_init 630 = .ok (.if_icmp .ge 14, 3) := by decide +kernel
theorem dX12_init_633 : decode cX12_init 633 = .ok (.aload_n 0, 1) := by decide +kernel
theorem dX12_init_634 : decode cX12_init 634 = .ok (.iload_n 1, 1) := by decide +kernel
theorem dX12_init_635 : decode cX12_init 635 = .ok (.invokevirtual 276, 3) := by decide +kernel
theorem dX12_init_638 : decode cX12_init 638 = .ok (.iinc 1 1, 3) := by decide +kernel
theorem dX12_init_641 : decode cX12_init 641 = .ok (.goto (-13), 3) := by decide +kernel
theorem dX12_init_644 : decode cX12_init 644 = .ok (.return_, 1) := by decide +kernel
theorem dX12_is_0 : decode cX12_is 0 = .ok (.iload_n 0, 1) := by decide +kernel
theorem dX12_is_1 : decode cX12_is 1 = .ok (.iload_n 1, 1) := by decide +kernel
theorem dX12_is_2 : decode cX12_is 2 = .ok (.if_icmp .lt 12, 3) := by decide +kernel
theorem dX12_is_5 : decode cX12_is 5 = .ok (.iload_n 0, 1) := by decide +kernel
theorem dX12_is_6 : decode cX12_is 6 = .ok (.iload_n 2, 1) := by decide +kernel
theorem dX12_is_7 : decode cX12_is 7 = .ok (.if_icmp .gt 7, 3) := by decide +kernel
theorem dX12_is_10 : decode cX12_is 10 = .ok (.iconst 1, 1) := by decide +kernel
theorem dX12_is_11 : decode cX12_is 11 = .ok (.goto 4, 3) := by decide +kernel
theorem dX12_is_14 : decode cX12_is 14 = .ok (.iconst 0, 1) := by decide +kernel
theorem dX12_is_15 : decode cX12_is 15 = .ok (.ireturn, 1) := by decide +kernel
theorem dX12_put_0 : decode cX12_put 0 = .ok (.bipush 24, 2) := by decide +kernel
theorem dX12_put_2 : decode cX12_put 2 = .ok (.istore_n 2, 1) := by decide +kernel
theorem dX12_put_3 : decode cX12_put 3 = .ok (.iload_n 2, 1) := by decide +kernel
theorem dX12_put_4 : decode cX12_put 4 = .ok (.ifCond .lt 35, 3) := by decide +kernel
theorem dX12_put_7 : decode cX12_put 7 = .ok (.aload_n 0, 1) := by decide +kernel
theorem dX12_put_8 : decode cX12_put 8 = .ok (.getfield 7, 3) := by decide +kernel
theorem dX12_put_11 : decode cX12_put 11 = .ok (.aload_n 0, 1) := by decide +kernel
theorem dX12_put_12 : decode cX12_put 12 = .ok (.getfield 13, 3) := by decide +kernel
theorem dX12_put_15 : decode cX12_put 15 = .ok (.iload_n 1, 1) := by decide +kernel
theorem dX12_put_16 : decode cX12_put 16 = .ok (.iload_n 2, 1) := by decide +kernel
theorem dX12_put_17 : decode cX12_put 17 = .ok (.ishr, 1) := by decide +kernel
theorem dX12_put_18 : decode cX12_put 18 = .ok (.sipush 255, 3) := by decide +kernel
theorem dX12_put_21 : decode cX12_put 21 = .ok (.iand, 1) := by decide +kernel
theorem dX12_put_22 : decode cX12_put 22 = .ok (.iastore, 1) := by decide +kernel
theorem dX12_put_23 : decode cX12_put 23 = .ok (.aload_n 0, 1) := by decide +kernel
theorem dX12_put_24 : decode cX12_put 24 = .ok (.dup, 1) := by decide +kernel
theorem dX12_put_25 : decode cX12_put 25 = .ok (.getfield 13, 3) := by decide +kernel
theorem dX12_put_28 : decode cX12_put 28 = .ok (.iconst 1, 1) := by decide +kernel
theorem dX12_put_29 : decode cX12_put 29 = .ok (.iadd, 1) := by decide +kernel
theorem dX12_put_30 : decode cX12_put 30 = .ok (.putfield 13, 3) := by decide +kernel
theorem dX12_put_33 : decode cX12_put 33 = .ok (.iinc 2 (-8), 3) := by decide +kernel
theorem dX12_put_36 : decode cX12_put 36 = .ok (.goto (-33), 3) := by decide +kernel
theorem dX12_put_39 : decode cX12_put 39 = .ok (.return_, 1) := by decide +kernel
theorem dX12_feed_0 : decode cX12_feed 0 = .ok (.aload_n 0, 1) := by decide +kernel
theorem dX12_feed_1 : decode cX12_feed 1 = .ok (.getfield 13, 3) := by decide +kernel
theorem dX12_feed_4 : decode cX12_feed 4 = .ok (.bipush 20, 2) := by decide +kernel
theorem dX12_feed_6 : decode cX12_feed 6 = .ok (.iadd, 1) := by decide +kernel
theorem dX12_feed_7 : decode cX12_feed 7 = .ok (.sipush 1600, 3) := by decide +kernel
theorem dX12_feed_10 : decode cX12_feed 10 = .ok (.if_icmp .le 9, 3) := by decide +kernel
theorem dX12_feed_13 : decode cX12_feed 13 = .ok (.aload_n 0, 1) := by decide +kernel
theorem dX12_feed_14 : decode cX12_feed 14 = .ok (.iconst 0, 1) := by decide +kernel
theorem dX12_feed_15 : decode cX12_feed 15 = .ok (.invokevirtual 280, 3) := by decide +kernel
theorem dX12_feed_18 : decode cX12_feed 18 = .ok (.ireturn, 1) := by decide +kernel
theorem dX12_feed_19 : decode cX12_feed 19 = .ok (.aload_n 0, 1) := by decide +kernel
theorem dX12_feed_20 : decode cX12_feed 20 = .ok (.iload_n 1, 1) := by decide +kernel
theorem dX12_feed_21 : decode cX12_feed 21 = .ok (.invokevirtual 284, 3) := by decide +kernel
theorem dX12_feed_24 : decode cX12_feed 24 = .ok (.aload_n 0, 1) := by decide +kernel
theorem dX12_feed_25 : decode cX12_feed 25 = .ok (.iload_n 2, 1) := by decide +kernel
theorem dX12_feed_26 : decode cX12_feed 26 = .ok (.invokevirtual 284, 3) := by decide +kernel
theorem dX12_feed_29 : decode cX12_feed 29 = .ok (.aload_n 0, 1) := by decide +kernel
theorem dX12_feed_30 : decode cX12_feed 30 = .ok (.iload_n 3, 1) := by decide +kernel
theorem dX12_feed_31 : decode cX12_feed 31 = .ok (.invokevirtual 284, 3) := by decide +kernel
theorem dX12_feed_34 : decode cX12_feed 34 = .ok (.aload_n 0, 1) := by decide +kernel
theorem dX12_feed_35 : decode cX12_feed 35 = .ok (.iload 4, 2) := by decide +kernel
theorem dX12_feed_37 : decode cX12_feed 37 = .ok (.invokevirtual 284, 3) := by decide +kernel
theorem dX12_feed_40 : decode cX12_feed 40 = .ok (.aload_n 0, 1) := by decide +kernel
theorem dX12_feed_41 : decode cX12_feed 41 = .ok (.iload 5, 2) := by decide +kernel
theorem dX12_feed_43 : decode cX12_feed 43 = .ok (.invokevirtual 284, 3) := by decide +kernel
theorem dX12_feed_46 : decode cX12_feed 46 = .ok (.aload_n 0, 1) := by decide +kernel
theorem dX12_feed_47 : decode cX12_feed 47 = .ok (.getfield 13, 3) := by decide +kernel
theorem dX12_feed_50 : decode cX12_feed 50 = .ok (.ireturn, 1) := by decide +kernel
theorem dX12_end_0 : decode cX12_end 0 = .ok (.iload_n 1, 1) := by decide +kernel
theorem dX12_end_1 : decode cX12_end 1 = .ok (.ifCond .lt 11, 3) := by decide +kernel
theorem dX12_end_4 : decode cX12_end 4 = .ok (.iload_n 1, 1) := by decide +kernel
theorem dX12_end_5 : decode cX12_end 5 = .ok (.aload_n 0, 1) := by decide +kernel
theorem dX12_end_6 : decode cX12_end 6 = .ok (.getfield 13, 3) := by decide +kernel
theorem dX12_end_9 : decode cX12_end 9 = .ok (.if_icmp .le 17, 3) := by decide +kernel
theorem dX12_end_12 : decode cX12_end 12 = .ok (.aload_n 0, 1) := by decide +kernel
theorem dX12_end_13 : decode cX12_end 13 = .ok (.iconst 0, 1) := by decide +kernel
theorem dX12_end_14 : decode cX12_end 14 = .ok (.invokevirtual 280, 3) := by decide +kernel
theorem dX12_end_17 : decode cX12_end 17 = .ok (.ifCond .lt 7, 3) := by decide +kernel
theorem dX12_end_20 : decode cX12_end 20 = .ok (.iconst 1, 1) := by decide +kernel
theorem dX12_end_21 : decode cX12_end 21 = .ok (.goto 4, 3) := by decide +kernel
theorem dX12_end_24 : decode cX12_end 24 = .ok (.iconst 0, 1) := by decide +kernel
theorem dX12_end_25 : decode cX12_end 25 = .ok (.ireturn, 1) := by decide +kernel
theorem dX12_end_26 : decode cX12_end 26 = .ok (.aload_n 0, 1) := by decide +kernel
theorem dX12_end_27 : decode cX12_end 27 = .ok (.iload_n 1, 1) := by decide +kernel
theorem dX12_end_28 : decode cX12_end 28 = .ok (.putfield 13, 3) := by decide +kernel
theorem dX12_end_31 : decode cX12_end 31 = .ok (.iconst 1, 1) := by decide +kernel
theorem dX12_end_32 : decode cX12_end 32 = .ok (.ireturn, 1) := by decide +kernel
theorem dX12_blame_0 : decode cX12_blame 0 = .ok (.aload_n 0, 1) := by decide +kernel
theorem dX12_blame_1 : decode cX12_blame 1 = .ok (.getfield 36, 3) := by decide +kernel
theorem dX12_blame_4 : decode cX12_blame 4 = .ok (.ifCond .le 4, 3) := by decide +kernel
theorem dX12_blame_7 : decode cX12_blame 7 = .ok (.return_, 1) := by decide +kernel
theorem dX12_blame_8 : decode cX12_blame 8 = .ok (.aload_n 0, 1) := by decide +kernel
theorem dX12_blame_9 : decode cX12_blame 9 = .ok (.iload_n 1, 1) := by decide +kernel
theorem dX12_blame_10 : decode cX12_blame 10 = .ok (.putfield 36, 3) := by decide +kernel
theorem dX12_blame_13 : decode cX12_blame 13 = .ok (.aload_n 0, 1) := by decide +kernel
theorem dX12_blame_14 : decode cX12_blame 14 = .ok (.iload_n 2, 1) := by decide +kernel
theorem dX12_blame_15 : decode cX12_blame 15 = .ok (.putfield 39, 3) := by decide +kernel
theorem dX12_blame_18 : decode cX12_blame 18 = .ok (.return_, 1) := by decide +kernel
theorem dX12_isLetter_0 : decode cX12_isLetter 0 = .ok (.iload_n 0, 1) := by decide +kernel
theorem dX12_isLetter_1 : decode cX12_isLetter 1 = .ok (.bipush 97, 2) := by decide +kernel
theorem dX12_isLetter_3 : decode cX12_isLetter 3 = .ok (.if_icmp .lt 13, 3) := by decide +kernel
theorem dX12_isLetter_6 : decode cX12_isLetter 6 = .ok (.iload_n 0, 1) := by decide +kernel
theorem dX12_isLetter_7 : decode cX12_isLetter 7 = .ok (.bipush 122, 2) := by decide +kernel
theorem dX12_isLetter_9 : decode cX12_isLetter 9 = .ok (.if_icmp .gt 7, 3) := by decide +kernel
theorem dX12_isLetter_12 : decode cX12_isLetter 12 = .ok (.iconst 1, 1) := by decide +kernel
theorem dX12_isLetter_13 : decode cX12_isLetter 13 = .ok (.goto 4, 3) := by decide +kernel
theorem dX12_isLetter_16 : decode cX12_isLetter 16 = .ok (.iconst 0, 1) := by decide +kernel
theorem dX12_isLetter_17 : decode cX12_isLetter 17 = .ok (.ireturn, 1) := by decide +kernel
theorem dX12_isDigit_0 : decode cX12_isDigit 0 = .ok (.iload_n 0, 1) := by decide +kernel
theorem dX12_isDigit_1 : decode cX12_isDigit 1 = .ok (.bipush 48, 2) := by decide +kernel
theorem dX12_isDigit_3 : decode cX12_isDigit 3 = .ok (.if_icmp .lt 13, 3) := by decide +kernel
theorem dX12_isDigit_6 : decode cX12_isDigit 6 = .ok (.iload_n 0, 1) := by decide +kernel
theorem dX12_isDigit_7 : decode cX12_isDigit 7 = .ok (.bipush 57, 2) := by decide +kernel
theorem dX12_isDigit_9 : decode cX12_isDigit 9 = .ok (.if_icmp .gt 7, 3) := by decide +kernel
theorem dX12_isDigit_12 : decode cX12_isDigit 12 = .ok (.iconst 1, 1) := by decide +kernel
theorem dX12_isDigit_13 : decode cX12_isDigit 13 = .ok (.goto 4, 3) := by decide +kernel
theorem dX12_isDigit_16 : decode cX12_isDigit 16 = .ok (.iconst 0, 1) := by decide +kernel
theorem dX12_isDigit_17 : decode cX12_isDigit 17 = .ok (.ireturn, 1) := by decide +kernel
theorem dX12_lex_0 : decode cX12_lex 0 = .ok (.aload_n 0, 1) := by decide +kernel
theorem dX12_lex_1 : decode cX12_lex 1 = .ok (.getfield 48, 3) := by decide +kernel
theorem dX12_lex_4 : decode cX12_lex 4 = .ok (.iconst (-1), 1) := by decide +kernel
theorem dX12_lex_5 : decode cX12_lex 5 = .ok (.if_icmp .eq 12, 3) := by decide +kernel
theorem dX12_lex_8 : decode cX12_lex 8 = .ok (.aload_n 0, 1) := by decide +kernel
theorem dX12_lex_9 : decode cX12_lex 9 = .ok (.iconst 1, 1) := by decide +kernel
theorem dX12_lex_10 : decode cX12_lex 10 = .ok (.aload_n 0, 1) := by decide +kernel
theorem dX12_lex_11 : decode cX12_lex 11 = .ok (.getfield 48, 3) := by decide +kernel
theorem dX12_lex_14 : decode cX12_lex 14 = .ok (.invokevirtual 287, 3) := by decide +kernel
theorem dX12_lex_17 : decode cX12_lex 17 = .ok (.return_, 1) := by decide +kernel
theorem dX12_ahead_0 : decode cX12_ahead 0 = .ok (.aload_n 0, 1) := by decide +kernel
theorem dX12_ahead_1 : decode cX12_ahead 1 = .ok (.getfield 26, 3) := by decide +kernel
theorem dX12_ahead_4 : decode cX12_ahead 4 = .ok (.istore_n 1, 1) := by decide +kernel
theorem dX12_ahead_5 : decode cX12_ahead 5 = .ok (.iload_n 1, 1) := by decide +kernel
theorem dX12_ahead_6 : decode cX12_ahead 6 = .ok (.aload_n 0, 1) := by decide +kernel
theorem dX12_ahead_7 : decode cX12_ahead 7 = .ok (.getfield 17, 3) := by decide +kernel
theorem dX12_ahead_10 : decode cX12_ahead 10 = .ok (.if_icmp .ge 31, 3) := by decide +kernel
theorem dX12_ahead_13 : decode cX12_ahead 13 = .ok (.aload_n 0, 1) := by decide +kernel
theorem dX12_ahead_14 : decode cX12_ahead 14 = .ok (.getfield 7, 3) := by decide +kernel
theorem dX12_ahead_17 : decode cX12_ahead 17 = .ok (.iload_n 1, 1) := by decide +kernel
theorem dX12_ahead_18 : decode cX12_ahead 18 = .ok (.iaload, 1) := by decide +kernel
theorem dX12_ahead_19 : decode cX12_ahead 19 = .ok (.bipush 32, 2) := by decide +kernel
theorem dX12_ahead_21 : decode cX12_ahead 21 = .ok (.if_icmp .eq 14, 3) := by decide +kernel
theorem dX12_ahead_24 : decode cX12_ahead 24 = .ok (.aload_n 0, 1) := by decide +kernel
theorem dX12_ahead_25 : decode cX12_ahead 25 = .ok (.getfield 7, 3) := by decide +kernel
theorem dX12_ahead_28 : decode cX12_ahead 28 = .ok (.iload_n 1, 1) := by decide +kernel
theorem dX12_ahead_29 : decode cX12_ahead 29 = .ok (.iaload, 1) := by decide +kernel
theorem dX12_ahead_30 : decode cX12_ahead 30 = .ok (.bipush 10, 2) := by decide +kernel
theorem dX12_ahead_32 : decode cX12_ahead 32 = .ok (.if_icmp .ne 9, 3) := by decide +kernel
theorem dX12_ahead_35 : decode cX12_ahead 35 = .ok (.iinc 1 1, 3) := by decide +kernel
theorem dX12_ahead_38 : decode cX12_ahead 38 = .ok (.goto (-33), 3) := by decide +kernel
theorem dX12_ahead_41 : decode cX12_ahead 41 = .ok (.aload_n 0, 1) := by decide +kernel
theorem dX12_ahead_42 : decode cX12_ahead 42 = .ok (.iload_n 1, 1) := by decide +kernel
theorem dX12_ahead_43 : decode cX12_ahead 43 = .ok (.putfield 23, 3) := by decide +kernel
theorem dX12_ahead_46 : decode cX12_ahead 46 = .ok (.aload_n 0, 1) := by decide +kernel
theorem dX12_ahead_47 : decode cX12_ahead 47 = .ok (.iload_n 1, 1) := by decide +kernel
theorem dX12_ahead_48 : decode cX12_ahead 48 = .ok (.putfield 26, 3) := by decide +kernel
theorem dX12_ahead_51 : decode cX12_ahead 51 = .ok (.aload_n 0, 1) := by decide +kernel
theorem dX12_ahead_52 : decode cX12_ahead 52 = .ok (.iconst 0, 1) := by decide +kernel
theorem dX12_ahead_53 : decode cX12_ahead 53 = .ok (.putfield 20, 3) := by decide +kernel
theorem dX12_ahead_56 : decode cX12_ahead 56 = .ok (.aload_n 0, 1) := by decide +kernel
theorem dX12_ahead_57 : decode cX12_ahead 57 = .ok (.iconst (-1), 1) := by decide +kernel
theorem dX12_ahead_58 : decode cX12_ahead 58 = .ok (.putfield 48, 3) := by decide +kernel
theorem dX12_ahead_61 : decode cX12_ahead 61 = .ok (.iload_n 1, 1) := by decide +kernel
theorem dX12_ahead_62 : decode cX12_ahead 62 = .ok (.aload_n 0, 1) := by decide +kernel
theorem dX12_ahead_63 : decode cX12_ahead 63 = .ok (.getfield 17, 3) := by decide +kernel
theorem dX12_ahead_66 : decode cX12_ahead 66 = .ok (.if_icmp .lt 4, 3) := by decide +kernel
theorem dX12_ahead_69 : decode cX12_ahead 69 = .ok (.return_, 1) := by decide +kernel
theorem dX12_ahead_70 : decode cX12_ahead 70 = .ok (.aload_n 0, 1) := by decide +kernel
theorem dX12_ahead_71 : decode cX12_ahead 71 = .ok (.getfield 7, 3) := by decide +kernel
theorem dX12_ahead_74 : decode cX12_ahead 74 = .ok (.iload_n 1, 1) := by decide +kernel
theorem dX12_ahead_75 : decode cX12_ahead 75 = .ok (.iaload, 1) := by decide +kernel
theorem dX12_ahead_76 : decode cX12_ahead 76 = .ok (.invokestatic 291, 3) := by decide +kernel
theorem dX12_ahead_79 : decode cX12_ahead 79 = .ok (.istore_n 2, 1) := by decide +kernel
theorem dX12_ahead_80 : decode cX12_ahead 80 = .ok (.aload_n 0, 1) := by decide +kernel
theorem dX12_ahead_81 : decode cX12_ahead 81 = .ok (.getfield 7, 3) := by decide +kernel
theorem dX12_ahead_84 : decode cX12_ahead 84 = .ok (.iload_n 1, 1) := by decide +kernel
theorem dX12_ahead_85 : decode cX12_ahead 85 = .ok (.iaload, 1) := by decide +kernel
theorem dX12_ahead_86 : decode cX12_ahead 86 = .ok (.invokestatic 295, 3) := by decide +kernel
theorem dX12_ahead_89 : decode cX12_ahead 89 = .ok (.istore_n 3, 1) := by decide +kernel
theorem dX12_ahead_90 : decode cX12_ahead 90 = .ok (.iload_n 2, 1) := by decide +kernel
theorem dX12_ahead_91 : decode cX12_ahead 91 = .ok (.ifCond .ne 7, 3) := by decide +kernel
theorem dX12_ahead_94 : decode cX12_ahead 94 = .ok (.iload_n 3, 1) := by decide +kernel
theorem dX12_ahead_95 : decode cX12_ahead 95 = .ok (.ifCond .eq 40, 3) := by decide +kernel
theorem dX12_ahead_98 : decode cX12_ahead 98 = .ok (.iload_n 1, 1) := by decide +kernel
theorem dX12_ahead_99 : decode cX12_ahead 99 = .ok (.ifCond .le 36, 3) := by decide +kernel
theorem dX12_ahead_102 : decode cX12_ahead 102 = .ok (.aload_n 0, 1) := by decide +kernel
theorem dX12_ahead_103 : decode cX12_ahead 103 = .ok (.getfield 7, 3) := by decide +kernel
theorem dX12_ahead_106 : decode cX12_ahead 106 = .ok (.iload_n 1, 1) := by decide +kernel
theorem dX12_ahead_107 : decode cX12_ahead 107 = .ok (.iconst 1, 1) := by decide +kernel
theorem dX12_ahead_108 : decode cX12_ahead 108 = .ok (.isub, 1) := by decide +kernel
theorem dX12_ahead_109 : decode cX12_ahead 109 = .ok (.iaload, 1) := by decide +kernel
theorem dX12_ahead_110 : decode cX12_ahead 110 = .ok (.invokestatic 291, 3) := by decide +kernel
theorem dX12_ahead_113 : decode cX12_ahead 113 = .ok (.ifCond .ne 17, 3) := by decide +kernel
theorem dX12_ahead_116 : decode cX12_ahead 116 = .ok (.aload_n 0, 1) := by decide +kernel
theorem dX12_ahead_117 : decode cX12_ahead 117 = .ok (.getfield 7, 3) := by decide +kernel
theorem dX12_ahead_120 : decode cX12_ahead 120 = .ok (.iload_n 1, 1) := by decide +kernel
theorem dX12_ahead_121 : decode cX12_ahead 121 = .ok (.iconst 1, 1) := by decide +kernel
theorem dX12_ahead_122 : decode cX12_ahead 122 = .ok (.isub, 1) := by decide +kernel
theorem dX12_ahead_123 : decode cX12_ahead 123 = .ok (.iaload, 1) := by decide +kernel
theorem dX12_ahead_124 : decode cX12_ahead 124 = .ok (.invokestatic 295, 3) := by decide +kernel
theorem dX12_ahead_127 : decode cX12_ahead 127 = .ok (.ifCond .eq 8, 3) := by decide +kernel
theorem dX12_ahead_130 : decode cX12_ahead 130 = .ok (.aload_n 0, 1) := by decide +kernel
theorem dX12_ahead_131 : decode cX12_ahead 131 = .ok (.iload_n 1, 1) := by decide +kernel
theorem dX12_ahead_132 : decode cX12_ahead 132 = .ok (.putfield 48, 3) := by decide +kernel
theorem dX12_ahead_135 : decode cX12_ahead 135 = .ok (.aload_n 0, 1) := by decide +kernel
theorem dX12_ahead_136 : decode cX12_ahead 136 = .ok (.iconst 0, 1) := by decide +kernel
theorem dX12_ahead_137 : decode cX12_ahead 137 = .ok (.putfield 29, 3) := by decide +kernel
theorem dX12_ahead_140 : decode cX12_ahead 140 = .ok (.aload_n 0, 1) := by decide +kernel
theorem dX12_ahead_141 : decode cX12_ahead 141 = .ok (.lconst 0, 1) := by decide +kernel
theorem dX12_ahead_142 : decode cX12_ahead 142 = .ok (.putfield 32, 3) := by decide +kernel
theorem dX12_ahead_145 : decode cX12_ahead 145 = .ok (.aload_n 0, 1) := by decide +kernel
theorem dX12_ahead_146 : decode cX12_ahead 146 = .ok (.iconst 3, 1) := by decide +kernel
theorem dX12_ahead_147 : decode cX12_ahead 147 = .ok (.putfield 20, 3) := by decide +kernel
theorem dX12_ahead_150 : decode cX12_ahead 150 = .ok (.aload_n 0, 1) := by decide +kernel
theorem dX12_ahead_151 : decode cX12_ahead 151 = .ok (.iload_n 1, 1) := by decide +kernel
theorem dX12_ahead_152 : decode cX12_ahead 152 = .ok (.iconst 1, 1) := by decide +kernel
theorem dX12_ahead_153 : decode cX12_ahead 153 = .ok (.iadd, 1) := by decide +kernel
theorem dX12_ahead_154 : decode cX12_ahead 154 = .ok (.putfield 26, 3) := by decide +kernel
theorem dX12_ahead_157 : decode cX12_ahead 157 = .ok (.iload_n 2, 1) := by decide +kernel
theorem dX12_ahead_158 : decode cX12_ahead 158 = .ok (.ifCond .ne 18, 3) := by decide +kernel
theorem dX12_ahead_161 : decode cX12_ahead 161 = .ok (.iload_n 3, 1) := by decide +kernel
theorem dX12_ahead_162 : decode cX12_ahead 162 = .ok (.ifCond .ne 14, 3) := by decide +kernel
theorem dX12_ahead_165 : decode cX12_ahead 165 = .ok (.aload_n 0, 1) := by decide +kernel
theorem dX12_ahead_166 : decode cX12_ahead 166 = .ok (.aload_n 0, 1) := by decide +kernel
theorem dX12_ahead_167 : decode cX12_ahead 167 = .ok (.getfield 7, 3) := by decide +kernel
theorem dX12_ahead_170 : decode cX12_ahead 170 = .ok (.iload_n 1, 1) := by decide +kernel
theorem dX12_ahead_171 : decode cX12_ahead 171 = .ok (.iaload, 1) := by decide +kernel
theorem dX12_ahead_172 : decode cX12_ahead 172 = .ok (.putfield 29, 3) := by decide +kernel
theorem dX12_ahead_175 : decode cX12_ahead 175 = .ok (.return_, 1) := by decide +kernel
theorem dX12_ahead_176 : decode cX12_ahead 176 = .ok (.aload_n 0, 1) := by decide +kernel
theorem dX12_ahead_177 : decode cX12_ahead 177 = .ok (.iload_n 2, 1) := by decide +kernel
theorem dX12_ahead_178 : decode cX12_ahead 178 = .ok (.ifCond .eq 7, 3) := by decide +kernel
theorem dX12_ahead_181 : decode cX12_ahead 181 = .ok (.iconst 1, 1) := by decide +kernel
theorem dX12_ahead_182 : decode cX12_ahead 182 = .ok (.goto 4, 3) := by decide +kernel
theorem dX12_ahead_185 : decode cX12_ahead 185 = .ok (.iconst 2, 1) := by decide +kernel
theorem dX12_ahead_186 : decode cX12_ahead 186 = .ok (.putfield 20, 3) := by decide +kernel
theorem dX12_ahead_189 : decode cX12_ahead 189 = .ok (.iload_n 2, 1) := by decide +kernel
theorem dX12_ahead_190 : decode cX12_ahead 190 = .ok (.ifCond .eq 8, 3) := by decide +kernel
theorem dX12_ahead_193 : decode cX12_ahead 193 = .ok (.bipush 6, 2) := by decide +kernel
theorem dX12_ahead_195 : decode cX12_ahead 195 = .ok (.goto 4, 3) := by decide +kernel
theorem dX12_ahead_198 : decode cX12_ahead 198 = .ok (.iconst 4, 1) := by decide +kernel
theorem dX12_ahead_199 : decode cX12_ahead 199 = .ok (.istore 4, 2) := by decide +kernel
theorem dX12_ahead_201 : decode cX12_ahead 201 = .ok (.iconst 0, 1) := by decide +kernel
theorem dX12_ahead_202 : decode cX12_ahead 202 = .ok (.istore 5, 2) := by decide +kernel
theorem dX12_ahead_204 : decode cX12_ahead 204 = .ok (.iload_n 1, 1) := by decide +kernel
theorem dX12_ahead_205 : decode cX12_ahead 205 = .ok (.aload_n 0, 1) := by decide +kernel
theorem dX12_ahead_206 : decode cX12_ahead 206 = .ok (.getfield 17, 3) := by decide +kernel
theorem dX12_ahead_209 : decode cX12_ahead 209 = .ok (.if_icmp .ge 125, 3) := by decide +kernel
theorem dX12_ahead_212 : decode cX12_ahead 212 = .ok (.iload_n 2, 1) := by decide +kernel
theorem dX12_ahead_213 : decode cX12_ahead 213 = .ok (.ifCond .eq 18, 3) := by decide +kernel
theorem dX12_ahead_216 : decode cX12_ahead 216 = .ok (.aload_n 0, 1) := by decide +kernel
theorem dX12_ahead_217 : decode cX12_ahead 217 = .ok (.getfield 7, 3) := by decide +kernel
theorem dX12_ahead_220 : decode cX12_ahead 220 = .ok (.iload_n 1, 1) := by decide +kernel
theorem dX12_ahead_221 : decode cX12_ahead 221 = .ok (.iaload, 1) := by decide +kernel
theorem dX12_ahead_222 : decode cX12_ahead 222 = .ok (.invokestatic 291, 3) := by decide +kernel
theorem dX12_ahead_225 : decode cX12_ahead 225 = .ok (.ifCond .eq 109, 3) := by decide +kernel
theorem dX12_ahead_228 : decode cX12_ahead 228 = .ok (.goto 15, 3) := by decide +kernel
theorem dX12_ahead_231 : decode cX12_ahead 231 = .ok (.aload_n 0, 1) := by decide +kernel
theorem dX12_ahead_232 : decode cX12_ahead 232 = .ok (.getfield 7, 3) := by decide +kernel
theorem dX12_ahead_235 : decode cX12_ahead 235 = .ok (.iload_n 1, 1) := by decide +kernel
theorem dX12_ahead_236 : decode cX12_ahead 236 = .ok (.iaload, 1) := by decide +kernel
theorem dX12_ahead_237 : decode cX12_ahead 237 = .ok (.invokestatic 295, 3) := by decide +kernel
theorem dX12_ahead_240 : decode cX12_ahead 240 = .ok (.ifCond .eq 94, 3) := by decide +kernel
theorem dX12_ahead_243 : decode cX12_ahead 243 = .ok (.iload 5, 2) := by decide +kernel
theorem dX12_ahead_245 : decode cX12_ahead 245 = .ok (.iload 4, 2) := by decide +kernel
theorem dX12_ahead_247 : decode cX12_ahead 247 = .ok (.if_icmp .ne 16, 3) := by decide +kernel
theorem dX12_ahead_250 : decode cX12_ahead 250 = .ok (.aload_n 0, 1) := by decide +kernel
theorem dX12_ahead_251 : decode cX12_ahead 251 = .ok (.getfield 48, 3) := by decide +kernel
theorem dX12_ahead_254 : decode cX12_ahead 254 = .ok (.iconst (-1), 1) := by decide +kernel
theorem dX12_ahead_255 : decode cX12_ahead 255 = .ok (.if_icmp .ne 8, 3) := by decide +kernel
theorem dX12_ahead_258 : decode cX12_ahead 258 = .ok (.aload_n 0, 1) := by decide +kernel
theorem dX12_ahead_259 : decode cX12_ahead 259 = .ok (.iload_n 1, 1) := by decide +kernel
theorem dX12_ahead_260 : decode cX12_ahead 260 = .ok (.putfield 48, 3) := by decide +kernel
theorem dX12_ahead_263 : decode cX12_ahead 263 = .ok (.iload 5, 2) := by decide +kernel
theorem dX12_ahead_265 : decode cX12_ahead 265 = .ok (.iload 4, 2) := by decide +kernel
theorem dX12_ahead_267 : decode cX12_ahead 267 = .ok (.if_icmp .ge 26, 3) := by decide +kernel
theorem dX12_ahead_270 : decode cX12_ahead 270 = .ok (.iload_n 2, 1) := by decide +kernel
theorem dX12_ahead_271 : decode cX12_ahead 271 = .ok (.ifCond .eq 22, 3) := by decide +kernel
theorem dX12_ahead_274 : decode cX12_ahead 274 = .ok (.aload_n 0, 1) := by decide +kernel
theorem dX12_ahead_275 : decode cX12_ahead 275 = .ok (.aload_n 0, 1) := by decide +kernel
theorem dX12_ahead_276 : decode cX12_ahead 276 = .ok (.getfield 32, 3) := by decide +kernel
theorem dX12_ahead_279 : decode cX12_ahead 279 = .ok (.bipush 8, 2) := by decide +kernel
theorem dX12_ahead_281 : decode cX12_ahead 281 = .ok (.lshl, 1) := by decide +kernel
theorem dX12_ahead_282 : decode cX12_ahead 282 = .ok (.aload_n 0, 1) := by decide +kernel
theorem dX12_ahead_283 : decode cX12_ahead 283 = .ok (.getfield 7, 3) := by decide +kernel
theorem dX12_ahead_286 : decode cX12_ahead 286 = .ok (.iload_n 1, 1) := by decide +kernel
theorem dX12_ahead_287 : decode cX12_ahead 287 = .ok (.iaload, 1) := by decide +kernel
theorem dX12_ahead_288 : decode cX12_ahead 288 = .ok (.i2l, 1) := by decide +kernel
theorem dX12_ahead_289 : decode cX12_ahead 289 = .ok (.lor, 1) := by decide +kernel
theorem dX12_ahead_290 : decode cX12_ahead 290 = .ok (.putfield 32, 3) := by decide +kernel
theorem dX12_ahead_293 : decode cX12_ahead 293 = .ok (.iload 5, 2) := by decide +kernel
theorem dX12_ahead_295 : decode cX12_ahead 295 = .ok (.iload 4, 2) := by decide +kernel
theorem dX12_ahead_297 : decode cX12_ahead 297 = .ok (.if_icmp .ge 28, 3) := by decide +kernel
theorem dX12_ahead_300 : decode cX12_ahead 300 = .ok (.iload_n 3, 1) := by decide +kernel
theorem dX12_ahead_301 : decode cX12_ahead 301 = .ok (.ifCond .eq 24, 3) := by decide +kernel
theorem dX12_ahead_304 : decode cX12_ahead 304 = .ok (.aload_n 0, 1) := by decide +kernel
theorem dX12_ahead_305 : decode cX12_ahead 305 = .ok (.bipush 10, 2) := by decide +kernel
theorem dX12_ahead_307 : decode cX12_ahead 307 = .ok (.aload_n 0, 1) := by decide +kernel
theorem dX12_ahead_308 : decode cX12_ahead 308 = .ok (.getfield 29, 3) := by decide +kernel
theorem dX12_ahead_311 : decode cX12_ahead 311 = .ok (.imul, 1) := by decide +kernel
theorem dX12_ahead_312 : decode cX12_ahead 312 = .ok (.aload_n 0, 1) := by decide +kernel
theorem dX12_ahead_313 : decode cX12_ahead 313 = .ok (.getfield 7, 3) := by decide +kernel
theorem dX12_ahead_316 : decode cX12_ahead 316 = .ok (.iload_n 1, 1) := by decide +kernel
theorem dX12_ahead_317 : decode cX12_ahead 317 = .ok (.iaload, 1) := by decide +kernel
theorem dX12_ahead_318 : decode cX12_ahead 318 = .ok (.iadd, 1) := by decide +kernel
theorem dX12_ahead_319 : decode cX12_ahead 319 = .ok (.bipush 48, 2) := by decide +kernel
theorem dX12_ahead_321 : decode cX12_ahead 321 = .ok (.isub, 1) := by decide +kernel
theorem dX12_ahead_322 : decode cX12_ahead 322 = .ok (.putfield 29, 3) := by decide +kernel
theorem dX12_ahead_325 : decode cX12_ahead 325 = .ok (.iinc 5 1, 3) := by decide +kernel
theorem dX12_ahead_328 : decode cX12_ahead 328 = .ok (.iinc 1 1, 3) := by decide +kernel
theorem dX12_ahead_331 : decode cX12_ahead 331 = .ok (.goto (-127), 3) := by decide +kernel
theorem dX12_ahead_334 : decode cX12_ahead 334 = .ok (.aload_n 0, 1) := by decide +kernel
theorem dX12_ahead_335 : decode cX12_ahead 335 = .ok (.iload_n 1, 1) := by decide +kernel
theorem dX12_ahead_336 : decode cX12_ahead 336 = .ok (.putfield 26, 3) := by decide +kernel
theorem dX12_ahead_339 : decode cX12_ahead 339 = .ok (.return_, 1) := by decide +kernel
theorem dX12_isSign_0 : decode cX12_isSign 0 = .ok (.aload_n 0, 1) := by decide +kernel
theorem dX12_isSign_1 : decode cX12_isSign 1 = .ok (.getfield 20, 3) := by decide +kernel
theorem dX12_isSign_4 : decode cX12_isSign 4 = .ok (.iconst 3, 1) := by decide +kernel
theorem dX12_isSign_5 : decode cX12_isSign 5 = .ok (.if_icmp .ne 15, 3) := by decide +kernel
theorem dX12_isSign_8 : decode cX12_isSign 8 = .ok (.aload_n 0, 1) := by decide +kernel
theorem dX12_isSign_9 : decode cX12_isSign 9 = .ok (.getfield 29, 3) := by decide +kernel
theorem dX12_isSign_12 : decode cX12_isSign 12 = .ok (.iload_n 1, 1) := by decide +kernel
theorem dX12_isSign_13 : decode cX12_isSign 13 = .ok (.if_icmp .ne 7, 3) := by decide +kernel
theorem dX12_isSign_16 : decode cX12_isSign 16 = .ok (.iconst 1, 1) := by decide +kernel
theorem dX12_isSign_17 : decode cX12_isSign 17 = .ok (.goto 4, 3) := by decide +kernel
theorem dX12_isSign_20 : decode cX12_isSign 20 = .ok (.iconst 0, 1) := by decide +kernel
theorem dX12_isSign_21 : decode cX12_isSign 21 = .ok (.ireturn, 1) := by decide +kernel
theorem dX12_isWord_0 : decode cX12_isWord 0 = .ok (.aload_n 0, 1) := by decide +kernel
theorem dX12_isWord_1 : decode cX12_isWord 1 = .ok (.getfield 20, 3) := by decide +kernel
theorem dX12_isWord_4 : decode cX12_isWord 4 = .ok (.iconst 1, 1) := by decide +kernel
theorem dX12_isWord_5 : decode cX12_isWord 5 = .ok (.if_icmp .ne 16, 3) := by decide +kernel
theorem dX12_isWord_8 : decode cX12_isWord 8 = .ok (.aload_n 0, 1) := by decide +kernel
theorem dX12_isWord_9 : decode cX12_isWord 9 = .ok (.getfield 32, 3) := by decide +kernel
theorem dX12_isWord_12 : decode cX12_isWord 12 = .ok (.lload_n 1, 1) := by decide +kernel
theorem dX12_isWord_13 : decode cX12_isWord 13 = .ok (.lcmp, 1) := by decide +kernel
theorem dX12_isWord_14 : decode cX12_isWord 14 = .ok (.ifCond .ne 7, 3) := by decide +kernel
theorem dX12_isWord_17 : decode cX12_isWord 17 = .ok (.iconst 1, 1) := by decide +kernel
theorem dX12_isWord_18 : decode cX12_isWord 18 = .ok (.goto 4, 3) := by decide +kernel
theorem dX12_isWord_21 : decode cX12_isWord 21 = .ok (.iconst 0, 1) := by decide +kernel
theorem dX12_isWord_22 : decode cX12_isWord 22 = .ok (.ireturn, 1) := by decide +kernel
theorem dX12_must_0 : decode cX12_must 0 = .ok (.aload_n 0, 1) := by decide +kernel
theorem dX12_must_1 : decode cX12_must 1 = .ok (.invokevirtual 298, 3) := by decide +kernel
theorem dX12_must_4 : decode cX12_must 4 = .ok (.aload_n 0, 1) := by decide +kernel
theorem dX12_must_5 : decode cX12_must 5 = .ok (.iload_n 1, 1) := by decide +kernel
theorem dX12_must_6 : decode cX12_must 6 = .ok (.invokevirtual 301, 3) := by decide +kernel
theorem dX12_must_9 : decode cX12_must 9 = .ok (.ifCond .ne 12, 3) := by decide +kernel
theorem dX12_must_12 : decode cX12_must 12 = .ok (.aload_n 0, 1) := by decide +kernel
theorem dX12_must_13 : decode cX12_must 13 = .ok (.iconst 1, 1) := by decide +kernel
theorem dX12_must_14 : decode cX12_must 14 = .ok (.aload_n 0, 1) := by decide +kernel
theorem dX12_must_15 : decode cX12_must 15 = .ok (.getfield 23, 3) := by decide +kernel
theorem dX12_must_18 : decode cX12_must 18 = .ok (.invokevirtual 287, 3) := by decide +kernel
theorem dX12_must_21 : decode cX12_must 21 = .ok (.aload_n 0, 1) := by decide +kernel
theorem dX12_must_22 : decode cX12_must 22 = .ok (.getfield 36, 3) := by decide +kernel
theorem dX12_must_25 : decode cX12_must 25 = .ok (.ifCond .ne 7, 3) := by decide +kernel
theorem dX12_must_28 : decode cX12_must 28 = .ok (.aload_n 0, 1) := by decide +kernel
theorem dX12_must_29 : decode cX12_must 29 = .ok (.invokevirtual 304, 3) := by decide +kernel
theorem dX12_must_32 : decode cX12_must 32 = .ok (.return_, 1) := by decide +kernel
theorem dX12_isOwn_0 : decode cX12_isOwn 0 = .ok (.lload_n 1, 1) := by decide +kernel
theorem dX12_isOwn_1 : decode cX12_isOwn 1 = .ok (.ldc2_w 307, 3) := by decide +kernel
theorem dX12_isOwn_4 : decode cX12_isOwn 4 = .ok (.lcmp, 1) := by decide +kernel
theorem dX12_isOwn_5 : decode cX12_isOwn 5 = .ok (.ifCond .eq 35, 3) := by decide +kernel
theorem dX12_isOwn_8 : decode cX12_isOwn 8 = .ok (.lload_n 1, 1) := by decide +kernel
theorem dX12_isOwn_9 : decode cX12_isOwn 9 = .ok (.ldc2_w 309, 3) := by decide +kernel
theorem dX12_isOwn_12 : decode cX12_isOwn 12 = .ok (.lcmp, 1) := by decide +kernel
theorem dX12_isOwn_13 : decode cX12_isOwn 13 = .ok (.ifCond .eq 27, 3) := by decide +kernel
theorem dX12_isOwn_16 : decode cX12_isOwn 16 = .ok (.lload_n 1, 1) := by decide +kernel
theorem dX12_isOwn_17 : decode cX12_isOwn 17 = .ok (.ldc2_w 311, 3) := by decide +kernel
theorem dX12_isOwn_20 : decode cX12_isOwn 20 = .ok (.lcmp, 1) := by decide +kernel
theorem dX12_isOwn_21 : decode cX12_isOwn 21 = .ok (.ifCond .eq 19, 3) := by decide +kernel
theorem dX12_isOwn_24 : decode cX12_isOwn 24 = .ok (.lload_n 1, 1) := by decide +kernel
theorem dX12_isOwn_25 : decode cX12_isOwn 25 = .ok (.ldc2_w 313, 3) := by decide +kernel
theorem dX12_isOwn_28 : decode cX12_isOwn 28 = .ok (.lcmp, 1) := by decide +kernel
theorem dX12_isOwn_29 : decode cX12_isOwn 29 = .ok (.ifCond .eq 11, 3) := by decide +kernel
theorem dX12_isOwn_32 : decode cX12_isOwn 32 = .ok (.lload_n 1, 1) := by decide +kernel
theorem dX12_isOwn_33 : decode cX12_isOwn 33 = .ok (.ldc2_w 315, 3) := by decide +kernel
theorem dX12_isOwn_36 : decode cX12_isOwn 36 = .ok (.lcmp, 1) := by decide +kernel
theorem dX12_isOwn_37 : decode cX12_isOwn 37 = .ok (.ifCond .ne 5, 3) := by decide +kernel
theorem dX12_isOwn_40 : decode cX12_isOwn 40 = .ok (.iconst 1, 1) := by decide +kernel
theorem dX12_isOwn_41 : decode cX12_isOwn 41 = .ok (.ireturn, 1) := by decide +kernel
theorem dX12_isOwn_42 : decode cX12_isOwn 42 = .ok (.lload_n 1, 1) := by decide +kernel
theorem dX12_isOwn_43 : decode cX12_isOwn 43 = .ok (.ldc2_w 317, 3) := by decide +kernel
theorem dX12_isOwn_46 : decode cX12_isOwn 46 = .ok (.lcmp, 1) := by decide +kernel
theorem dX12_isOwn_47 : decode cX12_isOwn 47 = .ok (.ifCond .eq 35, 3) := by decide +kernel
theorem dX12_isOwn_50 : decode cX12_isOwn 50 = .ok (.lload_n 1, 1) := by decide +kernel
theorem dX12_isOwn_51 : decode cX12_isOwn 51 = .ok (.ldc2_w 319, 3) := by decide +kernel
theorem dX12_isOwn_54 : decode cX12_isOwn 54 = .ok (.lcmp, 1) := by decide +kernel
theorem dX12_isOwn_55 : decode cX12_isOwn 55 = .ok (.ifCond .eq 27, 3) := by decide +kernel
theorem dX12_isOwn_58 : decode cX12_isOwn 58 = .ok (.lload_n 1, 1) := by decide +kernel
theorem dX12_isOwn_59 : decode cX12_isOwn 59 = .ok (.ldc2_w 321, 3) := by decide +kernel
theorem dX12_isOwn_62 : decode cX12_isOwn 62 = .ok (.lcmp, 1) := by decide +kernel
theorem dX12_isOwn_63 : decode cX12_isOwn 63 = .ok (.ifCond .eq 19, 3) := by decide +kernel
theorem dX12_isOwn_66 : decode cX12_isOwn 66 = .ok (.lload_n 1, 1) := by decide +kernel
theorem dX12_isOwn_67 : decode cX12_isOwn 67 = .ok (.ldc2_w 323, 3) := by decide +kernel
theorem dX12_isOwn_70 : decode cX12_isOwn 70 = .ok (.lcmp, 1) := by decide +kernel
theorem dX12_isOwn_71 : decode cX12_isOwn 71 = .ok (.ifCond .eq 11, 3) := by decide +kernel
theorem dX12_isOwn_74 : decode cX12_isOwn 74 = .ok (.lload_n 1, 1) := by decide +kernel
theorem dX12_isOwn_75 : decode cX12_isOwn 75 = .ok (.ldc2_w 325, 3) := by decide +kernel
theorem dX12_isOwn_78 : decode cX12_isOwn 78 = .ok (.lcmp, 1) := by decide +kernel
theorem dX12_isOwn_79 : decode cX12_isOwn 79 = .ok (.ifCond .ne 5, 3) := by decide +kernel
theorem dX12_isOwn_82 : decode cX12_isOwn 82 = .ok (.iconst 1, 1) := by decide +kernel
theorem dX12_isOwn_83 : decode cX12_isOwn 83 = .ok (.ireturn, 1) := by decide +kernel
theorem dX12_isOwn_84 : decode cX12_isOwn 84 = .ok (.lload_n 1, 1) := by decide +kernel
theorem dX12_isOwn_85 : decode cX12_isOwn 85 = .ok (.ldc2_w 327, 3) := by decide +kernel
theorem dX12_isOwn_88 : decode cX12_isOwn 88 = .ok (.lcmp, 1) := by decide +kernel
theorem dX12_isOwn_89 : decode cX12_isOwn 89 = .ok (.ifCond .eq 35, 3) := by decide +kernel
theorem dX12_isOwn_92 : decode cX12_isOwn 92 = .ok (.lload_n 1, 1) := by decide +kernel
theorem dX12_isOwn_93 : decode cX12_isOwn 93 = .ok (.ldc2_w 329, 3) := by decide +kernel
theorem dX12_isOwn_96 : decode cX12_isOwn 96 = .ok (.lcmp, 1) := by decide +kernel
theorem dX12_isOwn_97 : decode cX12_isOwn 97 = .ok (.ifCond .eq 27, 3) := by decide +kernel
theorem dX12_isOwn_100 : decode cX12_isOwn 100 = .ok (.lload_n 1, 1) := by decide +kernel
theorem dX12_isOwn_101 : decode cX12_isOwn 101 = .ok (.ldc2_w 331, 3) := by decide +kernel
theorem dX12_isOwn_104 : decode cX12_isOwn 104 = .ok (.lcmp, 1) := by decide +kernel
theorem dX12_isOwn_105 : decode cX12_isOwn 105 = .ok (.ifCond .eq 19, 3) := by decide +kernel
theorem dX12_isOwn_108 : decode cX12_isOwn 108 = .ok (.lload_n 1, 1) := by decide +kernel
theorem dX12_isOwn_109 : decode cX12_isOwn 109 = .ok (.ldc2_w 333, 3) := by decide +kernel
theorem dX12_isOwn_112 : decode cX12_isOwn 112 = .ok (.lcmp, 1) := by decide +kernel
theorem dX12_isOwn_113 : decode cX12_isOwn 113 = .ok (.ifCond .eq 11, 3) := by decide +kernel
theorem dX12_isOwn_116 : decode cX12_isOwn 116 = .ok (.lload_n 1, 1) := by decide +kernel
theorem dX12_isOwn_117 : decode cX12_isOwn 117 = .ok (.ldc2_w 335, 3) := by decide +kernel
theorem dX12_isOwn_120 : decode cX12_isOwn 120 = .ok (.lcmp, 1) := by decide +kernel
theorem dX12_isOwn_121 : decode cX12_isOwn 121 = .ok (.ifCond .ne 5, 3) := by decide +kernel
theorem dX12_isOwn_124 : decode cX12_isOwn 124 = .ok (.iconst 1, 1) := by decide +kernel
theorem dX12_isOwn_125 : decode cX12_isOwn 125 = .ok (.ireturn, 1) := by decide +kernel
theorem dX12_isOwn_126 : decode cX12_isOwn 126 = .ok (.lload_n 1, 1) := by decide +kernel
theorem dX12_isOwn_127 : decode cX12_isOwn 127 = .ok (.ldc2_w 337, 3) := by decide +kernel
theorem dX12_isOwn_130 : decode cX12_isOwn 130 = .ok (.lcmp, 1) := by decide +kernel
theorem dX12_isOwn_131 : decode cX12_isOwn 131 = .ok (.ifCond .eq 35, 3) := by decide +kernel
theorem dX12_isOwn_134 : decode cX12_isOwn 134 = .ok (.lload_n 1, 1) := by decide +kernel
theorem dX12_isOwn_135 : decode cX12_isOwn 135 = .ok (.ldc2_w 339, 3) := by decide +kernel
theorem dX12_isOwn_138 : decode cX12_isOwn 138 = .ok (.lcmp, 1) := by decide +kernel
theorem dX12_isOwn_139 : decode cX12_isOwn 139 = .ok (.ifCond .eq 27, 3) := by decide +kernel
theorem dX12_isOwn_142 : decode cX12_isOwn 142 = .ok (.lload_n 1, 1) := by decide +kernel
theorem dX12_isOwn_143 : decode cX12_isOwn 143 = .ok (.ldc2_w 341, 3) := by decide +kernel
theorem dX12_isOwn_146 : decode cX12_isOwn 146 = .ok (.lcmp, 1) := by decide +kernel
theorem dX12_isOwn_147 : decode cX12_isOwn 147 = .ok (.ifCond .eq 19, 3) := by decide +kernel
theorem dX12_isOwn_150 : decode cX12_isOwn 150 = .ok (.lload_n 1, 1) := by decide +kernel
theorem dX12_isOwn_151 : decode cX12_isOwn 151 = .ok (.ldc2_w 343, 3) := by decide +kernel
theorem dX12_isOwn_154 : decode cX12_isOwn 154 = .ok (.lcmp, 1) := by decide +kernel
theorem dX12_isOwn_155 : decode cX12_isOwn 155 = .ok (.ifCond .eq 11, 3) := by decide +kernel
theorem dX12_isOwn_158 : decode cX12_isOwn 158 = .ok (.lload_n 1, 1) := by decide +kernel
theorem dX12_isOwn_159 : decode cX12_isOwn 159 = .ok (.ldc2_w 345, 3) := by decide +kernel
theorem dX12_isOwn_162 : decode cX12_isOwn 162 = .ok (.lcmp, 1) := by decide +kernel
theorem dX12_isOwn_163 : decode cX12_isOwn 163 = .ok (.ifCond .ne 5, 3) := by decide +kernel
theorem dX12_isOwn_166 : decode cX12_isOwn 166 = .ok (.iconst 1, 1) := by decide +kernel
theorem dX12_isOwn_167 : decode cX12_isOwn 167 = .ok (.ireturn, 1) := by decide +kernel
theorem dX12_isOwn_168 : decode cX12_isOwn 168 = .ok (.lload_n 1, 1) := by decide +kernel
theorem dX12_isOwn_169 : decode cX12_isOwn 169 = .ok (.ldc2_w 347, 3) := by decide +kernel
theorem dX12_isOwn_172 : decode cX12_isOwn 172 = .ok (.lcmp, 1) := by decide +kernel
theorem dX12_isOwn_173 : decode cX12_isOwn 173 = .ok (.ifCond .eq 35, 3) := by decide +kernel
theorem dX12_isOwn_176 : decode cX12_isOwn 176 = .ok (.lload_n 1, 1) := by decide +kernel
theorem dX12_isOwn_177 : decode cX12_isOwn 177 = .ok (.ldc2_w 349, 3) := by decide +kernel
theorem dX12_isOwn_180 : decode cX12_isOwn 180 = .ok (.lcmp, 1) := by decide +kernel
theorem dX12_isOwn_181 : decode cX12_isOwn 181 = .ok (.ifCond .eq 27, 3) := by decide +kernel
theorem dX12_isOwn_184 : decode cX12_isOwn 184 = .ok (.lload_n 1, 1) := by decide +kernel
theorem dX12_isOwn_185 : decode cX12_isOwn 185 = .ok (.ldc2_w 351, 3) := by decide +kernel
theorem dX12_isOwn_188 : decode cX12_isOwn 188 = .ok (.lcmp, 1) := by decide +kernel
theorem dX12_isOwn_189 : decode cX12_isOwn 189 = .ok (.ifCond .eq 19, 3) := by decide +kernel
theorem dX12_isOwn_192 : decode cX12_isOwn 192 = .ok (.lload_n 1, 1) := by decide +kernel
theorem dX12_isOwn_193 : decode cX12_isOwn 193 = .ok (.ldc2_w 353, 3) := by decide +kernel
theorem dX12_isOwn_196 : decode cX12_isOwn 196 = .ok (.lcmp, 1) := by decide +kernel
theorem dX12_isOwn_197 : decode cX12_isOwn 197 = .ok (.ifCond .eq 11, 3) := by decide +kernel
theorem dX12_isOwn_200 : decode cX12_isOwn 200 = .ok (.lload_n 1, 1) := by decide +kernel
theorem dX12_isOwn_201 : decode cX12_isOwn 201 = .ok (.ldc2_w 355, 3) := by decide +kernel
theorem dX12_isOwn_204 : decode cX12_isOwn 204 = .ok (.lcmp, 1) := by decide +kernel
theorem dX12_isOwn_205 : decode cX12_isOwn 205 = .ok (.ifCond .ne 5, 3) := by decide +kernel
theorem dX12_isOwn_208 : decode cX12_isOwn 208 = .ok (.iconst 1, 1) := by decide +kernel
theorem dX12_isOwn_209 : decode cX12_isOwn 209 = .ok (.ireturn, 1) := by decide +kernel
theorem dX12_isOwn_210 : decode cX12_isOwn 210 = .ok (.lload_n 1, 1) := by decide +kernel
theorem dX12_isOwn_211 : decode cX12_isOwn 211 = .ok (.ldc2_w 357, 3) := by decide +kernel
theorem dX12_isOwn_214 : decode cX12_isOwn 214 = .ok (.lcmp, 1) := by decide +kernel
theorem dX12_isOwn_215 : decode cX12_isOwn 215 = .ok (.ifCond .eq 35, 3) := by decide +kernel
theorem dX12_isOwn_218 : decode cX12_isOwn 218 = .ok (.lload_n 1, 1) := by decide +kernel
theorem dX12_isOwn_219 : decode cX12_isOwn 219 = .ok (.ldc2_w 359, 3) := by decide +kernel
theorem dX12_isOwn_222 : decode cX12_isOwn 222 = .ok (.lcmp, 1) := by decide +kernel
theorem dX12_isOwn_223 : decode cX12_isOwn 223 = .ok (.ifCond .eq 27, 3) := by decide +kernel
theorem dX12_isOwn_226 : decode cX12_isOwn 226 = .ok (.lload_n 1, 1) := by decide +kernel
theorem dX12_isOwn_227 : decode cX12_isOwn 227 = .ok (.ldc2_w 361, 3) := by decide +kernel
theorem dX12_isOwn_230 : decode cX12_isOwn 230 = .ok (.lcmp, 1) := by decide +kernel
theorem dX12_isOwn_231 : decode cX12_isOwn 231 = .ok (.ifCond .eq 19, 3) := by decide +kernel
theorem dX12_isOwn_234 : decode cX12_isOwn 234 = .ok (.lload_n 1, 1) := by decide +kernel
theorem dX12_isOwn_235 : decode cX12_isOwn 235 = .ok (.ldc2_w 363, 3) := by decide +kernel
theorem dX12_isOwn_238 : decode cX12_isOwn 238 = .ok (.lcmp, 1) := by decide +kernel
theorem dX12_isOwn_239 : decode cX12_isOwn 239 = .ok (.ifCond .eq 11, 3) := by decide +kernel
theorem dX12_isOwn_242 : decode cX12_isOwn 242 = .ok (.lload_n 1, 1) := by decide +kernel
theorem dX12_isOwn_243 : decode cX12_isOwn 243 = .ok (.ldc2_w 365, 3) := by decide +kernel
theorem dX12_isOwn_246 : decode cX12_isOwn 246 = .ok (.lcmp, 1) := by decide +kernel
theorem dX12_isOwn_247 : decode cX12_isOwn 247 = .ok (.ifCond .ne 5, 3) := by decide +kernel
theorem dX12_isOwn_250 : decode cX12_isOwn 250 = .ok (.iconst 1, 1) := by decide +kernel
theorem dX12_isOwn_251 : decode cX12_isOwn 251 = .ok (.ireturn, 1) := by decide +kernel
theorem dX12_isOwn_252 : decode cX12_isOwn 252 = .ok (.lload_n 1, 1) := by decide +kernel
theorem dX12_isOwn_253 : decode cX12_isOwn 253 = .ok (.ldc2_w 367, 3) := by decide +kernel
theorem dX12_isOwn_256 : decode cX12_isOwn 256 = .ok (.lcmp, 1) := by decide +kernel
theorem dX12_isOwn_257 : decode cX12_isOwn 257 = .ok (.ifCond .eq 11, 3) := by decide +kernel
theorem dX12_isOwn_260 : decode cX12_isOwn 260 = .ok (.lload_n 1, 1) := by decide +kernel
theorem dX12_isOwn_261 : decode cX12_isOwn 261 = .ok (.ldc2_w 369, 3) := by decide +kernel
theorem dX12_isOwn_264 : decode cX12_isOwn 264 = .ok (.lcmp, 1) := by decide +kernel
theorem dX12_isOwn_265 : decode cX12_isOwn 265 = .ok (.ifCond .ne 5, 3) := by decide +kernel
theorem dX12_isOwn_268 : decode cX12_isOwn 268 = .ok (.iconst 1, 1) := by decide +kernel
theorem dX12_isOwn_269 : decode cX12_isOwn 269 = .ok (.ireturn, 1) := by decide +kernel
theorem dX12_isOwn_270 : decode cX12_isOwn 270 = .ok (.iconst 0, 1) := by decide +kernel
theorem dX12_isOwn_271 : decode cX12_isOwn 271 = .ok (.ireturn, 1) := by decide +kernel
theorem dX12_isDefault_0 : decode cX12_isDefault 0 = .ok (.aload_n 0, 1) := by decide +kernel
theorem dX12_isDefault_1 : decode cX12_isDefault 1 = .ok (.getfield 102, 3) := by decide +kernel
theorem dX12_isDefault_4 : decode cX12_isDefault 4 = .ok (.iconst 3, 1) := by decide +kernel
theorem dX12_isDefault_5 : decode cX12_isDefault 5 = .ok (.iload_n 1, 1) := by decide +kernel
theorem dX12_isDefault_6 : decode cX12_isDefault 6 = .ok (.imul, 1) := by decide +kernel
theorem dX12_isDefault_7 : decode cX12_isDefault 7 = .ok (.iconst 0, 1) := by decide +kernel
theorem dX12_isDefault_8 : decode cX12_isDefault 8 = .ok (.iadd, 1) := by decide +kernel
theorem dX12_isDefault_9 : decode cX12_isDefault 9 = .ok (.bipush 100, 2) := by decide +kernel
theorem dX12_isDefault_11 : decode cX12_isDefault 11 = .ok (.iastore, 1) := by decide +kernel
theorem dX12_isDefault_12 : decode cX12_isDefault 12 = .ok (.aload_n 0, 1) := by decide +kernel
theorem dX12_isDefault_13 : decode cX12_isDefault 13 = .ok (.getfield 102, 3) := by decide +kernel
theorem dX12_isDefault_16 : decode cX12_isDefault 16 = .ok (.iconst 3, 1) := by decide +kernel
theorem dX12_isDefault_17 : decode cX12_isDefault 17 = .ok (.iload_n 1, 1) := by decide +kernel
theorem dX12_isDefault_18 : decode cX12_isDefault 18 = .ok (.imul, 1) := by decide +kernel
theorem dX12_isDefault_19 : decode cX12_isDefault 19 = .ok (.iconst 1, 1) := by decide +kernel
theorem dX12_isDefault_20 : decode cX12_isDefault 20 = .ok (.iadd, 1) := by decide +kernel
theorem dX12_isDefault_21 : decode cX12_isDefault 21 = .ok (.iconst 5, 1) := by decide +kernel
theorem dX12_isDefault_22 : decode cX12_isDefault 22 = .ok (.iastore, 1) := by decide +kernel
theorem dX12_isDefault_23 : decode cX12_isDefault 23 = .ok (.aload_n 0, 1) := by decide +kernel
theorem dX12_isDefault_24 : decode cX12_isDefault 24 = .ok (.getfield 102, 3) := by decide +kernel
theorem dX12_isDefault_27 : decode cX12_isDefault 27 = .ok (.iconst 3, 1) := by decide +kernel
theorem dX12_isDefault_28 : decode cX12_isDefault 28 = .ok (.iload_n 1, 1) := by decide +kernel
theorem dX12_isDefault_29 : decode cX12_isDefault 29 = .ok (.imul, 1) := by decide +kernel
theorem dX12_isDefault_30 : decode cX12_isDefault 30 = .ok (.iconst 2, 1) := by decide +kernel
theorem dX12_isDefault_31 : decode cX12_isDefault 31 = .ok (.iadd, 1) := by decide +kernel
theorem dX12_isDefault_32 : decode cX12_isDefault 32 = .ok (.iconst 0, 1) := by decide +kernel
theorem dX12_isDefault_33 : decode cX12_isDefault 33 = .ok (.iastore, 1) := by decide +kernel
theorem dX12_isDefault_34 : decode cX12_isDefault 34 = .ok (.aload_n 0, 1) := by decide +kernel
theorem dX12_isDefault_35 : decode cX12_isDefault 35 = .ok (.getfield 96, 3) := by decide +kernel
theorem dX12_isDefault_38 : decode cX12_isDefault 38 = .ok (.iload_n 1, 1) := by decide +kernel
theorem dX12_isDefault_39 : decode cX12_isDefault 39 = .ok (.iconst 0, 1) := by decide +kernel
theorem dX12_isDefault_40 : decode cX12_isDefault 40 = .ok (.iastore, 1) := by decide +kernel
theorem dX12_isDefault_41 : decode cX12_isDefault 41 = .ok (.aload_n 0, 1) := by decide +kernel
theorem dX12_isDefault_42 : decode cX12_isDefault 42 = .ok (.getfield 99, 3) := by decide +kernel
theorem dX12_isDefault_45 : decode cX12_isDefault 45 = .ok (.iload_n 1, 1) := by decide +kernel
theorem dX12_isDefault_46 : decode cX12_isDefault 46 = .ok (.bipush 9, 2) := by decide +kernel
theorem dX12_isDefault_48 : decode cX12_isDefault 48 = .ok (.iastore, 1) := by decide +kernel
theorem dX12_isDefault_49 : decode cX12_isDefault 49 = .ok (.return_, 1) := by decide +kernel
theorem dX12_toldOf_0 : decode cX12_toldOf 0 = .ok (.aload_n 0, 1) := by decide +kernel
theorem dX12_toldOf_1 : decode cX12_toldOf 1 = .ok (.getfield 102, 3) := by decide +kernel
theorem dX12_toldOf_4 : decode cX12_toldOf 4 = .ok (.iconst 3, 1) := by decide +kernel
theorem dX12_toldOf_5 : decode cX12_toldOf 5 = .ok (.aload_n 0, 1) := by decide +kernel
theorem dX12_toldOf_6 : decode cX12_toldOf 6 = .ok (.getfield 51, 3) := by decide +kernel
theorem dX12_toldOf_9 : decode cX12_toldOf 9 = .ok (.imul, 1) := by decide +kernel
theorem dX12_toldOf_10 : decode cX12_toldOf 10 = .ok (.iload_n 1, 1) := by decide +kernel
theorem dX12_toldOf_11 : decode cX12_toldOf 11 = .ok (.iadd, 1) := by decide +kernel
theorem dX12_toldOf_12 : decode cX12_toldOf 12 = .ok (.iaload, 1) := by decide +kernel
theorem dX12_toldOf_13 : decode cX12_toldOf 13 = .ok (.ireturn, 1) := by decide +kernel
theorem dX12_manyOf_0 : decode cX12_manyOf 0 = .ok (.iload_n 2, 1) := by decide +kernel
theorem dX12_manyOf_1 : decode cX12_manyOf 1 = .ok (.ifCond .ne 12, 3) := by decide +kernel
theorem dX12_manyOf_4 : decode cX12_manyOf 4 = .ok (.aload_n 0, 1) := by decide +kernel
theorem dX12_manyOf_5 : decode cX12_manyOf 5 = .ok (.getfield 54, 3) := by decide +kernel
theorem dX12_manyOf_8 : decode cX12_manyOf 8 = .ok (.iload_n 1, 1) := by decide +kernel
theorem dX12_manyOf_9 : decode cX12_manyOf 9 = .ok (.iaload, 1) := by decide +kernel
theorem dX12_manyOf_10 : decode cX12_manyOf 10 = .ok (.goto 37, 3) := by decide +kernel
theorem dX12_manyOf_13 : decode cX12_manyOf 13 = .ok (.iload_n 2, 1) := by decide +kernel
theorem dX12_manyOf_14 : decode cX12_manyOf 14 = .ok (.iconst 1, 1) := by decide +kernel
theorem dX12_manyOf_15 : decode cX12_manyOf 15 = .ok (.if_icmp .ne 12, 3) := by decide +kernel
theorem dX12_manyOf_18 : decode cX12_manyOf 18 = .ok (.aload_n 0, 1) := by decide +kernel
theorem dX12_manyOf_19 : decode cX12_manyOf 19 = .ok (.getfield 63, 3) := by decide +kernel
theorem dX12_manyOf_22 : decode cX12_manyOf 22 = .ok (.iload_n 1, 1) := by decide +kernel
theorem dX12_manyOf_23 : decode cX12_manyOf 23 = .ok (.iaload, 1) := by decide +kernel
theorem dX12_manyOf_24 : decode cX12_manyOf 24 = .ok (.goto 23, 3) := by decide +kernel
theorem dX12_manyOf_27 : decode cX12_manyOf 27 = .ok (.iload_n 2, 1) := by decide +kernel
theorem dX12_manyOf_28 : decode cX12_manyOf 28 = .ok (.iconst 2, 1) := by decide +kernel
theorem dX12_manyOf_29 : decode cX12_manyOf 29 = .ok (.if_icmp .ne 12, 3) := by decide +kernel
theorem dX12_manyOf_32 : decode cX12_manyOf 32 = .ok (.aload_n 0, 1) := by decide +kernel
theorem dX12_manyOf_33 : decode cX12_manyOf 33 = .ok (.getfield 72, 3) := by decide +kernel
theorem dX12_manyOf_36 : decode cX12_manyOf 36 = .ok (.iload_n 1, 1) := by decide +kernel
theorem dX12_manyOf_37 : decode cX12_manyOf 37 = .ok (.iaload, 1) := by decide +kernel
theorem dX12_manyOf_38 : decode cX12_manyOf 38 = .ok (.goto 9, 3) := by decide +kernel
theorem dX12_manyOf_41 : decode cX12_manyOf 41 = .ok (.aload_n 0, 1) := by decide +kernel
theorem dX12_manyOf_42 : decode cX12_manyOf 42 = .ok (.getfield 78, 3) := by decide +kernel
theorem dX12_manyOf_45 : decode cX12_manyOf 45 = .ok (.iload_n 1, 1) := by decide +kernel
theorem dX12_manyOf_46 : decode cX12_manyOf 46 = .ok (.iaload, 1) := by decide +kernel
theorem dX12_manyOf_47 : decode cX12_manyOf 47 = .ok (.ireturn, 1) := by decide +kernel
theorem dX12_nameOf_0 : decode cX12_nameOf 0 = .ok (.iload_n 2, 1) := by decide +kernel
theorem dX12_nameOf_1 : decode cX12_nameOf 1 = .ok (.ifCond .ne 17, 3) := by decide +kernel
theorem dX12_nameOf_4 : decode cX12_nameOf 4 = .ok (.aload_n 0, 1) := by decide +kernel
theorem dX12_nameOf_5 : decode cX12_nameOf 5 = .ok (.getfield 117, 3) := by decide +kernel
theorem dX12_nameOf_8 : decode cX12_nameOf 8 = .ok (.bipush 6, 2) := by decide +kernel
theorem dX12_nameOf_10 : decode cX12_nameOf 10 = .ok (.iload_n 1, 1) := by decide +kernel
theorem dX12_nameOf_11 : decode cX12_nameOf 11 = .ok (.imul, 1) := by decide +kernel
theorem dX12_nameOf_12 : decode cX12_nameOf 12 = .ok (.iload_n 3, 1) := by decide +kernel
theorem dX12_nameOf_13 : decode cX12_nameOf 13 = .ok (.iadd, 1) := by decide +kernel
theorem dX12_nameOf_14 : decode cX12_nameOf 14 = .ok (.laload, 1) := by decide +kernel
theorem dX12_nameOf_15 : decode cX12_nameOf 15 = .ok (.goto 52, 3) := by decide +kernel
theorem dX12_nameOf_18 : decode cX12_nameOf 18 = .ok (.iload_n 2, 1) := by decide +kernel
theorem dX12_nameOf_19 : decode cX12_nameOf 19 = .ok (.iconst 1, 1) := by decide +kernel
theorem dX12_nameOf_20 : decode cX12_nameOf 20 = .ok (.if_icmp .ne 17, 3) := by decide +kernel
theorem dX12_nameOf_23 : decode cX12_nameOf 23 = .ok (.aload_n 0, 1) := by decide +kernel
theorem dX12_nameOf_24 : decode cX12_nameOf 24 = .ok (.getfield 121, 3) := by decide +kernel
theorem dX12_nameOf_27 : decode cX12_nameOf 27 = .ok (.bipush 8, 2) := by decide +kernel
theorem dX12_nameOf_29 : decode cX12_nameOf 29 = .ok (.iload_n 1, 1) := by decide +kernel
theorem dX12_nameOf_30 : decode cX12_nameOf 30 = .ok (.imul, 1) := by decide +kernel
theorem dX12_nameOf_31 : decode cX12_nameOf 31 = .ok (.iload_n 3, 1) := by decide +kernel
theorem dX12_nameOf_32 : decode cX12_nameOf 32 = .ok (.iadd, 1) := by decide +kernel
theorem dX12_nameOf_33 : decode cX12_nameOf 33 = .ok (.laload, 1) := by decide +kernel
theorem dX12_nameOf_34 : decode cX12_nameOf 34 = .ok (.goto 33, 3) := by decide +kernel
theorem dX12_nameOf_37 : decode cX12_nameOf 37 = .ok (.iload_n 2, 1) := by decide +kernel
theorem dX12_nameOf_38 : decode cX12_nameOf 38 = .ok (.iconst 2, 1) := by decide +kernel
theorem dX12_nameOf_39 : decode cX12_nameOf 39 = .ok (.if_icmp .ne 17, 3) := by decide +kernel
theorem dX12_nameOf_42 : decode cX12_nameOf 42 = .ok (.aload_n 0, 1) := by decide +kernel
theorem dX12_nameOf_43 : decode cX12_nameOf 43 = .ok (.getfield 124, 3) := by decide +kernel
theorem dX12_nameOf_46 : decode cX12_nameOf 46 = .ok (.bipush 6, 2) := by decide +kernel
theorem dX12_nameOf_48 : decode cX12_nameOf 48 = .ok (.iload_n 1, 1) := by decide +kernel
theorem dX12_nameOf_49 : decode cX12_nameOf 49 = .ok (.imul, 1) := by decide +kernel
theorem dX12_nameOf_50 : decode cX12_nameOf 50 = .ok (.iload_n 3, 1) := by decide +kernel
theorem dX12_nameOf_51 : decode cX12_nameOf 51 = .ok (.iadd, 1) := by decide +kernel
theorem dX12_nameOf_52 : decode cX12_nameOf 52 = .ok (.laload, 1) := by decide +kernel
theorem dX12_nameOf_53 : decode cX12_nameOf 53 = .ok (.goto 14, 3) := by decide +kernel
theorem dX12_nameOf_56 : decode cX12_nameOf 56 = .ok (.aload_n 0, 1) := by decide +kernel
theorem dX12_nameOf_57 : decode cX12_nameOf 57 = .ok (.getfield 127, 3) := by decide +kernel
theorem dX12_nameOf_60 : decode cX12_nameOf 60 = .ok (.bipush 6, 2) := by decide +kernel
theorem dX12_nameOf_62 : decode cX12_nameOf 62 = .ok (.iload_n 1, 1) := by decide +kernel
theorem dX12_nameOf_63 : decode cX12_nameOf 63 = .ok (.imul, 1) := by decide +kernel
theorem dX12_nameOf_64 : decode cX12_nameOf 64 = .ok (.iload_n 3, 1) := by decide +kernel
theorem dX12_nameOf_65 : decode cX12_nameOf 65 = .ok (.iadd, 1) := by decide +kernel
theorem dX12_nameOf_66 : decode cX12_nameOf 66 = .ok (.laload, 1) := by decide +kernel
theorem dX12_nameOf_67 : decode cX12_nameOf 67 = .ok (.lreturn, 1) := by decide +kernel
theorem dX12_named_0 : decode cX12_named 0 = .ok (.iconst 0, 1) := by decide +kernel
theorem dX12_named_1 : decode cX12_named 1 = .ok (.istore 4, 2) := by decide +kernel
theorem dX12_named_3 : decode cX12_named 3 = .ok (.iload 4, 2) := by decide +kernel
theorem dX12_named_5 : decode cX12_named 5 = .ok (.aload_n 0, 1) := by decide +kernel
theorem dX12_named_6 : decode cX12_named 6 = .ok (.aload_n 0, 1) := by decide +kernel
theorem dX12_named_7 : decode cX12_named 7 = .ok (.getfield 133, 3) := by decide +kernel
theorem dX12_named_10 : decode cX12_named 10 = .ok (.iload_n 1, 1) := by decide +kernel
theorem dX12_named_11 : decode cX12_named 11 = .ok (.invokevirtual 371, 3) := by decide +kernel
theorem dX12_named_14 : decode cX12_named 14 = .ok (.if_icmp .ge 28, 3) := by decide +kernel
theorem dX12_named_17 : decode cX12_named 17 = .ok (.aload_n 0, 1) := by decide +kernel
theorem dX12_named_18 : decode cX12_named 18 = .ok (.aload_n 0, 1) := by decide +kernel
theorem dX12_named_19 : decode cX12_named 19 = .ok (.getfield 133, 3) := by decide +kernel
theorem dX12_named_22 : decode cX12_named 22 = .ok (.iload_n 1, 1) := by decide +kernel
theorem dX12_named_23 : decode cX12_named 23 = .ok (.iload 4, 2) := by decide +kernel
theorem dX12_named_25 : decode cX12_named 25 = .ok (.invokevirtual 375, 3) := by decide +kernel
theorem dX12_named_28 : decode cX12_named 28 = .ok (.lload_n 2, 1) := by decide +kernel
theorem dX12_named_29 : decode cX12_named 29 = .ok (.lcmp, 1) := by decide +kernel
theorem dX12_named_30 : decode cX12_named 30 = .ok (.ifCond .ne 6, 3) := by decide +kernel
theorem dX12_named_33 : decode cX12_named 33 = .ok (.iload 4, 2) := by decide +kernel
theorem dX12_named_35 : decode cX12_named 35 = .ok (.ireturn, 1) := by decide +kernel
theorem dX12_named_36 : decode cX12_named 36 = .ok (.iinc 4 1, 3) := by decide +kernel
theorem dX12_named_39 : decode cX12_named 39 = .ok (.goto (-36), 3) := by decide +kernel
theorem dX12_named_42 : decode cX12_named 42 = .ok (.iconst (-1), 1) := by decide +kernel
theorem dX12_named_43 : decode cX12_named 43 = .ok (.ireturn, 1) := by decide +kernel
theorem dX12_number_0 : decode cX12_number 0 = .ok (.aload_n 0, 1) := by decide +kernel
theorem dX12_number_1 : decode cX12_number 1 = .ok (.invokevirtual 298, 3) := by decide +kernel
theorem dX12_number_4 : decode cX12_number 4 = .ok (.aload_n 0, 1) := by decide +kernel
theorem dX12_number_5 : decode cX12_number 5 = .ok (.getfield 36, 3) := by decide +kernel
theorem dX12_number_8 : decode cX12_number 8 = .ok (.ifCond .le 5, 3) := by decide +kernel
theorem dX12_number_11 : decode cX12_number 11 = .ok (.iconst 0, 1) := by decide +kernel
theorem dX12_number_12 : decode cX12_number 12 = .ok (.ireturn, 1) := by decide +kernel
theorem dX12_number_13 : decode cX12_number 13 = .ok (.aload_n 0, 1) := by decide +kernel
theorem dX12_number_14 : decode cX12_number 14 = .ok (.getfield 20, 3) := by decide +kernel
theorem dX12_number_17 : decode cX12_number 17 = .ok (.iconst 2, 1) := by decide +kernel
theorem dX12_number_18 : decode cX12_number 18 = .ok (.if_icmp .eq 12, 3) := by decide +kernel
theorem dX12_number_21 : decode cX12_number 21 = .ok (.aload_n 0, 1) := by decide +kernel
theorem dX12_number_22 : decode cX12_number 22 = .ok (.iconst 1, 1) := by decide +kernel
theorem dX12_number_23 : decode cX12_number 23 = .ok (.aload_n 0, 1) := by decide +kernel
theorem dX12_number_24 : decode cX12_number 24 = .ok (.getfield 23, 3) := by decide +kernel
theorem dX12_number_27 : decode cX12_number 27 = .ok (.invokevirtual 287, 3) := by decide +kernel
theorem dX12_number_30 : decode cX12_number 30 = .ok (.aload_n 0, 1) := by decide +kernel
theorem dX12_number_31 : decode cX12_number 31 = .ok (.getfield 36, 3) := by decide +kernel
theorem dX12_number_34 : decode cX12_number 34 = .ok (.ifCond .ne 24, 3) := by decide +kernel
theorem dX12_number_37 : decode cX12_number 37 = .ok (.aload_n 0, 1) := by decide +kernel
theorem dX12_number_38 : decode cX12_number 38 = .ok (.getfield 29, 3) := by decide +kernel
theorem dX12_number_41 : decode cX12_number 41 = .ok (.iload_n 1, 1) := by decide +kernel
theorem dX12_number_42 : decode cX12_number 42 = .ok (.iload_n 2, 1) := by decide +kernel
theorem dX12_number_43 : decode cX12_number 43 = .ok (.invokestatic 379, 3) := by decide +kernel
theorem dX12_number_46 : decode cX12_number 46 = .ok (.ifCond .ne 12, 3) := by decide +kernel
theorem dX12_number_49 : decode cX12_number 49 = .ok (.aload_n 0, 1) := by decide +kernel
theorem dX12_number_50 : decode cX12_number 50 = .ok (.iconst 4, 1) := by decide +kernel
theorem dX12_number_51 : decode cX12_number 51 = .ok (.aload_n 0, 1) := by decide +kernel
theorem dX12_number_52 : decode cX12_number 52 = .ok (.getfield 23, 3) := by decide +kernel
theorem dX12_number_55 : decode cX12_number 55 = .ok (.invokevirtual 287, 3) := by decide +kernel
theorem dX12_number_58 : decode cX12_number 58 = .ok (.aload_n 0, 1) := by decide +kernel
theorem dX12_number_59 : decode cX12_number 59 = .ok (.getfield 29, 3) := by decide +kernel
theorem dX12_number_62 : decode cX12_number 62 = .ok (.istore_n 3, 1) := by decide +kernel
theorem dX12_number_63 : decode cX12_number 63 = .ok (.aload_n 0, 1) := by decide +kernel
theorem dX12_number_64 : decode cX12_number 64 = .ok (.getfield 36, 3) := by decide +kernel
theorem dX12_number_67 : decode cX12_number 67 = .ok (.ifCond .ne 7, 3) := by decide +kernel
theorem dX12_number_70 : decode cX12_number 70 = .ok (.aload_n 0, 1) := by decide +kernel
theorem dX12_number_71 : decode cX12_number 71 = .ok (.invokevirtual 304, 3) := by decide +kernel
theorem dX12_number_74 : decode cX12_number 74 = .ok (.iload_n 3, 1) := by decide +kernel
theorem dX12_number_75 : decode cX12_number 75 = .ok (.ireturn, 1) := by decide +kernel
theorem dX12_add_0 : decode cX12_add 0 = .ok (.aload_n 0, 1) := by decide +kernel
theorem dX12_add_1 : decode cX12_add 1 = .ok (.getfield 111, 3) := by decide +kernel
theorem dX12_add_4 : decode cX12_add 4 = .ok (.sipush 1600, 3) := by decide +kernel
theorem dX12_add_7 : decode cX12_add 7 = .ok (.aload_n 0, 1) := by decide +kernel
theorem dX12_add_8 : decode cX12_add 8 = .ok (.getfield 133, 3) := by decide +kernel
theorem dX12_add_11 : decode cX12_add 11 = .ok (.imul, 1) := by decide +kernel
theorem dX12_add_12 : decode cX12_add 12 = .ok (.aload_n 0, 1) := by decide +kernel
theorem dX12_add_13 : decode cX12_add 13 = .ok (.getfield 130, 3) := by decide +kernel
theorem dX12_add_16 : decode cX12_add 16 = .ok (.iadd, 1) := by decide +kernel
theorem dX12_add_17 : decode cX12_add 17 = .ok (.iload_n 1, 1) := by decide +kernel
theorem dX12_add_18 : decode cX12_add 18 = .ok (.iastore, 1) := by decide +kernel
theorem dX12_add_19 : decode cX12_add 19 = .ok (.aload_n 0, 1) := by decide +kernel
theorem dX12_add_20 : decode cX12_add 20 = .ok (.getfield 114, 3) := by decide +kernel
theorem dX12_add_23 : decode cX12_add 23 = .ok (.sipush 1600, 3) := by decide +kernel
theorem dX12_add_26 : decode cX12_add 26 = .ok (.aload_n 0, 1) := by decide +kernel
theorem dX12_add_27 : decode cX12_add 27 = .ok (.getfield 133, 3) := by decide +kernel
theorem dX12_add_30 : decode cX12_add 30 = .ok (.imul, 1) := by decide +kernel
theorem dX12_add_31 : decode cX12_add 31 = .ok (.aload_n 0, 1) := by decide +kernel
theorem dX12_add_32 : decode cX12_add 32 = .ok (.getfield 130, 3) := by decide +kernel
theorem dX12_add_35 : decode cX12_add 35 = .ok (.iadd, 1) := by decide +kernel
theorem dX12_add_36 : decode cX12_add 36 = .ok (.iload_n 2, 1) := by decide +kernel
theorem dX12_add_37 : decode cX12_add 37 = .ok (.iastore, 1) := by decide +kernel
theorem dX12_add_38 : decode cX12_add 38 = .ok (.aload_n 0, 1) := by decide +kernel
theorem dX12_add_39 : decode cX12_add 39 = .ok (.dup, 1) := by decide +kernel
theorem dX12_add_40 : decode cX12_add 40 = .ok (.getfield 130, 3) := by decide +kernel
theorem dX12_add_43 : decode cX12_add 43 = .ok (.iconst 1, 1) := by decide +kernel
theorem dX12_add_44 : decode cX12_add 44 = .ok (.iadd, 1) := by decide +kernel
theorem dX12_add_45 : decode cX12_add 45 = .ok (.putfield 130, 3) := by decide +kernel
theorem dX12_add_48 : decode cX12_add 48 = .ok (.return_, 1) := by decide +kernel
theorem dX12_rank_0 : decode cX12_rank 0 = .ok (.iload_n 0, 1) := by decide +kernel
theorem dX12_rank_1 : decode cX12_rank 1 = .ok (.bipush 42, 2) := by decide +kernel
theorem dX12_rank_3 : decode cX12_rank 3 = .ok (.if_icmp .ne 7, 3) := by decide +kernel
theorem dX12_rank_6 : decode cX12_rank 6 = .ok (.iconst 1, 1) := by decide +kernel
theorem dX12_rank_7 : decode cX12_rank 7 = .ok (.goto 63, 3) := by decide +kernel
theorem dX12_rank_10 : decode cX12_rank 10 = .ok (.iload_n 0, 1) := by decide +kernel
theorem dX12_rank_11 : decode cX12_rank 11 = .ok (.bipush 41, 2) := by decide +kernel
theorem dX12_rank_13 : decode cX12_rank 13 = .ok (.if_icmp .ne 7, 3) := by decide +kernel
theorem dX12_rank_16 : decode cX12_rank 16 = .ok (.iconst 2, 1) := by decide +kernel
theorem dX12_rank_17 : decode cX12_rank 17 = .ok (.goto 53, 3) := by decide +kernel
theorem dX12_rank_20 : decode cX12_rank 20 = .ok (.iload_n 0, 1) := by decide +kernel
theorem dX12_rank_21 : decode cX12_rank 21 = .ok (.bipush 43, 2) := by decide +kernel
theorem dX12_rank_23 : decode cX12_rank 23 = .ok (.if_icmp .ne 7, 3) := by decide +kernel
theorem dX12_rank_26 : decode cX12_rank 26 = .ok (.iconst 3, 1) := by decide +kernel
theorem dX12_rank_27 : decode cX12_rank 27 = .ok (.goto 43, 3) := by decide +kernel
theorem dX12_rank_30 : decode cX12_rank 30 = .ok (.iload_n 0, 1) := by decide +kernel
theorem dX12_rank_31 : decode cX12_rank 31 = .ok (.bipush 38, 2) := by decide +kernel
theorem dX12_rank_33 : decode cX12_rank 33 = .ok (.if_icmp .eq 15, 3) := by decide +kernel
theorem dX12_rank_36 : decode cX12_rank 36 = .ok (.iload_n 0, 1) := by decide +kernel
theorem dX12_rank_37 : decode cX12_rank 37 = .ok (.bipush 39, 2) := by decide +kernel
theorem dX12_rank_39 : decode cX12_rank 39 = .ok (.if_icmp .eq 9, 3) := by decide +kernel
theorem dX12_rank_42 : decode cX12_rank 42 = .ok (.iload_n 0, 1) := by decide +kernel
theorem dX12_rank_43 : decode cX12_rank 43 = .ok (.bipush 40, 2) := by decide +kernel
theorem dX12_rank_45 : decode cX12_rank 45 = .ok (.if_icmp .ne 7, 3) := by decide +kernel
theorem dX12_rank_48 : decode cX12_rank 48 = .ok (.iconst 4, 1) := by decide +kernel
theorem dX12_rank_49 : decode cX12_rank 49 = .ok (.goto 21, 3) := by decide +kernel
theorem dX12_rank_52 : decode cX12_rank 52 = .ok (.iload_n 0, 1) := by decide +kernel
theorem dX12_rank_53 : decode cX12_rank 53 = .ok (.bipush 31, 2) := by decide +kernel
theorem dX12_rank_55 : decode cX12_rank 55 = .ok (.if_icmp .eq 9, 3) := by decide +kernel
theorem dX12_rank_58 : decode cX12_rank 58 = .ok (.iload_n 0, 1) := by decide +kernel
theorem dX12_rank_59 : decode cX12_rank 59 = .ok (.bipush 32, 2) := by decide +kernel
theorem dX12_rank_61 : decode cX12_rank 61 = .ok (.if_icmp .ne 7, 3) := by decide +kernel
theorem dX12_rank_64 : decode cX12_rank 64 = .ok (.iconst 5, 1) := by decide +kernel
theorem dX12_rank_65 : decode cX12_rank 65 = .ok (.goto 5, 3) := by decide +kernel
theorem dX12_rank_68 : decode cX12_rank 68 = .ok (.bipush 6, 2) := by decide +kernel
theorem dX12_rank_70 : decode cX12_rank 70 = .ok (.ireturn, 1) := by decide +kernel
theorem dX12_joins_0 : decode cX12_joins 0 = .ok (.aload_n 0, 1) := by decide +kernel
theorem dX12_joins_1 : decode cX12_joins 1 = .ok (.getfield 165, 3) := by decide +kernel
theorem dX12_joins_4 : decode cX12_joins 4 = .ok (.aload_n 0, 1) := by decide +kernel
theorem dX12_joins_5 : decode cX12_joins 5 = .ok (.getfield 153, 3) := by decide +kernel
theorem dX12_joins_8 : decode cX12_joins 8 = .ok (.aload_n 0, 1) := by decide +kernel
theorem dX12_joins_9 : decode cX12_joins 9 = .ok (.getfield 156, 3) := by decide +kernel
theorem dX12_joins_12 : decode cX12_joins 12 = .ok (.iconst 1, 1) := by decide +kernel
theorem dX12_joins_13 : decode cX12_joins 13 = .ok (.isub, 1) := by decide +kernel
theorem dX12_joins_14 : decode cX12_joins 14 = .ok (.iaload, 1) := by decide +kernel
theorem dX12_joins_15 : decode cX12_joins 15 = .ok (.if_icmp .le 72, 3) := by decide +kernel
theorem dX12_joins_18 : decode cX12_joins 18 = .ok (.aload_n 0, 1) := by decide +kernel
theorem dX12_joins_19 : decode cX12_joins 19 = .ok (.getfield 162, 3) := by decide +kernel
theorem dX12_joins_22 : decode cX12_joins 22 = .ok (.aload_n 0, 1) := by decide +kernel
theorem dX12_joins_23 : decode cX12_joins 23 = .ok (.getfield 165, 3) := by decide +kernel
theorem dX12_joins_26 : decode cX12_joins 26 = .ok (.iconst 1, 1) := by decide +kernel
theorem dX12_joins_27 : decode cX12_joins 27 = .ok (.isub, 1) := by decide +kernel
theorem dX12_joins_28 : decode cX12_joins 28 = .ok (.iaload, 1) := by decide +kernel
theorem dX12_joins_29 : decode cX12_joins 29 = .ok (.invokestatic 383, 3) := by decide +kernel
theorem dX12_joins_32 : decode cX12_joins 32 = .ok (.iload_n 1, 1) := by decide +kernel
theorem dX12_joins_33 : decode cX12_joins 33 = .ok (.if_icmp .lt 54, 3) := by decide +kernel
theorem dX12_joins_36 : decode cX12_joins 36 = .ok (.aload_n 0, 1) := by decide +kernel
theorem dX12_joins_37 : decode cX12_joins 37 = .ok (.dup, 1) := by decide +kernel
theorem dX12_joins_38 : decode cX12_joins 38 = .ok (.getfield 165, 3) := by decide +kernel
theorem dX12_joins_41 : decode cX12_joins 41 = .ok (.iconst 1, 1) := by decide +kernel
theorem dX12_joins_42 : decode cX12_joins 42 = .ok (.isub, 1) := by decide +kernel
theorem dX12_joins_43 : decode cX12_joins 43 = .ok (.putfield 165, 3) := by decide +kernel
theorem dX12_joins_46 : decode cX12_joins 46 = .ok (.aload_n 0, 1) := by decide +kernel
theorem dX12_joins_47 : decode cX12_joins 47 = .ok (.aload_n 0, 1) := by decide +kernel
theorem dX12_joins_48 : decode cX12_joins 48 = .ok (.getfield 162, 3) := by decide +kernel
theorem dX12_joins_51 : decode cX12_joins 51 = .ok (.aload_n 0, 1) := by decide +kernel
theorem dX12_joins_52 : decode cX12_joins 52 = .ok (.getfield 165, 3) := by decide +kernel
theorem dX12_joins_55 : decode cX12_joins 55 = .ok (.iaload, 1) := by decide +kernel
theorem dX12_joins_56 : decode cX12_joins 56 = .ok (.iconst 0, 1) := by decide +kernel
theorem dX12_joins_57 : decode cX12_joins 57 = .ok (.invokevirtual 386, 3) := by decide +kernel
theorem dX12_joins_60 : decode cX12_joins 60 = .ok (.aload_n 0, 1) := by decide +kernel
theorem dX12_joins_61 : decode cX12_joins 61 = .ok (.getfield 162, 3) := by decide +kernel
theorem dX12_joins_64 : decode cX12_joins 64 = .ok (.aload_n 0, 1) := by decide +kernel
theorem dX12_joins_65 : decode cX12_joins 65 = .ok (.getfield 165, 3) := by decide +kernel
theorem dX12_joins_68 : decode cX12_joins 68 = .ok (.iaload, 1) := by decide +kernel
theorem dX12_joins_69 : decode cX12_joins 69 = .ok (.bipush 43, 2) := by decide +kernel
theorem dX12_joins_71 : decode cX12_joins 71 = .ok (.if_icmp .ne (-71), 3) := by decide +kernel
theorem dX12_joins_74 : decode cX12_joins 74 = .ok (.aload_n 0, 1) := by decide +kernel
theorem dX12_joins_75 : decode cX12_joins 75 = .ok (.dup, 1) := by decide +kernel
theorem dX12_joins_76 : decode cX12_joins 76 = .ok (.getfield 159, 3) := by decide +kernel
theorem dX12_joins_79 : decode cX12_joins 79 = .ok (.iconst 1, 1) := by decide +kernel
theorem dX12_joins_80 : decode cX12_joins 80 = .ok (.isub, 1) := by decide +kernel
theorem dX12_joins_81 : decode cX12_joins 81 = .ok (.putfield 159, 3) := by decide +kernel
theorem dX12_joins_84 : decode cX12_joins 84 = .ok (.goto (-84), 3) := by decide +kernel
theorem dX12_joins_87 : decode cX12_joins 87 = .ok (.return_, 1) := by decide +kernel
theorem dX12_holdsBack_0 : decode cX12_holdsBack 0 = .ok (.aload_n 0, 1) := by decide +kernel
theorem dX12_holdsBack_1 : decode cX12_holdsBack 1 = .ok (.getfield 162, 3) := by decide +kernel
theorem dX12_holdsBack_4 : decode cX12_holdsBack 4 = .ok (.aload_n 0, 1) := by decide +kernel
theorem dX12_holdsBack_5 : decode cX12_holdsBack 5 = .ok (.getfield 165, 3) := by decide +kernel
theorem dX12_holdsBack_8 : decode cX12_holdsBack 8 = .ok (.iload_n 1, 1) := by decide +kernel
theorem dX12_holdsBack_9 : decode cX12_holdsBack 9 = .ok (.iastore, 1) := by decide +kernel
theorem dX12_holdsBack_10 : decode cX12_holdsBack 10 = .ok (.aload_n 0, 1) := by decide +kernel
theorem dX12_holdsBack_11 : decode cX12_holdsBack 11 = .ok (.dup, 1) := by decide +kernel
theorem dX12_holdsBack_12 : decode cX12_holdsBack 12 = .ok (.getfield 165, 3) := by decide +kernel
theorem dX12_holdsBack_15 : decode cX12_holdsBack 15 = .ok (.iconst 1, 1) := by decide +kernel
theorem dX12_holdsBack_16 : decode cX12_holdsBack 16 = .ok (.iadd, 1) := by decide +kernel
theorem dX12_holdsBack_17 : decode cX12_holdsBack 17 = .ok (.putfield 165, 3) := by decide +kernel
theorem dX12_holdsBack_20 : decode cX12_holdsBack 20 = .ok (.return_, 1) := by decide +kernel
theorem dX12_pushes_0 : decode cX12_pushes 0 = .ok (.aload_n 0, 1) := by decide +kernel
theorem dX12_pushes_1 : decode cX12_pushes 1 = .ok (.getfield 140, 3) := by decide +kernel
theorem dX12_pushes_4 : decode cX12_pushes 4 = .ok (.aload_n 0, 1) := by decide +kernel
theorem dX12_pushes_5 : decode cX12_pushes 5 = .ok (.getfield 156, 3) := by decide +kernel
theorem dX12_pushes_8 : decode cX12_pushes 8 = .ok (.iload_n 1, 1) := by decide +kernel
theorem dX12_pushes_9 : decode cX12_pushes 9 = .ok (.iastore, 1) := by decide +kernel
theorem dX12_pushes_10 : decode cX12_pushes 10 = .ok (.aload_n 0, 1) := by decide +kernel
theorem dX12_pushes_11 : decode cX12_pushes 11 = .ok (.getfield 143, 3) := by decide +kernel
theorem dX12_pushes_14 : decode cX12_pushes 14 = .ok (.aload_n 0, 1) := by decide +kernel
theorem dX12_pushes_15 : decode cX12_pushes 15 = .ok (.getfield 156, 3) := by decide +kernel
theorem dX12_pushes_18 : decode cX12_pushes 18 = .ok (.iconst 0, 1) := by decide +kernel
theorem dX12_pushes_19 : decode cX12_pushes 19 = .ok (.iastore, 1) := by decide +kernel
theorem dX12_pushes_20 : decode cX12_pushes 20 = .ok (.aload_n 0, 1) := by decide +kernel
theorem dX12_pushes_21 : decode cX12_pushes 21 = .ok (.getfield 146, 3) := by decide +kernel
theorem dX12_pushes_24 : decode cX12_pushes 24 = .ok (.aload_n 0, 1) := by decide +kernel
theorem dX12_pushes_25 : decode cX12_pushes 25 = .ok (.getfield 156, 3) := by decide +kernel
theorem dX12_pushes_28 : decode cX12_pushes 28 = .ok (.iconst 1, 1) := by decide +kernel
theorem dX12_pushes_29 : decode cX12_pushes 29 = .ok (.bastore, 1) := by decide +kernel
theorem dX12_pushes_30 : decode cX12_pushes 30 = .ok (.aload_n 0, 1) := by decide +kernel
theorem dX12_pushes_31 : decode cX12_pushes 31 = .ok (.getfield 153, 3) := by decide +kernel
theorem dX12_pushes_34 : decode cX12_pushes 34 = .ok (.aload_n 0, 1) := by decide +kernel
theorem dX12_pushes_35 : decode cX12_pushes 35 = .ok (.getfield 156, 3) := by decide +kernel
theorem dX12_pushes_38 : decode cX12_pushes 38 = .ok (.aload_n 0, 1) := by decide +kernel
theorem dX12_pushes_39 : decode cX12_pushes 39 = .ok (.getfield 165, 3) := by decide +kernel
theorem dX12_pushes_42 : decode cX12_pushes 42 = .ok (.iastore, 1) := by decide +kernel
theorem dX12_pushes_43 : decode cX12_pushes 43 = .ok (.aload_n 0, 1) := by decide +kernel
theorem dX12_pushes_44 : decode cX12_pushes 44 = .ok (.dup, 1) := by decide +kernel
theorem dX12_pushes_45 : decode cX12_pushes 45 = .ok (.getfield 156, 3) := by decide +kernel
theorem dX12_pushes_48 : decode cX12_pushes 48 = .ok (.iconst 1, 1) := by decide +kernel
theorem dX12_pushes_49 : decode cX12_pushes 49 = .ok (.iadd, 1) := by decide +kernel
theorem dX12_pushes_50 : decode cX12_pushes 50 = .ok (.putfield 156, 3) := by decide +kernel
theorem dX12_pushes_53 : decode cX12_pushes 53 = .ok (.return_, 1) := by decide +kernel
theorem dX12_opens_0 : decode cX12_opens 0 = .ok (.aload_n 0, 1) := by decide +kernel
theorem dX12_opens_1 : decode cX12_opens 1 = .ok (.getfield 159, 3) := by decide +kernel
theorem dX12_opens_4 : decode cX12_opens 4 = .ok (.bipush 7, 2) := by decide +kernel
theorem dX12_opens_6 : decode cX12_opens 6 = .ok (.if_icmp .ne 12, 3) := by decide +kernel
theorem dX12_opens_9 : decode cX12_opens 9 = .ok (.aload_n 0, 1) := by decide +kernel
theorem dX12_opens_10 : decode cX12_opens 10 = .ok (.iconst 5, 1) := by decide +kernel
theorem dX12_opens_11 : decode cX12_opens 11 = .ok (.aload_n 0, 1) := by decide +kernel
theorem dX12_opens_12 : decode cX12_opens 12 = .ok (.getfield 23, 3) := by decide +kernel
theorem dX12_opens_15 : decode cX12_opens 15 = .ok (.invokevirtual 287, 3) := by decide +kernel
theorem dX12_opens_18 : decode cX12_opens 18 = .ok (.aload_n 0, 1) := by decide +kernel
theorem dX12_opens_19 : decode cX12_opens 19 = .ok (.getfield 36, 3) := by decide +kernel
theorem dX12_opens_22 : decode cX12_opens 22 = .ok (.ifCond .le 4, 3) := by decide +kernel
theorem dX12_opens_25 : decode cX12_opens 25 = .ok (.return_, 1) := by decide +kernel
theorem dX12_opens_26 : decode cX12_opens 26 = .ok (.aload_n 0, 1) := by decide +kernel
theorem dX12_opens_27 : decode cX12_opens 27 = .ok (.dup, 1) := by decide +kernel
theorem dX12_opens_28 : decode cX12_opens 28 = .ok (.getfield 159, 3) := by decide +kernel
theorem dX12_opens_31 : decode cX12_opens 31 = .ok (.iconst 1, 1) := by decide +kernel
theorem dX12_opens_32 : decode cX12_opens 32 = .ok (.iadd, 1) := by decide +kernel
theorem dX12_opens_33 : decode cX12_opens 33 = .ok (.putfield 159, 3) := by decide +kernel
theorem dX12_opens_36 : decode cX12_opens 36 = .ok (.aload_n 0, 1) := by decide +kernel
theorem dX12_opens_37 : decode cX12_opens 37 = .ok (.invokevirtual 304, 3) := by decide +kernel
theorem dX12_opens_40 : decode cX12_opens 40 = .ok (.aload_n 0, 1) := by decide +kernel
theorem dX12_opens_41 : decode cX12_opens 41 = .ok (.iload_n 1, 1) := by decide +kernel
theorem dX12_opens_42 : decode cX12_opens 42 = .ok (.invokevirtual 389, 3) := by decide +kernel
theorem dX12_opens_45 : decode cX12_opens 45 = .ok (.return_, 1) := by decide +kernel
theorem dX12_isTest_0 : decode cX12_isTest 0 = .ok (.iload_n 0, 1) := by decide +kernel
theorem dX12_isTest_1 : decode cX12_isTest 1 = .ok (.iconst 1, 1) := by decide +kernel
theorem dX12_isTest_2 : decode cX12_isTest 2 = .ok (.if_icmp .eq 14, 3) := by decide +kernel
theorem dX12_isTest_5 : decode cX12_isTest 5 = .ok (.iload_n 0, 1) := by decide +kernel
theorem dX12_isTest_6 : decode cX12_isTest 6 = .ok (.iconst 5, 1) := by decide +kernel
theorem dX12_isTest_7 : decode cX12_isTest 7 = .ok (.if_icmp .eq 9, 3) := by decide +kernel
theorem dX12_isTest_10 : decode cX12_isTest 10 = .ok (.iload_n 0, 1) := by decide +kernel
theorem dX12_isTest_11 : decode cX12_isTest 11 = .ok (.bipush 6, 2) := by decide +kernel
theorem dX12_isTest_13 : decode cX12_isTest 13 = .ok (.if_icmp .ne 7, 3) := by decide +kernel
theorem dX12_isTest_16 : decode cX12_isTest 16 = .ok (.iconst 1, 1) := by decide +kernel
theorem dX12_isTest_17 : decode cX12_isTest 17 = .ok (.goto 4, 3) := by decide +kernel
theorem dX12_isTest_20 : decode cX12_isTest 20 = .ok (.iconst 0, 1) := by decide +kernel
theorem dX12_isTest_21 : decode cX12_isTest 21 = .ok (.ireturn, 1) := by decide +kernel
theorem dX12_operand_0 : decode cX12_operand 0 = .ok (.aload_n 0, 1) := by decide +kernel
theorem dX12_operand_1 : decode cX12_operand 1 = .ok (.invokevirtual 298, 3) := by decide +kernel
theorem dX12_operand_4 : decode cX12_operand 4 = .ok (.aload_n 0, 1) := by decide +kernel
theorem dX12_operand_5 : decode cX12_operand 5 = .ok (.getfield 36, 3) := by decide +kernel
theorem dX12_operand_8 : decode cX12_operand 8 = .ok (.ifCond .le 5, 3) := by decide +kernel
theorem dX12_operand_11 : decode cX12_operand 11 = .ok (.iconst 1, 1) := by decide +kernel
theorem dX12_operand_12 : decode cX12_operand 12 = .ok (.ireturn, 1) := by decide +kernel
theorem dX12_operand_13 : decode cX12_operand 13 = .ok (.aload_n 0, 1) := by decide +kernel
theorem dX12_operand_14 : decode cX12_operand 14 = .ok (.getfield 156, 3) := by decide +kernel
theorem dX12_operand_17 : decode cX12_operand 17 = .ok (.iconst 1, 1) := by decide +kernel
theorem dX12_operand_18 : decode cX12_operand 18 = .ok (.isub, 1) := by decide +kernel
theorem dX12_operand_19 : decode cX12_operand 19 = .ok (.istore_n 1, 1) := by decide +kernel
theorem dX12_operand_20 : decode cX12_operand 20 = .ok (.aload_n 0, 1) := by decide +kernel
theorem dX12_operand_21 : decode cX12_operand 21 = .ok (.getfield 140, 3) := by decide +kernel
theorem dX12_operand_24 : decode cX12_operand 24 = .ok (.iload_n 1, 1) := by decide +kernel
theorem dX12_operand_25 : decode cX12_operand 25 = .ok (.iaload, 1) := by decide +kernel
theorem dX12_operand_26 : decode cX12_operand 26 = .ok (.invokestatic 392, 3) := by decide +kernel
theorem dX12_operand_29 : decode cX12_operand 29 = .ok (.ifCond .eq 16, 3) := by decide +kernel
theorem dX12_operand_32 : decode cX12_operand 32 = .ok (.aload_n 0, 1) := by decide +kernel
theorem dX12_operand_33 : decode cX12_operand 33 = .ok (.getfield 146, 3) := by decide +kernel
theorem dX12_operand_36 : decode cX12_operand 36 = .ok (.iload_n 1, 1) := by decide +kernel
theorem dX12_operand_37 : decode cX12_operand 37 = .ok (.baload, 1) := by decide +kernel
theorem dX12_operand_38 : decode cX12_operand 38 = .ok (.ifCond .eq 7, 3) := by decide +kernel
theorem dX12_operand_41 : decode cX12_operand 41 = .ok (.iconst 1, 1) := by decide +kernel
theorem dX12_operand_42 : decode cX12_operand 42 = .ok (.goto 4, 3) := by decide +kernel
theorem dX12_operand_45 : decode cX12_operand 45 = .ok (.iconst 0, 1) := by decide +kernel
theorem dX12_operand_46 : decode cX12_operand 46 = .ok (.istore_n 2, 1) := by decide +kernel
theorem dX12_operand_47 : decode cX12_operand 47 = .ok (.iload_n 2, 1) := by decide +kernel
theorem dX12_operand_48 : decode cX12_operand 48 = .ok (.ifCond .eq 62, 3) := by decide +kernel
theorem dX12_operand_51 : decode cX12_operand 51 = .ok (.aload_n 0, 1) := by decide +kernel
theorem dX12_operand_52 : decode cX12_operand 52 = .ok (.ldc2_w 363, 3) := by decide +kernel
theorem dX12_operand_55 : decode cX12_operand 55 = .ok (.invokevirtual 395, 3) := by decide +kernel
theorem dX12_operand_58 : decode cX12_operand 58 = .ok (.ifCond .eq 52, 3) := by decide +kernel
theorem dX12_operand_61 : decode cX12_operand 61 = .ok (.aload_n 0, 1) := by decide +kernel
theorem dX12_operand_62 : decode cX12_operand 62 = .ok (.getfield 159, 3) := by decide +kernel
theorem dX12_operand_65 : decode cX12_operand 65 = .ok (.bipush 7, 2) := by decide +kernel
theorem dX12_operand_67 : decode cX12_operand 67 = .ok (.if_icmp .ne 12, 3) := by decide +kernel
theorem dX12_operand_70 : decode cX12_operand 70 = .ok (.aload_n 0, 1) := by decide +kernel
theorem dX12_operand_71 : decode cX12_operand 71 = .ok (.iconst 5, 1) := by decide +kernel
theorem dX12_operand_72 : decode cX12_operand 72 = .ok (.aload_n 0, 1) := by decide +kernel
theorem dX12_operand_73 : decode cX12_operand 73 = .ok (.getfield 23, 3) := by decide +kernel
theorem dX12_operand_76 : decode cX12_operand 76 = .ok (.invokevirtual 287, 3) := by decide +kernel
theorem dX12_operand_79 : decode cX12_operand 79 = .ok (.aload_n 0, 1) := by decide +kernel
theorem dX12_operand_80 : decode cX12_operand 80 = .ok (.getfield 36, 3) := by decide +kernel
theorem dX12_operand_83 : decode cX12_operand 83 = .ok (.ifCond .le 5, 3) := by decide +kernel
theorem dX12_operand_86 : decode cX12_operand 86 = .ok (.iconst 1, 1) := by decide +kernel
theorem dX12_operand_87 : decode cX12_operand 87 = .ok (.ireturn, 1) := by decide +kernel
theorem dX12_operand_88 : decode cX12_operand 88 = .ok (.aload_n 0, 1) := by decide +kernel
theorem dX12_operand_89 : decode cX12_operand 89 = .ok (.dup, 1) := by decide +kernel
theorem dX12_operand_90 : decode cX12_operand 90 = .ok (.getfield 159, 3) := by decide +kernel
theorem dX12_operand_93 : decode cX12_operand 93 = .ok (.iconst 1, 1) := by decide +kernel
theorem dX12_operand_94 : decode cX12_operand 94 = .ok (.iadd, 1) := by decide +kernel
theorem dX12_operand_95 : decode cX12_operand 95 = .ok (.putfield 159, 3) := by decide +kernel
theorem dX12_operand_98 : decode cX12_operand 98 = .ok (.aload_n 0, 1) := by decide +kernel
theorem dX12_operand_99 : decode cX12_operand 99 = .ok (.bipush 43, 2) := by decide +kernel
theorem dX12_operand_101 : decode cX12_operand 101 = .ok (.invokevirtual 399, 3) := by decide +kernel
theorem dX12_operand_104 : decode cX12_operand 104 = .ok (.aload_n 0, 1) := by decide +kernel
theorem dX12_operand_105 : decode cX12_operand 105 = .ok (.invokevirtual 304, 3) := by decide +kernel
theorem dX12_operand_108 : decode cX12_operand 108 = .ok (.iconst 0, 1) := by decide +kernel
theorem dX12_operand_109 : decode cX12_operand 109 = .ok (.ireturn, 1) := by decide +kernel
theorem dX12_operand_110 : decode cX12_operand 110 = .ok (.aload_n 0, 1) := by decide +kernel
theorem dX12_operand_111 : decode cX12_operand 111 = .ok (.getfield 146, 3) := by decide +kernel
theorem dX12_operand_114 : decode cX12_operand 114 = .ok (.iload_n 1, 1) := by decide +kernel
theorem dX12_operand_115 : decode cX12_operand 115 = .ok (.iconst 0, 1) := by decide +kernel
theorem dX12_operand_116 : decode cX12_operand 116 = .ok (.bastore, 1) := by decide +kernel
theorem dX12_operand_117 : decode cX12_operand 117 = .ok (.iload_n 2, 1) := by decide +kernel
theorem dX12_operand_118 : decode cX12_operand 118 = .ok (.ifCond .eq 19, 3) := by decide +kernel
theorem dX12_operand_121 : decode cX12_operand 121 = .ok (.aload_n 0, 1) := by decide +kernel
theorem dX12_operand_122 : decode cX12_operand 122 = .ok (.bipush 91, 2) := by decide +kernel
theorem dX12_operand_124 : decode cX12_operand 124 = .ok (.invokevirtual 301, 3) := by decide +kernel
theorem dX12_operand_127 : decode cX12_operand 127 = .ok (.ifCond .eq 10, 3) := by decide +kernel
theorem dX12_operand_130 : decode cX12_operand 130 = .ok (.aload_n 0, 1) := by decide +kernel
theorem dX12_operand_131 : decode cX12_operand 131 = .ok (.iconst 5, 1) := by decide +kernel
theorem dX12_operand_132 : decode cX12_operand 132 = .ok (.invokevirtual 402, 3) := by decide +kernel
theorem dX12_operand_135 : decode cX12_operand 135 = .ok (.iconst 0, 1) := by decide +kernel
theorem dX12_operand_136 : decode cX12_operand 136 = .ok (.ireturn, 1) := by decide +kernel
theorem dX12_operand_137 : decode cX12_operand 137 = .ok (.iload_n 2, 1) := by decide +kernel
theorem dX12_operand_138 : decode cX12_operand 138 = .ok (.ifCond .eq 33, 3) := by decide +kernel
theorem dX12_operand_141 : decode cX12_operand 141 = .ok (.aload_n 0, 1) := by decide +kernel
theorem dX12_operand_142 : decode cX12_operand 142 = .ok (.ldc2_w 365, 3) := by decide +kernel
theorem dX12_operand_145 : decode cX12_operand 145 = .ok (.invokevirtual 395, 3) := by decide +kernel
theorem dX12_operand_148 : decode cX12_operand 148 = .ok (.ifCond .eq 23, 3) := by decide +kernel
theorem dX12_operand_151 : decode cX12_operand 151 = .ok (.aload_n 0, 1) := by decide +kernel
theorem dX12_operand_152 : decode cX12_operand 152 = .ok (.bipush 30, 2) := by decide +kernel
theorem dX12_operand_154 : decode cX12_operand 154 = .ok (.iconst 0, 1) := by decide +kernel
theorem dX12_operand_155 : decode cX12_operand 155 = .ok (.invokevirtual 386, 3) := by decide +kernel
theorem dX12_operand_158 : decode cX12_operand 158 = .ok (.aload_n 0, 1) := by decide +kernel
theorem dX12_operand_159 : decode cX12_operand 159 = .ok (.getfield 143, 3) := by decide +kernel
theorem dX12_operand_162 : decode cX12_operand 162 = .ok (.iload_n 1, 1) := by decide +kernel
theorem dX12_operand_163 : decode cX12_operand 163 = .ok (.iconst 2, 1) := by decide +kernel
theorem dX12_operand_164 : decode cX12_operand 164 = .ok (.iastore, 1) := by decide +kernel
theorem dX12_operand_165 : decode cX12_operand 165 = .ok (.aload_n 0, 1) := by decide +kernel
theorem dX12_operand_166 : decode cX12_operand 166 = .ok (.invokevirtual 304, 3) := by decide +kernel
theorem dX12_operand_169 : decode cX12_operand 169 = .ok (.iconst 1, 1) := by decide +kernel
theorem dX12_operand_170 : decode cX12_operand 170 = .ok (.ireturn, 1) := by decide +kernel
theorem dX12_operand_171 : decode cX12_operand 171 = .ok (.aload_n 0, 1) := by decide +kernel
theorem dX12_operand_172 : decode cX12_operand 172 = .ok (.bipush 40, 2) := by decide +kernel
theorem dX12_operand_174 : decode cX12_operand 174 = .ok (.invokevirtual 301, 3) := by decide +kernel
theorem dX12_operand_177 : decode cX12_operand 177 = .ok (.ifCond .eq 10, 3) := by decide +kernel
theorem dX12_operand_180 : decode cX12_operand 180 = .ok (.aload_n 0, 1) := by decide +kernel
theorem dX12_operand_181 : decode cX12_operand 181 = .ok (.iconst 2, 1) := by decide +kernel
theorem dX12_operand_182 : decode cX12_operand 182 = .ok (.invokevirtual 402, 3) := by decide +kernel
theorem dX12_operand_185 : decode cX12_operand 185 = .ok (.iconst 0, 1) := by decide +kernel
theorem dX12_operand_186 : decode cX12_operand 186 = .ok (.ireturn, 1) := by decide +kernel
theorem dX12_operand_187 : decode cX12_operand 187 = .ok (.aload_n 0, 1) := by decide +kernel
theorem dX12_operand_188 : decode cX12_operand 188 = .ok (.ldc2_w 367, 3) := by decide +kernel
theorem dX12_operand_191 : decode cX12_operand 191 = .ok (.invokevirtual 395, 3) := by decide +kernel
theorem dX12_operand_194 : decode cX12_operand 194 = .ok (.ifCond .ne 23, 3) := by decide +kernel
theorem dX12_operand_197 : decode cX12_operand 197 = .ok (.aload_n 0, 1) := by decide +kernel
theorem dX12_operand_198 : decode cX12_operand 198 = .ok (.ldc2_w 369, 3) := by decide +kernel
theorem dX12_operand_201 : decode cX12_operand 201 = .ok (.invokevirtual 395, 3) := by decide +kernel
theorem dX12_operand_204 : decode cX12_operand 204 = .ok (.ifCond .ne 13, 3) := by decide +kernel
theorem dX12_operand_207 : decode cX12_operand 207 = .ok (.aload_n 0, 1) := by decide +kernel
theorem dX12_operand_208 : decode cX12_operand 208 = .ok (.ldc2_w 357, 3) := by decide +kernel
theorem dX12_operand_211 : decode cX12_operand 211 = .ok (.invokevirtual 395, 3) := by decide +kernel
theorem dX12_operand_214 : decode cX12_operand 214 = .ok (.ifCond .eq 99, 3) := by decide +kernel
theorem dX12_operand_217 : decode cX12_operand 217 = .ok (.aload_n 0, 1) := by decide +kernel
theorem dX12_operand_218 : decode cX12_operand 218 = .ok (.ldc2_w 367, 3) := by decide +kernel
theorem dX12_operand_221 : decode cX12_operand 221 = .ok (.invokevirtual 395, 3) := by decide +kernel
theorem dX12_operand_224 : decode cX12_operand 224 = .ok (.ifCond .eq 8, 3) := by decide +kernel
theorem dX12_operand_227 : decode cX12_operand 227 = .ok (.bipush 36, 2) := by decide +kernel
theorem dX12_operand_229 : decode cX12_operand 229 = .ok (.goto 20, 3) := by decide +kernel
theorem dX12_operand_232 : decode cX12_operand 232 = .ok (.aload_n 0, 1) := by decide +kernel
theorem dX12_operand_233 : decode cX12_operand 233 = .ok (.ldc2_w 369, 3) := by decide +kernel
theorem dX12_operand_236 : decode cX12_operand 236 = .ok (.invokevirtual 395, 3) := by decide +kernel
theorem dX12_operand_239 : decode cX12_operand 239 = .ok (.ifCond .eq 8, 3) := by decide +kernel
theorem dX12_operand_242 : decode cX12_operand 242 = .ok (.bipush 37, 2) := by decide +kernel
theorem dX12_operand_244 : decode cX12_operand 244 = .ok (.goto 5, 3) := by decide +kernel
theorem dX12_operand_247 : decode cX12_operand 247 = .ok (.bipush 44, 2) := by decide +kernel
theorem dX12_operand_249 : decode cX12_operand 249 = .ok (.istore_n 3, 1) := by decide +kernel
theorem dX12_operand_250 : decode cX12_operand 250 = .ok (.aload_n 0, 1) := by decide +kernel
theorem dX12_operand_251 : decode cX12_operand 251 = .ok (.invokevirtual 304, 3) := by decide +kernel
theorem dX12_operand_254 : decode cX12_operand 254 = .ok (.aload_n 0, 1) := by decide +kernel
theorem dX12_operand_255 : decode cX12_operand 255 = .ok (.invokevirtual 298, 3) := by decide +kernel
theorem dX12_operand_258 : decode cX12_operand 258 = .ok (.aload_n 0, 1) := by decide +kernel
theorem dX12_operand_259 : decode cX12_operand 259 = .ok (.bipush 40, 2) := by decide +kernel
theorem dX12_operand_261 : decode cX12_operand 261 = .ok (.invokevirtual 301, 3) := by decide +kernel
theorem dX12_operand_264 : decode cX12_operand 264 = .ok (.ifCond .ne 12, 3) := by decide +kernel
theorem dX12_operand_267 : decode cX12_operand 267 = .ok (.aload_n 0, 1) := by decide +kernel
theorem dX12_operand_268 : decode cX12_operand 268 = .ok (.iconst 1, 1) := by decide +kernel
theorem dX12_operand_269 : decode cX12_operand 269 = .ok (.aload_n 0, 1) := by decide +kernel
theorem dX12_operand_270 : decode cX12_operand 270 = .ok (.getfield 23, 3) := by decide +kernel
theorem dX12_operand_273 : decode cX12_operand 273 = .ok (.invokevirtual 287, 3) := by decide +kernel
theorem dX12_operand_276 : decode cX12_operand 276 = .ok (.aload_n 0, 1) := by decide +kernel
theorem dX12_operand_277 : decode cX12_operand 277 = .ok (.iload_n 3, 1) := by decide +kernel
theorem dX12_operand_278 : decode cX12_operand 278 = .ok (.bipush 44, 2) := by decide +kernel
theorem dX12_operand_280 : decode cX12_operand 280 = .ok (.if_icmp .ne 8, 3) := by decide +kernel
theorem dX12_operand_283 : decode cX12_operand 283 = .ok (.bipush 6, 2) := by decide +kernel
theorem dX12_operand_285 : decode cX12_operand 285 = .ok (.goto 4, 3) := by decide +kernel
theorem dX12_operand_288 : decode cX12_operand 288 = .ok (.iconst 3, 1) := by decide +kernel
theorem dX12_operand_289 : decode cX12_operand 289 = .ok (.invokevirtual 402, 3) := by decide +kernel
theorem dX12_operand_292 : decode cX12_operand 292 = .ok (.aload_n 0, 1) := by decide +kernel
theorem dX12_operand_293 : decode cX12_operand 293 = .ok (.getfield 36, 3) := by decide +kernel
theorem dX12_operand_296 : decode cX12_operand 296 = .ok (.ifCond .ne 15, 3) := by decide +kernel
theorem dX12_operand_299 : decode cX12_operand 299 = .ok (.aload_n 0, 1) := by decide +kernel
theorem dX12_operand_300 : decode cX12_operand 300 = .ok (.getfield 150, 3) := by decide +kernel
theorem dX12_operand_303 : decode cX12_operand 303 = .ok (.aload_n 0, 1) := by decide +kernel
theorem dX12_operand_304 : decode cX12_operand 304 = .ok (.getfield 156, 3) := by decide +kernel
theorem dX12_operand_307 : decode cX12_operand 307 = .ok (.iconst 1, 1) := by decide +kernel
theorem dX12_operand_308 : decode cX12_operand 308 = .ok (.isub, 1) := by decide +kernel
theorem dX12_operand_309 : decode cX12_operand 309 = .ok (.iload_n 3, 1) := by decide +kernel
theorem dX12_operand_310 : decode cX12_operand 310 = .ok (.iastore, 1) := by decide +kernel
theorem dX12_operand_311 : decode cX12_operand 311 = .ok (.iconst 0, 1) := by decide +kernel
theorem dX12_operand_312 : decode cX12_operand 312 = .ok (.ireturn, 1) := by decide +kernel
theorem dX12_operand_313 : decode cX12_operand 313 = .ok (.aload_n 0, 1) := by decide +kernel
theorem dX12_operand_314 : decode cX12_operand 314 = .ok (.getfield 20, 3) := by decide +kernel
theorem dX12_operand_317 : decode cX12_operand 317 = .ok (.iconst 2, 1) := by decide +kernel
theorem dX12_operand_318 : decode cX12_operand 318 = .ok (.if_icmp .ne 7, 3) := by decide +kernel
theorem dX12_operand_321 : decode cX12_operand 321 = .ok (.iconst 0, 1) := by decide +kernel
theorem dX12_operand_322 : decode cX12_operand 322 = .ok (.goto 119, 3) := by decide +kernel
theorem dX12_operand_325 : decode cX12_operand 325 = .ok (.aload_n 0, 1) := by decide +kernel
theorem dX12_operand_326 : decode cX12_operand 326 = .ok (.ldc2_w 347, 3) := by decide +kernel
theorem dX12_operand_329 : decode cX12_operand 329 = .ok (.invokevirtual 395, 3) := by decide +kernel
theorem dX12_operand_332 : decode cX12_operand 332 = .ok (.ifCond .eq 7, 3) := by decide +kernel
theorem dX12_operand_335 : decode cX12_operand 335 = .ok (.iconst 1, 1) := by decide +kernel
theorem dX12_operand_336 : decode cX12_operand 336 = .ok (.goto 105, 3) := by decide +kernel
theorem dX12_operand_339 : decode cX12_operand 339 = .ok (.aload_n 0, 1) := by decide +kernel
theorem dX12_operand_340 : decode cX12_operand 340 = .ok (.ldc2_w 317, 3) := by decide +kernel
theorem dX12_operand_343 : decode cX12_operand 343 = .ok (.invokevirtual 395, 3) := by decide +kernel
theorem dX12_operand_346 : decode cX12_operand 346 = .ok (.ifCond .eq 7, 3) := by decide +kernel
theorem dX12_operand_349 : decode cX12_operand 349 = .ok (.iconst 2, 1) := by decide +kernel
theorem dX12_operand_350 : decode cX12_operand 350 = .ok (.goto 91, 3) := by decide +kernel
theorem dX12_operand_353 : decode cX12_operand 353 = .ok (.aload_n 0, 1) := by decide +kernel
theorem dX12_operand_354 : decode cX12_operand 354 = .ok (.ldc2_w 321, 3) := by decide +kernel
theorem dX12_operand_357 : decode cX12_operand 357 = .ok (.invokevirtual 395, 3) := by decide +kernel
theorem dX12_operand_360 : decode cX12_operand 360 = .ok (.ifCond .eq 7, 3) := by decide +kernel
theorem dX12_operand_363 : decode cX12_operand 363 = .ok (.iconst 3, 1) := by decide +kernel
theorem dX12_operand_364 : decode cX12_operand 364 = .ok (.goto 77, 3) := by decide +kernel
theorem dX12_operand_367 : decode cX12_operand 367 = .ok (.aload_n 0, 1) := by decide +kernel
theorem dX12_operand_368 : decode cX12_operand 368 = .ok (.ldc2_w 349, 3) := by decide +kernel
theorem dX12_operand_371 : decode cX12_operand 371 = .ok (.invokevirtual 395, 3) := by decide +kernel
theorem dX12_operand_374 : decode cX12_operand 374 = .ok (.ifCond .eq 7, 3) := by decide +kernel
theorem dX12_operand_377 : decode cX12_operand 377 = .ok (.iconst 4, 1) := by decide +kernel
theorem dX12_operand_378 : decode cX12_operand 378 = .ok (.goto 63, 3) := by decide +kernel
theorem dX12_operand_381 : decode cX12_operand 381 = .ok (.aload_n 0, 1) := by decide +kernel
theorem dX12_operand_382 : decode cX12_operand 382 = .ok (.ldc2_w 351, 3) := by decide +kernel
theorem dX12_operand_385 : decode cX12_operand 385 = .ok (.invokevirtual 395, 3) := by decide +kernel
theorem dX12_operand_388 : decode cX12_operand 388 = .ok (.ifCond .eq 7, 3) := by decide +kernel
theorem dX12_operand_391 : decode cX12_operand 391 = .ok (.iconst 5, 1) := by decide +kernel
theorem dX12_operand_392 : decode cX12_operand 392 = .ok (.goto 49, 3) := by decide +kernel
theorem dX12_operand_395 : decode cX12_operand 395 = .ok (.aload_n 0, 1) := by decide +kernel
theorem dX12_operand_396 : decode cX12_operand 396 = .ok (.ldc2_w 353, 3) := by decide +kernel
theorem dX12_operand_399 : decode cX12_operand 399 = .ok (.invokevirtual 395, 3) := by decide +kernel
theorem dX12_operand_402 : decode cX12_operand 402 = .ok (.ifCond .eq 8, 3) := by decide +kernel
theorem dX12_operand_405 : decode cX12_operand 405 = .ok (.bipush 6, 2) := by decide +kernel
theorem dX12_operand_407 : decode cX12_operand 407 = .ok (.goto 34, 3) := by decide +kernel
theorem dX12_operand_410 : decode cX12_operand 410 = .ok (.aload_n 0, 1) := by decide +kernel
theorem dX12_operand_411 : decode cX12_operand 411 = .ok (.ldc2_w 345, 3) := by decide +kernel
theorem dX12_operand_414 : decode cX12_operand 414 = .ok (.invokevirtual 395, 3) := by decide +kernel
theorem dX12_operand_417 : decode cX12_operand 417 = .ok (.ifCond .eq 8, 3) := by decide +kernel
theorem dX12_operand_420 : decode cX12_operand 420 = .ok (.bipush 7, 2) := by decide +kernel
theorem dX12_operand_422 : decode cX12_operand 422 = .ok (.goto 19, 3) := by decide +kernel
theorem dX12_operand_425 : decode cX12_operand 425 = .ok (.aload_n 0, 1) := by decide +kernel
theorem dX12_operand_426 : decode cX12_operand 426 = .ok (.ldc2_w 355, 3) := by decide +kernel
theorem dX12_operand_429 : decode cX12_operand 429 = .ok (.invokevirtual 395, 3) := by decide +kernel
theorem dX12_operand_432 : decode cX12_operand 432 = .ok (.ifCond .eq 8, 3) := by decide +kernel
theorem dX12_operand_435 : decode cX12_operand 435 = .ok (.bipush 8, 2) := by decide +kernel
theorem dX12_operand_437 : decode cX12_operand 437 = .ok (.goto 4, 3) := by decide +kernel
theorem dX12_operand_440 : decode cX12_operand 440 = .ok (.iconst (-1), 1) := by decide +kernel
theorem dX12_operand_441 : decode cX12_operand 441 = .ok (.istore_n 3, 1) := by decide +kernel
theorem dX12_operand_442 : decode cX12_operand 442 = .ok (.iload_n 3, 1) := by decide +kernel
theorem dX12_operand_443 : decode cX12_operand 443 = .ok (.bipush 6, 2) := by decide +kernel
theorem dX12_operand_445 : decode cX12_operand 445 = .ok (.if_icmp .le 12, 3) := by decide +kernel
theorem dX12_operand_448 : decode cX12_operand 448 = .ok (.aload_n 0, 1) := by decide +kernel
theorem dX12_operand_449 : decode cX12_operand 449 = .ok (.getfield 136, 3) := by decide +kernel
theorem dX12_operand_452 : decode cX12_operand 452 = .ok (.ifCond .ne 5, 3) := by decide +kernel
theorem dX12_operand_455 : decode cX12_operand 455 = .ok (.iconst (-1), 1) := by decide +kernel
theorem dX12_operand_456 : decode cX12_operand 456 = .ok (.istore_n 3, 1) := by decide +kernel
theorem dX12_operand_457 : decode cX12_operand 457 = .ok (.iload_n 3, 1) := by decide +kernel
theorem dX12_operand_458 : decode cX12_operand 458 = .ok (.iconst (-1), 1) := by decide +kernel
theorem dX12_operand_459 : decode cX12_operand 459 = .ok (.if_icmp .ne 12, 3) := by decide +kernel
theorem dX12_operand_462 : decode cX12_operand 462 = .ok (.aload_n 0, 1) := by decide +kernel
theorem dX12_operand_463 : decode cX12_operand 463 = .ok (.iconst 1, 1) := by decide +kernel
theorem dX12_operand_464 : decode cX12_operand 464 = .ok (.aload_n 0, 1) := by decide +kernel
theorem dX12_operand_465 : decode cX12_operand 465 = .ok (.getfield 23, 3) := by decide +kernel
theorem dX12_operand_468 : decode cX12_operand 468 = .ok (.invokevirtual 287, 3) := by decide +kernel
theorem dX12_operand_471 : decode cX12_operand 471 = .ok (.aload_n 0, 1) := by decide +kernel
theorem dX12_operand_472 : decode cX12_operand 472 = .ok (.getfield 36, 3) := by decide +kernel
theorem dX12_operand_475 : decode cX12_operand 475 = .ok (.ifCond .le 5, 3) := by decide +kernel
theorem dX12_operand_478 : decode cX12_operand 478 = .ok (.iconst 1, 1) := by decide +kernel
theorem dX12_operand_479 : decode cX12_operand 479 = .ok (.ireturn, 1) := by decide +kernel
theorem dX12_operand_480 : decode cX12_operand 480 = .ok (.aload_n 0, 1) := by decide +kernel
theorem dX12_operand_481 : decode cX12_operand 481 = .ok (.iload_n 3, 1) := by decide +kernel
theorem dX12_operand_482 : decode cX12_operand 482 = .ok (.aload_n 0, 1) := by decide +kernel
theorem dX12_operand_483 : decode cX12_operand 483 = .ok (.getfield 29, 3) := by decide +kernel
theorem dX12_operand_486 : decode cX12_operand 486 = .ok (.invokevirtual 386, 3) := by decide +kernel
theorem dX12_operand_489 : decode cX12_operand 489 = .ok (.aload_n 0, 1) := by decide +kernel
theorem dX12_operand_490 : decode cX12_operand 490 = .ok (.invokevirtual 304, 3) := by decide +kernel
theorem dX12_operand_493 : decode cX12_operand 493 = .ok (.iconst 1, 1) := by decide +kernel
theorem dX12_operand_494 : decode cX12_operand 494 = .ok (.ireturn, 1) := by decide +kernel
theorem dX12_goesOn_0 : decode cX12_goesOn 0 = .ok (.aload_n 0, 1) := by decide +kernel
theorem dX12_goesOn_1 : decode cX12_goesOn 1 = .ok (.invokevirtual 298, 3) := by decide +kernel
theorem dX12_goesOn_4 : decode cX12_goesOn 4 = .ok (.aload_n 0, 1) := by decide +kernel
theorem dX12_goesOn_5 : decode cX12_goesOn 5 = .ok (.getfield 36, 3) := by decide +kernel
theorem dX12_goesOn_8 : decode cX12_goesOn 8 = .ok (.ifCond .le 5, 3) := by decide +kernel
theorem dX12_goesOn_11 : decode cX12_goesOn 11 = .ok (.iconst 0, 1) := by decide +kernel
theorem dX12_goesOn_12 : decode cX12_goesOn 12 = .ok (.ireturn, 1) := by decide +kernel
theorem dX12_goesOn_13 : decode cX12_goesOn 13 = .ok (.aload_n 0, 1) := by decide +kernel
theorem dX12_goesOn_14 : decode cX12_goesOn 14 = .ok (.getfield 156, 3) := by decide +kernel
theorem dX12_goesOn_17 : decode cX12_goesOn 17 = .ok (.iconst 1, 1) := by decide +kernel
theorem dX12_goesOn_18 : decode cX12_goesOn 18 = .ok (.isub, 1) := by decide +kernel
theorem dX12_goesOn_19 : decode cX12_goesOn 19 = .ok (.istore_n 1, 1) := by decide +kernel
theorem dX12_goesOn_20 : decode cX12_goesOn 20 = .ok (.aload_n 0, 1) := by decide +kernel
theorem dX12_goesOn_21 : decode cX12_goesOn 21 = .ok (.getfield 140, 3) := by decide +kernel
theorem dX12_goesOn_24 : decode cX12_goesOn 24 = .ok (.iload_n 1, 1) := by decide +kernel
theorem dX12_goesOn_25 : decode cX12_goesOn 25 = .ok (.iaload, 1) := by decide +kernel
theorem dX12_goesOn_26 : decode cX12_goesOn 26 = .ok (.istore_n 2, 1) := by decide +kernel
theorem dX12_goesOn_27 : decode cX12_goesOn 27 = .ok (.iload_n 2, 1) := by decide +kernel
theorem dX12_goesOn_28 : decode cX12_goesOn 28 = .ok (.invokestatic 392, 3) := by decide +kernel
theorem dX12_goesOn_31 : decode cX12_goesOn 31 = .ok (.istore_n 3, 1) := by decide +kernel
theorem dX12_goesOn_32 : decode cX12_goesOn 32 = .ok (.aload_n 0, 1) := by decide +kernel
theorem dX12_goesOn_33 : decode cX12_goesOn 33 = .ok (.getfield 143, 3) := by decide +kernel
theorem dX12_goesOn_36 : decode cX12_goesOn 36 = .ok (.iload_n 1, 1) := by decide +kernel
theorem dX12_goesOn_37 : decode cX12_goesOn 37 = .ok (.iaload, 1) := by decide +kernel
theorem dX12_goesOn_38 : decode cX12_goesOn 38 = .ok (.iconst 2, 1) := by decide +kernel
theorem dX12_goesOn_39 : decode cX12_goesOn 39 = .ok (.if_icmp .ge 149, 3) := by decide +kernel
theorem dX12_goesOn_42 : decode cX12_goesOn 42 = .ok (.aload_n 0, 1) := by decide +kernel
theorem dX12_goesOn_43 : decode cX12_goesOn 43 = .ok (.bipush 43, 2) := by decide +kernel
theorem dX12_goesOn_45 : decode cX12_goesOn 45 = .ok (.invokevirtual 301, 3) := by decide +kernel
theorem dX12_goesOn_48 : decode cX12_goesOn 48 = .ok (.ifCond .ne 39, 3) := by decide +kernel
theorem dX12_goesOn_51 : decode cX12_goesOn 51 = .ok (.aload_n 0, 1) := by decide +kernel
theorem dX12_goesOn_52 : decode cX12_goesOn 52 = .ok (.bipush 45, 2) := by decide +kernel
theorem dX12_goesOn_54 : decode cX12_goesOn 54 = .ok (.invokevirtual 301, 3) := by decide +kernel
theorem dX12_goesOn_57 : decode cX12_goesOn 57 = .ok (.ifCond .ne 30, 3) := by decide +kernel
theorem dX12_goesOn_60 : decode cX12_goesOn 60 = .ok (.aload_n 0, 1) := by decide +kernel
theorem dX12_goesOn_61 : decode cX12_goesOn 61 = .ok (.bipush 42, 2) := by decide +kernel
theorem dX12_goesOn_63 : decode cX12_goesOn 63 = .ok (.invokevirtual 301, 3) := by decide +kernel
theorem dX12_goesOn_66 : decode cX12_goesOn 66 = .ok (.ifCond .ne 21, 3) := by decide +kernel
theorem dX12_goesOn_69 : decode cX12_goesOn 69 = .ok (.aload_n 0, 1) := by decide +kernel
theorem dX12_goesOn_70 : decode cX12_goesOn 70 = .ok (.bipush 47, 2) := by decide +kernel
theorem dX12_goesOn_72 : decode cX12_goesOn 72 = .ok (.invokevirtual 301, 3) := by decide +kernel
theorem dX12_goesOn_75 : decode cX12_goesOn 75 = .ok (.ifCond .ne 12, 3) := by decide +kernel
theorem dX12_goesOn_78 : decode cX12_goesOn 78 = .ok (.aload_n 0, 1) := by decide +kernel
theorem dX12_goesOn_79 : decode cX12_goesOn 79 = .ok (.bipush 37, 2) := by decide +kernel
theorem dX12_goesOn_81 : decode cX12_goesOn 81 = .ok (.invokevirtual 301, 3) := by decide +kernel
theorem dX12_goesOn_84 : decode cX12_goesOn 84 = .ok (.ifCond .eq 104, 3) := by decide +kernel
theorem dX12_goesOn_87 : decode cX12_goesOn 87 = .ok (.aload_n 0, 1) := by decide +kernel
theorem dX12_goesOn_88 : decode cX12_goesOn 88 = .ok (.aload_n 0, 1) := by decide +kernel
theorem dX12_goesOn_89 : decode cX12_goesOn 89 = .ok (.bipush 43, 2) := by decide +kernel
theorem dX12_goesOn_91 : decode cX12_goesOn 91 = .ok (.invokevirtual 301, 3) := by decide +kernel
theorem dX12_goesOn_94 : decode cX12_goesOn 94 = .ok (.ifCond .ne 12, 3) := by decide +kernel
theorem dX12_goesOn_97 : decode cX12_goesOn 97 = .ok (.aload_n 0, 1) := by decide +kernel
theorem dX12_goesOn_98 : decode cX12_goesOn 98 = .ok (.bipush 45, 2) := by decide +kernel
theorem dX12_goesOn_100 : decode cX12_goesOn 100 = .ok (.invokevirtual 301, 3) := by decide +kernel
theorem dX12_goesOn_103 : decode cX12_goesOn 103 = .ok (.ifCond .eq 7, 3) := by decide +kernel
theorem dX12_goesOn_106 : decode cX12_goesOn 106 = .ok (.iconst 5, 1) := by decide +kernel
theorem dX12_goesOn_107 : decode cX12_goesOn 107 = .ok (.goto 5, 3) := by decide +kernel
theorem dX12_goesOn_110 : decode cX12_goesOn 110 = .ok (.bipush 6, 2) := by decide +kernel
theorem dX12_goesOn_112 : decode cX12_goesOn 112 = .ok (.invokevirtual 405, 3) := by decide +kernel
theorem dX12_goesOn_115 : decode cX12_goesOn 115 = .ok (.aload_n 0, 1) := by decide +kernel
theorem dX12_goesOn_116 : decode cX12_goesOn 116 = .ok (.aload_n 0, 1) := by decide +kernel
theorem dX12_goesOn_117 : decode cX12_goesOn 117 = .ok (.bipush 43, 2) := by decide +kernel
theorem dX12_goesOn_119 : decode cX12_goesOn 119 = .ok (.invokevirtual 301, 3) := by decide +kernel
theorem dX12_goesOn_122 : decode cX12_goesOn 122 = .ok (.ifCond .eq 8, 3) := by decide +kernel
theorem dX12_goesOn_125 : decode cX12_goesOn 125 = .ok (.bipush 31, 2) := by decide +kernel
theorem dX12_goesOn_127 : decode cX12_goesOn 127 = .ok (.goto 47, 3) := by decide +kernel
theorem dX12_goesOn_130 : decode cX12_goesOn 130 = .ok (.aload_n 0, 1) := by decide +kernel
theorem dX12_goesOn_131 : decode cX12_goesOn 131 = .ok (.bipush 45, 2) := by decide +kernel
theorem dX12_goesOn_133 : decode cX12_goesOn 133 = .ok (.invokevirtual 301, 3) := by decide +kernel
theorem dX12_goesOn_136 : decode cX12_goesOn 136 = .ok (.ifCond .eq 8, 3) := by decide +kernel
theorem dX12_goesOn_139 : decode cX12_goesOn 139 = .ok (.bipush 32, 2) := by decide +kernel
theorem dX12_goesOn_141 : decode cX12_goesOn 141 = .ok (.goto 33, 3) := by decide +kernel
theorem dX12_goesOn_144 : decode cX12_goesOn 144 = .ok (.aload_n 0, 1) := by decide +kernel
theorem dX12_goesOn_145 : decode cX12_goesOn 145 = .ok (.bipush 42, 2) := by decide +kernel
theorem dX12_goesOn_147 : decode cX12_goesOn 147 = .ok (.invokevirtual 301, 3) := by decide +kernel
theorem dX12_goesOn_150 : decode cX12_goesOn 150 = .ok (.ifCond .eq 8, 3) := by decide +kernel
theorem dX12_goesOn_153 : decode cX12_goesOn 153 = .ok (.bipush 33, 2) := by decide +kernel
theorem dX12_goesOn_155 : decode cX12_goesOn 155 = .ok (.goto 19, 3) := by decide +kernel
theorem dX12_goesOn_158 : decode cX12_goesOn 158 = .ok (.aload_n 0, 1) := by decide +kernel
theorem dX12_goesOn_159 : decode cX12_goesOn 159 = .ok (.bipush 47, 2) := by decide +kernel
theorem dX12_goesOn_161 : decode cX12_goesOn 161 = .ok (.invokevirtual 301, 3) := by decide +kernel
theorem dX12_goesOn_164 : decode cX12_goesOn 164 = .ok (.ifCond .eq 8, 3) := by decide +kernel
theorem dX12_goesOn_167 : decode cX12_goesOn 167 = .ok (.bipush 34, 2) := by decide +kernel
theorem dX12_goesOn_169 : decode cX12_goesOn 169 = .ok (.goto 5, 3) := by decide +kernel
theorem dX12_goesOn_172 : decode cX12_goesOn 172 = .ok (.bipush 35, 2) := by decide +kernel
theorem dX12_goesOn_174 : decode cX12_goesOn 174 = .ok (.invokevirtual 399, 3) := by decide +kernel
theorem dX12_goesOn_177 : decode cX12_goesOn 177 = .ok (.aload_n 0, 1) := by decide +kernel
theorem dX12_goesOn_178 : decode cX12_goesOn 178 = .ok (.invokevirtual 304, 3) := by decide +kernel
theorem dX12_goesOn_181 : decode cX12_goesOn 181 = .ok (.aload_n 0, 1) := by decide +kernel
theorem dX12_goesOn_182 : decode cX12_goesOn 182 = .ok (.iconst 0, 1) := by decide +kernel
theorem dX12_goesOn_183 : decode cX12_goesOn 183 = .ok (.putfield 168, 3) := by decide +kernel
theorem dX12_goesOn_186 : decode cX12_goesOn 186 = .ok (.iconst 1, 1) := by decide +kernel
theorem dX12_goesOn_187 : decode cX12_goesOn 187 = .ok (.ireturn, 1) := by decide +kernel
theorem dX12_goesOn_188 : decode cX12_goesOn 188 = .ok (.iload_n 3, 1) := by decide +kernel
theorem dX12_goesOn_189 : decode cX12_goesOn 189 = .ok (.ifCond .eq 96, 3) := by decide +kernel
theorem dX12_goesOn_192 : decode cX12_goesOn 192 = .ok (.aload_n 0, 1) := by decide +kernel
theorem dX12_goesOn_193 : decode cX12_goesOn 193 = .ok (.getfield 143, 3) := by decide +kernel
theorem dX12_goesOn_196 : decode cX12_goesOn 196 = .ok (.iload_n 1, 1) := by decide +kernel
theorem dX12_goesOn_197 : decode cX12_goesOn 197 = .ok (.iaload, 1) := by decide +kernel
theorem dX12_goesOn_198 : decode cX12_goesOn 198 = .ok (.ifCond .ne 87, 3) := by decide +kernel
theorem dX12_goesOn_201 : decode cX12_goesOn 201 = .ok (.aload_n 0, 1) := by decide +kernel
theorem dX12_goesOn_202 : decode cX12_goesOn 202 = .ok (.bipush 60, 2) := by decide +kernel
theorem dX12_goesOn_204 : decode cX12_goesOn 204 = .ok (.invokevirtual 301, 3) := by decide +kernel
theorem dX12_goesOn_207 : decode cX12_goesOn 207 = .ok (.ifCond .ne 21, 3) := by decide +kernel
theorem dX12_goesOn_210 : decode cX12_goesOn 210 = .ok (.aload_n 0, 1) := by decide +kernel
theorem dX12_goesOn_211 : decode cX12_goesOn 211 = .ok (.bipush 62, 2) := by decide +kernel
theorem dX12_goesOn_213 : decode cX12_goesOn 213 = .ok (.invokevirtual 301, 3) := by decide +kernel
theorem dX12_goesOn_216 : decode cX12_goesOn 216 = .ok (.ifCond .ne 12, 3) := by decide +kernel
theorem dX12_goesOn_219 : decode cX12_goesOn 219 = .ok (.aload_n 0, 1) := by decide +kernel
theorem dX12_goesOn_220 : decode cX12_goesOn 220 = .ok (.bipush 61, 2) := by decide +kernel
theorem dX12_goesOn_222 : decode cX12_goesOn 222 = .ok (.invokevirtual 301, 3) := by decide +kernel
theorem dX12_goesOn_225 : decode cX12_goesOn 225 = .ok (.ifCond .eq 60, 3) := by decide +kernel
theorem dX12_goesOn_228 : decode cX12_goesOn 228 = .ok (.aload_n 0, 1) := by decide +kernel
theorem dX12_goesOn_229 : decode cX12_goesOn 229 = .ok (.iconst 5, 1) := by decide +kernel
theorem dX12_goesOn_230 : decode cX12_goesOn 230 = .ok (.invokevirtual 405, 3) := by decide +kernel
theorem dX12_goesOn_233 : decode cX12_goesOn 233 = .ok (.aload_n 0, 1) := by decide +kernel
theorem dX12_goesOn_234 : decode cX12_goesOn 234 = .ok (.aload_n 0, 1) := by decide +kernel
theorem dX12_goesOn_235 : decode cX12_goesOn 235 = .ok (.bipush 60, 2) := by decide +kernel
theorem dX12_goesOn_237 : decode cX12_goesOn 237 = .ok (.invokevirtual 301, 3) := by decide +kernel
theorem dX12_goesOn_240 : decode cX12_goesOn 240 = .ok (.ifCond .eq 8, 3) := by decide +kernel
theorem dX12_goesOn_243 : decode cX12_goesOn 243 = .ok (.bipush 38, 2) := by decide +kernel
theorem dX12_goesOn_245 : decode cX12_goesOn 245 = .ok (.goto 19, 3) := by decide +kernel
theorem dX12_goesOn_248 : decode cX12_goesOn 248 = .ok (.aload_n 0, 1) := by decide +kernel
theorem dX12_goesOn_249 : decode cX12_goesOn 249 = .ok (.bipush 62, 2) := by decide +kernel
theorem dX12_goesOn_251 : decode cX12_goesOn 251 = .ok (.invokevirtual 301, 3) := by decide +kernel
theorem dX12_goesOn_254 : decode cX12_goesOn 254 = .ok (.ifCond .eq 8, 3) := by decide +kernel
theorem dX12_goesOn_257 : decode cX12_goesOn 257 = .ok (.bipush 39, 2) := by decide +kernel
theorem dX12_goesOn_259 : decode cX12_goesOn 259 = .ok (.goto 5, 3) := by decide +kernel
theorem dX12_goesOn_262 : decode cX12_goesOn 262 = .ok (.bipush 40, 2) := by decide +kernel
theorem dX12_goesOn_264 : decode cX12_goesOn 264 = .ok (.invokevirtual 399, 3) := by decide +kernel
theorem dX12_goesOn_267 : decode cX12_goesOn 267 = .ok (.aload_n 0, 1) := by decide +kernel
theorem dX12_goesOn_268 : decode cX12_goesOn 268 = .ok (.getfield 143, 3) := by decide +kernel
theorem dX12_goesOn_271 : decode cX12_goesOn 271 = .ok (.iload_n 1, 1) := by decide +kernel
theorem dX12_goesOn_272 : decode cX12_goesOn 272 = .ok (.iconst 1, 1) := by decide +kernel
theorem dX12_goesOn_273 : decode cX12_goesOn 273 = .ok (.iastore, 1) := by decide +kernel
theorem dX12_goesOn_274 : decode cX12_goesOn 274 = .ok (.aload_n 0, 1) := by decide +kernel
theorem dX12_goesOn_275 : decode cX12_goesOn 275 = .ok (.invokevirtual 304, 3) := by decide +kernel
theorem dX12_goesOn_278 : decode cX12_goesOn 278 = .ok (.aload_n 0, 1) := by decide +kernel
theorem dX12_goesOn_279 : decode cX12_goesOn 279 = .ok (.iconst 0, 1) := by decide +kernel
theorem dX12_goesOn_280 : decode cX12_goesOn 280 = .ok (.putfield 168, 3) := by decide +kernel
theorem dX12_goesOn_283 : decode cX12_goesOn 283 = .ok (.iconst 1, 1) := by decide +kernel
theorem dX12_goesOn_284 : decode cX12_goesOn 284 = .ok (.ireturn, 1) := by decide +kernel
theorem dX12_goesOn_285 : decode cX12_goesOn 285 = .ok (.iload_n 3, 1) := by decide +kernel
theorem dX12_goesOn_286 : decode cX12_goesOn 286 = .ok (.ifCond .eq 114, 3) := by decide +kernel
theorem dX12_goesOn_289 : decode cX12_goesOn 289 = .ok (.aload_n 0, 1) := by decide +kernel
theorem dX12_goesOn_290 : decode cX12_goesOn 290 = .ok (.ldc2_w 361, 3) := by decide +kernel
theorem dX12_goesOn_293 : decode cX12_goesOn 293 = .ok (.invokevirtual 395, 3) := by decide +kernel
theorem dX12_goesOn_296 : decode cX12_goesOn 296 = .ok (.ifCond .ne 13, 3) := by decide +kernel
theorem dX12_goesOn_299 : decode cX12_goesOn 299 = .ok (.aload_n 0, 1) := by decide +kernel
theorem dX12_goesOn_300 : decode cX12_goesOn 300 = .ok (.ldc2_w 359, 3) := by decide +kernel
theorem dX12_goesOn_303 : decode cX12_goesOn 303 = .ok (.invokevirtual 395, 3) := by decide +kernel
theorem dX12_goesOn_306 : decode cX12_goesOn 306 = .ok (.ifCond .eq 94, 3) := by decide +kernel
theorem dX12_goesOn_309 : decode cX12_goesOn 309 = .ok (.aload_n 0, 1) := by decide +kernel
theorem dX12_goesOn_310 : decode cX12_goesOn 310 = .ok (.getfield 143, 3) := by decide +kernel
theorem dX12_goesOn_313 : decode cX12_goesOn 313 = .ok (.iload_n 1, 1) := by decide +kernel
theorem dX12_goesOn_314 : decode cX12_goesOn 314 = .ok (.iaload, 1) := by decide +kernel
theorem dX12_goesOn_315 : decode cX12_goesOn 315 = .ok (.ifCond .ne 12, 3) := by decide +kernel
theorem dX12_goesOn_318 : decode cX12_goesOn 318 = .ok (.aload_n 0, 1) := by decide +kernel
theorem dX12_goesOn_319 : decode cX12_goesOn 319 = .ok (.iconst 1, 1) := by decide +kernel
theorem dX12_goesOn_320 : decode cX12_goesOn 320 = .ok (.aload_n 0, 1) := by decide +kernel
theorem dX12_goesOn_321 : decode cX12_goesOn 321 = .ok (.getfield 23, 3) := by decide +kernel
theorem dX12_goesOn_324 : decode cX12_goesOn 324 = .ok (.invokevirtual 287, 3) := by decide +kernel
theorem dX12_goesOn_327 : decode cX12_goesOn 327 = .ok (.aload_n 0, 1) := by decide +kernel
theorem dX12_goesOn_328 : decode cX12_goesOn 328 = .ok (.getfield 36, 3) := by decide +kernel
theorem dX12_goesOn_331 : decode cX12_goesOn 331 = .ok (.ifCond .le 5, 3) := by decide +kernel
theorem dX12_goesOn_334 : decode cX12_goesOn 334 = .ok (.iconst 0, 1) := by decide +kernel
theorem dX12_goesOn_335 : decode cX12_goesOn 335 = .ok (.ireturn, 1) := by decide +kernel
theorem dX12_goesOn_336 : decode cX12_goesOn 336 = .ok (.aload_n 0, 1) := by decide +kernel
theorem dX12_goesOn_337 : decode cX12_goesOn 337 = .ok (.ldc2_w 361, 3) := by decide +kernel
theorem dX12_goesOn_340 : decode cX12_goesOn 340 = .ok (.invokevirtual 395, 3) := by decide +kernel
theorem dX12_goesOn_343 : decode cX12_goesOn 343 = .ok (.istore 4, 2) := by decide +kernel
theorem dX12_goesOn_345 : decode cX12_goesOn 345 = .ok (.aload_n 0, 1) := by decide +kernel
theorem dX12_goesOn_346 : decode cX12_goesOn 346 = .ok (.iload 4, 2) := by decide +kernel
theorem dX12_goesOn_348 : decode cX12_goesOn 348 = .ok (.ifCond .eq 7, 3) := by decide +kernel
theorem dX12_goesOn_351 : decode cX12_goesOn 351 = .ok (.iconst 2, 1) := by decide +kernel
theorem dX12_goesOn_352 : decode cX12_goesOn 352 = .ok (.goto 4, 3) := by decide +kernel
theorem dX12_goesOn_355 : decode cX12_goesOn 355 = .ok (.iconst 1, 1) := by decide +kernel
theorem dX12_goesOn_356 : decode cX12_goesOn 356 = .ok (.invokevirtual 405, 3) := by decide +kernel
theorem dX12_goesOn_359 : decode cX12_goesOn 359 = .ok (.aload_n 0, 1) := by decide +kernel
theorem dX12_goesOn_360 : decode cX12_goesOn 360 = .ok (.iload 4, 2) := by decide +kernel
theorem dX12_goesOn_362 : decode cX12_goesOn 362 = .ok (.ifCond .eq 8, 3) := by decide +kernel
theorem dX12_goesOn_365 : decode cX12_goesOn 365 = .ok (.bipush 41, 2) := by decide +kernel
theorem dX12_goesOn_367 : decode cX12_goesOn 367 = .ok (.goto 5, 3) := by decide +kernel
theorem dX12_goesOn_370 : decode cX12_goesOn 370 = .ok (.bipush 42, 2) := by decide +kernel
theorem dX12_goesOn_372 : decode cX12_goesOn 372 = .ok (.invokevirtual 399, 3) := by decide +kernel
theorem dX12_goesOn_375 : decode cX12_goesOn 375 = .ok (.aload_n 0, 1) := by decide +kernel
theorem dX12_goesOn_376 : decode cX12_goesOn 376 = .ok (.getfield 143, 3) := by decide +kernel
theorem dX12_goesOn_379 : decode cX12_goesOn 379 = .ok (.iload_n 1, 1) := by decide +kernel
theorem dX12_goesOn_380 : decode cX12_goesOn 380 = .ok (.iconst 0, 1) := by decide +kernel
theorem dX12_goesOn_381 : decode cX12_goesOn 381 = .ok (.iastore, 1) := by decide +kernel
theorem dX12_goesOn_382 : decode cX12_goesOn 382 = .ok (.aload_n 0, 1) := by decide +kernel
theorem dX12_goesOn_383 : decode cX12_goesOn 383 = .ok (.getfield 146, 3) := by decide +kernel
theorem dX12_goesOn_386 : decode cX12_goesOn 386 = .ok (.iload_n 1, 1) := by decide +kernel
theorem dX12_goesOn_387 : decode cX12_goesOn 387 = .ok (.iconst 1, 1) := by decide +kernel
theorem dX12_goesOn_388 : decode cX12_goesOn 388 = .ok (.bastore, 1) := by decide +kernel
theorem dX12_goesOn_389 : decode cX12_goesOn 389 = .ok (.aload_n 0, 1) := by decide +kernel
theorem dX12_goesOn_390 : decode cX12_goesOn 390 = .ok (.invokevirtual 304, 3) := by decide +kernel
theorem dX12_goesOn_393 : decode cX12_goesOn 393 = .ok (.aload_n 0, 1) := by decide +kernel
theorem dX12_goesOn_394 : decode cX12_goesOn 394 = .ok (.iconst 0, 1) := by decide +kernel
theorem dX12_goesOn_395 : decode cX12_goesOn 395 = .ok (.putfield 168, 3) := by decide +kernel
theorem dX12_goesOn_398 : decode cX12_goesOn 398 = .ok (.iconst 1, 1) := by decide +kernel
theorem dX12_goesOn_399 : decode cX12_goesOn 399 = .ok (.ireturn, 1) := by decide +kernel
theorem dX12_goesOn_400 : decode cX12_goesOn 400 = .ok (.iload_n 3, 1) := by decide +kernel
theorem dX12_goesOn_401 : decode cX12_goesOn 401 = .ok (.ifCond .eq 21, 3) := by decide +kernel
theorem dX12_goesOn_404 : decode cX12_goesOn 404 = .ok (.aload_n 0, 1) := by decide +kernel
theorem dX12_goesOn_405 : decode cX12_goesOn 405 = .ok (.getfield 143, 3) := by decide +kernel
theorem dX12_goesOn_408 : decode cX12_goesOn 408 = .ok (.iload_n 1, 1) := by decide +kernel
theorem dX12_goesOn_409 : decode cX12_goesOn 409 = .ok (.iaload, 1) := by decide +kernel
theorem dX12_goesOn_410 : decode cX12_goesOn 410 = .ok (.ifCond .ne 12, 3) := by decide +kernel
theorem dX12_goesOn_413 : decode cX12_goesOn 413 = .ok (.aload_n 0, 1) := by decide +kernel
theorem dX12_goesOn_414 : decode cX12_goesOn 414 = .ok (.iconst 1, 1) := by decide +kernel
theorem dX12_goesOn_415 : decode cX12_goesOn 415 = .ok (.aload_n 0, 1) := by decide +kernel
theorem dX12_goesOn_416 : decode cX12_goesOn 416 = .ok (.getfield 23, 3) := by decide +kernel
theorem dX12_goesOn_419 : decode cX12_goesOn 419 = .ok (.invokevirtual 287, 3) := by decide +kernel
theorem dX12_goesOn_422 : decode cX12_goesOn 422 = .ok (.iload_n 2, 1) := by decide +kernel
theorem dX12_goesOn_423 : decode cX12_goesOn 423 = .ok (.iconst 2, 1) := by decide +kernel
theorem dX12_goesOn_424 : decode cX12_goesOn 424 = .ok (.if_icmp .ge 17, 3) := by decide +kernel
theorem dX12_goesOn_427 : decode cX12_goesOn 427 = .ok (.aload_n 0, 1) := by decide +kernel
theorem dX12_goesOn_428 : decode cX12_goesOn 428 = .ok (.getfield 36, 3) := by decide +kernel
theorem dX12_goesOn_431 : decode cX12_goesOn 431 = .ok (.ifCond .ne 8, 3) := by decide +kernel
theorem dX12_goesOn_434 : decode cX12_goesOn 434 = .ok (.aload_n 0, 1) := by decide +kernel
theorem dX12_goesOn_435 : decode cX12_goesOn 435 = .ok (.iconst 1, 1) := by decide +kernel
theorem dX12_goesOn_436 : decode cX12_goesOn 436 = .ok (.invokevirtual 405, 3) := by decide +kernel
theorem dX12_goesOn_439 : decode cX12_goesOn 439 = .ok (.iconst 0, 1) := by decide +kernel
theorem dX12_goesOn_440 : decode cX12_goesOn 440 = .ok (.ireturn, 1) := by decide +kernel
theorem dX12_goesOn_441 : decode cX12_goesOn 441 = .ok (.iload_n 2, 1) := by decide +kernel
theorem dX12_goesOn_442 : decode cX12_goesOn 442 = .ok (.iconst 3, 1) := by decide +kernel
theorem dX12_goesOn_443 : decode cX12_goesOn 443 = .ok (.if_icmp .eq 9, 3) := by decide +kernel
theorem dX12_goesOn_446 : decode cX12_goesOn 446 = .ok (.iload_n 2, 1) := by decide +kernel
theorem dX12_goesOn_447 : decode cX12_goesOn 447 = .ok (.bipush 6, 2) := by decide +kernel
theorem dX12_goesOn_449 : decode cX12_goesOn 449 = .ok (.if_icmp .ne 69, 3) := by decide +kernel
theorem dX12_goesOn_452 : decode cX12_goesOn 452 = .ok (.aload_n 0, 1) := by decide +kernel
theorem dX12_goesOn_453 : decode cX12_goesOn 453 = .ok (.bipush 44, 2) := by decide +kernel
theorem dX12_goesOn_455 : decode cX12_goesOn 455 = .ok (.invokevirtual 301, 3) := by decide +kernel
theorem dX12_goesOn_458 : decode cX12_goesOn 458 = .ok (.ifCond .ne 12, 3) := by decide +kernel
theorem dX12_goesOn_461 : decode cX12_goesOn 461 = .ok (.aload_n 0, 1) := by decide +kernel
theorem dX12_goesOn_462 : decode cX12_goesOn 462 = .ok (.iconst 1, 1) := by decide +kernel
theorem dX12_goesOn_463 : decode cX12_goesOn 463 = .ok (.aload_n 0, 1) := by decide +kernel
theorem dX12_goesOn_464 : decode cX12_goesOn 464 = .ok (.getfield 23, 3) := by decide +kernel
theorem dX12_goesOn_467 : decode cX12_goesOn 467 = .ok (.invokevirtual 287, 3) := by decide +kernel
theorem dX12_goesOn_470 : decode cX12_goesOn 470 = .ok (.aload_n 0, 1) := by decide +kernel
theorem dX12_goesOn_471 : decode cX12_goesOn 471 = .ok (.getfield 36, 3) := by decide +kernel
theorem dX12_goesOn_474 : decode cX12_goesOn 474 = .ok (.ifCond .le 5, 3) := by decide +kernel
theorem dX12_goesOn_477 : decode cX12_goesOn 477 = .ok (.iconst 0, 1) := by decide +kernel
theorem dX12_goesOn_478 : decode cX12_goesOn 478 = .ok (.ireturn, 1) := by decide +kernel
theorem dX12_goesOn_479 : decode cX12_goesOn 479 = .ok (.aload_n 0, 1) := by decide +kernel
theorem dX12_goesOn_480 : decode cX12_goesOn 480 = .ok (.iconst 1, 1) := by decide +kernel
theorem dX12_goesOn_481 : decode cX12_goesOn 481 = .ok (.invokevirtual 405, 3) := by decide +kernel
theorem dX12_goesOn_484 : decode cX12_goesOn 484 = .ok (.aload_n 0, 1) := by decide +kernel
theorem dX12_goesOn_485 : decode cX12_goesOn 485 = .ok (.getfield 140, 3) := by decide +kernel
theorem dX12_goesOn_488 : decode cX12_goesOn 488 = .ok (.iload_n 1, 1) := by decide +kernel
theorem dX12_goesOn_489 : decode cX12_goesOn 489 = .ok (.iload_n 2, 1) := by decide +kernel
theorem dX12_goesOn_490 : decode cX12_goesOn 490 = .ok (.iconst 3, 1) := by decide +kernel
theorem dX12_goesOn_491 : decode cX12_goesOn 491 = .ok (.if_icmp .ne 7, 3) := by decide +kernel
theorem dX12_goesOn_494 : decode cX12_goesOn 494 = .ok (.iconst 4, 1) := by decide +kernel
theorem dX12_goesOn_495 : decode cX12_goesOn 495 = .ok (.goto 4, 3) := by decide +kernel
theorem dX12_goesOn_498 : decode cX12_goesOn 498 = .ok (.iconst 3, 1) := by decide +kernel
theorem dX12_goesOn_499 : decode cX12_goesOn 499 = .ok (.iastore, 1) := by decide +kernel
theorem dX12_goesOn_500 : decode cX12_goesOn 500 = .ok (.aload_n 0, 1) := by decide +kernel
theorem dX12_goesOn_501 : decode cX12_goesOn 501 = .ok (.getfield 143, 3) := by decide +kernel
theorem dX12_goesOn_504 : decode cX12_goesOn 504 = .ok (.iload_n 1, 1) := by decide +kernel
theorem dX12_goesOn_505 : decode cX12_goesOn 505 = .ok (.iconst 0, 1) := by decide +kernel
theorem dX12_goesOn_506 : decode cX12_goesOn 506 = .ok (.iastore, 1) := by decide +kernel
theorem dX12_goesOn_507 : decode cX12_goesOn 507 = .ok (.aload_n 0, 1) := by decide +kernel
theorem dX12_goesOn_508 : decode cX12_goesOn 508 = .ok (.invokevirtual 304, 3) := by decide +kernel
theorem dX12_goesOn_511 : decode cX12_goesOn 511 = .ok (.aload_n 0, 1) := by decide +kernel
theorem dX12_goesOn_512 : decode cX12_goesOn 512 = .ok (.iconst 0, 1) := by decide +kernel
theorem dX12_goesOn_513 : decode cX12_goesOn 513 = .ok (.putfield 168, 3) := by decide +kernel
theorem dX12_goesOn_516 : decode cX12_goesOn 516 = .ok (.iconst 1, 1) := by decide +kernel
theorem dX12_goesOn_517 : decode cX12_goesOn 517 = .ok (.ireturn, 1) := by decide +kernel
theorem dX12_goesOn_518 : decode cX12_goesOn 518 = .ok (.aload_n 0, 1) := by decide +kernel
theorem dX12_goesOn_519 : decode cX12_goesOn 519 = .ok (.iload_n 2, 1) := by decide +kernel
theorem dX12_goesOn_520 : decode cX12_goesOn 520 = .ok (.iconst 5, 1) := by decide +kernel
theorem dX12_goesOn_521 : decode cX12_goesOn 521 = .ok (.if_icmp .ne 8, 3) := by decide +kernel
theorem dX12_goesOn_524 : decode cX12_goesOn 524 = .ok (.bipush 93, 2) := by decide +kernel
theorem dX12_goesOn_526 : decode cX12_goesOn 526 = .ok (.goto 5, 3) := by decide +kernel
theorem dX12_goesOn_529 : decode cX12_goesOn 529 = .ok (.bipush 41, 2) := by decide +kernel
theorem dX12_goesOn_531 : decode cX12_goesOn 531 = .ok (.invokevirtual 301, 3) := by decide +kernel
theorem dX12_goesOn_534 : decode cX12_goesOn 534 = .ok (.ifCond .ne 12, 3) := by decide +kernel
theorem dX12_goesOn_537 : decode cX12_goesOn 537 = .ok (.aload_n 0, 1) := by decide +kernel
theorem dX12_goesOn_538 : decode cX12_goesOn 538 = .ok (.iconst 1, 1) := by decide +kernel
theorem dX12_goesOn_539 : decode cX12_goesOn 539 = .ok (.aload_n 0, 1) := by decide +kernel
theorem dX12_goesOn_540 : decode cX12_goesOn 540 = .ok (.getfield 23, 3) := by decide +kernel
theorem dX12_goesOn_543 : decode cX12_goesOn 543 = .ok (.invokevirtual 287, 3) := by decide +kernel
theorem dX12_goesOn_546 : decode cX12_goesOn 546 = .ok (.aload_n 0, 1) := by decide +kernel
theorem dX12_goesOn_547 : decode cX12_goesOn 547 = .ok (.getfield 36, 3) := by decide +kernel
theorem dX12_goesOn_550 : decode cX12_goesOn 550 = .ok (.ifCond .le 5, 3) := by decide +kernel
theorem dX12_goesOn_553 : decode cX12_goesOn 553 = .ok (.iconst 0, 1) := by decide +kernel
theorem dX12_goesOn_554 : decode cX12_goesOn 554 = .ok (.ireturn, 1) := by decide +kernel
theorem dX12_goesOn_555 : decode cX12_goesOn 555 = .ok (.aload_n 0, 1) := by decide +kernel
theorem dX12_goesOn_556 : decode cX12_goesOn 556 = .ok (.iconst 1, 1) := by decide +kernel
theorem dX12_goesOn_557 : decode cX12_goesOn 557 = .ok (.invokevirtual 405, 3) := by decide +kernel
theorem dX12_goesOn_560 : decode cX12_goesOn 560 = .ok (.aload_n 0, 1) := by decide +kernel
theorem dX12_goesOn_561 : decode cX12_goesOn 561 = .ok (.dup, 1) := by decide +kernel
theorem dX12_goesOn_562 : decode cX12_goesOn 562 = .ok (.getfield 156, 3) := by decide +kernel
theorem dX12_goesOn_565 : decode cX12_goesOn 565 = .ok (.iconst 1, 1) := by decide +kernel
theorem dX12_goesOn_566 : decode cX12_goesOn 566 = .ok (.isub, 1) := by decide +kernel
theorem dX12_goesOn_567 : decode cX12_goesOn 567 = .ok (.putfield 156, 3) := by decide +kernel
theorem dX12_goesOn_570 : decode cX12_goesOn 570 = .ok (.aload_n 0, 1) := by decide +kernel
theorem dX12_goesOn_571 : decode cX12_goesOn 571 = .ok (.dup, 1) := by decide +kernel
theorem dX12_goesOn_572 : decode cX12_goesOn 572 = .ok (.getfield 159, 3) := by decide +kernel
theorem dX12_goesOn_575 : decode cX12_goesOn 575 = .ok (.iconst 1, 1) := by decide +kernel
theorem dX12_goesOn_576 : decode cX12_goesOn 576 = .ok (.isub, 1) := by decide +kernel
theorem dX12_goesOn_577 : decode cX12_goesOn 577 = .ok (.putfield 159, 3) := by decide +kernel
theorem dX12_goesOn_580 : decode cX12_goesOn 580 = .ok (.iload_n 2, 1) := by decide +kernel
theorem dX12_goesOn_581 : decode cX12_goesOn 581 = .ok (.iconst 4, 1) := by decide +kernel
theorem dX12_goesOn_582 : decode cX12_goesOn 582 = .ok (.if_icmp .ne 14, 3) := by decide +kernel
theorem dX12_goesOn_585 : decode cX12_goesOn 585 = .ok (.aload_n 0, 1) := by decide +kernel
theorem dX12_goesOn_586 : decode cX12_goesOn 586 = .ok (.aload_n 0, 1) := by decide +kernel
theorem dX12_goesOn_587 : decode cX12_goesOn 587 = .ok (.getfield 150, 3) := by decide +kernel
theorem dX12_goesOn_590 : decode cX12_goesOn 590 = .ok (.iload_n 1, 1) := by decide +kernel
theorem dX12_goesOn_591 : decode cX12_goesOn 591 = .ok (.iaload, 1) := by decide +kernel
theorem dX12_goesOn_592 : decode cX12_goesOn 592 = .ok (.iconst 0, 1) := by decide +kernel
theorem dX12_goesOn_593 : decode cX12_goesOn 593 = .ok (.invokevirtual 386, 3) := by decide +kernel
theorem dX12_goesOn_596 : decode cX12_goesOn 596 = .ok (.iload_n 2, 1) := by decide +kernel
theorem dX12_goesOn_597 : decode cX12_goesOn 597 = .ok (.iconst 5, 1) := by decide +kernel
theorem dX12_goesOn_598 : decode cX12_goesOn 598 = .ok (.if_icmp .ne 15, 3) := by decide +kernel
theorem dX12_goesOn_601 : decode cX12_goesOn 601 = .ok (.aload_n 0, 1) := by decide +kernel
theorem dX12_goesOn_602 : decode cX12_goesOn 602 = .ok (.getfield 143, 3) := by decide +kernel
theorem dX12_goesOn_605 : decode cX12_goesOn 605 = .ok (.aload_n 0, 1) := by decide +kernel
theorem dX12_goesOn_606 : decode cX12_goesOn 606 = .ok (.getfield 156, 3) := by decide +kernel
theorem dX12_goesOn_609 : decode cX12_goesOn 609 = .ok (.iconst 1, 1) := by decide +kernel
theorem dX12_goesOn_610 : decode cX12_goesOn 610 = .ok (.isub, 1) := by decide +kernel
theorem dX12_goesOn_611 : decode cX12_goesOn 611 = .ok (.iconst 2, 1) := by decide +kernel
theorem dX12_goesOn_612 : decode cX12_goesOn 612 = .ok (.iastore, 1) := by decide +kernel
theorem dX12_goesOn_613 : decode cX12_goesOn 613 = .ok (.aload_n 0, 1) := by decide +kernel
theorem dX12_goesOn_614 : decode cX12_goesOn 614 = .ok (.invokevirtual 304, 3) := by decide +kernel
theorem dX12_goesOn_617 : decode cX12_goesOn 617 = .ok (.iconst 1, 1) := by decide +kernel
theorem dX12_goesOn_618 : decode cX12_goesOn 618 = .ok (.ireturn, 1) := by decide +kernel
theorem dX12_reads_0 : decode cX12_reads 0 = .ok (.aload_n 0, 1) := by decide +kernel
theorem dX12_reads_1 : decode cX12_reads 1 = .ok (.getfield 36, 3) := by decide +kernel
theorem dX12_reads_4 : decode cX12_reads 4 = .ok (.ifCond .le 4, 3) := by decide +kernel
theorem dX12_reads_7 : decode cX12_reads 7 = .ok (.return_, 1) := by decide +kernel
theorem dX12_reads_8 : decode cX12_reads 8 = .ok (.aload_n 0, 1) := by decide +kernel
theorem dX12_reads_9 : decode cX12_reads 9 = .ok (.iconst 0, 1) := by decide +kernel
theorem dX12_reads_10 : decode cX12_reads 10 = .ok (.putfield 156, 3) := by decide +kernel
theorem dX12_reads_13 : decode cX12_reads 13 = .ok (.aload_n 0, 1) := by decide +kernel
theorem dX12_reads_14 : decode cX12_reads 14 = .ok (.iconst 0, 1) := by decide +kernel
theorem dX12_reads_15 : decode cX12_reads 15 = .ok (.putfield 159, 3) := by decide +kernel
theorem dX12_reads_18 : decode cX12_reads 18 = .ok (.aload_n 0, 1) := by decide +kernel
theorem dX12_reads_19 : decode cX12_reads 19 = .ok (.iconst 0, 1) := by decide +kernel
theorem dX12_reads_20 : decode cX12_reads 20 = .ok (.putfield 165, 3) := by decide +kernel
theorem dX12_reads_23 : decode cX12_reads 23 = .ok (.aload_n 0, 1) := by decide +kernel
theorem dX12_reads_24 : decode cX12_reads 24 = .ok (.iconst 0, 1) := by decide +kernel
theorem dX12_reads_25 : decode cX12_reads 25 = .ok (.putfield 168, 3) := by decide +kernel
theorem dX12_reads_28 : decode cX12_reads 28 = .ok (.aload_n 0, 1) := by decide +kernel
theorem dX12_reads_29 : decode cX12_reads 29 = .ok (.iload_n 1, 1) := by decide +kernel
theorem dX12_reads_30 : decode cX12_reads 30 = .ok (.ifCond .eq 7, 3) := by decide +kernel
theorem dX12_reads_33 : decode cX12_reads 33 = .ok (.iconst 1, 1) := by decide +kernel
theorem dX12_reads_34 : decode cX12_reads 34 = .ok (.goto 4, 3) := by decide +kernel
theorem dX12_reads_37 : decode cX12_reads 37 = .ok (.iconst 0, 1) := by decide +kernel
theorem dX12_reads_38 : decode cX12_reads 38 = .ok (.invokevirtual 389, 3) := by decide +kernel
theorem dX12_reads_41 : decode cX12_reads 41 = .ok (.iconst 1, 1) := by decide +kernel
theorem dX12_reads_42 : decode cX12_reads 42 = .ok (.istore_n 2, 1) := by decide +kernel
theorem dX12_reads_43 : decode cX12_reads 43 = .ok (.iload_n 2, 1) := by decide +kernel
theorem dX12_reads_44 : decode cX12_reads 44 = .ok (.ifCond .eq 46, 3) := by decide +kernel
theorem dX12_reads_47 : decode cX12_reads 47 = .ok (.aload_n 0, 1) := by decide +kernel
theorem dX12_reads_48 : decode cX12_reads 48 = .ok (.getfield 168, 3) := by decide +kernel
theorem dX12_reads_51 : decode cX12_reads 51 = .ok (.ifCond .ne 14, 3) := by decide +kernel
theorem dX12_reads_54 : decode cX12_reads 54 = .ok (.aload_n 0, 1) := by decide +kernel
theorem dX12_reads_55 : decode cX12_reads 55 = .ok (.aload_n 0, 1) := by decide +kernel
theorem dX12_reads_56 : decode cX12_reads 56 = .ok (.invokevirtual 408, 3) := by decide +kernel
theorem dX12_reads_59 : decode cX12_reads 59 = .ok (.putfield 168, 3) := by decide +kernel
theorem dX12_reads_62 : decode cX12_reads 62 = .ok (.goto 8, 3) := by decide +kernel
theorem dX12_reads_65 : decode cX12_reads 65 = .ok (.aload_n 0, 1) := by decide +kernel
theorem dX12_reads_66 : decode cX12_reads 66 = .ok (.invokevirtual 411, 3) := by decide +kernel
theorem dX12_reads_69 : decode cX12_reads 69 = .ok (.istore_n 2, 1) := by decide +kernel
theorem dX12_reads_70 : decode cX12_reads 70 = .ok (.iload_n 2, 1) := by decide +kernel
theorem dX12_reads_71 : decode cX12_reads 71 = .ok (.ifCond .eq 14, 3) := by decide +kernel
theorem dX12_reads_74 : decode cX12_reads 74 = .ok (.aload_n 0, 1) := by decide +kernel
theorem dX12_reads_75 : decode cX12_reads 75 = .ok (.getfield 36, 3) := by decide +kernel
theorem dX12_reads_78 : decode cX12_reads 78 = .ok (.ifCond .ne 7, 3) := by decide +kernel
theorem dX12_reads_81 : decode cX12_reads 81 = .ok (.iconst 1, 1) := by decide +kernel
theorem dX12_reads_82 : decode cX12_reads 82 = .ok (.goto 4, 3) := by decide +kernel
theorem dX12_reads_85 : decode cX12_reads 85 = .ok (.iconst 0, 1) := by decide +kernel
theorem dX12_reads_86 : decode cX12_reads 86 = .ok (.istore_n 2, 1) := by decide +kernel
theorem dX12_reads_87 : decode cX12_reads 87 = .ok (.goto (-44), 3) := by decide +kernel
theorem dX12_reads_90 : decode cX12_reads 90 = .ok (.return_, 1) := by decide +kernel
theorem dX12_counts_0 : decode cX12_counts 0 = .ok (.aload_n 0, 1) := by decide +kernel
theorem dX12_counts_1 : decode cX12_counts 1 = .ok (.getfield 36, 3) := by decide +kernel
theorem dX12_counts_4 : decode cX12_counts 4 = .ok (.ifCond .ne 17, 3) := by decide +kernel
theorem dX12_counts_7 : decode cX12_counts 7 = .ok (.iload_n 1, 1) := by decide +kernel
theorem dX12_counts_8 : decode cX12_counts 8 = .ok (.ifCond .eq 13, 3) := by decide +kernel
theorem dX12_counts_11 : decode cX12_counts 11 = .ok (.aload_n 0, 1) := by decide +kernel
theorem dX12_counts_12 : decode cX12_counts 12 = .ok (.bipush 6, 2) := by decide +kernel
theorem dX12_counts_14 : decode cX12_counts 14 = .ok (.aload_n 0, 1) := by decide +kernel
theorem dX12_counts_15 : decode cX12_counts 15 = .ok (.getfield 23, 3) := by decide +kernel
theorem dX12_counts_18 : decode cX12_counts 18 = .ok (.invokevirtual 287, 3) := by decide +kernel
theorem dX12_counts_21 : decode cX12_counts 21 = .ok (.aload_n 0, 1) := by decide +kernel
theorem dX12_counts_22 : decode cX12_counts 22 = .ok (.getfield 36, 3) := by decide +kernel
theorem dX12_counts_25 : decode cX12_counts 25 = .ok (.ifCond .ne 7, 3) := by decide +kernel
theorem dX12_counts_28 : decode cX12_counts 28 = .ok (.aload_n 0, 1) := by decide +kernel
theorem dX12_counts_29 : decode cX12_counts 29 = .ok (.invokevirtual 304, 3) := by decide +kernel
theorem dX12_counts_32 : decode cX12_counts 32 = .ok (.aload_n 0, 1) := by decide +kernel
theorem dX12_counts_33 : decode cX12_counts 33 = .ok (.getfield 36, 3) := by decide +kernel
theorem dX12_counts_36 : decode cX12_counts 36 = .ok (.ifCond .ne 7, 3) := by decide +kernel
theorem dX12_counts_39 : decode cX12_counts 39 = .ok (.iconst 1, 1) := by decide +kernel
theorem dX12_counts_40 : decode cX12_counts 40 = .ok (.goto 4, 3) := by decide +kernel
theorem dX12_counts_43 : decode cX12_counts 43 = .ok (.iconst 0, 1) := by decide +kernel
theorem dX12_counts_44 : decode cX12_counts 44 = .ok (.ireturn, 1) := by decide +kernel
theorem dX12_must__0 : decode cX12_must_ 0 = .ok (.aload_n 0, 1) := by decide +kernel
theorem dX12_must__1 : decode cX12_must_ 1 = .ok (.invokevirtual 298, 3) := by decide +kernel
theorem dX12_must__4 : decode cX12_must_ 4 = .ok (.aload_n 0, 1) := by decide +kernel
theorem dX12_must__5 : decode cX12_must_ 5 = .ok (.getfield 36, 3) := by decide +kernel
theorem dX12_must__8 : decode cX12_must_ 8 = .ok (.ifCond .le 4, 3) := by decide +kernel
theorem dX12_must__11 : decode cX12_must_ 11 = .ok (.return_, 1) := by decide +kernel
theorem dX12_must__12 : decode cX12_must_ 12 = .ok (.aload_n 0, 1) := by decide +kernel
theorem dX12_must__13 : decode cX12_must_ 13 = .ok (.lload_n 1, 1) := by decide +kernel
theorem dX12_must__14 : decode cX12_must_ 14 = .ok (.invokevirtual 395, 3) := by decide +kernel
theorem dX12_must__17 : decode cX12_must_ 17 = .ok (.ifCond .ne 12, 3) := by decide +kernel
theorem dX12_must__20 : decode cX12_must_ 20 = .ok (.aload_n 0, 1) := by decide +kernel
theorem dX12_must__21 : decode cX12_must_ 21 = .ok (.iconst 1, 1) := by decide +kernel
theorem dX12_must__22 : decode cX12_must_ 22 = .ok (.aload_n 0, 1) := by decide +kernel
theorem dX12_must__23 : decode cX12_must_ 23 = .ok (.getfield 23, 3) := by decide +kernel
theorem dX12_must__26 : decode cX12_must_ 26 = .ok (.invokevirtual 287, 3) := by decide +kernel
theorem dX12_must__29 : decode cX12_must_ 29 = .ok (.aload_n 0, 1) := by decide +kernel
theorem dX12_must__30 : decode cX12_must_ 30 = .ok (.getfield 36, 3) := by decide +kernel
theorem dX12_must__33 : decode cX12_must_ 33 = .ok (.ifCond .ne 7, 3) := by decide +kernel
theorem dX12_must__36 : decode cX12_must_ 36 = .ok (.aload_n 0, 1) := by decide +kernel
theorem dX12_must__37 : decode cX12_must_ 37 = .ok (.invokevirtual 304, 3) := by decide +kernel
theorem dX12_must__40 : decode cX12_must_ 40 = .ok (.return_, 1) := by decide +kernel
theorem dX12_fresh_0 : decode cX12_fresh 0 = .ok (.aload_n 0, 1) := by decide +kernel
theorem dX12_fresh_1 : decode cX12_fresh 1 = .ok (.invokevirtual 298, 3) := by decide +kernel
theorem dX12_fresh_4 : decode cX12_fresh 4 = .ok (.aload_n 0, 1) := by decide +kernel
theorem dX12_fresh_5 : decode cX12_fresh 5 = .ok (.getfield 36, 3) := by decide +kernel
theorem dX12_fresh_8 : decode cX12_fresh 8 = .ok (.ifCond .le 5, 3) := by decide +kernel
theorem dX12_fresh_11 : decode cX12_fresh 11 = .ok (.lconst 0, 1) := by decide +kernel
theorem dX12_fresh_12 : decode cX12_fresh 12 = .ok (.lreturn, 1) := by decide +kernel
theorem dX12_fresh_13 : decode cX12_fresh 13 = .ok (.aload_n 0, 1) := by decide +kernel
theorem dX12_fresh_14 : decode cX12_fresh 14 = .ok (.getfield 20, 3) := by decide +kernel
theorem dX12_fresh_17 : decode cX12_fresh 17 = .ok (.iconst 1, 1) := by decide +kernel
theorem dX12_fresh_18 : decode cX12_fresh 18 = .ok (.if_icmp .ne 14, 3) := by decide +kernel
theorem dX12_fresh_21 : decode cX12_fresh 21 = .ok (.aload_n 0, 1) := by decide +kernel
theorem dX12_fresh_22 : decode cX12_fresh 22 = .ok (.aload_n 0, 1) := by decide +kernel
theorem dX12_fresh_23 : decode cX12_fresh 23 = .ok (.getfield 32, 3) := by decide +kernel
theorem dX12_fresh_26 : decode cX12_fresh 26 = .ok (.invokevirtual 414, 3) := by decide +kernel
theorem dX12_fresh_29 : decode cX12_fresh 29 = .ok (.ifCond .eq 12, 3) := by decide +kernel
theorem dX12_fresh_32 : decode cX12_fresh 32 = .ok (.aload_n 0, 1) := by decide +kernel
theorem dX12_fresh_33 : decode cX12_fresh 33 = .ok (.iconst 1, 1) := by decide +kernel
theorem dX12_fresh_34 : decode cX12_fresh 34 = .ok (.aload_n 0, 1) := by decide +kernel
theorem dX12_fresh_35 : decode cX12_fresh 35 = .ok (.getfield 23, 3) := by decide +kernel
theorem dX12_fresh_38 : decode cX12_fresh 38 = .ok (.invokevirtual 287, 3) := by decide +kernel
theorem dX12_fresh_41 : decode cX12_fresh 41 = .ok (.iconst 0, 1) := by decide +kernel
theorem dX12_fresh_42 : decode cX12_fresh 42 = .ok (.istore_n 1, 1) := by decide +kernel
theorem dX12_fresh_43 : decode cX12_fresh 43 = .ok (.iload_n 1, 1) := by decide +kernel
theorem dX12_fresh_44 : decode cX12_fresh 44 = .ok (.iconst 3, 1) := by decide +kernel
theorem dX12_fresh_45 : decode cX12_fresh 45 = .ok (.if_icmp .gt 38, 3) := by decide +kernel
theorem dX12_fresh_48 : decode cX12_fresh 48 = .ok (.aload_n 0, 1) := by decide +kernel
theorem dX12_fresh_49 : decode cX12_fresh 49 = .ok (.getfield 36, 3) := by decide +kernel
theorem dX12_fresh_52 : decode cX12_fresh 52 = .ok (.ifCond .ne 31, 3) := by decide +kernel
theorem dX12_fresh_55 : decode cX12_fresh 55 = .ok (.aload_n 0, 1) := by decide +kernel
theorem dX12_fresh_56 : decode cX12_fresh 56 = .ok (.iload_n 1, 1) := by decide +kernel
theorem dX12_fresh_57 : decode cX12_fresh 57 = .ok (.aload_n 0, 1) := by decide +kernel
theorem dX12_fresh_58 : decode cX12_fresh 58 = .ok (.getfield 32, 3) := by decide +kernel
theorem dX12_fresh_61 : decode cX12_fresh 61 = .ok (.invokevirtual 417, 3) := by decide +kernel
theorem dX12_fresh_64 : decode cX12_fresh 64 = .ok (.iconst (-1), 1) := by decide +kernel
theorem dX12_fresh_65 : decode cX12_fresh 65 = .ok (.if_icmp .eq 12, 3) := by decide +kernel
theorem dX12_fresh_68 : decode cX12_fresh 68 = .ok (.aload_n 0, 1) := by decide +kernel
theorem dX12_fresh_69 : decode cX12_fresh 69 = .ok (.iconst 2, 1) := by decide +kernel
theorem dX12_fresh_70 : decode cX12_fresh 70 = .ok (.aload_n 0, 1) := by decide +kernel
theorem dX12_fresh_71 : decode cX12_fresh 71 = .ok (.getfield 23, 3) := by decide +kernel
theorem dX12_fresh_74 : decode cX12_fresh 74 = .ok (.invokevirtual 287, 3) := by decide +kernel
theorem dX12_fresh_77 : decode cX12_fresh 77 = .ok (.iinc 1 1, 3) := by decide +kernel
theorem dX12_fresh_80 : decode cX12_fresh 80 = .ok (.goto (-37), 3) := by decide +kernel
theorem dX12_fresh_83 : decode cX12_fresh 83 = .ok (.aload_n 0, 1) := by decide +kernel
theorem dX12_fresh_84 : decode cX12_fresh 84 = .ok (.getfield 32, 3) := by decide +kernel
theorem dX12_fresh_87 : decode cX12_fresh 87 = .ok (.lstore_n 1, 1) := by decide +kernel
theorem dX12_fresh_88 : decode cX12_fresh 88 = .ok (.aload_n 0, 1) := by decide +kernel
theorem dX12_fresh_89 : decode cX12_fresh 89 = .ok (.getfield 36, 3) := by decide +kernel
theorem dX12_fresh_92 : decode cX12_fresh 92 = .ok (.ifCond .ne 7, 3) := by decide +kernel
theorem dX12_fresh_95 : decode cX12_fresh 95 = .ok (.aload_n 0, 1) := by decide +kernel
theorem dX12_fresh_96 : decode cX12_fresh 96 = .ok (.invokevirtual 304, 3) := by decide +kernel
theorem dX12_fresh_99 : decode cX12_fresh 99 = .ok (.lload_n 1, 1) := by decide +kernel
theorem dX12_fresh_100 : decode cX12_fresh 100 = .ok (.lreturn, 1) := by decide +kernel
theorem dX12_askedBut_0 : decode cX12_askedBut 0 = .ok (.aload_n 0, 1) := by decide +kernel
theorem dX12_askedBut_1 : decode cX12_askedBut 1 = .ok (.invokevirtual 298, 3) := by decide +kernel
theorem dX12_askedBut_4 : decode cX12_askedBut 4 = .ok (.aload_n 0, 1) := by decide +kernel
theorem dX12_askedBut_5 : decode cX12_askedBut 5 = .ok (.getfield 36, 3) := by decide +kernel
theorem dX12_askedBut_8 : decode cX12_askedBut 8 = .ok (.ifCond .le 5, 3) := by decide +kernel
theorem dX12_askedBut_11 : decode cX12_askedBut 11 = .ok (.iconst 0, 1) := by decide +kernel
theorem dX12_askedBut_12 : decode cX12_askedBut 12 = .ok (.ireturn, 1) := by decide +kernel
theorem dX12_askedBut_13 : decode cX12_askedBut 13 = .ok (.aload_n 0, 1) := by decide +kernel
theorem dX12_askedBut_14 : decode cX12_askedBut 14 = .ok (.getfield 20, 3) := by decide +kernel
theorem dX12_askedBut_17 : decode cX12_askedBut 17 = .ok (.iconst 1, 1) := by decide +kernel
theorem dX12_askedBut_18 : decode cX12_askedBut 18 = .ok (.if_icmp .ne 14, 3) := by decide +kernel
theorem dX12_askedBut_21 : decode cX12_askedBut 21 = .ok (.aload_n 0, 1) := by decide +kernel
theorem dX12_askedBut_22 : decode cX12_askedBut 22 = .ok (.aload_n 0, 1) := by decide +kernel
theorem dX12_askedBut_23 : decode cX12_askedBut 23 = .ok (.getfield 32, 3) := by decide +kernel
theorem dX12_askedBut_26 : decode cX12_askedBut 26 = .ok (.invokevirtual 414, 3) := by decide +kernel
theorem dX12_askedBut_29 : decode cX12_askedBut 29 = .ok (.ifCond .eq 12, 3) := by decide +kernel
theorem dX12_askedBut_32 : decode cX12_askedBut 32 = .ok (.aload_n 0, 1) := by decide +kernel
theorem dX12_askedBut_33 : decode cX12_askedBut 33 = .ok (.iconst 1, 1) := by decide +kernel
theorem dX12_askedBut_34 : decode cX12_askedBut 34 = .ok (.aload_n 0, 1) := by decide +kernel
theorem dX12_askedBut_35 : decode cX12_askedBut 35 = .ok (.getfield 23, 3) := by decide +kernel
theorem dX12_askedBut_38 : decode cX12_askedBut 38 = .ok (.invokevirtual 287, 3) := by decide +kernel
theorem dX12_askedBut_41 : decode cX12_askedBut 41 = .ok (.aload_n 0, 1) := by decide +kernel
theorem dX12_askedBut_42 : decode cX12_askedBut 42 = .ok (.getfield 36, 3) := by decide +kernel
theorem dX12_askedBut_45 : decode cX12_askedBut 45 = .ok (.ifCond .le 7, 3) := by decide +kernel
theorem dX12_askedBut_48 : decode cX12_askedBut 48 = .ok (.iconst 0, 1) := by decide +kernel
theorem dX12_askedBut_49 : decode cX12_askedBut 49 = .ok (.goto 12, 3) := by decide +kernel
theorem dX12_askedBut_52 : decode cX12_askedBut 52 = .ok (.aload_n 0, 1) := by decide +kernel
theorem dX12_askedBut_53 : decode cX12_askedBut 53 = .ok (.iload_n 1, 1) := by decide +kernel
theorem dX12_askedBut_54 : decode cX12_askedBut 54 = .ok (.aload_n 0, 1) := by decide +kernel
theorem dX12_askedBut_55 : decode cX12_askedBut 55 = .ok (.getfield 32, 3) := by decide +kernel
theorem dX12_askedBut_58 : decode cX12_askedBut 58 = .ok (.invokevirtual 417, 3) := by decide +kernel
theorem dX12_askedBut_61 : decode cX12_askedBut 61 = .ok (.istore_n 3, 1) := by decide +kernel
theorem dX12_askedBut_62 : decode cX12_askedBut 62 = .ok (.aload_n 0, 1) := by decide +kernel
theorem dX12_askedBut_63 : decode cX12_askedBut 63 = .ok (.getfield 36, 3) := by decide +kernel
theorem dX12_askedBut_66 : decode cX12_askedBut 66 = .ok (.ifCond .ne 25, 3) := by decide +kernel
theorem dX12_askedBut_69 : decode cX12_askedBut 69 = .ok (.iload_n 3, 1) := by decide +kernel
theorem dX12_askedBut_70 : decode cX12_askedBut 70 = .ok (.iconst (-1), 1) := by decide +kernel
theorem dX12_askedBut_71 : decode cX12_askedBut 71 = .ok (.if_icmp .eq 11, 3) := by decide +kernel
theorem dX12_askedBut_74 : decode cX12_askedBut 74 = .ok (.iload_n 2, 1) := by decide +kernel
theorem dX12_askedBut_75 : decode cX12_askedBut 75 = .ok (.iload_n 3, 1) := by decide +kernel
theorem dX12_askedBut_76 : decode cX12_askedBut 76 = .ok (.invokestatic 421, 3) := by decide +kernel
theorem dX12_askedBut_79 : decode cX12_askedBut 79 = .ok (.ifCond .eq 12, 3) := by decide +kernel
theorem dX12_askedBut_82 : decode cX12_askedBut 82 = .ok (.aload_n 0, 1) := by decide +kernel
theorem dX12_askedBut_83 : decode cX12_askedBut 83 = .ok (.iconst 3, 1) := by decide +kernel
theorem dX12_askedBut_84 : decode cX12_askedBut 84 = .ok (.aload_n 0, 1) := by decide +kernel
theorem dX12_askedBut_85 : decode cX12_askedBut 85 = .ok (.getfield 23, 3) := by decide +kernel
theorem dX12_askedBut_88 : decode cX12_askedBut 88 = .ok (.invokevirtual 287, 3) := by decide +kernel
theorem dX12_askedBut_91 : decode cX12_askedBut 91 = .ok (.aload_n 0, 1) := by decide +kernel
theorem dX12_askedBut_92 : decode cX12_askedBut 92 = .ok (.getfield 36, 3) := by decide +kernel
theorem dX12_askedBut_95 : decode cX12_askedBut 95 = .ok (.ifCond .ne 7, 3) := by decide +kernel
theorem dX12_askedBut_98 : decode cX12_askedBut 98 = .ok (.aload_n 0, 1) := by decide +kernel
theorem dX12_askedBut_99 : decode cX12_askedBut 99 = .ok (.invokevirtual 304, 3) := by decide +kernel
theorem dX12_askedBut_102 : decode cX12_askedBut 102 = .ok (.aload_n 0, 1) := by decide +kernel
theorem dX12_askedBut_103 : decode cX12_askedBut 103 = .ok (.getfield 36, 3) := by decide +kernel
theorem dX12_askedBut_106 : decode cX12_askedBut 106 = .ok (.ifCond .le 7, 3) := by decide +kernel
theorem dX12_askedBut_109 : decode cX12_askedBut 109 = .ok (.iconst 0, 1) := by decide +kernel
theorem dX12_askedBut_110 : decode cX12_askedBut 110 = .ok (.goto 4, 3) := by decide +kernel
theorem dX12_askedBut_113 : decode cX12_askedBut 113 = .ok (.iload_n 3, 1) := by decide +kernel
theorem dX12_askedBut_114 : decode cX12_askedBut 114 = .ok (.ireturn, 1) := by decide +kernel
theorem dX12_has2_0 : decode cX12_has2 0 = .ok (.iload_n 0, 1) := by decide +kernel
theorem dX12_has2_1 : decode cX12_has2 1 = .ok (.iload_n 1, 1) := by decide +kernel
theorem dX12_has2_2 : decode cX12_has2 2 = .ok (.ishr, 1) := by decide +kernel
theorem dX12_has2_3 : decode cX12_has2 3 = .ok (.iconst 1, 1) := by decide +kernel
theorem dX12_has2_4 : decode cX12_has2 4 = .ok (.iand, 1) := by decide +kernel
theorem dX12_has2_5 : decode cX12_has2 5 = .ok (.iconst 1, 1) := by decide +kernel
theorem dX12_has2_6 : decode cX12_has2 6 = .ok (.if_icmp .ne 7, 3) := by decide +kernel
theorem dX12_has2_9 : decode cX12_has2 9 = .ok (.iconst 1, 1) := by decide +kernel
theorem dX12_has2_10 : decode cX12_has2 10 = .ok (.goto 4, 3) := by decide +kernel
theorem dX12_has2_13 : decode cX12_has2 13 = .ok (.iconst 0, 1) := by decide +kernel
theorem dX12_has2_14 : decode cX12_has2 14 = .ok (.ireturn, 1) := by decide +kernel
theorem dX12_round_0 : decode cX12_round 0 = .ok (.aload_n 0, 1) := by decide +kernel
theorem dX12_round_1 : decode cX12_round 1 = .ok (.aload_n 0, 1) := by decide +kernel
theorem dX12_round_2 : decode cX12_round 2 = .ok (.iconst 0, 1) := by decide +kernel
theorem dX12_round_3 : decode cX12_round 3 = .ok (.sipush 9999, 3) := by decide +kernel
theorem dX12_round_6 : decode cX12_round 6 = .ok (.invokevirtual 425, 3) := by decide +kernel
theorem dX12_round_9 : decode cX12_round 9 = .ok (.putfield 171, 3) := by decide +kernel
theorem dX12_round_12 : decode cX12_round 12 = .ok (.aload_n 0, 1) := by decide +kernel
theorem dX12_round_13 : decode cX12_round 13 = .ok (.ldc2_w 311, 3) := by decide +kernel
theorem dX12_round_16 : decode cX12_round 16 = .ok (.invokevirtual 428, 3) := by decide +kernel
theorem dX12_round_19 : decode cX12_round 19 = .ok (.aload_n 0, 1) := by decide +kernel
theorem dX12_round_20 : decode cX12_round 20 = .ok (.aload_n 0, 1) := by decide +kernel
theorem dX12_round_21 : decode cX12_round 21 = .ok (.getfield 171, 3) := by decide +kernel
theorem dX12_round_24 : decode cX12_round 24 = .ok (.iconst 2, 1) := by decide +kernel
theorem dX12_round_25 : decode cX12_round 25 = .ok (.if_icmp .ge 7, 3) := by decide +kernel
theorem dX12_round_28 : decode cX12_round 28 = .ok (.iconst 2, 1) := by decide +kernel
theorem dX12_round_29 : decode cX12_round 29 = .ok (.goto 9, 3) := by decide +kernel
theorem dX12_round_32 : decode cX12_round 32 = .ok (.aload_n 0, 1) := by decide +kernel
theorem dX12_round_33 : decode cX12_round 33 = .ok (.getfield 171, 3) := by decide +kernel
theorem dX12_round_36 : decode cX12_round 36 = .ok (.iconst 1, 1) := by decide +kernel
theorem dX12_round_37 : decode cX12_round 37 = .ok (.iadd, 1) := by decide +kernel
theorem dX12_round_38 : decode cX12_round 38 = .ok (.bipush 30, 2) := by decide +kernel
theorem dX12_round_40 : decode cX12_round 40 = .ok (.invokevirtual 425, 3) := by decide +kernel
theorem dX12_round_43 : decode cX12_round 43 = .ok (.ireturn, 1) := by decide +kernel
theorem dX12_kinding_0 : decode cX12_kinding 0 = .ok (.aload_n 0, 1) := by decide +kernel
theorem dX12_kinding_1 : decode cX12_kinding 1 = .ok (.aload_n 0, 1) := by decide +kernel
theorem dX12_kinding_2 : decode cX12_kinding 2 = .ok (.getfield 54, 3) := by decide +kernel
theorem dX12_kinding_5 : decode cX12_kinding 5 = .ok (.aload_n 0, 1) := by decide +kernel
theorem dX12_kinding_6 : decode cX12_kinding 6 = .ok (.getfield 133, 3) := by decide +kernel
theorem dX12_kinding_9 : decode cX12_kinding 9 = .ok (.iaload, 1) := by decide +kernel
theorem dX12_kinding_10 : decode cX12_kinding 10 = .ok (.bipush 6, 2) := by decide +kernel
theorem dX12_kinding_12 : decode cX12_kinding 12 = .ok (.if_icmp .ne 7, 3) := by decide +kernel
theorem dX12_kinding_15 : decode cX12_kinding 15 = .ok (.iconst 1, 1) := by decide +kernel
theorem dX12_kinding_16 : decode cX12_kinding 16 = .ok (.goto 4, 3) := by decide +kernel
theorem dX12_kinding_19 : decode cX12_kinding 19 = .ok (.iconst 0, 1) := by decide +kernel
theorem dX12_kinding_20 : decode cX12_kinding 20 = .ok (.invokevirtual 432, 3) := by decide +kernel
theorem dX12_kinding_23 : decode cX12_kinding 23 = .ok (.ifCond .ne 4, 3) := by decide +kernel
theorem dX12_kinding_26 : decode cX12_kinding 26 = .ok (.return_, 1) := by decide +kernel
theorem dX12_kinding_27 : decode cX12_kinding 27 = .ok (.bipush 6, 2) := by decide +kernel
theorem dX12_kinding_29 : decode cX12_kinding 29 = .ok (.aload_n 0, 1) := by decide +kernel
theorem dX12_kinding_30 : decode cX12_kinding 30 = .ok (.getfield 133, 3) := by decide +kernel
theorem dX12_kinding_33 : decode cX12_kinding 33 = .ok (.imul, 1) := by decide +kernel
theorem dX12_kinding_34 : decode cX12_kinding 34 = .ok (.aload_n 0, 1) := by decide +kernel
theorem dX12_kinding_35 : decode cX12_kinding 35 = .ok (.getfield 54, 3) := by decide +kernel
theorem dX12_kinding_38 : decode cX12_kinding 38 = .ok (.aload_n 0, 1) := by decide +kernel
theorem dX12_kinding_39 : decode cX12_kinding 39 = .ok (.getfield 133, 3) := by decide +kernel
theorem dX12_kinding_42 : decode cX12_kinding 42 = .ok (.iaload, 1) := by decide +kernel
theorem dX12_kinding_43 : decode cX12_kinding 43 = .ok (.iadd, 1) := by decide +kernel
theorem dX12_kinding_44 : decode cX12_kinding 44 = .ok (.istore_n 1, 1) := by decide +kernel
theorem dX12_kinding_45 : decode cX12_kinding 45 = .ok (.aload_n 0, 1) := by decide +kernel
theorem dX12_kinding_46 : decode cX12_kinding 46 = .ok (.getfield 117, 3) := by decide +kernel
theorem dX12_kinding_49 : decode cX12_kinding 49 = .ok (.iload_n 1, 1) := by decide +kernel
theorem dX12_kinding_50 : decode cX12_kinding 50 = .ok (.aload_n 0, 1) := by decide +kernel
theorem dX12_kinding_51 : decode cX12_kinding 51 = .ok (.invokevirtual 436, 3) := by decide +kernel
theorem dX12_kinding_54 : decode cX12_kinding 54 = .ok (.lastore, 1) := by decide +kernel
theorem dX12_kinding_55 : decode cX12_kinding 55 = .ok (.aload_n 0, 1) := by decide +kernel
theorem dX12_kinding_56 : decode cX12_kinding 56 = .ok (.ldc2_w 309, 3) := by decide +kernel
theorem dX12_kinding_59 : decode cX12_kinding 59 = .ok (.invokevirtual 428, 3) := by decide +kernel
theorem dX12_kinding_62 : decode cX12_kinding 62 = .ok (.aload_n 0, 1) := by decide +kernel
theorem dX12_kinding_63 : decode cX12_kinding 63 = .ok (.getfield 60, 3) := by decide +kernel
theorem dX12_kinding_66 : decode cX12_kinding 66 = .ok (.iload_n 1, 1) := by decide +kernel
theorem dX12_kinding_67 : decode cX12_kinding 67 = .ok (.aload_n 0, 1) := by decide +kernel
theorem dX12_kinding_68 : decode cX12_kinding 68 = .ok (.invokevirtual 440, 3) := by decide +kernel
theorem dX12_kinding_71 : decode cX12_kinding 71 = .ok (.iastore, 1) := by decide +kernel
theorem dX12_kinding_72 : decode cX12_kinding 72 = .ok (.aload_n 0, 1) := by decide +kernel
theorem dX12_kinding_73 : decode cX12_kinding 73 = .ok (.getfield 57, 3) := by decide +kernel
theorem dX12_kinding_76 : decode cX12_kinding 76 = .ok (.iload_n 1, 1) := by decide +kernel
theorem dX12_kinding_77 : decode cX12_kinding 77 = .ok (.aload_n 0, 1) := by decide +kernel
theorem dX12_kinding_78 : decode cX12_kinding 78 = .ok (.getfield 171, 3) := by decide +kernel
theorem dX12_kinding_81 : decode cX12_kinding 81 = .ok (.iastore, 1) := by decide +kernel
theorem dX12_kinding_82 : decode cX12_kinding 82 = .ok (.iconst 0, 1) := by decide +kernel
theorem dX12_kinding_83 : decode cX12_kinding 83 = .ok (.istore_n 2, 1) := by decide +kernel
theorem dX12_kinding_84 : decode cX12_kinding 84 = .ok (.iload_n 2, 1) := by decide +kernel
theorem dX12_kinding_85 : decode cX12_kinding 85 = .ok (.bipush 6, 2) := by decide +kernel
theorem dX12_kinding_87 : decode cX12_kinding 87 = .ok (.if_icmp .ge 49, 3) := by decide +kernel
theorem dX12_kinding_90 : decode cX12_kinding 90 = .ok (.aload_n 0, 1) := by decide +kernel
theorem dX12_kinding_91 : decode cX12_kinding 91 = .ok (.getfield 93, 3) := by decide +kernel
theorem dX12_kinding_94 : decode cX12_kinding 94 = .ok (.bipush 6, 2) := by decide +kernel
theorem dX12_kinding_96 : decode cX12_kinding 96 = .ok (.iload_n 1, 1) := by decide +kernel
theorem dX12_kinding_97 : decode cX12_kinding 97 = .ok (.imul, 1) := by decide +kernel
theorem dX12_kinding_98 : decode cX12_kinding 98 = .ok (.iload_n 2, 1) := by decide +kernel
theorem dX12_kinding_99 : decode cX12_kinding 99 = .ok (.iadd, 1) := by decide +kernel
theorem dX12_kinding_100 : decode cX12_kinding 100 = .ok (.iconst 0, 1) := by decide +kernel
theorem dX12_kinding_101 : decode cX12_kinding 101 = .ok (.iastore, 1) := by decide +kernel
theorem dX12_kinding_102 : decode cX12_kinding 102 = .ok (.aload_n 0, 1) := by decide +kernel
theorem dX12_kinding_103 : decode cX12_kinding 103 = .ok (.getfield 93, 3) := by decide +kernel
theorem dX12_kinding_106 : decode cX12_kinding 106 = .ok (.bipush 6, 2) := by decide +kernel
theorem dX12_kinding_108 : decode cX12_kinding 108 = .ok (.bipush 6, 2) := by decide +kernel
theorem dX12_kinding_110 : decode cX12_kinding 110 = .ok (.aload_n 0, 1) := by decide +kernel
theorem dX12_kinding_111 : decode cX12_kinding 111 = .ok (.getfield 133, 3) := by decide +kernel
theorem dX12_kinding_114 : decode cX12_kinding 114 = .ok (.imul, 1) := by decide +kernel
theorem dX12_kinding_115 : decode cX12_kinding 115 = .ok (.iload_n 2, 1) := by decide +kernel
theorem dX12_kinding_116 : decode cX12_kinding 116 = .ok (.iadd, 1) := by decide +kernel
theorem dX12_kinding_117 : decode cX12_kinding 117 = .ok (.imul, 1) := by decide +kernel
theorem dX12_kinding_118 : decode cX12_kinding 118 = .ok (.aload_n 0, 1) := by decide +kernel
theorem dX12_kinding_119 : decode cX12_kinding 119 = .ok (.getfield 54, 3) := by decide +kernel
theorem dX12_kinding_122 : decode cX12_kinding 122 = .ok (.aload_n 0, 1) := by decide +kernel
theorem dX12_kinding_123 : decode cX12_kinding 123 = .ok (.getfield 133, 3) := by decide +kernel
theorem dX12_kinding_126 : decode cX12_kinding 126 = .ok (.iaload, 1) := by decide +kernel
theorem dX12_kinding_127 : decode cX12_kinding 127 = .ok (.iadd, 1) := by decide +kernel
theorem dX12_kinding_128 : decode cX12_kinding 128 = .ok (.iconst 0, 1) := by decide +kernel
theorem dX12_kinding_129 : decode cX12_kinding 129 = .ok (.iastore, 1) := by decide +kernel
theorem dX12_kinding_130 : decode cX12_kinding 130 = .ok (.iinc 2 1, 3) := by decide +kernel
theorem dX12_kinding_133 : decode cX12_kinding 133 = .ok (.goto (-49), 3) := by decide +kernel
theorem dX12_kinding_136 : decode cX12_kinding 136 = .ok (.aload_n 0, 1) := by decide +kernel
theorem dX12_kinding_137 : decode cX12_kinding 137 = .ok (.getfield 36, 3) := by decide +kernel
theorem dX12_kinding_140 : decode cX12_kinding 140 = .ok (.ifCond .ne 16, 3) := by decide +kernel
theorem dX12_kinding_143 : decode cX12_kinding 143 = .ok (.aload_n 0, 1) := by decide +kernel
theorem dX12_kinding_144 : decode cX12_kinding 144 = .ok (.getfield 54, 3) := by decide +kernel
theorem dX12_kinding_147 : decode cX12_kinding 147 = .ok (.aload_n 0, 1) := by decide +kernel
theorem dX12_kinding_148 : decode cX12_kinding 148 = .ok (.getfield 133, 3) := by decide +kernel
theorem dX12_kinding_151 : decode cX12_kinding 151 = .ok (.dup2, 1) := by decide +kernel
theorem dX12_kinding_152 : decode cX12_kinding 152 = .ok (.iaload, 1) := by decide +kernel
theorem dX12_kinding_153 : decode cX12_kinding 153 = .ok (.iconst 1, 1) := by decide +kernel
theorem dX12_kinding_154 : decode cX12_kinding 154 = .ok (.iadd, 1) := by decide +kernel
theorem dX12_kinding_155 : decode cX12_kinding 155 = .ok (.iastore, 1) := by decide +kernel
theorem dX12_kinding_156 : decode cX12_kinding 156 = .ok (.return_, 1) := by decide +kernel
theorem dX12_tooling_0 : decode cX12_tooling 0 = .ok (.aload_n 0, 1) := by decide +kernel
theorem dX12_tooling_1 : decode cX12_tooling 1 = .ok (.aload_n 0, 1) := by decide +kernel
theorem dX12_tooling_2 : decode cX12_tooling 2 = .ok (.getfield 63, 3) := by decide +kernel
theorem dX12_tooling_5 : decode cX12_tooling 5 = .ok (.aload_n 0, 1) := by decide +kernel
theorem dX12_tooling_6 : decode cX12_tooling 6 = .ok (.getfield 133, 3) := by decide +kernel
theorem dX12_tooling_9 : decode cX12_tooling 9 = .ok (.iaload, 1) := by decide +kernel
theorem dX12_tooling_10 : decode cX12_tooling 10 = .ok (.bipush 8, 2) := by decide +kernel
theorem dX12_tooling_12 : decode cX12_tooling 12 = .ok (.if_icmp .ne 7, 3) := by decide +kernel
theorem dX12_tooling_15 : decode cX12_tooling 15 = .ok (.iconst 1, 1) := by decide +kernel
theorem dX12_tooling_16 : decode cX12_tooling 16 = .ok (.goto 4, 3) := by decide +kernel
theorem dX12_tooling_19 : decode cX12_tooling 19 = .ok (.iconst 0, 1) := by decide +kernel
theorem dX12_tooling_20 : decode cX12_tooling 20 = .ok (.invokevirtual 432, 3) := by decide +kernel
theorem dX12_tooling_23 : decode cX12_tooling 23 = .ok (.ifCond .ne 4, 3) := by decide +kernel
theorem dX12_tooling_26 : decode cX12_tooling 26 = .ok (.return_, 1) := by decide +kernel
theorem dX12_tooling_27 : decode cX12_tooling 27 = .ok (.bipush 8, 2) := by decide +kernel
theorem dX12_tooling_29 : decode cX12_tooling 29 = .ok (.aload_n 0, 1) := by decide +kernel
theorem dX12_tooling_30 : decode cX12_tooling 30 = .ok (.getfield 133, 3) := by decide +kernel
theorem dX12_tooling_33 : decode cX12_tooling 33 = .ok (.imul, 1) := by decide +kernel
theorem dX12_tooling_34 : decode cX12_tooling 34 = .ok (.aload_n 0, 1) := by decide +kernel
theorem dX12_tooling_35 : decode cX12_tooling 35 = .ok (.getfield 63, 3) := by decide +kernel
theorem dX12_tooling_38 : decode cX12_tooling 38 = .ok (.aload_n 0, 1) := by decide +kernel
theorem dX12_tooling_39 : decode cX12_tooling 39 = .ok (.getfield 133, 3) := by decide +kernel
theorem dX12_tooling_42 : decode cX12_tooling 42 = .ok (.iaload, 1) := by decide +kernel
theorem dX12_tooling_43 : decode cX12_tooling 43 = .ok (.iadd, 1) := by decide +kernel
theorem dX12_tooling_44 : decode cX12_tooling 44 = .ok (.istore_n 1, 1) := by decide +kernel
theorem dX12_tooling_45 : decode cX12_tooling 45 = .ok (.aload_n 0, 1) := by decide +kernel
theorem dX12_tooling_46 : decode cX12_tooling 46 = .ok (.getfield 121, 3) := by decide +kernel
theorem dX12_tooling_49 : decode cX12_tooling 49 = .ok (.iload_n 1, 1) := by decide +kernel
theorem dX12_tooling_50 : decode cX12_tooling 50 = .ok (.aload_n 0, 1) := by decide +kernel
theorem dX12_tooling_51 : decode cX12_tooling 51 = .ok (.invokevirtual 436, 3) := by decide +kernel
theorem dX12_tooling_54 : decode cX12_tooling 54 = .ok (.lastore, 1) := by decide +kernel
theorem dX12_tooling_55 : decode cX12_tooling 55 = .ok (.aload_n 0, 1) := by decide +kernel
theorem dX12_tooling_56 : decode cX12_tooling 56 = .ok (.ldc2_w 315, 3) := by decide +kernel
theorem dX12_tooling_59 : decode cX12_tooling 59 = .ok (.invokevirtual 428, 3) := by decide +kernel
theorem dX12_tooling_62 : decode cX12_tooling 62 = .ok (.aload_n 0, 1) := by decide +kernel
theorem dX12_tooling_63 : decode cX12_tooling 63 = .ok (.getfield 66, 3) := by decide +kernel
theorem dX12_tooling_66 : decode cX12_tooling 66 = .ok (.iload_n 1, 1) := by decide +kernel
theorem dX12_tooling_67 : decode cX12_tooling 67 = .ok (.aload_n 0, 1) := by decide +kernel
theorem dX12_tooling_68 : decode cX12_tooling 68 = .ok (.iconst 0, 1) := by decide +kernel
theorem dX12_tooling_69 : decode cX12_tooling 69 = .ok (.iconst 0, 1) := by decide +kernel
theorem dX12_tooling_70 : decode cX12_tooling 70 = .ok (.invokevirtual 444, 3) := by decide +kernel
theorem dX12_tooling_73 : decode cX12_tooling 73 = .ok (.iastore, 1) := by decide +kernel
theorem dX12_tooling_74 : decode cX12_tooling 74 = .ok (.aload_n 0, 1) := by decide +kernel
theorem dX12_tooling_75 : decode cX12_tooling 75 = .ok (.ldc2_w 317, 3) := by decide +kernel
theorem dX12_tooling_78 : decode cX12_tooling 78 = .ok (.invokevirtual 428, 3) := by decide +kernel
theorem dX12_tooling_81 : decode cX12_tooling 81 = .ok (.aload_n 0, 1) := by decide +kernel
theorem dX12_tooling_82 : decode cX12_tooling 82 = .ok (.getfield 69, 3) := by decide +kernel
theorem dX12_tooling_85 : decode cX12_tooling 85 = .ok (.iload_n 1, 1) := by decide +kernel
theorem dX12_tooling_86 : decode cX12_tooling 86 = .ok (.aload_n 0, 1) := by decide +kernel
theorem dX12_tooling_87 : decode cX12_tooling 87 = .ok (.iconst 0, 1) := by decide +kernel
theorem dX12_tooling_88 : decode cX12_tooling 88 = .ok (.bipush 99, 2) := by decide +kernel
theorem dX12_tooling_90 : decode cX12_tooling 90 = .ok (.invokevirtual 425, 3) := by decide +kernel
theorem dX12_tooling_93 : decode cX12_tooling 93 = .ok (.iastore, 1) := by decide +kernel
theorem dX12_tooling_94 : decode cX12_tooling 94 = .ok (.iconst 0, 1) := by decide +kernel
theorem dX12_tooling_95 : decode cX12_tooling 95 = .ok (.istore_n 2, 1) := by decide +kernel
theorem dX12_tooling_96 : decode cX12_tooling 96 = .ok (.iload_n 2, 1) := by decide +kernel
theorem dX12_tooling_97 : decode cX12_tooling 97 = .ok (.bipush 6, 2) := by decide +kernel
theorem dX12_tooling_99 : decode cX12_tooling 99 = .ok (.if_icmp .ge 37, 3) := by decide +kernel
theorem dX12_tooling_102 : decode cX12_tooling 102 = .ok (.aload_n 0, 1) := by decide +kernel
theorem dX12_tooling_103 : decode cX12_tooling 103 = .ok (.getfield 75, 3) := by decide +kernel
theorem dX12_tooling_106 : decode cX12_tooling 106 = .ok (.bipush 8, 2) := by decide +kernel
theorem dX12_tooling_108 : decode cX12_tooling 108 = .ok (.bipush 6, 2) := by decide +kernel
theorem dX12_tooling_110 : decode cX12_tooling 110 = .ok (.aload_n 0, 1) := by decide +kernel
theorem dX12_tooling_111 : decode cX12_tooling 111 = .ok (.getfield 133, 3) := by decide +kernel
theorem dX12_tooling_114 : decode cX12_tooling 114 = .ok (.imul, 1) := by decide +kernel
theorem dX12_tooling_115 : decode cX12_tooling 115 = .ok (.iload_n 2, 1) := by decide +kernel
theorem dX12_tooling_116 : decode cX12_tooling 116 = .ok (.iadd, 1) := by decide +kernel
theorem dX12_tooling_117 : decode cX12_tooling 117 = .ok (.imul, 1) := by decide +kernel
theorem dX12_tooling_118 : decode cX12_tooling 118 = .ok (.aload_n 0, 1) := by decide +kernel
theorem dX12_tooling_119 : decode cX12_tooling 119 = .ok (.getfield 63, 3) := by decide +kernel
theorem dX12_tooling_122 : decode cX12_tooling 122 = .ok (.aload_n 0, 1) := by decide +kernel
theorem dX12_tooling_123 : decode cX12_tooling 123 = .ok (.getfield 133, 3) := by decide +kernel
theorem dX12_tooling_126 : decode cX12_tooling 126 = .ok (.iaload, 1) := by decide +kernel
theorem dX12_tooling_127 : decode cX12_tooling 127 = .ok (.iadd, 1) := by decide +kernel
theorem dX12_tooling_128 : decode cX12_tooling 128 = .ok (.iconst 0, 1) := by decide +kernel
theorem dX12_tooling_129 : decode cX12_tooling 129 = .ok (.iastore, 1) := by decide +kernel
theorem dX12_tooling_130 : decode cX12_tooling 130 = .ok (.iinc 2 1, 3) := by decide +kernel
theorem dX12_tooling_133 : decode cX12_tooling 133 = .ok (.goto (-37), 3) := by decide +kernel
theorem dX12_tooling_136 : decode cX12_tooling 136 = .ok (.aload_n 0, 1) := by decide +kernel
theorem dX12_tooling_137 : decode cX12_tooling 137 = .ok (.getfield 36, 3) := by decide +kernel
theorem dX12_tooling_140 : decode cX12_tooling 140 = .ok (.ifCond .ne 16, 3) := by decide +kernel
theorem dX12_tooling_143 : decode cX12_tooling 143 = .ok (.aload_n 0, 1) := by decide +kernel
theorem dX12_tooling_144 : decode cX12_tooling 144 = .ok (.getfield 63, 3) := by decide +kernel
theorem dX12_tooling_147 : decode cX12_tooling 147 = .ok (.aload_n 0, 1) := by decide +kernel
theorem dX12_tooling_148 : decode cX12_tooling 148 = .ok (.getfield 133, 3) := by decide +kernel
theorem dX12_tooling_151 : decode cX12_tooling 151 = .ok (.dup2, 1) := by decide +kernel
theorem dX12_tooling_152 : decode cX12_tooling 152 = .ok (.iaload, 1) := by decide +kernel
theorem dX12_tooling_153 : decode cX12_tooling 153 = .ok (.iconst 1, 1) := by decide +kernel
theorem dX12_tooling_154 : decode cX12_tooling 154 = .ok (.iadd, 1) := by decide +kernel
theorem dX12_tooling_155 : decode cX12_tooling 155 = .ok (.iastore, 1) := by decide +kernel
theorem dX12_tooling_156 : decode cX12_tooling 156 = .ok (.return_, 1) := by decide +kernel
theorem dX12_handing_0 : decode cX12_handing 0 = .ok (.aload_n 0, 1) := by decide +kernel
theorem dX12_handing_1 : decode cX12_handing 1 = .ok (.aload_n 0, 1) := by decide +kernel
theorem dX12_handing_2 : decode cX12_handing 2 = .ok (.getfield 72, 3) := by decide +kernel
theorem dX12_handing_5 : decode cX12_handing 5 = .ok (.aload_n 0, 1) := by decide +kernel
theorem dX12_handing_6 : decode cX12_handing 6 = .ok (.getfield 133, 3) := by decide +kernel
theorem dX12_handing_9 : decode cX12_handing 9 = .ok (.iaload, 1) := by decide +kernel
theorem dX12_handing_10 : decode cX12_handing 10 = .ok (.bipush 6, 2) := by decide +kernel
theorem dX12_handing_12 : decode cX12_handing 12 = .ok (.if_icmp .ne 7, 3) := by decide +kernel
theorem dX12_handing_15 : decode cX12_handing 15 = .ok (.iconst 1, 1) := by decide +kernel
theorem dX12_handing_16 : decode cX12_handing 16 = .ok (.goto 4, 3) := by decide +kernel
theorem dX12_handing_19 : decode cX12_handing 19 = .ok (.iconst 0, 1) := by decide +kernel
theorem dX12_handing_20 : decode cX12_handing 20 = .ok (.invokevirtual 432, 3) := by decide +kernel
theorem dX12_handing_23 : decode cX12_handing 23 = .ok (.ifCond .ne 4, 3) := by decide +kernel
theorem dX12_handing_26 : decode cX12_handing 26 = .ok (.return_, 1) := by decide +kernel
theorem dX12_handing_27 : decode cX12_handing 27 = .ok (.bipush 6, 2) := by decide +kernel
theorem dX12_handing_29 : decode cX12_handing 29 = .ok (.aload_n 0, 1) := by decide +kernel
theorem dX12_handing_30 : decode cX12_handing 30 = .ok (.getfield 133, 3) := by decide +kernel
theorem dX12_handing_33 : decode cX12_handing 33 = .ok (.imul, 1) := by decide +kernel
theorem dX12_handing_34 : decode cX12_handing 34 = .ok (.aload_n 0, 1) := by decide +kernel
theorem dX12_handing_35 : decode cX12_handing 35 = .ok (.getfield 72, 3) := by decide +kernel
theorem dX12_handing_38 : decode cX12_handing 38 = .ok (.aload_n 0, 1) := by decide +kernel
theorem dX12_handing_39 : decode cX12_handing 39 = .ok (.getfield 133, 3) := by decide +kernel
theorem dX12_handing_42 : decode cX12_handing 42 = .ok (.iaload, 1) := by decide +kernel
theorem dX12_handing_43 : decode cX12_handing 43 = .ok (.iadd, 1) := by decide +kernel
theorem dX12_handing_44 : decode cX12_handing 44 = .ok (.istore_n 1, 1) := by decide +kernel
theorem dX12_handing_45 : decode cX12_handing 45 = .ok (.aload_n 0, 1) := by decide +kernel
theorem dX12_handing_46 : decode cX12_handing 46 = .ok (.getfield 124, 3) := by decide +kernel
theorem dX12_handing_49 : decode cX12_handing 49 = .ok (.iload_n 1, 1) := by decide +kernel
theorem dX12_handing_50 : decode cX12_handing 50 = .ok (.aload_n 0, 1) := by decide +kernel
theorem dX12_handing_51 : decode cX12_handing 51 = .ok (.invokevirtual 436, 3) := by decide +kernel
theorem dX12_handing_54 : decode cX12_handing 54 = .ok (.lastore, 1) := by decide +kernel
theorem dX12_handing_55 : decode cX12_handing 55 = .ok (.iconst 0, 1) := by decide +kernel
theorem dX12_handing_56 : decode cX12_handing 56 = .ok (.istore_n 2, 1) := by decide +kernel
theorem dX12_handing_57 : decode cX12_handing 57 = .ok (.iload_n 2, 1) := by decide +kernel
theorem dX12_handing_58 : decode cX12_handing 58 = .ok (.bipush 8, 2) := by decide +kernel
theorem dX12_handing_60 : decode cX12_handing 60 = .ok (.if_icmp .ge 21, 3) := by decide +kernel
theorem dX12_handing_63 : decode cX12_handing 63 = .ok (.aload_n 0, 1) := by decide +kernel
theorem dX12_handing_64 : decode cX12_handing 64 = .ok (.getfield 75, 3) := by decide +kernel
theorem dX12_handing_67 : decode cX12_handing 67 = .ok (.bipush 8, 2) := by decide +kernel
theorem dX12_handing_69 : decode cX12_handing 69 = .ok (.iload_n 1, 1) := by decide +kernel
theorem dX12_handing_70 : decode cX12_handing 70 = .ok (.imul, 1) := by decide +kernel
theorem dX12_handing_71 : decode cX12_handing 71 = .ok (.iload_n 2, 1) := by decide +kernel
theorem dX12_handing_72 : decode cX12_handing 72 = .ok (.iadd, 1) := by decide +kernel
theorem dX12_handing_73 : decode cX12_handing 73 = .ok (.iconst 0, 1) := by decide +kernel
theorem dX12_handing_74 : decode cX12_handing 74 = .ok (.iastore, 1) := by decide +kernel
theorem dX12_handing_75 : decode cX12_handing 75 = .ok (.iinc 2 1, 3) := by decide +kernel
theorem dX12_handing_78 : decode cX12_handing 78 = .ok (.goto (-21), 3) := by decide +kernel
theorem dX12_handing_81 : decode cX12_handing 81 = .ok (.aload_n 0, 1) := by decide +kernel
theorem dX12_handing_82 : decode cX12_handing 82 = .ok (.getfield 36, 3) := by decide +kernel
theorem dX12_handing_85 : decode cX12_handing 85 = .ok (.ifCond .ne 16, 3) := by decide +kernel
theorem dX12_handing_88 : decode cX12_handing 88 = .ok (.aload_n 0, 1) := by decide +kernel
theorem dX12_handing_89 : decode cX12_handing 89 = .ok (.getfield 72, 3) := by decide +kernel
theorem dX12_handing_92 : decode cX12_handing 92 = .ok (.aload_n 0, 1) := by decide +kernel
theorem dX12_handing_93 : decode cX12_handing 93 = .ok (.getfield 133, 3) := by decide +kernel
theorem dX12_handing_96 : decode cX12_handing 96 = .ok (.dup2, 1) := by decide +kernel
theorem dX12_handing_97 : decode cX12_handing 97 = .ok (.iaload, 1) := by decide +kernel
theorem dX12_handing_98 : decode cX12_handing 98 = .ok (.iconst 1, 1) := by decide +kernel
theorem dX12_handing_99 : decode cX12_handing 99 = .ok (.iadd, 1) := by decide +kernel
theorem dX12_handing_100 : decode cX12_handing 100 = .ok (.iastore, 1) := by decide +kernel
theorem dX12_handing_101 : decode cX12_handing 101 = .ok (.return_, 1) := by decide +kernel
theorem dX12_knowing_0 : decode cX12_knowing 0 = .ok (.aload_n 0, 1) := by decide +kernel
theorem dX12_knowing_1 : decode cX12_knowing 1 = .ok (.iconst 0, 1) := by decide +kernel
theorem dX12_knowing_2 : decode cX12_knowing 2 = .ok (.invokevirtual 432, 3) := by decide +kernel
theorem dX12_knowing_5 : decode cX12_knowing 5 = .ok (.ifCond .ne 4, 3) := by decide +kernel
theorem dX12_knowing_8 : decode cX12_knowing 8 = .ok (.return_, 1) := by decide +kernel
theorem dX12_knowing_9 : decode cX12_knowing 9 = .ok (.aload_n 0, 1) := by decide +kernel
theorem dX12_knowing_10 : decode cX12_knowing 10 = .ok (.iconst 2, 1) := by decide +kernel
theorem dX12_knowing_11 : decode cX12_knowing 11 = .ok (.iconst 0, 1) := by decide +kernel
theorem dX12_knowing_12 : decode cX12_knowing 12 = .ok (.invokevirtual 444, 3) := by decide +kernel
theorem dX12_knowing_15 : decode cX12_knowing 15 = .ok (.istore_n 1, 1) := by decide +kernel
theorem dX12_knowing_16 : decode cX12_knowing 16 = .ok (.aload_n 0, 1) := by decide +kernel
theorem dX12_knowing_17 : decode cX12_knowing 17 = .ok (.iconst 1, 1) := by decide +kernel
theorem dX12_knowing_18 : decode cX12_knowing 18 = .ok (.iconst 0, 1) := by decide +kernel
theorem dX12_knowing_19 : decode cX12_knowing 19 = .ok (.invokevirtual 444, 3) := by decide +kernel
theorem dX12_knowing_22 : decode cX12_knowing 22 = .ok (.istore_n 2, 1) := by decide +kernel
theorem dX12_knowing_23 : decode cX12_knowing 23 = .ok (.aload_n 0, 1) := by decide +kernel
theorem dX12_knowing_24 : decode cX12_knowing 24 = .ok (.iconst 0, 1) := by decide +kernel
theorem dX12_knowing_25 : decode cX12_knowing 25 = .ok (.bipush 9, 2) := by decide +kernel
theorem dX12_knowing_27 : decode cX12_knowing 27 = .ok (.invokevirtual 425, 3) := by decide +kernel
theorem dX12_knowing_30 : decode cX12_knowing 30 = .ok (.istore_n 3, 1) := by decide +kernel
theorem dX12_knowing_31 : decode cX12_knowing 31 = .ok (.aload_n 0, 1) := by decide +kernel
theorem dX12_knowing_32 : decode cX12_knowing 32 = .ok (.getfield 36, 3) := by decide +kernel
theorem dX12_knowing_35 : decode cX12_knowing 35 = .ok (.ifCond .ne 23, 3) := by decide +kernel
theorem dX12_knowing_38 : decode cX12_knowing 38 = .ok (.aload_n 0, 1) := by decide +kernel
theorem dX12_knowing_39 : decode cX12_knowing 39 = .ok (.getfield 75, 3) := by decide +kernel
theorem dX12_knowing_42 : decode cX12_knowing 42 = .ok (.bipush 8, 2) := by decide +kernel
theorem dX12_knowing_44 : decode cX12_knowing 44 = .ok (.bipush 6, 2) := by decide +kernel
theorem dX12_knowing_46 : decode cX12_knowing 46 = .ok (.aload_n 0, 1) := by decide +kernel
theorem dX12_knowing_47 : decode cX12_knowing 47 = .ok (.getfield 133, 3) := by decide +kernel
theorem dX12_knowing_50 : decode cX12_knowing 50 = .ok (.imul, 1) := by decide +kernel
theorem dX12_knowing_51 : decode cX12_knowing 51 = .ok (.iload_n 1, 1) := by decide +kernel
theorem dX12_knowing_52 : decode cX12_knowing 52 = .ok (.iadd, 1) := by decide +kernel
theorem dX12_knowing_53 : decode cX12_knowing 53 = .ok (.imul, 1) := by decide +kernel
theorem dX12_knowing_54 : decode cX12_knowing 54 = .ok (.iload_n 2, 1) := by decide +kernel
theorem dX12_knowing_55 : decode cX12_knowing 55 = .ok (.iadd, 1) := by decide +kernel
theorem dX12_knowing_56 : decode cX12_knowing 56 = .ok (.iload_n 3, 1) := by decide +kernel
theorem dX12_knowing_57 : decode cX12_knowing 57 = .ok (.iastore, 1) := by decide +kernel
theorem dX12_knowing_58 : decode cX12_knowing 58 = .ok (.return_, 1) := by decide +kernel
theorem dX12_jobbing_0 : decode cX12_jobbing 0 = .ok (.aload_n 0, 1) := by decide +kernel
theorem dX12_jobbing_1 : decode cX12_jobbing 1 = .ok (.aload_n 0, 1) := by decide +kernel
theorem dX12_jobbing_2 : decode cX12_jobbing 2 = .ok (.getfield 78, 3) := by decide +kernel
theorem dX12_jobbing_5 : decode cX12_jobbing 5 = .ok (.aload_n 0, 1) := by decide +kernel
theorem dX12_jobbing_6 : decode cX12_jobbing 6 = .ok (.getfield 133, 3) := by decide +kernel
theorem dX12_jobbing_9 : decode cX12_jobbing 9 = .ok (.iaload, 1) := by decide +kernel
theorem dX12_jobbing_10 : decode cX12_jobbing 10 = .ok (.bipush 6, 2) := by decide +kernel
theorem dX12_jobbing_12 : decode cX12_jobbing 12 = .ok (.if_icmp .ne 7, 3) := by decide +kernel
theorem dX12_jobbing_15 : decode cX12_jobbing 15 = .ok (.iconst 1, 1) := by decide +kernel
theorem dX12_jobbing_16 : decode cX12_jobbing 16 = .ok (.goto 4, 3) := by decide +kernel
theorem dX12_jobbing_19 : decode cX12_jobbing 19 = .ok (.iconst 0, 1) := by decide +kernel
theorem dX12_jobbing_20 : decode cX12_jobbing 20 = .ok (.invokevirtual 432, 3) := by decide +kernel
theorem dX12_jobbing_23 : decode cX12_jobbing 23 = .ok (.ifCond .ne 4, 3) := by decide +kernel
theorem dX12_jobbing_26 : decode cX12_jobbing 26 = .ok (.return_, 1) := by decide +kernel
theorem dX12_jobbing_27 : decode cX12_jobbing 27 = .ok (.bipush 6, 2) := by decide +kernel
theorem dX12_jobbing_29 : decode cX12_jobbing 29 = .ok (.aload_n 0, 1) := by decide +kernel
theorem dX12_jobbing_30 : decode cX12_jobbing 30 = .ok (.getfield 133, 3) := by decide +kernel
theorem dX12_jobbing_33 : decode cX12_jobbing 33 = .ok (.imul, 1) := by decide +kernel
theorem dX12_jobbing_34 : decode cX12_jobbing 34 = .ok (.aload_n 0, 1) := by decide +kernel
theorem dX12_jobbing_35 : decode cX12_jobbing 35 = .ok (.getfield 78, 3) := by decide +kernel
theorem dX12_jobbing_38 : decode cX12_jobbing 38 = .ok (.aload_n 0, 1) := by decide +kernel
theorem dX12_jobbing_39 : decode cX12_jobbing 39 = .ok (.getfield 133, 3) := by decide +kernel
theorem dX12_jobbing_42 : decode cX12_jobbing 42 = .ok (.iaload, 1) := by decide +kernel
theorem dX12_jobbing_43 : decode cX12_jobbing 43 = .ok (.iadd, 1) := by decide +kernel
theorem dX12_jobbing_44 : decode cX12_jobbing 44 = .ok (.istore_n 1, 1) := by decide +kernel
theorem dX12_jobbing_45 : decode cX12_jobbing 45 = .ok (.aload_n 0, 1) := by decide +kernel
theorem dX12_jobbing_46 : decode cX12_jobbing 46 = .ok (.getfield 127, 3) := by decide +kernel
theorem dX12_jobbing_49 : decode cX12_jobbing 49 = .ok (.iload_n 1, 1) := by decide +kernel
theorem dX12_jobbing_50 : decode cX12_jobbing 50 = .ok (.aload_n 0, 1) := by decide +kernel
theorem dX12_jobbing_51 : decode cX12_jobbing 51 = .ok (.invokevirtual 436, 3) := by decide +kernel
theorem dX12_jobbing_54 : decode cX12_jobbing 54 = .ok (.lastore, 1) := by decide +kernel
theorem dX12_jobbing_55 : decode cX12_jobbing 55 = .ok (.aload_n 0, 1) := by decide +kernel
theorem dX12_jobbing_56 : decode cX12_jobbing 56 = .ok (.ldc2_w 325, 3) := by decide +kernel
theorem dX12_jobbing_59 : decode cX12_jobbing 59 = .ok (.invokevirtual 428, 3) := by decide +kernel
theorem dX12_jobbing_62 : decode cX12_jobbing 62 = .ok (.aload_n 0, 1) := by decide +kernel
theorem dX12_jobbing_63 : decode cX12_jobbing 63 = .ok (.getfield 81, 3) := by decide +kernel
theorem dX12_jobbing_66 : decode cX12_jobbing 66 = .ok (.iload_n 1, 1) := by decide +kernel
theorem dX12_jobbing_67 : decode cX12_jobbing 67 = .ok (.aload_n 0, 1) := by decide +kernel
theorem dX12_jobbing_68 : decode cX12_jobbing 68 = .ok (.iconst 0, 1) := by decide +kernel
theorem dX12_jobbing_69 : decode cX12_jobbing 69 = .ok (.sipush 999, 3) := by decide +kernel
theorem dX12_jobbing_72 : decode cX12_jobbing 72 = .ok (.invokevirtual 425, 3) := by decide +kernel
theorem dX12_jobbing_75 : decode cX12_jobbing 75 = .ok (.iastore, 1) := by decide +kernel
theorem dX12_jobbing_76 : decode cX12_jobbing 76 = .ok (.aload_n 0, 1) := by decide +kernel
theorem dX12_jobbing_77 : decode cX12_jobbing 77 = .ok (.ldc2_w 327, 3) := by decide +kernel
theorem dX12_jobbing_80 : decode cX12_jobbing 80 = .ok (.invokevirtual 428, 3) := by decide +kernel
theorem dX12_jobbing_83 : decode cX12_jobbing 83 = .ok (.iconst 0, 1) := by decide +kernel
theorem dX12_jobbing_84 : decode cX12_jobbing 84 = .ok (.istore_n 2, 1) := by decide +kernel
theorem dX12_jobbing_85 : decode cX12_jobbing 85 = .ok (.iconst 1, 1) := by decide +kernel
theorem dX12_jobbing_86 : decode cX12_jobbing 86 = .ok (.istore_n 3, 1) := by decide +kernel
theorem dX12_jobbing_87 : decode cX12_jobbing 87 = .ok (.iload_n 3, 1) := by decide +kernel
theorem dX12_jobbing_88 : decode cX12_jobbing 88 = .ok (.ifCond .eq 98, 3) := by decide +kernel
theorem dX12_jobbing_91 : decode cX12_jobbing 91 = .ok (.iconst 4, 1) := by decide +kernel
theorem dX12_jobbing_92 : decode cX12_jobbing 92 = .ok (.iload_n 1, 1) := by decide +kernel
theorem dX12_jobbing_93 : decode cX12_jobbing 93 = .ok (.imul, 1) := by decide +kernel
theorem dX12_jobbing_94 : decode cX12_jobbing 94 = .ok (.iload_n 2, 1) := by decide +kernel
theorem dX12_jobbing_95 : decode cX12_jobbing 95 = .ok (.iadd, 1) := by decide +kernel
theorem dX12_jobbing_96 : decode cX12_jobbing 96 = .ok (.istore 4, 2) := by decide +kernel
theorem dX12_jobbing_98 : decode cX12_jobbing 98 = .ok (.aload_n 0, 1) := by decide +kernel
theorem dX12_jobbing_99 : decode cX12_jobbing 99 = .ok (.getfield 87, 3) := by decide +kernel
theorem dX12_jobbing_102 : decode cX12_jobbing 102 = .ok (.iload 4, 2) := by decide +kernel
theorem dX12_jobbing_104 : decode cX12_jobbing 104 = .ok (.aload_n 0, 1) := by decide +kernel
theorem dX12_jobbing_105 : decode cX12_jobbing 105 = .ok (.iconst 0, 1) := by decide +kernel
theorem dX12_jobbing_106 : decode cX12_jobbing 106 = .ok (.iconst 0, 1) := by decide +kernel
theorem dX12_jobbing_107 : decode cX12_jobbing 107 = .ok (.invokevirtual 444, 3) := by decide +kernel
theorem dX12_jobbing_110 : decode cX12_jobbing 110 = .ok (.iastore, 1) := by decide +kernel
theorem dX12_jobbing_111 : decode cX12_jobbing 111 = .ok (.aload_n 0, 1) := by decide +kernel
theorem dX12_jobbing_112 : decode cX12_jobbing 112 = .ok (.getfield 90, 3) := by decide +kernel
theorem dX12_jobbing_115 : decode cX12_jobbing 115 = .ok (.iload 4, 2) := by decide +kernel
theorem dX12_jobbing_117 : decode cX12_jobbing 117 = .ok (.aload_n 0, 1) := by decide +kernel
theorem dX12_jobbing_118 : decode cX12_jobbing 118 = .ok (.iconst 1, 1) := by decide +kernel
theorem dX12_jobbing_119 : decode cX12_jobbing 119 = .ok (.bipush 9, 2) := by decide +kernel
theorem dX12_jobbing_121 : decode cX12_jobbing 121 = .ok (.invokevirtual 425, 3) := by decide +kernel
theorem dX12_jobbing_124 : decode cX12_jobbing 124 = .ok (.iastore, 1) := by decide +kernel
theorem dX12_jobbing_125 : decode cX12_jobbing 125 = .ok (.iinc 2 1, 3) := by decide +kernel
theorem dX12_jobbing_128 : decode cX12_jobbing 128 = .ok (.iload_n 2, 1) := by decide +kernel
theorem dX12_jobbing_129 : decode cX12_jobbing 129 = .ok (.iconst 4, 1) := by decide +kernel
theorem dX12_jobbing_130 : decode cX12_jobbing 130 = .ok (.if_icmp .ne 21, 3) := by decide +kernel
theorem dX12_jobbing_133 : decode cX12_jobbing 133 = .ok (.aload_n 0, 1) := by decide +kernel
theorem dX12_jobbing_134 : decode cX12_jobbing 134 = .ok (.getfield 20, 3) := by decide +kernel
theorem dX12_jobbing_137 : decode cX12_jobbing 137 = .ok (.iconst 1, 1) := by decide +kernel
theorem dX12_jobbing_138 : decode cX12_jobbing 138 = .ok (.if_icmp .ne 13, 3) := by decide +kernel
theorem dX12_jobbing_141 : decode cX12_jobbing 141 = .ok (.aload_n 0, 1) := by decide +kernel
theorem dX12_jobbing_142 : decode cX12_jobbing 142 = .ok (.bipush 6, 2) := by decide +kernel
theorem dX12_jobbing_144 : decode cX12_jobbing 144 = .ok (.aload_n 0, 1) := by decide +kernel
theorem dX12_jobbing_145 : decode cX12_jobbing 145 = .ok (.getfield 23, 3) := by decide +kernel
theorem dX12_jobbing_148 : decode cX12_jobbing 148 = .ok (.invokevirtual 287, 3) := by decide +kernel
theorem dX12_jobbing_151 : decode cX12_jobbing 151 = .ok (.aload_n 0, 1) := by decide +kernel
theorem dX12_jobbing_152 : decode cX12_jobbing 152 = .ok (.getfield 36, 3) := by decide +kernel
theorem dX12_jobbing_155 : decode cX12_jobbing 155 = .ok (.ifCond .ne 26, 3) := by decide +kernel
theorem dX12_jobbing_158 : decode cX12_jobbing 158 = .ok (.aload_n 0, 1) := by decide +kernel
theorem dX12_jobbing_159 : decode cX12_jobbing 159 = .ok (.getfield 20, 3) := by decide +kernel
theorem dX12_jobbing_162 : decode cX12_jobbing 162 = .ok (.iconst 1, 1) := by decide +kernel
theorem dX12_jobbing_163 : decode cX12_jobbing 163 = .ok (.if_icmp .ne 18, 3) := by decide +kernel
theorem dX12_jobbing_166 : decode cX12_jobbing 166 = .ok (.aload_n 0, 1) := by decide +kernel
theorem dX12_jobbing_167 : decode cX12_jobbing 167 = .ok (.aload_n 0, 1) := by decide +kernel
theorem dX12_jobbing_168 : decode cX12_jobbing 168 = .ok (.getfield 32, 3) := by decide +kernel
theorem dX12_jobbing_171 : decode cX12_jobbing 171 = .ok (.invokevirtual 414, 3) := by decide +kernel
theorem dX12_jobbing_174 : decode cX12_jobbing 174 = .ok (.ifCond .ne 7, 3) := by decide +kernel
theorem dX12_jobbing_177 : decode cX12_jobbing 177 = .ok (.iconst 1, 1) := by decide +kernel
theorem dX12_jobbing_178 : decode cX12_jobbing 178 = .ok (.goto 4, 3) := by decide +kernel
theorem dX12_jobbing_181 : decode cX12_jobbing 181 = .ok (.iconst 0, 1) := by decide +kernel
theorem dX12_jobbing_182 : decode cX12_jobbing 182 = .ok (.istore_n 3, 1) := by decide +kernel
theorem dX12_jobbing_183 : decode cX12_jobbing 183 = .ok (.goto (-96), 3) := by decide +kernel
theorem dX12_jobbing_186 : decode cX12_jobbing 186 = .ok (.aload_n 0, 1) := by decide +kernel
theorem dX12_jobbing_187 : decode cX12_jobbing 187 = .ok (.getfield 84, 3) := by decide +kernel
theorem dX12_jobbing_190 : decode cX12_jobbing 190 = .ok (.iload_n 1, 1) := by decide +kernel
theorem dX12_jobbing_191 : decode cX12_jobbing 191 = .ok (.iload_n 2, 1) := by decide +kernel
theorem dX12_jobbing_192 : decode cX12_jobbing 192 = .ok (.iastore, 1) := by decide +kernel
theorem dX12_jobbing_193 : decode cX12_jobbing 193 = .ok (.aload_n 0, 1) := by decide +kernel
theorem dX12_jobbing_194 : decode cX12_jobbing 194 = .ok (.getfield 36, 3) := by decide +kernel
theorem dX12_jobbing_197 : decode cX12_jobbing 197 = .ok (.ifCond .ne 16, 3) := by decide +kernel
theorem dX12_jobbing_200 : decode cX12_jobbing 200 = .ok (.aload_n 0, 1) := by decide +kernel
theorem dX12_jobbing_201 : decode cX12_jobbing 201 = .ok (.getfield 78, 3) := by decide +kernel
theorem dX12_jobbing_204 : decode cX12_jobbing 204 = .ok (.aload_n 0, 1) := by decide +kernel
theorem dX12_jobbing_205 : decode cX12_jobbing 205 = .ok (.getfield 133, 3) := by decide +kernel
theorem dX12_jobbing_208 : decode cX12_jobbing 208 = .ok (.dup2, 1) := by decide +kernel
theorem dX12_jobbing_209 : decode cX12_jobbing 209 = .ok (.iaload, 1) := by decide +kernel
theorem dX12_jobbing_210 : decode cX12_jobbing 210 = .ok (.iconst 1, 1) := by decide +kernel
theorem dX12_jobbing_211 : decode cX12_jobbing 211 = .ok (.iadd, 1) := by decide +kernel
theorem dX12_jobbing_212 : decode cX12_jobbing 212 = .ok (.iastore, 1) := by decide +kernel
theorem dX12_jobbing_213 : decode cX12_jobbing 213 = .ok (.return_, 1) := by decide +kernel
theorem dX12_serving_0 : decode cX12_serving 0 = .ok (.aload_n 0, 1) := by decide +kernel
theorem dX12_serving_1 : decode cX12_serving 1 = .ok (.iconst 0, 1) := by decide +kernel
theorem dX12_serving_2 : decode cX12_serving 2 = .ok (.invokevirtual 432, 3) := by decide +kernel
theorem dX12_serving_5 : decode cX12_serving 5 = .ok (.ifCond .ne 4, 3) := by decide +kernel
theorem dX12_serving_8 : decode cX12_serving 8 = .ok (.return_, 1) := by decide +kernel
theorem dX12_serving_9 : decode cX12_serving 9 = .ok (.aload_n 0, 1) := by decide +kernel
theorem dX12_serving_10 : decode cX12_serving 10 = .ok (.iconst 0, 1) := by decide +kernel
theorem dX12_serving_11 : decode cX12_serving 11 = .ok (.iconst 0, 1) := by decide +kernel
theorem dX12_serving_12 : decode cX12_serving 12 = .ok (.invokevirtual 444, 3) := by decide +kernel
theorem dX12_serving_15 : decode cX12_serving 15 = .ok (.istore_n 1, 1) := by decide +kernel
theorem dX12_serving_16 : decode cX12_serving 16 = .ok (.aload_n 0, 1) := by decide +kernel
theorem dX12_serving_17 : decode cX12_serving 17 = .ok (.ldc2_w 331, 3) := by decide +kernel
theorem dX12_serving_20 : decode cX12_serving 20 = .ok (.invokevirtual 428, 3) := by decide +kernel
theorem dX12_serving_23 : decode cX12_serving 23 = .ok (.aload_n 0, 1) := by decide +kernel
theorem dX12_serving_24 : decode cX12_serving 24 = .ok (.iconst 0, 1) := by decide +kernel
theorem dX12_serving_25 : decode cX12_serving 25 = .ok (.iconst 1, 1) := by decide +kernel
theorem dX12_serving_26 : decode cX12_serving 26 = .ok (.iload_n 1, 1) := by decide +kernel
theorem dX12_serving_27 : decode cX12_serving 27 = .ok (.ishl, 1) := by decide +kernel
theorem dX12_serving_28 : decode cX12_serving 28 = .ok (.invokevirtual 444, 3) := by decide +kernel
theorem dX12_serving_31 : decode cX12_serving 31 = .ok (.istore_n 2, 1) := by decide +kernel
theorem dX12_serving_32 : decode cX12_serving 32 = .ok (.aload_n 0, 1) := by decide +kernel
theorem dX12_serving_33 : decode cX12_serving 33 = .ok (.ldc2_w 333, 3) := by decide +kernel
theorem dX12_serving_36 : decode cX12_serving 36 = .ok (.invokevirtual 428, 3) := by decide +kernel
theorem dX12_serving_39 : decode cX12_serving 39 = .ok (.aload_n 0, 1) := by decide +kernel
theorem dX12_serving_40 : decode cX12_serving 40 = .ok (.iconst 1, 1) := by decide +kernel
theorem dX12_serving_41 : decode cX12_serving 41 = .ok (.bipush 99, 2) := by decide +kernel
theorem dX12_serving_43 : decode cX12_serving 43 = .ok (.invokevirtual 425, 3) := by decide +kernel
theorem dX12_serving_46 : decode cX12_serving 46 = .ok (.istore_n 3, 1) := by decide +kernel
theorem dX12_serving_47 : decode cX12_serving 47 = .ok (.aload_n 0, 1) := by decide +kernel
theorem dX12_serving_48 : decode cX12_serving 48 = .ok (.getfield 36, 3) := by decide +kernel
theorem dX12_serving_51 : decode cX12_serving 51 = .ok (.ifCond .ne 23, 3) := by decide +kernel
theorem dX12_serving_54 : decode cX12_serving 54 = .ok (.aload_n 0, 1) := by decide +kernel
theorem dX12_serving_55 : decode cX12_serving 55 = .ok (.getfield 93, 3) := by decide +kernel
theorem dX12_serving_58 : decode cX12_serving 58 = .ok (.bipush 6, 2) := by decide +kernel
theorem dX12_serving_60 : decode cX12_serving 60 = .ok (.bipush 6, 2) := by decide +kernel
theorem dX12_serving_62 : decode cX12_serving 62 = .ok (.aload_n 0, 1) := by decide +kernel
theorem dX12_serving_63 : decode cX12_serving 63 = .ok (.getfield 133, 3) := by decide +kernel
theorem dX12_serving_66 : decode cX12_serving 66 = .ok (.imul, 1) := by decide +kernel
theorem dX12_serving_67 : decode cX12_serving 67 = .ok (.iload_n 1, 1) := by decide +kernel
theorem dX12_serving_68 : decode cX12_serving 68 = .ok (.iadd, 1) := by decide +kernel
theorem dX12_serving_69 : decode cX12_serving 69 = .ok (.imul, 1) := by decide +kernel
theorem dX12_serving_70 : decode cX12_serving 70 = .ok (.iload_n 2, 1) := by decide +kernel
theorem dX12_serving_71 : decode cX12_serving 71 = .ok (.iadd, 1) := by decide +kernel
theorem dX12_serving_72 : decode cX12_serving 72 = .ok (.iload_n 3, 1) := by decide +kernel
theorem dX12_serving_73 : decode cX12_serving 73 = .ok (.iastore, 1) := by decide +kernel
theorem dX12_serving_74 : decode cX12_serving 74 = .ok (.return_, 1) := by decide +kernel
theorem dX12_reading_0 : decode cX12_reading 0 = .ok (.iconst 2, 1) := by decide +kernel
theorem dX12_reading_1 : decode cX12_reading 1 = .ok (.aload_n 0, 1) := by decide +kernel
theorem dX12_reading_2 : decode cX12_reading 2 = .ok (.getfield 133, 3) := by decide +kernel
theorem dX12_reading_5 : decode cX12_reading 5 = .ok (.imul, 1) := by decide +kernel
theorem dX12_reading_6 : decode cX12_reading 6 = .ok (.iload_n 1, 1) := by decide +kernel
theorem dX12_reading_7 : decode cX12_reading 7 = .ok (.iadd, 1) := by decide +kernel
theorem dX12_reading_8 : decode cX12_reading 8 = .ok (.istore_n 2, 1) := by decide +kernel
theorem dX12_reading_9 : decode cX12_reading 9 = .ok (.aload_n 0, 1) := by decide +kernel
theorem dX12_reading_10 : decode cX12_reading 10 = .ok (.aload_n 0, 1) := by decide +kernel
theorem dX12_reading_11 : decode cX12_reading 11 = .ok (.getfield 105, 3) := by decide +kernel
theorem dX12_reading_14 : decode cX12_reading 14 = .ok (.iload_n 2, 1) := by decide +kernel
theorem dX12_reading_15 : decode cX12_reading 15 = .ok (.iaload, 1) := by decide +kernel
theorem dX12_reading_16 : decode cX12_reading 16 = .ok (.iconst (-1), 1) := by decide +kernel
theorem dX12_reading_17 : decode cX12_reading 17 = .ok (.if_icmp .eq 7, 3) := by decide +kernel
theorem dX12_reading_20 : decode cX12_reading 20 = .ok (.iconst 1, 1) := by decide +kernel
theorem dX12_reading_21 : decode cX12_reading 21 = .ok (.goto 4, 3) := by decide +kernel
theorem dX12_reading_24 : decode cX12_reading 24 = .ok (.iconst 0, 1) := by decide +kernel
theorem dX12_reading_25 : decode cX12_reading 25 = .ok (.invokevirtual 432, 3) := by decide +kernel
theorem dX12_reading_28 : decode cX12_reading 28 = .ok (.ifCond .ne 4, 3) := by decide +kernel
theorem dX12_reading_31 : decode cX12_reading 31 = .ok (.return_, 1) := by decide +kernel
theorem dX12_reading_32 : decode cX12_reading 32 = .ok (.aload_n 0, 1) := by decide +kernel
theorem dX12_reading_33 : decode cX12_reading 33 = .ok (.iload_n 1, 1) := by decide +kernel
theorem dX12_reading_34 : decode cX12_reading 34 = .ok (.iconst 1, 1) := by decide +kernel
theorem dX12_reading_35 : decode cX12_reading 35 = .ok (.if_icmp .ne 7, 3) := by decide +kernel
theorem dX12_reading_38 : decode cX12_reading 38 = .ok (.iconst 1, 1) := by decide +kernel
theorem dX12_reading_39 : decode cX12_reading 39 = .ok (.goto 4, 3) := by decide +kernel
theorem dX12_reading_42 : decode cX12_reading 42 = .ok (.iconst 0, 1) := by decide +kernel
theorem dX12_reading_43 : decode cX12_reading 43 = .ok (.putfield 136, 3) := by decide +kernel
theorem dX12_reading_46 : decode cX12_reading 46 = .ok (.aload_n 0, 1) := by decide +kernel
theorem dX12_reading_47 : decode cX12_reading 47 = .ok (.getfield 105, 3) := by decide +kernel
theorem dX12_reading_50 : decode cX12_reading 50 = .ok (.iload_n 2, 1) := by decide +kernel
theorem dX12_reading_51 : decode cX12_reading 51 = .ok (.aload_n 0, 1) := by decide +kernel
theorem dX12_reading_52 : decode cX12_reading 52 = .ok (.getfield 130, 3) := by decide +kernel
theorem dX12_reading_55 : decode cX12_reading 55 = .ok (.iastore, 1) := by decide +kernel
theorem dX12_reading_56 : decode cX12_reading 56 = .ok (.aload_n 0, 1) := by decide +kernel
theorem dX12_reading_57 : decode cX12_reading 57 = .ok (.iload_n 1, 1) := by decide +kernel
theorem dX12_reading_58 : decode cX12_reading 58 = .ok (.iconst 1, 1) := by decide +kernel
theorem dX12_reading_59 : decode cX12_reading 59 = .ok (.if_icmp .ne 7, 3) := by decide +kernel
theorem dX12_reading_62 : decode cX12_reading 62 = .ok (.iconst 1, 1) := by decide +kernel
theorem dX12_reading_63 : decode cX12_reading 63 = .ok (.goto 4, 3) := by decide +kernel
theorem dX12_reading_66 : decode cX12_reading 66 = .ok (.iconst 0, 1) := by decide +kernel
theorem dX12_reading_67 : decode cX12_reading 67 = .ok (.invokevirtual 447, 3) := by decide +kernel
theorem dX12_reading_70 : decode cX12_reading 70 = .ok (.aload_n 0, 1) := by decide +kernel
theorem dX12_reading_71 : decode cX12_reading 71 = .ok (.getfield 108, 3) := by decide +kernel
theorem dX12_reading_74 : decode cX12_reading 74 = .ok (.iload_n 2, 1) := by decide +kernel
theorem dX12_reading_75 : decode cX12_reading 75 = .ok (.aload_n 0, 1) := by decide +kernel
theorem dX12_reading_76 : decode cX12_reading 76 = .ok (.getfield 130, 3) := by decide +kernel
theorem dX12_reading_79 : decode cX12_reading 79 = .ok (.iastore, 1) := by decide +kernel
theorem dX12_reading_80 : decode cX12_reading 80 = .ok (.return_, 1) := by decide +kernel
theorem dX12_telling_0 : decode cX12_telling 0 = .ok (.aload_n 0, 1) := by decide +kernel
theorem dX12_telling_1 : decode cX12_telling 1 = .ok (.iconst 0, 1) := by decide +kernel
theorem dX12_telling_2 : decode cX12_telling 2 = .ok (.invokevirtual 432, 3) := by decide +kernel
theorem dX12_telling_5 : decode cX12_telling 5 = .ok (.ifCond .ne 4, 3) := by decide +kernel
theorem dX12_telling_8 : decode cX12_telling 8 = .ok (.return_, 1) := by decide +kernel
theorem dX12_telling_9 : decode cX12_telling 9 = .ok (.aload_n 0, 1) := by decide +kernel
theorem dX12_telling_10 : decode cX12_telling 10 = .ok (.iload_n 2, 1) := by decide +kernel
theorem dX12_telling_11 : decode cX12_telling 11 = .ok (.iload_n 3, 1) := by decide +kernel
theorem dX12_telling_12 : decode cX12_telling 12 = .ok (.invokevirtual 425, 3) := by decide +kernel
theorem dX12_telling_15 : decode cX12_telling 15 = .ok (.istore 4, 2) := by decide +kernel
theorem dX12_telling_17 : decode cX12_telling 17 = .ok (.aload_n 0, 1) := by decide +kernel
theorem dX12_telling_18 : decode cX12_telling 18 = .ok (.getfield 36, 3) := by decide +kernel
theorem dX12_telling_21 : decode cX12_telling 21 = .ok (.ifCond .ne 18, 3) := by decide +kernel
theorem dX12_telling_24 : decode cX12_telling 24 = .ok (.aload_n 0, 1) := by decide +kernel
theorem dX12_telling_25 : decode cX12_telling 25 = .ok (.getfield 102, 3) := by decide +kernel
theorem dX12_telling_28 : decode cX12_telling 28 = .ok (.iconst 3, 1) := by decide +kernel
theorem dX12_telling_29 : decode cX12_telling 29 = .ok (.aload_n 0, 1) := by decide +kernel
theorem dX12_telling_30 : decode cX12_telling 30 = .ok (.getfield 133, 3) := by decide +kernel
theorem dX12_telling_33 : decode cX12_telling 33 = .ok (.imul, 1) := by decide +kernel
theorem dX12_telling_34 : decode cX12_telling 34 = .ok (.iload_n 1, 1) := by decide +kernel
theorem dX12_telling_35 : decode cX12_telling 35 = .ok (.iadd, 1) := by decide +kernel
theorem dX12_telling_36 : decode cX12_telling 36 = .ok (.iload 4, 2) := by decide +kernel
theorem dX12_telling_38 : decode cX12_telling 38 = .ok (.iastore, 1) := by decide +kernel
theorem dX12_telling_39 : decode cX12_telling 39 = .ok (.return_, 1) := by decide +kernel
theorem dX12_smithing_0 : decode cX12_smithing 0 = .ok (.aload_n 0, 1) := by decide +kernel
theorem dX12_smithing_1 : decode cX12_smithing 1 = .ok (.iconst 0, 1) := by decide +kernel
theorem dX12_smithing_2 : decode cX12_smithing 2 = .ok (.invokevirtual 432, 3) := by decide +kernel
theorem dX12_smithing_5 : decode cX12_smithing 5 = .ok (.ifCond .ne 4, 3) := by decide +kernel
theorem dX12_smithing_8 : decode cX12_smithing 8 = .ok (.return_, 1) := by decide +kernel
theorem dX12_smithing_9 : decode cX12_smithing 9 = .ok (.aload_n 0, 1) := by decide +kernel
theorem dX12_smithing_10 : decode cX12_smithing 10 = .ok (.invokevirtual 440, 3) := by decide +kernel
theorem dX12_smithing_13 : decode cX12_smithing 13 = .ok (.istore_n 1, 1) := by decide +kernel
theorem dX12_smithing_14 : decode cX12_smithing 14 = .ok (.aload_n 0, 1) := by decide +kernel
theorem dX12_smithing_15 : decode cX12_smithing 15 = .ok (.getfield 36, 3) := by decide +kernel
theorem dX12_smithing_18 : decode cX12_smithing 18 = .ok (.ifCond .le 4, 3) := by decide +kernel
theorem dX12_smithing_21 : decode cX12_smithing 21 = .ok (.return_, 1) := by decide +kernel
theorem dX12_smithing_22 : decode cX12_smithing 22 = .ok (.aload_n 0, 1) := by decide +kernel
theorem dX12_smithing_23 : decode cX12_smithing 23 = .ok (.getfield 96, 3) := by decide +kernel
theorem dX12_smithing_26 : decode cX12_smithing 26 = .ok (.aload_n 0, 1) := by decide +kernel
theorem dX12_smithing_27 : decode cX12_smithing 27 = .ok (.getfield 133, 3) := by decide +kernel
theorem dX12_smithing_30 : decode cX12_smithing 30 = .ok (.aload_n 0, 1) := by decide +kernel
theorem dX12_smithing_31 : decode cX12_smithing 31 = .ok (.getfield 171, 3) := by decide +kernel
theorem dX12_smithing_34 : decode cX12_smithing 34 = .ok (.iastore, 1) := by decide +kernel
theorem dX12_smithing_35 : decode cX12_smithing 35 = .ok (.aload_n 0, 1) := by decide +kernel
theorem dX12_smithing_36 : decode cX12_smithing 36 = .ok (.getfield 99, 3) := by decide +kernel
theorem dX12_smithing_39 : decode cX12_smithing 39 = .ok (.aload_n 0, 1) := by decide +kernel
theorem dX12_smithing_40 : decode cX12_smithing 40 = .ok (.getfield 133, 3) := by decide +kernel
theorem dX12_smithing_43 : decode cX12_smithing 43 = .ok (.iload_n 1, 1) := by decide +kernel
theorem dX12_smithing_44 : decode cX12_smithing 44 = .ok (.iastore, 1) := by decide +kernel
theorem dX12_smithing_45 : decode cX12_smithing 45 = .ok (.return_, 1) := by decide +kernel
theorem dX12_statement_0 : decode cX12_statement 0 = .ok (.aload_n 0, 1) := by decide +kernel
theorem dX12_statement_1 : decode cX12_statement 1 = .ok (.invokevirtual 298, 3) := by decide +kernel
theorem dX12_statement_4 : decode cX12_statement 4 = .ok (.aload_n 0, 1) := by decide +kernel
theorem dX12_statement_5 : decode cX12_statement 5 = .ok (.getfield 36, 3) := by decide +kernel
theorem dX12_statement_8 : decode cX12_statement 8 = .ok (.ifCond .le 4, 3) := by decide +kernel
theorem dX12_statement_11 : decode cX12_statement 11 = .ok (.return_, 1) := by decide +kernel
theorem dX12_statement_12 : decode cX12_statement 12 = .ok (.aload_n 0, 1) := by decide +kernel
theorem dX12_statement_13 : decode cX12_statement 13 = .ok (.ldc2_w 307, 3) := by decide +kernel
theorem dX12_statement_16 : decode cX12_statement 16 = .ok (.invokevirtual 395, 3) := by decide +kernel
theorem dX12_statement_19 : decode cX12_statement 19 = .ok (.ifCond .eq 10, 3) := by decide +kernel
theorem dX12_statement_22 : decode cX12_statement 22 = .ok (.aload_n 0, 1) := by decide +kernel
theorem dX12_statement_23 : decode cX12_statement 23 = .ok (.invokevirtual 451, 3) := by decide +kernel
theorem dX12_statement_26 : decode cX12_statement 26 = .ok (.goto 213, 3) := by decide +kernel
theorem dX12_statement_29 : decode cX12_statement 29 = .ok (.aload_n 0, 1) := by decide +kernel
theorem dX12_statement_30 : decode cX12_statement 30 = .ok (.ldc2_w 313, 3) := by decide +kernel
theorem dX12_statement_33 : decode cX12_statement 33 = .ok (.invokevirtual 395, 3) := by decide +kernel
theorem dX12_statement_36 : decode cX12_statement 36 = .ok (.ifCond .eq 10, 3) := by decide +kernel
theorem dX12_statement_39 : decode cX12_statement 39 = .ok (.aload_n 0, 1) := by decide +kernel
theorem dX12_statement_40 : decode cX12_statement 40 = .ok (.invokevirtual 454, 3) := by decide +kernel
theorem dX12_statement_43 : decode cX12_statement 43 = .ok (.goto 196, 3) := by decide +kernel
theorem dX12_statement_46 : decode cX12_statement 46 = .ok (.aload_n 0, 1) := by decide +kernel
theorem dX12_statement_47 : decode cX12_statement 47 = .ok (.ldc2_w 319, 3) := by decide +kernel
theorem dX12_statement_50 : decode cX12_statement 50 = .ok (.invokevirtual 395, 3) := by decide +kernel
theorem dX12_statement_53 : decode cX12_statement 53 = .ok (.ifCond .eq 10, 3) := by decide +kernel
theorem dX12_statement_56 : decode cX12_statement 56 = .ok (.aload_n 0, 1) := by decide +kernel
theorem dX12_statement_57 : decode cX12_statement 57 = .ok (.invokevirtual 457, 3) := by decide +kernel
theorem dX12_statement_60 : decode cX12_statement 60 = .ok (.goto 179, 3) := by decide +kernel
theorem dX12_statement_63 : decode cX12_statement 63 = .ok (.aload_n 0, 1) := by decide +kernel
theorem dX12_statement_64 : decode cX12_statement 64 = .ok (.ldc2_w 321, 3) := by decide +kernel
theorem dX12_statement_67 : decode cX12_statement 67 = .ok (.invokevirtual 395, 3) := by decide +kernel
theorem dX12_statement_70 : decode cX12_statement 70 = .ok (.ifCond .eq 10, 3) := by decide +kernel
theorem dX12_statement_73 : decode cX12_statement 73 = .ok (.aload_n 0, 1) := by decide +kernel
theorem dX12_statement_74 : decode cX12_statement 74 = .ok (.invokevirtual 460, 3) := by decide +kernel
theorem dX12_statement_77 : decode cX12_statement 77 = .ok (.goto 162, 3) := by decide +kernel
theorem dX12_statement_80 : decode cX12_statement 80 = .ok (.aload_n 0, 1) := by decide +kernel
theorem dX12_statement_81 : decode cX12_statement 81 = .ok (.ldc2_w 323, 3) := by decide +kernel
theorem dX12_statement_84 : decode cX12_statement 84 = .ok (.invokevirtual 395, 3) := by decide +kernel
theorem dX12_statement_87 : decode cX12_statement 87 = .ok (.ifCond .eq 10, 3) := by decide +kernel
theorem dX12_statement_90 : decode cX12_statement 90 = .ok (.aload_n 0, 1) := by decide +kernel
theorem dX12_statement_91 : decode cX12_statement 91 = .ok (.invokevirtual 463, 3) := by decide +kernel
theorem dX12_statement_94 : decode cX12_statement 94 = .ok (.goto 145, 3) := by decide +kernel
theorem dX12_statement_97 : decode cX12_statement 97 = .ok (.aload_n 0, 1) := by decide +kernel
theorem dX12_statement_98 : decode cX12_statement 98 = .ok (.ldc2_w 329, 3) := by decide +kernel
theorem dX12_statement_101 : decode cX12_statement 101 = .ok (.invokevirtual 395, 3) := by decide +kernel
theorem dX12_statement_104 : decode cX12_statement 104 = .ok (.ifCond .eq 10, 3) := by decide +kernel
theorem dX12_statement_107 : decode cX12_statement 107 = .ok (.aload_n 0, 1) := by decide +kernel
theorem dX12_statement_108 : decode cX12_statement 108 = .ok (.invokevirtual 466, 3) := by decide +kernel
theorem dX12_statement_111 : decode cX12_statement 111 = .ok (.goto 128, 3) := by decide +kernel
theorem dX12_statement_114 : decode cX12_statement 114 = .ok (.aload_n 0, 1) := by decide +kernel
theorem dX12_statement_115 : decode cX12_statement 115 = .ok (.ldc2_w 335, 3) := by decide +kernel
theorem dX12_statement_118 : decode cX12_statement 118 = .ok (.invokevirtual 395, 3) := by decide +kernel
theorem dX12_statement_121 : decode cX12_statement 121 = .ok (.ifCond .eq 11, 3) := by decide +kernel
theorem dX12_statement_124 : decode cX12_statement 124 = .ok (.aload_n 0, 1) := by decide +kernel
theorem dX12_statement_125 : decode cX12_statement 125 = .ok (.iconst 1, 1) := by decide +kernel
theorem dX12_statement_126 : decode cX12_statement 126 = .ok (.invokevirtual 469, 3) := by decide +kernel
theorem dX12_statement_129 : decode cX12_statement 129 = .ok (.goto 110, 3) := by decide +kernel
theorem dX12_statement_132 : decode cX12_statement 132 = .ok (.aload_n 0, 1) := by decide +kernel
theorem dX12_statement_133 : decode cX12_statement 133 = .ok (.ldc2_w 337, 3) := by decide +kernel
theorem dX12_statement_136 : decode cX12_statement 136 = .ok (.invokevirtual 395, 3) := by decide +kernel
theorem dX12_statement_139 : decode cX12_statement 139 = .ok (.ifCond .eq 11, 3) := by decide +kernel
theorem dX12_statement_142 : decode cX12_statement 142 = .ok (.aload_n 0, 1) := by decide +kernel
theorem dX12_statement_143 : decode cX12_statement 143 = .ok (.iconst 0, 1) := by decide +kernel
theorem dX12_statement_144 : decode cX12_statement 144 = .ok (.invokevirtual 469, 3) := by decide +kernel
theorem dX12_statement_147 : decode cX12_statement 147 = .ok (.goto 92, 3) := by decide +kernel
theorem dX12_statement_150 : decode cX12_statement 150 = .ok (.aload_n 0, 1) := by decide +kernel
theorem dX12_statement_151 : decode cX12_statement 151 = .ok (.ldc2_w 339, 3) := by decide +kernel
theorem dX12_statement_154 : decode cX12_statement 154 = .ok (.invokevirtual 395, 3) := by decide +kernel
theorem dX12_statement_157 : decode cX12_statement 157 = .ok (.ifCond .eq 14, 3) := by decide +kernel
theorem dX12_statement_160 : decode cX12_statement 160 = .ok (.aload_n 0, 1) := by decide +kernel
theorem dX12_statement_161 : decode cX12_statement 161 = .ok (.iconst 0, 1) := by decide +kernel
theorem dX12_statement_162 : decode cX12_statement 162 = .ok (.iconst 1, 1) := by decide +kernel
theorem dX12_statement_163 : decode cX12_statement 163 = .ok (.bipush 100, 2) := by decide +kernel
theorem dX12_statement_165 : decode cX12_statement 165 = .ok (.invokevirtual 472, 3) := by decide +kernel
theorem dX12_statement_168 : decode cX12_statement 168 = .ok (.goto 71, 3) := by decide +kernel
theorem dX12_statement_171 : decode cX12_statement 171 = .ok (.aload_n 0, 1) := by decide +kernel
theorem dX12_statement_172 : decode cX12_statement 172 = .ok (.ldc2_w 341, 3) := by decide +kernel
theorem dX12_statement_175 : decode cX12_statement 175 = .ok (.invokevirtual 395, 3) := by decide +kernel
theorem dX12_statement_178 : decode cX12_statement 178 = .ok (.ifCond .eq 10, 3) := by decide +kernel
theorem dX12_statement_181 : decode cX12_statement 181 = .ok (.aload_n 0, 1) := by decide +kernel
theorem dX12_statement_182 : decode cX12_statement 182 = .ok (.invokevirtual 476, 3) := by decide +kernel
theorem dX12_statement_185 : decode cX12_statement 185 = .ok (.goto 54, 3) := by decide +kernel
theorem dX12_statement_188 : decode cX12_statement 188 = .ok (.aload_n 0, 1) := by decide +kernel
theorem dX12_statement_189 : decode cX12_statement 189 = .ok (.ldc2_w 343, 3) := by decide +kernel
theorem dX12_statement_192 : decode cX12_statement 192 = .ok (.invokevirtual 395, 3) := by decide +kernel
theorem dX12_statement_195 : decode cX12_statement 195 = .ok (.ifCond .eq 14, 3) := by decide +kernel
theorem dX12_statement_198 : decode cX12_statement 198 = .ok (.aload_n 0, 1) := by decide +kernel
theorem dX12_statement_199 : decode cX12_statement 199 = .ok (.iconst 1, 1) := by decide +kernel
theorem dX12_statement_200 : decode cX12_statement 200 = .ok (.iconst 0, 1) := by decide +kernel
theorem dX12_statement_201 : decode cX12_statement 201 = .ok (.bipush 100, 2) := by decide +kernel
theorem dX12_statement_203 : decode cX12_statement 203 = .ok (.invokevirtual 472, 3) := by decide +kernel
theorem dX12_statement_206 : decode cX12_statement 206 = .ok (.goto 33, 3) := by decide +kernel
theorem dX12_statement_209 : decode cX12_statement 209 = .ok (.aload_n 0, 1) := by decide +kernel
theorem dX12_statement_210 : decode cX12_statement 210 = .ok (.ldc2_w 345, 3) := by decide +kernel
theorem dX12_statement_213 : decode cX12_statement 213 = .ok (.invokevirtual 395, 3) := by decide +kernel
theorem dX12_statement_216 : decode cX12_statement 216 = .ok (.ifCond .eq 14, 3) := by decide +kernel
theorem dX12_statement_219 : decode cX12_statement 219 = .ok (.aload_n 0, 1) := by decide +kernel
theorem dX12_statement_220 : decode cX12_statement 220 = .ok (.iconst 2, 1) := by decide +kernel
theorem dX12_statement_221 : decode cX12_statement 221 = .ok (.iconst 0, 1) := by decide +kernel
theorem dX12_statement_222 : decode cX12_statement 222 = .ok (.bipush 100, 2) := by decide +kernel
theorem dX12_statement_224 : decode cX12_statement 224 = .ok (.invokevirtual 472, 3) := by decide +kernel
theorem dX12_statement_227 : decode cX12_statement 227 = .ok (.goto 12, 3) := by decide +kernel
theorem dX12_statement_230 : decode cX12_statement 230 = .ok (.aload_n 0, 1) := by decide +kernel
theorem dX12_statement_231 : decode cX12_statement 231 = .ok (.iconst 1, 1) := by decide +kernel
theorem dX12_statement_232 : decode cX12_statement 232 = .ok (.aload_n 0, 1) := by decide +kernel
theorem dX12_statement_233 : decode cX12_statement 233 = .ok (.getfield 23, 3) := by decide +kernel
theorem dX12_statement_236 : decode cX12_statement 236 = .ok (.invokevirtual 287, 3) := by decide +kernel
theorem dX12_statement_239 : decode cX12_statement 239 = .ok (.return_, 1) := by decide +kernel
theorem dX12_finishes_0 : decode cX12_finishes 0 = .ok (.aload_n 0, 1) := by decide +kernel
theorem dX12_finishes_1 : decode cX12_finishes 1 = .ok (.invokevirtual 298, 3) := by decide +kernel
theorem dX12_finishes_4 : decode cX12_finishes 4 = .ok (.aload_n 0, 1) := by decide +kernel
theorem dX12_finishes_5 : decode cX12_finishes 5 = .ok (.getfield 36, 3) := by decide +kernel
theorem dX12_finishes_8 : decode cX12_finishes 8 = .ok (.ifCond .le 4, 3) := by decide +kernel
theorem dX12_finishes_11 : decode cX12_finishes 11 = .ok (.return_, 1) := by decide +kernel
theorem dX12_finishes_12 : decode cX12_finishes 12 = .ok (.aload_n 0, 1) := by decide +kernel
theorem dX12_finishes_13 : decode cX12_finishes 13 = .ok (.getfield 26, 3) := by decide +kernel
theorem dX12_finishes_16 : decode cX12_finishes 16 = .ok (.istore_n 2, 1) := by decide +kernel
theorem dX12_finishes_17 : decode cX12_finishes 17 = .ok (.iload_n 2, 1) := by decide +kernel
theorem dX12_finishes_18 : decode cX12_finishes 18 = .ok (.aload_n 0, 1) := by decide +kernel
theorem dX12_finishes_19 : decode cX12_finishes 19 = .ok (.getfield 17, 3) := by decide +kernel
theorem dX12_finishes_22 : decode cX12_finishes 22 = .ok (.if_icmp .ge 31, 3) := by decide +kernel
theorem dX12_finishes_25 : decode cX12_finishes 25 = .ok (.aload_n 0, 1) := by decide +kernel
theorem dX12_finishes_26 : decode cX12_finishes 26 = .ok (.getfield 7, 3) := by decide +kernel
theorem dX12_finishes_29 : decode cX12_finishes 29 = .ok (.iload_n 2, 1) := by decide +kernel
theorem dX12_finishes_30 : decode cX12_finishes 30 = .ok (.iaload, 1) := by decide +kernel
theorem dX12_finishes_31 : decode cX12_finishes 31 = .ok (.bipush 32, 2) := by decide +kernel
theorem dX12_finishes_33 : decode cX12_finishes 33 = .ok (.if_icmp .eq 14, 3) := by decide +kernel
theorem dX12_finishes_36 : decode cX12_finishes 36 = .ok (.aload_n 0, 1) := by decide +kernel
theorem dX12_finishes_37 : decode cX12_finishes 37 = .ok (.getfield 7, 3) := by decide +kernel
theorem dX12_finishes_40 : decode cX12_finishes 40 = .ok (.iload_n 2, 1) := by decide +kernel
theorem dX12_finishes_41 : decode cX12_finishes 41 = .ok (.iaload, 1) := by decide +kernel
theorem dX12_finishes_42 : decode cX12_finishes 42 = .ok (.bipush 10, 2) := by decide +kernel
theorem dX12_finishes_44 : decode cX12_finishes 44 = .ok (.if_icmp .ne 9, 3) := by decide +kernel
theorem dX12_finishes_47 : decode cX12_finishes 47 = .ok (.iinc 2 1, 3) := by decide +kernel
theorem dX12_finishes_50 : decode cX12_finishes 50 = .ok (.goto (-33), 3) := by decide +kernel
theorem dX12_finishes_53 : decode cX12_finishes 53 = .ok (.aload_n 0, 1) := by decide +kernel
theorem dX12_finishes_54 : decode cX12_finishes 54 = .ok (.bipush 59, 2) := by decide +kernel
theorem dX12_finishes_56 : decode cX12_finishes 56 = .ok (.invokevirtual 301, 3) := by decide +kernel
theorem dX12_finishes_59 : decode cX12_finishes 59 = .ok (.ifCond .eq 24, 3) := by decide +kernel
theorem dX12_finishes_62 : decode cX12_finishes 62 = .ok (.iload_n 1, 1) := by decide +kernel
theorem dX12_finishes_63 : decode cX12_finishes 63 = .ok (.bipush 80, 2) := by decide +kernel
theorem dX12_finishes_65 : decode cX12_finishes 65 = .ok (.if_icmp .ne 18, 3) := by decide +kernel
theorem dX12_finishes_68 : decode cX12_finishes 68 = .ok (.iload_n 2, 1) := by decide +kernel
theorem dX12_finishes_69 : decode cX12_finishes 69 = .ok (.aload_n 0, 1) := by decide +kernel
theorem dX12_finishes_70 : decode cX12_finishes 70 = .ok (.getfield 17, 3) := by decide +kernel
theorem dX12_finishes_73 : decode cX12_finishes 73 = .ok (.if_icmp .ge 10, 3) := by decide +kernel
theorem dX12_finishes_76 : decode cX12_finishes 76 = .ok (.aload_n 0, 1) := by decide +kernel
theorem dX12_finishes_77 : decode cX12_finishes 77 = .ok (.bipush 6, 2) := by decide +kernel
theorem dX12_finishes_79 : decode cX12_finishes 79 = .ok (.iload_n 2, 1) := by decide +kernel
theorem dX12_finishes_80 : decode cX12_finishes 80 = .ok (.invokevirtual 287, 3) := by decide +kernel
theorem dX12_finishes_83 : decode cX12_finishes 83 = .ok (.aload_n 0, 1) := by decide +kernel
theorem dX12_finishes_84 : decode cX12_finishes 84 = .ok (.bipush 59, 2) := by decide +kernel
theorem dX12_finishes_86 : decode cX12_finishes 86 = .ok (.invokevirtual 479, 3) := by decide +kernel
theorem dX12_finishes_89 : decode cX12_finishes 89 = .ok (.return_, 1) := by decide +kernel
theorem dX12_year_0 : decode cX12_year 0 = .ok (.aload_n 0, 1) := by decide +kernel
theorem dX12_year_1 : decode cX12_year 1 = .ok (.aload_n 0, 1) := by decide +kernel
theorem dX12_year_2 : decode cX12_year 2 = .ok (.getfield 13, 3) := by decide +kernel
theorem dX12_year_5 : decode cX12_year 5 = .ok (.putfield 17, 3) := by decide +kernel
theorem dX12_year_8 : decode cX12_year 8 = .ok (.aload_n 0, 1) := by decide +kernel
theorem dX12_year_9 : decode cX12_year 9 = .ok (.iconst 0, 1) := by decide +kernel
theorem dX12_year_10 : decode cX12_year 10 = .ok (.putfield 13, 3) := by decide +kernel
theorem dX12_year_13 : decode cX12_year 13 = .ok (.aload_n 0, 1) := by decide +kernel
theorem dX12_year_14 : decode cX12_year 14 = .ok (.iconst 0, 1) := by decide +kernel
theorem dX12_year_15 : decode cX12_year 15 = .ok (.putfield 26, 3) := by decide +kernel
theorem dX12_year_18 : decode cX12_year 18 = .ok (.aload_n 0, 1) := by decide +kernel
theorem dX12_year_19 : decode cX12_year 19 = .ok (.iconst 0, 1) := by decide +kernel
theorem dX12_year_20 : decode cX12_year 20 = .ok (.putfield 36, 3) := by decide +kernel
theorem dX12_year_23 : decode cX12_year 23 = .ok (.aload_n 0, 1) := by decide +kernel
theorem dX12_year_24 : decode cX12_year 24 = .ok (.iconst (-1), 1) := by decide +kernel
theorem dX12_year_25 : decode cX12_year 25 = .ok (.putfield 39, 3) := by decide +kernel
theorem dX12_year_28 : decode cX12_year 28 = .ok (.aload_n 0, 1) := by decide +kernel
theorem dX12_year_29 : decode cX12_year 29 = .ok (.iconst 1, 1) := by decide +kernel
theorem dX12_year_30 : decode cX12_year 30 = .ok (.aload_n 0, 1) := by decide +kernel
theorem dX12_year_31 : decode cX12_year 31 = .ok (.getfield 51, 3) := by decide +kernel
theorem dX12_year_34 : decode cX12_year 34 = .ok (.isub, 1) := by decide +kernel
theorem dX12_year_35 : decode cX12_year 35 = .ok (.putfield 133, 3) := by decide +kernel
theorem dX12_year_38 : decode cX12_year 38 = .ok (.aload_n 0, 1) := by decide +kernel
theorem dX12_year_39 : decode cX12_year 39 = .ok (.getfield 54, 3) := by decide +kernel
theorem dX12_year_42 : decode cX12_year 42 = .ok (.aload_n 0, 1) := by decide +kernel
theorem dX12_year_43 : decode cX12_year 43 = .ok (.getfield 133, 3) := by decide +kernel
theorem dX12_year_46 : decode cX12_year 46 = .ok (.iconst 0, 1) := by decide +kernel
theorem dX12_year_47 : decode cX12_year 47 = .ok (.iastore, 1) := by decide +kernel
theorem dX12_year_48 : decode cX12_year 48 = .ok (.aload_n 0, 1) := by decide +kernel
theorem dX12_year_49 : decode cX12_year 49 = .ok (.getfield 63, 3) := by decide +kernel
theorem dX12_year_52 : decode cX12_year 52 = .ok (.aload_n 0, 1) := by decide +kernel
theorem dX12_year_53 : decode cX12_year 53 = .ok (.getfield 133, 3) := by decide +kernel
theorem dX12_year_56 : decode cX12_year 56 = .ok (.iconst 0, 1) := by decide +kernel
theorem dX12_year_57 : decode cX12_year 57 = .ok (.iastore, 1) := by decide +kernel
theorem dX12_year_58 : decode cX12_year 58 = .ok (.aload_n 0, 1) := by decide +kernel
theorem dX12_year_59 : decode cX12_year 59 = .ok (.getfield 72, 3) := by decide +kernel
theorem dX12_year_62 : decode cX12_year 62 = .ok (.aload_n 0, 1) := by decide +kernel
theorem dX12_year_63 : decode cX12_year 63 = .ok (.getfield 133, 3) := by decide +kernel
theorem dX12_year_66 : decode cX12_year 66 = .ok (.iconst 0, 1) := by decide +kernel
theorem dX12_year_67 : decode cX12_year 67 = .ok (.iastore, 1) := by decide +kernel
theorem dX12_year_68 : decode cX12_year 68 = .ok (.aload_n 0, 1) := by decide +kernel
theorem dX12_year_69 : decode cX12_year 69 = .ok (.getfield 78, 3) := by decide +kernel
theorem dX12_year_72 : decode cX12_year 72 = .ok (.aload_n 0, 1) := by decide +kernel
theorem dX12_year_73 : decode cX12_year 73 = .ok (.getfield 133, 3) := by decide +kernel
theorem dX12_year_76 : decode cX12_year 76 = .ok (.iconst 0, 1) := by decide +kernel
theorem dX12_year_77 : decode cX12_year 77 = .ok (.iastore, 1) := by decide +kernel
theorem dX12_year_78 : decode cX12_year 78 = .ok (.aload_n 0, 1) := by decide +kernel
theorem dX12_year_79 : decode cX12_year 79 = .ok (.aload_n 0, 1) := by decide +kernel
theorem dX12_year_80 : decode cX12_year 80 = .ok (.getfield 133, 3) := by decide +kernel
theorem dX12_year_83 : decode cX12_year 83 = .ok (.invokevirtual 276, 3) := by decide +kernel
theorem dX12_year_86 : decode cX12_year 86 = .ok (.aload_n 0, 1) := by decide +kernel
theorem dX12_year_87 : decode cX12_year 87 = .ok (.getfield 105, 3) := by decide +kernel
theorem dX12_year_90 : decode cX12_year 90 = .ok (.iconst 2, 1) := by decide +kernel
theorem dX12_year_91 : decode cX12_year 91 = .ok (.aload_n 0, 1) := by decide +kernel
theorem dX12_year_92 : decode cX12_year 92 = .ok (.getfield 133, 3) := by decide +kernel
theorem dX12_year_95 : decode cX12_year 95 = .ok (.imul, 1) := by decide +kernel
theorem dX12_year_96 : decode cX12_year 96 = .ok (.iconst (-1), 1) := by decide +kernel
theorem dX12_year_97 : decode cX12_year 97 = .ok (.iastore, 1) := by decide +kernel
theorem dX12_year_98 : decode cX12_year 98 = .ok (.aload_n 0, 1) := by decide +kernel
theorem dX12_year_99 : decode cX12_year 99 = .ok (.getfield 105, 3) := by decide +kernel
theorem dX12_year_102 : decode cX12_year 102 = .ok (.iconst 2, 1) := by decide +kernel
theorem dX12_year_103 : decode cX12_year 103 = .ok (.aload_n 0, 1) := by decide +kernel
theorem dX12_year_104 : decode cX12_year 104 = .ok (.getfield 133, 3) := by decide +kernel
theorem dX12_year_107 : decode cX12_year 107 = .ok (.imul, 1) := by decide +kernel
theorem dX12_year_108 : decode cX12_year 108 = .ok (.iconst 1, 1) := by decide +kernel
theorem dX12_year_109 : decode cX12_year 109 = .ok (.iadd, 1) := by decide +kernel
theorem dX12_year_110 : decode cX12_year 110 = .ok (.iconst (-1), 1) := by decide +kernel
theorem dX12_year_111 : decode cX12_year 111 = .ok (.iastore, 1) := by decide +kernel
theorem dX12_year_112 : decode cX12_year 112 = .ok (.aload_n 0, 1) := by decide +kernel
theorem dX12_year_113 : decode cX12_year 113 = .ok (.iconst 0, 1) := by decide +kernel
theorem dX12_year_114 : decode cX12_year 114 = .ok (.putfield 130, 3) := by decide +kernel
theorem dX12_year_117 : decode cX12_year 117 = .ok (.iconst 0, 1) := by decide +kernel
theorem dX12_year_118 : decode cX12_year 118 = .ok (.istore_n 1, 1) := by decide +kernel
theorem dX12_year_119 : decode cX12_year 119 = .ok (.aload_n 0, 1) := by decide +kernel
theorem dX12_year_120 : decode cX12_year 120 = .ok (.invokevirtual 304, 3) := by decide +kernel
theorem dX12_year_123 : decode cX12_year 123 = .ok (.aload_n 0, 1) := by decide +kernel
theorem dX12_year_124 : decode cX12_year 124 = .ok (.getfield 36, 3) := by decide +kernel
theorem dX12_year_127 : decode cX12_year 127 = .ok (.ifCond .ne 25, 3) := by decide +kernel
theorem dX12_year_130 : decode cX12_year 130 = .ok (.aload_n 0, 1) := by decide +kernel
theorem dX12_year_131 : decode cX12_year 131 = .ok (.getfield 20, 3) := by decide +kernel
theorem dX12_year_134 : decode cX12_year 134 = .ok (.ifCond .eq 18, 3) := by decide +kernel
theorem dX12_year_137 : decode cX12_year 137 = .ok (.aload_n 0, 1) := by decide +kernel
theorem dX12_year_138 : decode cX12_year 138 = .ok (.invokevirtual 481, 3) := by decide +kernel
theorem dX12_year_141 : decode cX12_year 141 = .ok (.iinc 1 1, 3) := by decide +kernel
theorem dX12_year_144 : decode cX12_year 144 = .ok (.aload_n 0, 1) := by decide +kernel
theorem dX12_year_145 : decode cX12_year 145 = .ok (.iload_n 1, 1) := by decide +kernel
theorem dX12_year_146 : decode cX12_year 146 = .ok (.invokevirtual 484, 3) := by decide +kernel
theorem dX12_year_149 : decode cX12_year 149 = .ok (.goto (-26), 3) := by decide +kernel
theorem dX12_year_152 : decode cX12_year 152 = .ok (.aload_n 0, 1) := by decide +kernel
theorem dX12_year_153 : decode cX12_year 153 = .ok (.aload_n 0, 1) := by decide +kernel
theorem dX12_year_154 : decode cX12_year 154 = .ok (.getfield 36, 3) := by decide +kernel
theorem dX12_year_157 : decode cX12_year 157 = .ok (.putfield 42, 3) := by decide +kernel
theorem dX12_year_160 : decode cX12_year 160 = .ok (.aload_n 0, 1) := by decide +kernel
theorem dX12_year_161 : decode cX12_year 161 = .ok (.aload_n 0, 1) := by decide +kernel
theorem dX12_year_162 : decode cX12_year 162 = .ok (.getfield 39, 3) := by decide +kernel
theorem dX12_year_165 : decode cX12_year 165 = .ok (.putfield 45, 3) := by decide +kernel
theorem dX12_year_168 : decode cX12_year 168 = .ok (.aload_n 0, 1) := by decide +kernel
theorem dX12_year_169 : decode cX12_year 169 = .ok (.getfield 36, 3) := by decide +kernel
theorem dX12_year_172 : decode cX12_year 172 = .ok (.ifCond .le 9, 3) := by decide +kernel
theorem dX12_year_175 : decode cX12_year 175 = .ok (.aload_n 0, 1) := by decide +kernel
theorem dX12_year_176 : decode cX12_year 176 = .ok (.iconst 1, 1) := by decide +kernel
theorem dX12_year_177 : decode cX12_year 177 = .ok (.invokevirtual 280, 3) := by decide +kernel
theorem dX12_year_180 : decode cX12_year 180 = .ok (.ireturn, 1) := by decide +kernel
theorem dX12_year_181 : decode cX12_year 181 = .ok (.aload_n 0, 1) := by decide +kernel
theorem dX12_year_182 : decode cX12_year 182 = .ok (.aload_n 0, 1) := by decide +kernel
theorem dX12_year_183 : decode cX12_year 183 = .ok (.getfield 133, 3) := by decide +kernel
theorem dX12_year_186 : decode cX12_year 186 = .ok (.putfield 51, 3) := by decide +kernel
theorem dX12_year_189 : decode cX12_year 189 = .ok (.aload_n 0, 1) := by decide +kernel
theorem dX12_year_190 : decode cX12_year 190 = .ok (.invokevirtual 487, 3) := by decide +kernel
theorem dX12_year_193 : decode cX12_year 193 = .ok (.iload_n 1, 1) := by decide +kernel
theorem dX12_year_194 : decode cX12_year 194 = .ok (.ireturn, 1) := by decide +kernel
theorem dX12_fault_0 : decode cX12_fault 0 = .ok (.iload_n 1, 1) := by decide +kernel
theorem dX12_fault_1 : decode cX12_fault 1 = .ok (.ifCond .ne 10, 3) := by decide +kernel
theorem dX12_fault_4 : decode cX12_fault 4 = .ok (.aload_n 0, 1) := by decide +kernel
theorem dX12_fault_5 : decode cX12_fault 5 = .ok (.getfield 42, 3) := by decide +kernel
theorem dX12_fault_8 : decode cX12_fault 8 = .ok (.goto 16, 3) := by decide +kernel
theorem dX12_fault_11 : decode cX12_fault 11 = .ok (.iload_n 1, 1) := by decide +kernel
theorem dX12_fault_12 : decode cX12_fault 12 = .ok (.iconst 1, 1) := by decide +kernel
theorem dX12_fault_13 : decode cX12_fault 13 = .ok (.if_icmp .ne 10, 3) := by decide +kernel
theorem dX12_fault_16 : decode cX12_fault 16 = .ok (.aload_n 0, 1) := by decide +kernel
theorem dX12_fault_17 : decode cX12_fault 17 = .ok (.getfield 45, 3) := by decide +kernel
theorem dX12_fault_20 : decode cX12_fault 20 = .ok (.goto 4, 3) := by decide +kernel
theorem dX12_fault_23 : decode cX12_fault 23 = .ok (.iconst (-1), 1) := by decide +kernel
theorem dX12_fault_24 : decode cX12_fault 24 = .ok (.ireturn, 1) := by decide +kernel
theorem dX12_refuses_0 : decode cX12_refuses 0 = .ok (.aload_n 0, 1) := by decide +kernel
theorem dX12_refuses_1 : decode cX12_refuses 1 = .ok (.getfield 174, 3) := by decide +kernel
theorem dX12_refuses_4 : decode cX12_refuses 4 = .ok (.iload_n 1, 1) := by decide +kernel
theorem dX12_refuses_5 : decode cX12_refuses 5 = .ok (.dup2, 1) := by decide +kernel
theorem dX12_refuses_6 : decode cX12_refuses 6 = .ok (.iaload, 1) := by decide +kernel
theorem dX12_refuses_7 : decode cX12_refuses 7 = .ok (.iconst 1, 1) := by decide +kernel
theorem dX12_refuses_8 : decode cX12_refuses 8 = .ok (.iadd, 1) := by decide +kernel
theorem dX12_refuses_9 : decode cX12_refuses 9 = .ok (.iastore, 1) := by decide +kernel
theorem dX12_refuses_10 : decode cX12_refuses 10 = .ok (.iconst (-1), 1) := by decide +kernel
theorem dX12_refuses_11 : decode cX12_refuses 11 = .ok (.ireturn, 1) := by decide +kernel
theorem dX12_status_0 : decode cX12_status 0 = .ok (.iload_n 1, 1) := by decide +kernel
theorem dX12_status_1 : decode cX12_status 1 = .ok (.iconst 0, 1) := by decide +kernel
theorem dX12_status_2 : decode cX12_status 2 = .ok (.iconst 5, 1) := by decide +kernel
theorem dX12_status_3 : decode cX12_status 3 = .ok (.invokestatic 379, 3) := by decide +kernel
theorem dX12_status_6 : decode cX12_status 6 = .ok (.ifCond .eq 12, 3) := by decide +kernel
theorem dX12_status_9 : decode cX12_status 9 = .ok (.aload_n 0, 1) := by decide +kernel
theorem dX12_status_10 : decode cX12_status 10 = .ok (.getfield 174, 3) := by decide +kernel
theorem dX12_status_13 : decode cX12_status 13 = .ok (.iload_n 1, 1) := by decide +kernel
theorem dX12_status_14 : decode cX12_status 14 = .ok (.iaload, 1) := by decide +kernel
theorem dX12_status_15 : decode cX12_status 15 = .ok (.goto 4, 3) := by decide +kernel
theorem dX12_status_18 : decode cX12_status 18 = .ok (.iconst (-1), 1) := by decide +kernel
theorem dX12_status_19 : decode cX12_status 19 = .ok (.ireturn, 1) := by decide +kernel
theorem dX12_copies_0 : decode cX12_copies 0 = .ok (.aload_n 0, 1) := by decide +kernel
theorem dX12_copies_1 : decode cX12_copies 1 = .ok (.getfield 177, 3) := by decide +kernel
theorem dX12_copies_4 : decode cX12_copies 4 = .ok (.iload_n 1, 1) := by decide +kernel
theorem dX12_copies_5 : decode cX12_copies 5 = .ok (.aload_n 0, 1) := by decide +kernel
theorem dX12_copies_6 : decode cX12_copies 6 = .ok (.getfield 177, 3) := by decide +kernel
theorem dX12_copies_9 : decode cX12_copies 9 = .ok (.iload_n 2, 1) := by decide +kernel
theorem dX12_copies_10 : decode cX12_copies 10 = .ok (.iaload, 1) := by decide +kernel
theorem dX12_copies_11 : decode cX12_copies 11 = .ok (.iastore, 1) := by decide +kernel
theorem dX12_copies_12 : decode cX12_copies 12 = .ok (.aload_n 0, 1) := by decide +kernel
theorem dX12_copies_13 : decode cX12_copies 13 = .ok (.getfield 180, 3) := by decide +kernel
theorem dX12_copies_16 : decode cX12_copies 16 = .ok (.iload_n 1, 1) := by decide +kernel
theorem dX12_copies_17 : decode cX12_copies 17 = .ok (.aload_n 0, 1) := by decide +kernel
theorem dX12_copies_18 : decode cX12_copies 18 = .ok (.getfield 180, 3) := by decide +kernel
theorem dX12_copies_21 : decode cX12_copies 21 = .ok (.iload_n 2, 1) := by decide +kernel
theorem dX12_copies_22 : decode cX12_copies 22 = .ok (.iaload, 1) := by decide +kernel
theorem dX12_copies_23 : decode cX12_copies 23 = .ok (.iastore, 1) := by decide +kernel
theorem dX12_copies_24 : decode cX12_copies 24 = .ok (.aload_n 0, 1) := by decide +kernel
theorem dX12_copies_25 : decode cX12_copies 25 = .ok (.getfield 186, 3) := by decide +kernel
theorem dX12_copies_28 : decode cX12_copies 28 = .ok (.iload_n 1, 1) := by decide +kernel
theorem dX12_copies_29 : decode cX12_copies 29 = .ok (.aload_n 0, 1) := by decide +kernel
theorem dX12_copies_30 : decode cX12_copies 30 = .ok (.getfield 186, 3) := by decide +kernel
theorem dX12_copies_33 : decode cX12_copies 33 = .ok (.iload_n 2, 1) := by decide +kernel
theorem dX12_copies_34 : decode cX12_copies 34 = .ok (.iaload, 1) := by decide +kernel
theorem dX12_copies_35 : decode cX12_copies 35 = .ok (.iastore, 1) := by decide +kernel
theorem dX12_copies_36 : decode cX12_copies 36 = .ok (.aload_n 0, 1) := by decide +kernel
theorem dX12_copies_37 : decode cX12_copies 37 = .ok (.getfield 189, 3) := by decide +kernel
theorem dX12_copies_40 : decode cX12_copies 40 = .ok (.iload_n 1, 1) := by decide +kernel
theorem dX12_copies_41 : decode cX12_copies 41 = .ok (.aload_n 0, 1) := by decide +kernel
theorem dX12_copies_42 : decode cX12_copies 42 = .ok (.getfield 189, 3) := by decide +kernel
theorem dX12_copies_45 : decode cX12_copies 45 = .ok (.iload_n 2, 1) := by decide +kernel
theorem dX12_copies_46 : decode cX12_copies 46 = .ok (.iaload, 1) := by decide +kernel
theorem dX12_copies_47 : decode cX12_copies 47 = .ok (.iastore, 1) := by decide +kernel
theorem dX12_copies_48 : decode cX12_copies 48 = .ok (.iconst 0, 1) := by decide +kernel
theorem dX12_copies_49 : decode cX12_copies 49 = .ok (.istore_n 3, 1) := by decide +kernel
theorem dX12_copies_50 : decode cX12_copies 50 = .ok (.iload_n 3, 1) := by decide +kernel
theorem dX12_copies_51 : decode cX12_copies 51 = .ok (.bipush 8, 2) := by decide +kernel
theorem dX12_copies_53 : decode cX12_copies 53 = .ok (.if_icmp .ge 31, 3) := by decide +kernel
theorem dX12_copies_56 : decode cX12_copies 56 = .ok (.aload_n 0, 1) := by decide +kernel
theorem dX12_copies_57 : decode cX12_copies 57 = .ok (.getfield 183, 3) := by decide +kernel
theorem dX12_copies_60 : decode cX12_copies 60 = .ok (.bipush 8, 2) := by decide +kernel
theorem dX12_copies_62 : decode cX12_copies 62 = .ok (.iload_n 1, 1) := by decide +kernel
theorem dX12_copies_63 : decode cX12_copies 63 = .ok (.imul, 1) := by decide +kernel
theorem dX12_copies_64 : decode cX12_copies 64 = .ok (.iload_n 3, 1) := by decide +kernel
theorem dX12_copies_65 : decode cX12_copies 65 = .ok (.iadd, 1) := by decide +kernel
theorem dX12_copies_66 : decode cX12_copies 66 = .ok (.aload_n 0, 1) := by decide +kernel
theorem dX12_copies_67 : decode cX12_copies 67 = .ok (.getfield 183, 3) := by decide +kernel
theorem dX12_copies_70 : decode cX12_copies 70 = .ok (.bipush 8, 2) := by decide +kernel
theorem dX12_copies_72 : decode cX12_copies 72 = .ok (.iload_n 2, 1) := by decide +kernel
theorem dX12_copies_73 : decode cX12_copies 73 = .ok (.imul, 1) := by decide +kernel
theorem dX12_copies_74 : decode cX12_copies 74 = .ok (.iload_n 3, 1) := by decide +kernel
theorem dX12_copies_75 : decode cX12_copies 75 = .ok (.iadd, 1) := by decide +kernel
theorem dX12_copies_76 : decode cX12_copies 76 = .ok (.iaload, 1) := by decide +kernel
theorem dX12_copies_77 : decode cX12_copies 77 = .ok (.iastore, 1) := by decide +kernel
theorem dX12_copies_78 : decode cX12_copies 78 = .ok (.iinc 3 1, 3) := by decide +kernel
theorem dX12_copies_81 : decode cX12_copies 81 = .ok (.goto (-31), 3) := by decide +kernel
theorem dX12_copies_84 : decode cX12_copies 84 = .ok (.iconst 0, 1) := by decide +kernel
theorem dX12_copies_85 : decode cX12_copies 85 = .ok (.istore_n 3, 1) := by decide +kernel
theorem dX12_copies_86 : decode cX12_copies 86 = .ok (.iload_n 3, 1) := by decide +kernel
theorem dX12_copies_87 : decode cX12_copies 87 = .ok (.bipush 48, 2) := by decide +kernel
theorem dX12_copies_89 : decode cX12_copies 89 = .ok (.if_icmp .ge 31, 3) := by decide +kernel
theorem dX12_copies_92 : decode cX12_copies 92 = .ok (.aload_n 0, 1) := by decide +kernel
theorem dX12_copies_93 : decode cX12_copies 93 = .ok (.getfield 192, 3) := by decide +kernel
theorem dX12_copies_96 : decode cX12_copies 96 = .ok (.bipush 48, 2) := by decide +kernel
theorem dX12_copies_98 : decode cX12_copies 98 = .ok (.iload_n 1, 1) := by decide +kernel
theorem dX12_copies_99 : decode cX12_copies 99 = .ok (.imul, 1) := by decide +kernel
theorem dX12_copies_100 : decode cX12_copies 100 = .ok (.iload_n 3, 1) := by decide +kernel
theorem dX12_copies_101 : decode cX12_copies 101 = .ok (.iadd, 1) := by decide +kernel
theorem dX12_copies_102 : decode cX12_copies 102 = .ok (.aload_n 0, 1) := by decide +kernel
theorem dX12_copies_103 : decode cX12_copies 103 = .ok (.getfield 192, 3) := by decide +kernel
theorem dX12_copies_106 : decode cX12_copies 106 = .ok (.bipush 48, 2) := by decide +kernel
theorem dX12_copies_108 : decode cX12_copies 108 = .ok (.iload_n 2, 1) := by decide +kernel
theorem dX12_copies_109 : decode cX12_copies 109 = .ok (.imul, 1) := by decide +kernel
theorem dX12_copies_110 : decode cX12_copies 110 = .ok (.iload_n 3, 1) := by decide +kernel
theorem dX12_copies_111 : decode cX12_copies 111 = .ok (.iadd, 1) := by decide +kernel
theorem dX12_copies_112 : decode cX12_copies 112 = .ok (.iaload, 1) := by decide +kernel
theorem dX12_copies_113 : decode cX12_copies 113 = .ok (.iastore, 1) := by decide +kernel
theorem dX12_copies_114 : decode cX12_copies 114 = .ok (.iinc 3 1, 3) := by decide +kernel
theorem dX12_copies_117 : decode cX12_copies 117 = .ok (.goto (-31), 3) := by decide +kernel
theorem dX12_copies_120 : decode cX12_copies 120 = .ok (.iconst 0, 1) := by decide +kernel
theorem dX12_copies_121 : decode cX12_copies 121 = .ok (.istore_n 3, 1) := by decide +kernel
theorem dX12_copies_122 : decode cX12_copies 122 = .ok (.iload_n 3, 1) := by decide +kernel
theorem dX12_copies_123 : decode cX12_copies 123 = .ok (.bipush 6, 2) := by decide +kernel
theorem dX12_copies_125 : decode cX12_copies 125 = .ok (.if_icmp .ge 53, 3) := by decide +kernel
theorem dX12_copies_128 : decode cX12_copies 128 = .ok (.aload_n 0, 1) := by decide +kernel
theorem dX12_copies_129 : decode cX12_copies 129 = .ok (.getfield 195, 3) := by decide +kernel
theorem dX12_copies_132 : decode cX12_copies 132 = .ok (.bipush 6, 2) := by decide +kernel
theorem dX12_copies_134 : decode cX12_copies 134 = .ok (.iload_n 1, 1) := by decide +kernel
theorem dX12_copies_135 : decode cX12_copies 135 = .ok (.imul, 1) := by decide +kernel
theorem dX12_copies_136 : decode cX12_copies 136 = .ok (.iload_n 3, 1) := by decide +kernel
theorem dX12_copies_137 : decode cX12_copies 137 = .ok (.iadd, 1) := by decide +kernel
theorem dX12_copies_138 : decode cX12_copies 138 = .ok (.aload_n 0, 1) := by decide +kernel
theorem dX12_copies_139 : decode cX12_copies 139 = .ok (.getfield 195, 3) := by decide +kernel
theorem dX12_copies_142 : decode cX12_copies 142 = .ok (.bipush 6, 2) := by decide +kernel
theorem dX12_copies_144 : decode cX12_copies 144 = .ok (.iload_n 2, 1) := by decide +kernel
theorem dX12_copies_145 : decode cX12_copies 145 = .ok (.imul, 1) := by decide +kernel
theorem dX12_copies_146 : decode cX12_copies 146 = .ok (.iload_n 3, 1) := by decide +kernel
theorem dX12_copies_147 : decode cX12_copies 147 = .ok (.iadd, 1) := by decide +kernel
theorem dX12_copies_148 : decode cX12_copies 148 = .ok (.iaload, 1) := by decide +kernel
theorem dX12_copies_149 : decode cX12_copies 149 = .ok (.iastore, 1) := by decide +kernel
theorem dX12_copies_150 : decode cX12_copies 150 = .ok (.aload_n 0, 1) := by decide +kernel
theorem dX12_copies_151 : decode cX12_copies 151 = .ok (.getfield 198, 3) := by decide +kernel
theorem dX12_copies_154 : decode cX12_copies 154 = .ok (.bipush 6, 2) := by decide +kernel
theorem dX12_copies_156 : decode cX12_copies 156 = .ok (.iload_n 1, 1) := by decide +kernel
theorem dX12_copies_157 : decode cX12_copies 157 = .ok (.imul, 1) := by decide +kernel
theorem dX12_copies_158 : decode cX12_copies 158 = .ok (.iload_n 3, 1) := by decide +kernel
theorem dX12_copies_159 : decode cX12_copies 159 = .ok (.iadd, 1) := by decide +kernel
theorem dX12_copies_160 : decode cX12_copies 160 = .ok (.aload_n 0, 1) := by decide +kernel
theorem dX12_copies_161 : decode cX12_copies 161 = .ok (.getfield 198, 3) := by decide +kernel
theorem dX12_copies_164 : decode cX12_copies 164 = .ok (.bipush 6, 2) := by decide +kernel
theorem dX12_copies_166 : decode cX12_copies 166 = .ok (.iload_n 2, 1) := by decide +kernel
theorem dX12_copies_167 : decode cX12_copies 167 = .ok (.imul, 1) := by decide +kernel
theorem dX12_copies_168 : decode cX12_copies 168 = .ok (.iload_n 3, 1) := by decide +kernel
theorem dX12_copies_169 : decode cX12_copies 169 = .ok (.iadd, 1) := by decide +kernel
theorem dX12_copies_170 : decode cX12_copies 170 = .ok (.iaload, 1) := by decide +kernel
theorem dX12_copies_171 : decode cX12_copies 171 = .ok (.iastore, 1) := by decide +kernel
theorem dX12_copies_172 : decode cX12_copies 172 = .ok (.iinc 3 1, 3) := by decide +kernel
theorem dX12_copies_175 : decode cX12_copies 175 = .ok (.goto (-53), 3) := by decide +kernel
theorem dX12_copies_178 : decode cX12_copies 178 = .ok (.aload_n 0, 1) := by decide +kernel
theorem dX12_copies_179 : decode cX12_copies 179 = .ok (.getfield 201, 3) := by decide +kernel
theorem dX12_copies_182 : decode cX12_copies 182 = .ok (.iload_n 1, 1) := by decide +kernel
theorem dX12_copies_183 : decode cX12_copies 183 = .ok (.aload_n 0, 1) := by decide +kernel
theorem dX12_copies_184 : decode cX12_copies 184 = .ok (.getfield 201, 3) := by decide +kernel
theorem dX12_copies_187 : decode cX12_copies 187 = .ok (.iload_n 2, 1) := by decide +kernel
theorem dX12_copies_188 : decode cX12_copies 188 = .ok (.iaload, 1) := by decide +kernel
theorem dX12_copies_189 : decode cX12_copies 189 = .ok (.iastore, 1) := by decide +kernel
theorem dX12_copies_190 : decode cX12_copies 190 = .ok (.iconst 0, 1) := by decide +kernel
theorem dX12_copies_191 : decode cX12_copies 191 = .ok (.istore_n 3, 1) := by decide +kernel
theorem dX12_copies_192 : decode cX12_copies 192 = .ok (.iload_n 3, 1) := by decide +kernel
theorem dX12_copies_193 : decode cX12_copies 193 = .ok (.iconst 4, 1) := by decide +kernel
theorem dX12_copies_194 : decode cX12_copies 194 = .ok (.aload_n 0, 1) := by decide +kernel
theorem dX12_copies_195 : decode cX12_copies 195 = .ok (.getfield 201, 3) := by decide +kernel
theorem dX12_copies_198 : decode cX12_copies 198 = .ok (.iload_n 2, 1) := by decide +kernel
theorem dX12_copies_199 : decode cX12_copies 199 = .ok (.iaload, 1) := by decide +kernel
theorem dX12_copies_200 : decode cX12_copies 200 = .ok (.imul, 1) := by decide +kernel
theorem dX12_copies_201 : decode cX12_copies 201 = .ok (.if_icmp .ge 33, 3) := by decide +kernel
theorem dX12_copies_204 : decode cX12_copies 204 = .ok (.aload_n 0, 1) := by decide +kernel
theorem dX12_copies_205 : decode cX12_copies 205 = .ok (.getfield 204, 3) := by decide +kernel
theorem dX12_copies_208 : decode cX12_copies 208 = .ok (.sipush 240, 3) := by decide +kernel
theorem dX12_copies_211 : decode cX12_copies 211 = .ok (.iload_n 1, 1) := by decide +kernel
theorem dX12_copies_212 : decode cX12_copies 212 = .ok (.imul, 1) := by decide +kernel
theorem dX12_copies_213 : decode cX12_copies 213 = .ok (.iload_n 3, 1) := by decide +kernel
theorem dX12_copies_214 : decode cX12_copies 214 = .ok (.iadd, 1) := by decide +kernel
theorem dX12_copies_215 : decode cX12_copies 215 = .ok (.aload_n 0, 1) := by decide +kernel
theorem dX12_copies_216 : decode cX12_copies 216 = .ok (.getfield 204, 3) := by decide +kernel
theorem dX12_copies_219 : decode cX12_copies 219 = .ok (.sipush 240, 3) := by decide +kernel
theorem dX12_copies_222 : decode cX12_copies 222 = .ok (.iload_n 2, 1) := by decide +kernel
theorem dX12_copies_223 : decode cX12_copies 223 = .ok (.imul, 1) := by decide +kernel
theorem dX12_copies_224 : decode cX12_copies 224 = .ok (.iload_n 3, 1) := by decide +kernel
theorem dX12_copies_225 : decode cX12_copies 225 = .ok (.iadd, 1) := by decide +kernel
theorem dX12_copies_226 : decode cX12_copies 226 = .ok (.iaload, 1) := by decide +kernel
theorem dX12_copies_227 : decode cX12_copies 227 = .ok (.iastore, 1) := by decide +kernel
theorem dX12_copies_228 : decode cX12_copies 228 = .ok (.iinc 3 1, 3) := by decide +kernel
theorem dX12_copies_231 : decode cX12_copies 231 = .ok (.goto (-39), 3) := by decide +kernel
theorem dX12_copies_234 : decode cX12_copies 234 = .ok (.return_, 1) := by decide +kernel
theorem dX12_begin_0 : decode cX12_begin 0 = .ok (.aload_n 0, 1) := by decide +kernel
theorem dX12_begin_1 : decode cX12_begin 1 = .ok (.getfield 177, 3) := by decide +kernel
theorem dX12_begin_4 : decode cX12_begin 4 = .ok (.iconst 0, 1) := by decide +kernel
theorem dX12_begin_5 : decode cX12_begin 5 = .ok (.iconst 0, 1) := by decide +kernel
theorem dX12_begin_6 : decode cX12_begin 6 = .ok (.iastore, 1) := by decide +kernel
theorem dX12_begin_7 : decode cX12_begin 7 = .ok (.aload_n 0, 1) := by decide +kernel
theorem dX12_begin_8 : decode cX12_begin 8 = .ok (.getfield 180, 3) := by decide +kernel
theorem dX12_begin_11 : decode cX12_begin 11 = .ok (.iconst 0, 1) := by decide +kernel
theorem dX12_begin_12 : decode cX12_begin 12 = .ok (.iconst 0, 1) := by decide +kernel
theorem dX12_begin_13 : decode cX12_begin 13 = .ok (.iastore, 1) := by decide +kernel
theorem dX12_begin_14 : decode cX12_begin 14 = .ok (.aload_n 0, 1) := by decide +kernel
theorem dX12_begin_15 : decode cX12_begin 15 = .ok (.getfield 186, 3) := by decide +kernel
theorem dX12_begin_18 : decode cX12_begin 18 = .ok (.iconst 0, 1) := by decide +kernel
theorem dX12_begin_19 : decode cX12_begin 19 = .ok (.iconst 0, 1) := by decide +kernel
theorem dX12_begin_20 : decode cX12_begin 20 = .ok (.iastore, 1) := by decide +kernel
theorem dX12_begin_21 : decode cX12_begin 21 = .ok (.aload_n 0, 1) := by decide +kernel
theorem dX12_begin_22 : decode cX12_begin 22 = .ok (.getfield 189, 3) := by decide +kernel
theorem dX12_begin_25 : decode cX12_begin 25 = .ok (.iconst 0, 1) := by decide +kernel
theorem dX12_begin_26 : decode cX12_begin 26 = .ok (.iconst 0, 1) := by decide +kernel
theorem dX12_begin_27 : decode cX12_begin 27 = .ok (.iastore, 1) := by decide +kernel
theorem dX12_begin_28 : decode cX12_begin 28 = .ok (.iconst 0, 1) := by decide +kernel
theorem dX12_begin_29 : decode cX12_begin 29 = .ok (.istore_n 1, 1) := by decide +kernel
theorem dX12_begin_30 : decode cX12_begin 30 = .ok (.iload_n 1, 1) := by decide +kernel
theorem dX12_begin_31 : decode cX12_begin 31 = .ok (.bipush 8, 2) := by decide +kernel
theorem dX12_begin_33 : decode cX12_begin 33 = .ok (.if_icmp .ge 29, 3) := by decide +kernel
theorem dX12_begin_36 : decode cX12_begin 36 = .ok (.aload_n 0, 1) := by decide +kernel
theorem dX12_begin_37 : decode cX12_begin 37 = .ok (.getfield 183, 3) := by decide +kernel
theorem dX12_begin_40 : decode cX12_begin 40 = .ok (.iload_n 1, 1) := by decide +kernel
theorem dX12_begin_41 : decode cX12_begin 41 = .ok (.aload_n 0, 1) := by decide +kernel
theorem dX12_begin_42 : decode cX12_begin 42 = .ok (.getfield 69, 3) := by decide +kernel
theorem dX12_begin_45 : decode cX12_begin 45 = .ok (.bipush 8, 2) := by decide +kernel
theorem dX12_begin_47 : decode cX12_begin 47 = .ok (.aload_n 0, 1) := by decide +kernel
theorem dX12_begin_48 : decode cX12_begin 48 = .ok (.getfield 51, 3) := by decide +kernel
theorem dX12_begin_51 : decode cX12_begin 51 = .ok (.imul, 1) := by decide +kernel
theorem dX12_begin_52 : decode cX12_begin 52 = .ok (.iload_n 1, 1) := by decide +kernel
theorem dX12_begin_53 : decode cX12_begin 53 = .ok (.iadd, 1) := by decide +kernel
theorem dX12_begin_54 : decode cX12_begin 54 = .ok (.iaload, 1) := by decide +kernel
theorem dX12_begin_55 : decode cX12_begin 55 = .ok (.iastore, 1) := by decide +kernel
theorem dX12_begin_56 : decode cX12_begin 56 = .ok (.iinc 1 1, 3) := by decide +kernel
theorem dX12_begin_59 : decode cX12_begin 59 = .ok (.goto (-29), 3) := by decide +kernel
theorem dX12_begin_62 : decode cX12_begin 62 = .ok (.iconst 0, 1) := by decide +kernel
theorem dX12_begin_63 : decode cX12_begin 63 = .ok (.istore_n 1, 1) := by decide +kernel
theorem dX12_begin_64 : decode cX12_begin 64 = .ok (.iload_n 1, 1) := by decide +kernel
theorem dX12_begin_65 : decode cX12_begin 65 = .ok (.bipush 48, 2) := by decide +kernel
theorem dX12_begin_67 : decode cX12_begin 67 = .ok (.if_icmp .ge 29, 3) := by decide +kernel
theorem dX12_begin_70 : decode cX12_begin 70 = .ok (.aload_n 0, 1) := by decide +kernel
theorem dX12_begin_71 : decode cX12_begin 71 = .ok (.getfield 192, 3) := by decide +kernel
theorem dX12_begin_74 : decode cX12_begin 74 = .ok (.iload_n 1, 1) := by decide +kernel
theorem dX12_begin_75 : decode cX12_begin 75 = .ok (.aload_n 0, 1) := by decide +kernel
theorem dX12_begin_76 : decode cX12_begin 76 = .ok (.getfield 75, 3) := by decide +kernel
theorem dX12_begin_79 : decode cX12_begin 79 = .ok (.bipush 48, 2) := by decide +kernel
theorem dX12_begin_81 : decode cX12_begin 81 = .ok (.aload_n 0, 1) := by decide +kernel
theorem dX12_begin_82 : decode cX12_begin 82 = .ok (.getfield 51, 3) := by decide +kernel
theorem dX12_begin_85 : decode cX12_begin 85 = .ok (.imul, 1) := by decide +kernel
theorem dX12_begin_86 : decode cX12_begin 86 = .ok (.iload_n 1, 1) := by decide +kernel
theorem dX12_begin_87 : decode cX12_begin 87 = .ok (.iadd, 1) := by decide +kernel
theorem dX12_begin_88 : decode cX12_begin 88 = .ok (.iaload, 1) := by decide +kernel
theorem dX12_begin_89 : decode cX12_begin 89 = .ok (.iastore, 1) := by decide +kernel
theorem dX12_begin_90 : decode cX12_begin 90 = .ok (.iinc 1 1, 3) := by decide +kernel
theorem dX12_begin_93 : decode cX12_begin 93 = .ok (.goto (-29), 3) := by decide +kernel
theorem dX12_begin_96 : decode cX12_begin 96 = .ok (.iconst 0, 1) := by decide +kernel
theorem dX12_begin_97 : decode cX12_begin 97 = .ok (.istore_n 1, 1) := by decide +kernel
theorem dX12_begin_98 : decode cX12_begin 98 = .ok (.iload_n 1, 1) := by decide +kernel
theorem dX12_begin_99 : decode cX12_begin 99 = .ok (.bipush 6, 2) := by decide +kernel
theorem dX12_begin_101 : decode cX12_begin 101 = .ok (.if_icmp .ge 36, 3) := by decide +kernel
theorem dX12_begin_104 : decode cX12_begin 104 = .ok (.aload_n 0, 1) := by decide +kernel
theorem dX12_begin_105 : decode cX12_begin 105 = .ok (.getfield 195, 3) := by decide +kernel
theorem dX12_begin_108 : decode cX12_begin 108 = .ok (.iload_n 1, 1) := by decide +kernel
theorem dX12_begin_109 : decode cX12_begin 109 = .ok (.iconst 0, 1) := by decide +kernel
theorem dX12_begin_110 : decode cX12_begin 110 = .ok (.iastore, 1) := by decide +kernel
theorem dX12_begin_111 : decode cX12_begin 111 = .ok (.aload_n 0, 1) := by decide +kernel
theorem dX12_begin_112 : decode cX12_begin 112 = .ok (.getfield 198, 3) := by decide +kernel
theorem dX12_begin_115 : decode cX12_begin 115 = .ok (.iload_n 1, 1) := by decide +kernel
theorem dX12_begin_116 : decode cX12_begin 116 = .ok (.aload_n 0, 1) := by decide +kernel
theorem dX12_begin_117 : decode cX12_begin 117 = .ok (.getfield 81, 3) := by decide +kernel
theorem dX12_begin_120 : decode cX12_begin 120 = .ok (.bipush 6, 2) := by decide +kernel
theorem dX12_begin_122 : decode cX12_begin 122 = .ok (.aload_n 0, 1) := by decide +kernel
theorem dX12_begin_123 : decode cX12_begin 123 = .ok (.getfield 51, 3) := by decide +kernel
theorem dX12_begin_126 : decode cX12_begin 126 = .ok (.imul, 1) := by decide +kernel
theorem dX12_begin_127 : decode cX12_begin 127 = .ok (.iload_n 1, 1) := by decide +kernel
theorem dX12_begin_128 : decode cX12_begin 128 = .ok (.iadd, 1) := by decide +kernel
theorem dX12_begin_129 : decode cX12_begin 129 = .ok (.iaload, 1) := by decide +kernel
theorem dX12_begin_130 : decode cX12_begin 130 = .ok (.iastore, 1) := by decide +kernel
theorem dX12_begin_131 : decode cX12_begin 131 = .ok (.iinc 1 1, 3) := by decide +kernel
theorem dX12_begin_134 : decode cX12_begin 134 = .ok (.goto (-36), 3) := by decide +kernel
theorem dX12_begin_137 : decode cX12_begin 137 = .ok (.aload_n 0, 1) := by decide +kernel
theorem dX12_begin_138 : decode cX12_begin 138 = .ok (.getfield 201, 3) := by decide +kernel
theorem dX12_begin_141 : decode cX12_begin 141 = .ok (.iconst 0, 1) := by decide +kernel
theorem dX12_begin_142 : decode cX12_begin 142 = .ok (.iconst 0, 1) := by decide +kernel
theorem dX12_begin_143 : decode cX12_begin 143 = .ok (.iastore, 1) := by decide +kernel
theorem dX12_begin_144 : decode cX12_begin 144 = .ok (.aload_n 0, 1) := by decide +kernel
theorem dX12_begin_145 : decode cX12_begin 145 = .ok (.iconst 0, 1) := by decide +kernel
theorem dX12_begin_146 : decode cX12_begin 146 = .ok (.putfield 210, 3) := by decide +kernel
theorem dX12_begin_149 : decode cX12_begin 149 = .ok (.aload_n 0, 1) := by decide +kernel
theorem dX12_begin_150 : decode cX12_begin 150 = .ok (.iconst 0, 1) := by decide +kernel
theorem dX12_begin_151 : decode cX12_begin 151 = .ok (.putfield 264, 3) := by decide +kernel
theorem dX12_begin_154 : decode cX12_begin 154 = .ok (.return_, 1) := by decide +kernel
theorem dX12_slot_0 : decode cX12_slot 0 = .ok (.iconst 2, 1) := by decide +kernel
theorem dX12_slot_1 : decode cX12_slot 1 = .ok (.aload_n 0, 1) := by decide +kernel
theorem dX12_slot_2 : decode cX12_slot 2 = .ok (.getfield 207, 3) := by decide +kernel
theorem dX12_slot_5 : decode cX12_slot 5 = .ok (.iload_n 1, 1) := by decide +kernel
theorem dX12_slot_6 : decode cX12_slot 6 = .ok (.iadd, 1) := by decide +kernel
theorem dX12_slot_7 : decode cX12_slot 7 = .ok (.bipush 20, 2) := by decide +kernel
theorem dX12_slot_9 : decode cX12_slot 9 = .ok (.irem, 1) := by decide +kernel
theorem dX12_slot_10 : decode cX12_slot 10 = .ok (.iadd, 1) := by decide +kernel
theorem dX12_slot_11 : decode cX12_slot 11 = .ok (.ireturn, 1) := by decide +kernel
theorem dX12_keeps_0 : decode cX12_keeps 0 = .ok (.aload_n 0, 1) := by decide +kernel
theorem dX12_keeps_1 : decode cX12_keeps 1 = .ok (.getfield 210, 3) := by decide +kernel
theorem dX12_keeps_4 : decode cX12_keeps 4 = .ok (.bipush 20, 2) := by decide +kernel
theorem dX12_keeps_6 : decode cX12_keeps 6 = .ok (.if_icmp .ne 26, 3) := by decide +kernel
theorem dX12_keeps_9 : decode cX12_keeps 9 = .ok (.aload_n 0, 1) := by decide +kernel
theorem dX12_keeps_10 : decode cX12_keeps 10 = .ok (.aload_n 0, 1) := by decide +kernel
theorem dX12_keeps_11 : decode cX12_keeps 11 = .ok (.getfield 207, 3) := by decide +kernel
theorem dX12_keeps_14 : decode cX12_keeps 14 = .ok (.iconst 1, 1) := by decide +kernel
theorem dX12_keeps_15 : decode cX12_keeps 15 = .ok (.iadd, 1) := by decide +kernel
theorem dX12_keeps_16 : decode cX12_keeps 16 = .ok (.bipush 20, 2) := by decide +kernel
theorem dX12_keeps_18 : decode cX12_keeps 18 = .ok (.irem, 1) := by decide +kernel
theorem dX12_keeps_19 : decode cX12_keeps 19 = .ok (.putfield 207, 3) := by decide +kernel
theorem dX12_keeps_22 : decode cX12_keeps 22 = .ok (.aload_n 0, 1) := by decide +kernel
theorem dX12_keeps_23 : decode cX12_keeps 23 = .ok (.dup, 1) := by decide +kernel
theorem dX12_keeps_24 : decode cX12_keeps 24 = .ok (.getfield 210, 3) := by decide +kernel
theorem dX12_keeps_27 : decode cX12_keeps 27 = .ok (.iconst 1, 1) := by decide +kernel
theorem dX12_keeps_28 : decode cX12_keeps 28 = .ok (.isub, 1) := by decide +kernel
theorem dX12_keeps_29 : decode cX12_keeps 29 = .ok (.putfield 210, 3) := by decide +kernel
theorem dX12_keeps_32 : decode cX12_keeps 32 = .ok (.aload_n 0, 1) := by decide +kernel
theorem dX12_keeps_33 : decode cX12_keeps 33 = .ok (.aload_n 0, 1) := by decide +kernel
theorem dX12_keeps_34 : decode cX12_keeps 34 = .ok (.aload_n 0, 1) := by decide +kernel
theorem dX12_keeps_35 : decode cX12_keeps 35 = .ok (.getfield 210, 3) := by decide +kernel
theorem dX12_keeps_38 : decode cX12_keeps 38 = .ok (.invokevirtual 490, 3) := by decide +kernel
theorem dX12_keeps_41 : decode cX12_keeps 41 = .ok (.iconst 0, 1) := by decide +kernel
theorem dX12_keeps_42 : decode cX12_keeps 42 = .ok (.invokevirtual 493, 3) := by decide +kernel
theorem dX12_keeps_45 : decode cX12_keeps 45 = .ok (.aload_n 0, 1) := by decide +kernel
theorem dX12_keeps_46 : decode cX12_keeps 46 = .ok (.dup, 1) := by decide +kernel
theorem dX12_keeps_47 : decode cX12_keeps 47 = .ok (.getfield 210, 3) := by decide +kernel
theorem dX12_keeps_50 : decode cX12_keeps 50 = .ok (.iconst 1, 1) := by decide +kernel
theorem dX12_keeps_51 : decode cX12_keeps 51 = .ok (.iadd, 1) := by decide +kernel
theorem dX12_keeps_52 : decode cX12_keeps 52 = .ok (.putfield 210, 3) := by decide +kernel
theorem dX12_keeps_55 : decode cX12_keeps 55 = .ok (.return_, 1) := by decide +kernel
theorem dX12_undo_0 : decode cX12_undo 0 = .ok (.aload_n 0, 1) := by decide +kernel
theorem dX12_undo_1 : decode cX12_undo 1 = .ok (.getfield 210, 3) := by decide +kernel
theorem dX12_undo_4 : decode cX12_undo 4 = .ok (.ifCond .ne 17, 3) := by decide +kernel
theorem dX12_undo_7 : decode cX12_undo 7 = .ok (.aload_n 0, 1) := by decide +kernel
theorem dX12_undo_8 : decode cX12_undo 8 = .ok (.iconst 4, 1) := by decide +kernel
theorem dX12_undo_9 : decode cX12_undo 9 = .ok (.invokevirtual 280, 3) := by decide +kernel
theorem dX12_undo_12 : decode cX12_undo 12 = .ok (.ifCond .lt 7, 3) := by decide +kernel
theorem dX12_undo_15 : decode cX12_undo 15 = .ok (.iconst 1, 1) := by decide +kernel
theorem dX12_undo_16 : decode cX12_undo 16 = .ok (.goto 4, 3) := by decide +kernel
theorem dX12_undo_19 : decode cX12_undo 19 = .ok (.iconst 0, 1) := by decide +kernel
theorem dX12_undo_20 : decode cX12_undo 20 = .ok (.ireturn, 1) := by decide +kernel
theorem dX12_undo_21 : decode cX12_undo 21 = .ok (.aload_n 0, 1) := by decide +kernel
theorem dX12_undo_22 : decode cX12_undo 22 = .ok (.dup, 1) := by decide +kernel
theorem dX12_undo_23 : decode cX12_undo 23 = .ok (.getfield 210, 3) := by decide +kernel
theorem dX12_undo_26 : decode cX12_undo 26 = .ok (.iconst 1, 1) := by decide +kernel
theorem dX12_undo_27 : decode cX12_undo 27 = .ok (.isub, 1) := by decide +kernel
theorem dX12_undo_28 : decode cX12_undo 28 = .ok (.putfield 210, 3) := by decide +kernel
theorem dX12_undo_31 : decode cX12_undo 31 = .ok (.aload_n 0, 1) := by decide +kernel
theorem dX12_undo_32 : decode cX12_undo 32 = .ok (.iconst 0, 1) := by decide +kernel
theorem dX12_undo_33 : decode cX12_undo 33 = .ok (.aload_n 0, 1) := by decide +kernel
theorem dX12_undo_34 : decode cX12_undo 34 = .ok (.aload_n 0, 1) := by decide +kernel
theorem dX12_undo_35 : decode cX12_undo 35 = .ok (.getfield 210, 3) := by decide +kernel
theorem dX12_undo_38 : decode cX12_undo 38 = .ok (.invokevirtual 490, 3) := by decide +kernel
theorem dX12_undo_41 : decode cX12_undo 41 = .ok (.invokevirtual 493, 3) := by decide +kernel
theorem dX12_undo_44 : decode cX12_undo 44 = .ok (.iconst 1, 1) := by decide +kernel
theorem dX12_undo_45 : decode cX12_undo 45 = .ok (.ireturn, 1) := by decide +kernel
