theorem dX12_held_0 : decode cX12_held 0 = .ok (.lload_n 0, 1) := by decide +kernel
theorem dX12_held_1 : decode cX12_held 1 = .ok (.ldc2_w 496, 3) := by decide +kernel
theorem dX12_held_4 : decode cX12_held 4 = .ok (.lcmp, 1) := by decide +kernel
theorem dX12_held_5 : decode cX12_held 5 = .ok (.ifCond .le 9, 3) := by decide +kernel
theorem dX12_held_8 : decode cX12_held 8 = .ok (.ldc2_w 496, 3) := by decide +kernel
theorem dX12_held_11 : decode cX12_held 11 = .ok (.goto 18, 3) := by decide +kernel
theorem dX12_held_14 : decode cX12_held 14 = .ok (.lload_n 0, 1) := by decide +kernel
theorem dX12_held_15 : decode cX12_held 15 = .ok (.ldc2_w 498, 3) := by decide +kernel
theorem dX12_held_18 : decode cX12_held 18 = .ok (.lcmp, 1) := by decide +kernel
theorem dX12_held_19 : decode cX12_held 19 = .ok (.ifCond .ge 9, 3) := by decide +kernel
theorem dX12_held_22 : decode cX12_held 22 = .ok (.ldc2_w 498, 3) := by decide +kernel
theorem dX12_held_25 : decode cX12_held 25 = .ok (.goto 4, 3) := by decide +kernel
theorem dX12_held_28 : decode cX12_held 28 = .ok (.lload_n 0, 1) := by decide +kernel
theorem dX12_held_29 : decode cX12_held 29 = .ok (.lreturn, 1) := by decide +kernel
theorem dX12_floor_0 : decode cX12_floor 0 = .ok (.lload_n 2, 1) := by decide +kernel
theorem dX12_floor_1 : decode cX12_floor 1 = .ok (.lconst 0, 1) := by decide +kernel
theorem dX12_floor_2 : decode cX12_floor 2 = .ok (.lcmp, 1) := by decide +kernel
theorem dX12_floor_3 : decode cX12_floor 3 = .ok (.ifCond .ne 5, 3) := by decide +kernel
theorem dX12_floor_6 : decode cX12_floor 6 = .ok (.lconst 0, 1) := by decide +kernel
theorem dX12_floor_7 : decode cX12_floor 7 = .ok (.lreturn, 1) := by decide +kernel
theorem dX12_floor_8 : decode cX12_floor 8 = .ok (.lload_n 0, 1) := by decide +kernel
theorem dX12_floor_9 : decode cX12_floor 9 = .ok (.lload_n 2, 1) := by decide +kernel
theorem dX12_floor_10 : decode cX12_floor 10 = .ok (.ldiv, 1) := by decide +kernel
theorem dX12_floor_11 : decode cX12_floor 11 = .ok (.lstore 4, 2) := by decide +kernel
theorem dX12_floor_13 : decode cX12_floor 13 = .ok (.lload_n 0, 1) := by decide +kernel
theorem dX12_floor_14 : decode cX12_floor 14 = .ok (.lload_n 2, 1) := by decide +kernel
theorem dX12_floor_15 : decode cX12_floor 15 = .ok (.lrem, 1) := by decide +kernel
theorem dX12_floor_16 : decode cX12_floor 16 = .ok (.lconst 0, 1) := by decide +kernel
theorem dX12_floor_17 : decode cX12_floor 17 = .ok (.lcmp, 1) := by decide +kernel
theorem dX12_floor_18 : decode cX12_floor 18 = .ok (.ifCond .eq 35, 3) := by decide +kernel
theorem dX12_floor_21 : decode cX12_floor 21 = .ok (.lload_n 0, 1) := by decide +kernel
theorem dX12_floor_22 : decode cX12_floor 22 = .ok (.lconst 0, 1) := by decide +kernel
theorem dX12_floor_23 : decode cX12_floor 23 = .ok (.lcmp, 1) := by decide +kernel
theorem dX12_floor_24 : decode cX12_floor 24 = .ok (.ifCond .ge 7, 3) := by decide +kernel
theorem dX12_floor_27 : decode cX12_floor 27 = .ok (.iconst 1, 1) := by decide +kernel
theorem dX12_floor_28 : decode cX12_floor 28 = .ok (.goto 4, 3) := by decide +kernel
theorem dX12_floor_31 : decode cX12_floor 31 = .ok (.iconst 0, 1) := by decide +kernel
theorem dX12_floor_32 : decode cX12_floor 32 = .ok (.lload_n 2, 1) := by decide +kernel
theorem dX12_floor_33 : decode cX12_floor 33 = .ok (.lconst 0, 1) := by decide +kernel
theorem dX12_floor_34 : decode cX12_floor 34 = .ok (.lcmp, 1) := by decide +kernel
theorem dX12_floor_35 : decode cX12_floor 35 = .ok (.ifCond .ge 7, 3) := by decide +kernel
theorem dX12_floor_38 : decode cX12_floor 38 = .ok (.iconst 1, 1) := by decide +kernel
theorem dX12_floor_39 : decode cX12_floor 39 = .ok (.goto 4, 3) := by decide +kernel
theorem dX12_floor_42 : decode cX12_floor 42 = .ok (.iconst 0, 1) := by decide +kernel
theorem dX12_floor_43 : decode cX12_floor 43 = .ok (.if_icmp .eq 10, 3) := by decide +kernel
theorem dX12_floor_46 : decode cX12_floor 46 = .ok (.lload 4, 2) := by decide +kernel
theorem dX12_floor_48 : decode cX12_floor 48 = .ok (.lconst 1, 1) := by decide +kernel
theorem dX12_floor_49 : decode cX12_floor 49 = .ok (.lsub, 1) := by decide +kernel
theorem dX12_floor_50 : decode cX12_floor 50 = .ok (.goto 5, 3) := by decide +kernel
theorem dX12_floor_53 : decode cX12_floor 53 = .ok (.lload 4, 2) := by decide +kernel
theorem dX12_floor_55 : decode cX12_floor 55 = .ok (.lreturn, 1) := by decide +kernel
theorem dX12_two_0 : decode cX12_two 0 = .ok (.iload_n 0, 1) := by decide +kernel
theorem dX12_two_1 : decode cX12_two 1 = .ok (.tableswitch 176 31 41 #[59, 66, 73, 80, 89, 112, 124, 136, 148, 160, 172], 59) := by decide +kernel
theorem dX12_two_60 : decode cX12_two 60 = .ok (.lload_n 1, 1) := by decide +kernel
theorem dX12_two_61 : decode cX12_two 61 = .ok (.lload_n 3, 1) := by decide +kernel
theorem dX12_two_62 : decode cX12_two 62 = .ok (.ladd, 1) := by decide +kernel
theorem dX12_two_63 : decode cX12_two 63 = .ok (.invokestatic 500, 3) := by decide +kernel
theorem dX12_two_66 : decode cX12_two 66 = .ok (.lreturn, 1) := by decide +kernel
theorem dX12_two_67 : decode cX12_two 67 = .ok (.lload_n 1, 1) := by decide +kernel
theorem dX12_two_68 : decode cX12_two 68 = .ok (.lload_n 3, 1) := by decide +kernel
theorem dX12_two_69 : decode cX12_two 69 = .ok (.lsub, 1) := by decide +kernel
theorem dX12_two_70 : decode cX12_two 70 = .ok (.invokestatic 500, 3) := by decide +kernel
theorem dX12_two_73 : decode cX12_two 73 = .ok (.lreturn, 1) := by decide +kernel
theorem dX12_two_74 : decode cX12_two 74 = .ok (.lload_n 1, 1) := by decide +kernel
theorem dX12_two_75 : decode cX12_two 75 = .ok (.lload_n 3, 1) := by decide +kernel
theorem dX12_two_76 : decode cX12_two 76 = .ok (.lmul, 1) := by decide +kernel
theorem dX12_two_77 : decode cX12_two 77 = .ok (.invokestatic 500, 3) := by decide +kernel
theorem dX12_two_80 : decode cX12_two 80 = .ok (.lreturn, 1) := by decide +kernel
theorem dX12_two_81 : decode cX12_two 81 = .ok (.lload_n 1, 1) := by decide +kernel
theorem dX12_two_82 : decode cX12_two 82 = .ok (.lload_n 3, 1) := by decide +kernel
theorem dX12_two_83 : decode cX12_two 83 = .ok (.invokestatic 504, 3) := by decide +kernel
theorem dX12_two_86 : decode cX12_two 86 = .ok (.invokestatic 500, 3) := by decide +kernel
theorem dX12_two_89 : decode cX12_two 89 = .ok (.lreturn, 1) := by decide +kernel
theorem dX12_two_90 : decode cX12_two 90 = .ok (.lload_n 3, 1) := by decide +kernel
theorem dX12_two_91 : decode cX12_two 91 = .ok (.lconst 0, 1) := by decide +kernel
theorem dX12_two_92 : decode cX12_two 92 = .ok (.lcmp, 1) := by decide +kernel
theorem dX12_two_93 : decode cX12_two 93 = .ok (.ifCond .ne 7, 3) := by decide +kernel
theorem dX12_two_96 : decode cX12_two 96 = .ok (.lconst 0, 1) := by decide +kernel
theorem dX12_two_97 : decode cX12_two 97 = .ok (.goto 15, 3) := by decide +kernel
theorem dX12_two_100 : decode cX12_two 100 = .ok (.lload_n 1, 1) := by decide +kernel
theorem dX12_two_101 : decode cX12_two 101 = .ok (.lload_n 3, 1) := by decide +kernel
theorem dX12_two_102 : decode cX12_two 102 = .ok (.lload_n 1, 1) := by decide +kernel
theorem dX12_two_103 : decode cX12_two 103 = .ok (.lload_n 3, 1) := by decide +kernel
theorem dX12_two_104 : decode cX12_two 104 = .ok (.invokestatic 504, 3) := by decide +kernel
theorem dX12_two_107 : decode cX12_two 107 = .ok (.lmul, 1) := by decide +kernel
theorem dX12_two_108 : decode cX12_two 108 = .ok (.lsub, 1) := by decide +kernel
theorem dX12_two_109 : decode cX12_two 109 = .ok (.invokestatic 500, 3) := by decide +kernel
theorem dX12_two_112 : decode cX12_two 112 = .ok (.lreturn, 1) := by decide +kernel
theorem dX12_two_113 : decode cX12_two 113 = .ok (.lload_n 1, 1) := by decide +kernel
theorem dX12_two_114 : decode cX12_two 114 = .ok (.lload_n 3, 1) := by decide +kernel
theorem dX12_two_115 : decode cX12_two 115 = .ok (.lcmp, 1) := by decide +kernel
theorem dX12_two_116 : decode cX12_two 116 = .ok (.ifCond .ge 7, 3) := by decide +kernel
theorem dX12_two_119 : decode cX12_two 119 = .ok (.lload_n 1, 1) := by decide +kernel
theorem dX12_two_120 : decode cX12_two 120 = .ok (.goto 4, 3) := by decide +kernel
theorem dX12_two_123 : decode cX12_two 123 = .ok (.lload_n 3, 1) := by decide +kernel
theorem dX12_two_124 : decode cX12_two 124 = .ok (.lreturn, 1) := by decide +kernel
theorem dX12_two_125 : decode cX12_two 125 = .ok (.lload_n 1, 1) := by decide +kernel
theorem dX12_two_126 : decode cX12_two 126 = .ok (.lload_n 3, 1) := by decide +kernel
theorem dX12_two_127 : decode cX12_two 127 = .ok (.lcmp, 1) := by decide +kernel
theorem dX12_two_128 : decode cX12_two 128 = .ok (.ifCond .le 7, 3) := by decide +kernel
theorem dX12_two_131 : decode cX12_two 131 = .ok (.lload_n 1, 1) := by decide +kernel
theorem dX12_two_132 : decode cX12_two 132 = .ok (.goto 4, 3) := by decide +kernel
theorem dX12_two_135 : decode cX12_two 135 = .ok (.lload_n 3, 1) := by decide +kernel
theorem dX12_two_136 : decode cX12_two 136 = .ok (.lreturn, 1) := by decide +kernel
theorem dX12_two_137 : decode cX12_two 137 = .ok (.lload_n 1, 1) := by decide +kernel
theorem dX12_two_138 : decode cX12_two 138 = .ok (.lload_n 3, 1) := by decide +kernel
theorem dX12_two_139 : decode cX12_two 139 = .ok (.lcmp, 1) := by decide +kernel
theorem dX12_two_140 : decode cX12_two 140 = .ok (.ifCond .ge 7, 3) := by decide +kernel
theorem dX12_two_143 : decode cX12_two 143 = .ok (.lconst 1, 1) := by decide +kernel
theorem dX12_two_144 : decode cX12_two 144 = .ok (.goto 4, 3) := by decide +kernel
theorem dX12_two_147 : decode cX12_two 147 = .ok (.lconst 0, 1) := by decide +kernel
theorem dX12_two_148 : decode cX12_two 148 = .ok (.lreturn, 1) := by decide +kernel
theorem dX12_two_149 : decode cX12_two 149 = .ok (.lload_n 1, 1) := by decide +kernel
theorem dX12_two_150 : decode cX12_two 150 = .ok (.lload_n 3, 1) := by decide +kernel
theorem dX12_two_151 : decode cX12_two 151 = .ok (.lcmp, 1) := by decide +kernel
theorem dX12_two_152 : decode cX12_two 152 = .ok (.ifCond .le 7, 3) := by decide +kernel
theorem dX12_two_155 : decode cX12_two 155 = .ok (.lconst 1, 1) := by decide +kernel
theorem dX12_two_156 : decode cX12_two 156 = .ok (.goto 4, 3) := by decide +kernel
theorem dX12_two_159 : decode cX12_two 159 = .ok (.lconst 0, 1) := by decide +kernel
theorem dX12_two_160 : decode cX12_two 160 = .ok (.lreturn, 1) := by decide +kernel
theorem dX12_two_161 : decode cX12_two 161 = .ok (.lload_n 1, 1) := by decide +kernel
theorem dX12_two_162 : decode cX12_two 162 = .ok (.lload_n 3, 1) := by decide +kernel
theorem dX12_two_163 : decode cX12_two 163 = .ok (.lcmp, 1) := by decide +kernel
theorem dX12_two_164 : decode cX12_two 164 = .ok (.ifCond .ne 7, 3) := by decide +kernel
theorem dX12_two_167 : decode cX12_two 167 = .ok (.lconst 1, 1) := by decide +kernel
theorem dX12_two_168 : decode cX12_two 168 = .ok (.goto 4, 3) := by decide +kernel
theorem dX12_two_171 : decode cX12_two 171 = .ok (.lconst 0, 1) := by decide +kernel
theorem dX12_two_172 : decode cX12_two 172 = .ok (.lreturn, 1) := by decide +kernel
theorem dX12_two_173 : decode cX12_two 173 = .ok (.lload_n 1, 1) := by decide +kernel
theorem dX12_two_174 : decode cX12_two 174 = .ok (.lload_n 3, 1) := by decide +kernel
theorem dX12_two_175 : decode cX12_two 175 = .ok (.land, 1) := by decide +kernel
theorem dX12_two_176 : decode cX12_two 176 = .ok (.lreturn, 1) := by decide +kernel
theorem dX12_two_177 : decode cX12_two 177 = .ok (.lload_n 1, 1) := by decide +kernel
theorem dX12_two_178 : decode cX12_two 178 = .ok (.lload_n 3, 1) := by decide +kernel
theorem dX12_two_179 : decode cX12_two 179 = .ok (.lor, 1) := by decide +kernel
theorem dX12_two_180 : decode cX12_two 180 = .ok (.lreturn, 1) := by decide +kernel
theorem dX12_reckons_0 : decode cX12_reckons 0 = .ok (.iconst 0, 1) := by decide +kernel
theorem dX12_reckons_1 : decode cX12_reckons 1 = .ok (.istore_n 2, 1) := by decide +kernel
theorem dX12_reckons_2 : decode cX12_reckons 2 = .ok (.sipush 1600, 3) := by decide +kernel
theorem dX12_reckons_5 : decode cX12_reckons 5 = .ok (.aload_n 0, 1) := by decide +kernel
theorem dX12_reckons_6 : decode cX12_reckons 6 = .ok (.getfield 51, 3) := by decide +kernel
theorem dX12_reckons_9 : decode cX12_reckons 9 = .ok (.imul, 1) := by decide +kernel
theorem dX12_reckons_10 : decode cX12_reckons 10 = .ok (.aload_n 0, 1) := by decide +kernel
theorem dX12_reckons_11 : decode cX12_reckons 11 = .ok (.getfield 105, 3) := by decide +kernel
theorem dX12_reckons_14 : decode cX12_reckons 14 = .ok (.iconst 2, 1) := by decide +kernel
theorem dX12_reckons_15 : decode cX12_reckons 15 = .ok (.aload_n 0, 1) := by decide +kernel
theorem dX12_reckons_16 : decode cX12_reckons 16 = .ok (.getfield 51, 3) := by decide +kernel
theorem dX12_reckons_19 : decode cX12_reckons 19 = .ok (.imul, 1) := by decide +kernel
theorem dX12_reckons_20 : decode cX12_reckons 20 = .ok (.iload_n 1, 1) := by decide +kernel
theorem dX12_reckons_21 : decode cX12_reckons 21 = .ok (.iadd, 1) := by decide +kernel
theorem dX12_reckons_22 : decode cX12_reckons 22 = .ok (.iaload, 1) := by decide +kernel
theorem dX12_reckons_23 : decode cX12_reckons 23 = .ok (.iadd, 1) := by decide +kernel
theorem dX12_reckons_24 : decode cX12_reckons 24 = .ok (.istore_n 3, 1) := by decide +kernel
theorem dX12_reckons_25 : decode cX12_reckons 25 = .ok (.iload_n 3, 1) := by decide +kernel
theorem dX12_reckons_26 : decode cX12_reckons 26 = .ok (.sipush 1600, 3) := by decide +kernel
theorem dX12_reckons_29 : decode cX12_reckons 29 = .ok (.aload_n 0, 1) := by decide +kernel
theorem dX12_reckons_30 : decode cX12_reckons 30 = .ok (.getfield 51, 3) := by decide +kernel
theorem dX12_reckons_33 : decode cX12_reckons 33 = .ok (.imul, 1) := by decide +kernel
theorem dX12_reckons_34 : decode cX12_reckons 34 = .ok (.aload_n 0, 1) := by decide +kernel
theorem dX12_reckons_35 : decode cX12_reckons 35 = .ok (.getfield 108, 3) := by decide +kernel
theorem dX12_reckons_38 : decode cX12_reckons 38 = .ok (.iconst 2, 1) := by decide +kernel
theorem dX12_reckons_39 : decode cX12_reckons 39 = .ok (.aload_n 0, 1) := by decide +kernel
theorem dX12_reckons_40 : decode cX12_reckons 40 = .ok (.getfield 51, 3) := by decide +kernel
theorem dX12_reckons_43 : decode cX12_reckons 43 = .ok (.imul, 1) := by decide +kernel
theorem dX12_reckons_44 : decode cX12_reckons 44 = .ok (.iload_n 1, 1) := by decide +kernel
theorem dX12_reckons_45 : decode cX12_reckons 45 = .ok (.iadd, 1) := by decide +kernel
theorem dX12_reckons_46 : decode cX12_reckons 46 = .ok (.iaload, 1) := by decide +kernel
theorem dX12_reckons_47 : decode cX12_reckons 47 = .ok (.iadd, 1) := by decide +kernel
theorem dX12_reckons_48 : decode cX12_reckons 48 = .ok (.if_icmp .ge 179, 3) := by decide +kernel
theorem dX12_reckons_51 : decode cX12_reckons 51 = .ok (.aload_n 0, 1) := by decide +kernel
theorem dX12_reckons_52 : decode cX12_reckons 52 = .ok (.getfield 111, 3) := by decide +kernel
theorem dX12_reckons_55 : decode cX12_reckons 55 = .ok (.iload_n 3, 1) := by decide +kernel
theorem dX12_reckons_56 : decode cX12_reckons 56 = .ok (.iaload, 1) := by decide +kernel
theorem dX12_reckons_57 : decode cX12_reckons 57 = .ok (.istore 4, 2) := by decide +kernel
theorem dX12_reckons_59 : decode cX12_reckons 59 = .ok (.iload 4, 2) := by decide +kernel
theorem dX12_reckons_61 : decode cX12_reckons 61 = .ok (.bipush 30, 2) := by decide +kernel
theorem dX12_reckons_63 : decode cX12_reckons 63 = .ok (.if_icmp .gt 49, 3) := by decide +kernel
theorem dX12_reckons_66 : decode cX12_reckons 66 = .ok (.aload_n 0, 1) := by decide +kernel
theorem dX12_reckons_67 : decode cX12_reckons 67 = .ok (.getfield 216, 3) := by decide +kernel
theorem dX12_reckons_70 : decode cX12_reckons 70 = .ok (.iload_n 2, 1) := by decide +kernel
theorem dX12_reckons_71 : decode cX12_reckons 71 = .ok (.iload 4, 2) := by decide +kernel
theorem dX12_reckons_73 : decode cX12_reckons 73 = .ok (.ifCond .ne 13, 3) := by decide +kernel
theorem dX12_reckons_76 : decode cX12_reckons 76 = .ok (.aload_n 0, 1) := by decide +kernel
theorem dX12_reckons_77 : decode cX12_reckons 77 = .ok (.getfield 114, 3) := by decide +kernel
theorem dX12_reckons_80 : decode cX12_reckons 80 = .ok (.iload_n 3, 1) := by decide +kernel
theorem dX12_reckons_81 : decode cX12_reckons 81 = .ok (.iaload, 1) := by decide +kernel
theorem dX12_reckons_82 : decode cX12_reckons 82 = .ok (.i2l, 1) := by decide +kernel
theorem dX12_reckons_83 : decode cX12_reckons 83 = .ok (.goto 22, 3) := by decide +kernel
theorem dX12_reckons_86 : decode cX12_reckons 86 = .ok (.iload 4, 2) := by decide +kernel
theorem dX12_reckons_88 : decode cX12_reckons 88 = .ok (.bipush 30, 2) := by decide +kernel
theorem dX12_reckons_90 : decode cX12_reckons 90 = .ok (.if_icmp .ne 7, 3) := by decide +kernel
theorem dX12_reckons_93 : decode cX12_reckons 93 = .ok (.lconst 1, 1) := by decide +kernel
theorem dX12_reckons_94 : decode cX12_reckons 94 = .ok (.goto 11, 3) := by decide +kernel
theorem dX12_reckons_97 : decode cX12_reckons 97 = .ok (.aload_n 0, 1) := by decide +kernel
theorem dX12_reckons_98 : decode cX12_reckons 98 = .ok (.getfield 219, 3) := by decide +kernel
theorem dX12_reckons_101 : decode cX12_reckons 101 = .ok (.iload 4, 2) := by decide +kernel
theorem dX12_reckons_103 : decode cX12_reckons 103 = .ok (.iaload, 1) := by decide +kernel
theorem dX12_reckons_104 : decode cX12_reckons 104 = .ok (.i2l, 1) := by decide +kernel
theorem dX12_reckons_105 : decode cX12_reckons 105 = .ok (.lastore, 1) := by decide +kernel
theorem dX12_reckons_106 : decode cX12_reckons 106 = .ok (.iinc 2 1, 3) := by decide +kernel
theorem dX12_reckons_109 : decode cX12_reckons 109 = .ok (.goto 112, 3) := by decide +kernel
theorem dX12_reckons_112 : decode cX12_reckons 112 = .ok (.iload 4, 2) := by decide +kernel
theorem dX12_reckons_114 : decode cX12_reckons 114 = .ok (.bipush 43, 2) := by decide +kernel
theorem dX12_reckons_116 : decode cX12_reckons 116 = .ok (.if_icmp .ne 24, 3) := by decide +kernel
theorem dX12_reckons_119 : decode cX12_reckons 119 = .ok (.aload_n 0, 1) := by decide +kernel
theorem dX12_reckons_120 : decode cX12_reckons 120 = .ok (.getfield 216, 3) := by decide +kernel
theorem dX12_reckons_123 : decode cX12_reckons 123 = .ok (.iload_n 2, 1) := by decide +kernel
theorem dX12_reckons_124 : decode cX12_reckons 124 = .ok (.iconst 1, 1) := by decide +kernel
theorem dX12_reckons_125 : decode cX12_reckons 125 = .ok (.isub, 1) := by decide +kernel
theorem dX12_reckons_126 : decode cX12_reckons 126 = .ok (.lconst 1, 1) := by decide +kernel
theorem dX12_reckons_127 : decode cX12_reckons 127 = .ok (.aload_n 0, 1) := by decide +kernel
theorem dX12_reckons_128 : decode cX12_reckons 128 = .ok (.getfield 216, 3) := by decide +kernel
theorem dX12_reckons_131 : decode cX12_reckons 131 = .ok (.iload_n 2, 1) := by decide +kernel
theorem dX12_reckons_132 : decode cX12_reckons 132 = .ok (.iconst 1, 1) := by decide +kernel
theorem dX12_reckons_133 : decode cX12_reckons 133 = .ok (.isub, 1) := by decide +kernel
theorem dX12_reckons_134 : decode cX12_reckons 134 = .ok (.laload, 1) := by decide +kernel
theorem dX12_reckons_135 : decode cX12_reckons 135 = .ok (.lsub, 1) := by decide +kernel
theorem dX12_reckons_136 : decode cX12_reckons 136 = .ok (.lastore, 1) := by decide +kernel
theorem dX12_reckons_137 : decode cX12_reckons 137 = .ok (.goto 84, 3) := by decide +kernel
theorem dX12_reckons_140 : decode cX12_reckons 140 = .ok (.iload 4, 2) := by decide +kernel
theorem dX12_reckons_142 : decode cX12_reckons 142 = .ok (.bipush 44, 2) := by decide +kernel
theorem dX12_reckons_144 : decode cX12_reckons 144 = .ok (.if_icmp .ne 47, 3) := by decide +kernel
theorem dX12_reckons_147 : decode cX12_reckons 147 = .ok (.iinc 2 (-2), 3) := by decide +kernel
theorem dX12_reckons_150 : decode cX12_reckons 150 = .ok (.aload_n 0, 1) := by decide +kernel
theorem dX12_reckons_151 : decode cX12_reckons 151 = .ok (.getfield 216, 3) := by decide +kernel
theorem dX12_reckons_154 : decode cX12_reckons 154 = .ok (.iload_n 2, 1) := by decide +kernel
theorem dX12_reckons_155 : decode cX12_reckons 155 = .ok (.iconst 1, 1) := by decide +kernel
theorem dX12_reckons_156 : decode cX12_reckons 156 = .ok (.isub, 1) := by decide +kernel
theorem dX12_reckons_157 : decode cX12_reckons 157 = .ok (.aload_n 0, 1) := by decide +kernel
theorem dX12_reckons_158 : decode cX12_reckons 158 = .ok (.getfield 216, 3) := by decide +kernel
theorem dX12_reckons_161 : decode cX12_reckons 161 = .ok (.iload_n 2, 1) := by decide +kernel
theorem dX12_reckons_162 : decode cX12_reckons 162 = .ok (.iconst 1, 1) := by decide +kernel
theorem dX12_reckons_163 : decode cX12_reckons 163 = .ok (.isub, 1) := by decide +kernel
theorem dX12_reckons_164 : decode cX12_reckons 164 = .ok (.laload, 1) := by decide +kernel
theorem dX12_reckons_165 : decode cX12_reckons 165 = .ok (.lconst 1, 1) := by decide +kernel
theorem dX12_reckons_166 : decode cX12_reckons 166 = .ok (.lcmp, 1) := by decide +kernel
theorem dX12_reckons_167 : decode cX12_reckons 167 = .ok (.ifCond .ne 12, 3) := by decide +kernel
theorem dX12_reckons_170 : decode cX12_reckons 170 = .ok (.aload_n 0, 1) := by decide +kernel
theorem dX12_reckons_171 : decode cX12_reckons 171 = .ok (.getfield 216, 3) := by decide +kernel
theorem dX12_reckons_174 : decode cX12_reckons 174 = .ok (.iload_n 2, 1) := by decide +kernel
theorem dX12_reckons_175 : decode cX12_reckons 175 = .ok (.laload, 1) := by decide +kernel
theorem dX12_reckons_176 : decode cX12_reckons 176 = .ok (.goto 11, 3) := by decide +kernel
theorem dX12_reckons_179 : decode cX12_reckons 179 = .ok (.aload_n 0, 1) := by decide +kernel
theorem dX12_reckons_180 : decode cX12_reckons 180 = .ok (.getfield 216, 3) := by decide +kernel
theorem dX12_reckons_183 : decode cX12_reckons 183 = .ok (.iload_n 2, 1) := by decide +kernel
theorem dX12_reckons_184 : decode cX12_reckons 184 = .ok (.iconst 1, 1) := by decide +kernel
theorem dX12_reckons_185 : decode cX12_reckons 185 = .ok (.iadd, 1) := by decide +kernel
theorem dX12_reckons_186 : decode cX12_reckons 186 = .ok (.laload, 1) := by decide +kernel
theorem dX12_reckons_187 : decode cX12_reckons 187 = .ok (.lastore, 1) := by decide +kernel
theorem dX12_reckons_188 : decode cX12_reckons 188 = .ok (.goto 33, 3) := by decide +kernel
theorem dX12_reckons_191 : decode cX12_reckons 191 = .ok (.iinc 2 (-1), 3) := by decide +kernel
theorem dX12_reckons_194 : decode cX12_reckons 194 = .ok (.aload_n 0, 1) := by decide +kernel
theorem dX12_reckons_195 : decode cX12_reckons 195 = .ok (.getfield 216, 3) := by decide +kernel
theorem dX12_reckons_198 : decode cX12_reckons 198 = .ok (.iload_n 2, 1) := by decide +kernel
theorem dX12_reckons_199 : decode cX12_reckons 199 = .ok (.iconst 1, 1) := by decide +kernel
theorem dX12_reckons_200 : decode cX12_reckons 200 = .ok (.isub, 1) := by decide +kernel
theorem dX12_reckons_201 : decode cX12_reckons 201 = .ok (.iload 4, 2) := by decide +kernel
theorem dX12_reckons_203 : decode cX12_reckons 203 = .ok (.aload_n 0, 1) := by decide +kernel
theorem dX12_reckons_204 : decode cX12_reckons 204 = .ok (.getfield 216, 3) := by decide +kernel
theorem dX12_reckons_207 : decode cX12_reckons 207 = .ok (.iload_n 2, 1) := by decide +kernel
theorem dX12_reckons_208 : decode cX12_reckons 208 = .ok (.iconst 1, 1) := by decide +kernel
theorem dX12_reckons_209 : decode cX12_reckons 209 = .ok (.isub, 1) := by decide +kernel
theorem dX12_reckons_210 : decode cX12_reckons 210 = .ok (.laload, 1) := by decide +kernel
theorem dX12_reckons_211 : decode cX12_reckons 211 = .ok (.aload_n 0, 1) := by decide +kernel
theorem dX12_reckons_212 : decode cX12_reckons 212 = .ok (.getfield 216, 3) := by decide +kernel
theorem dX12_reckons_215 : decode cX12_reckons 215 = .ok (.iload_n 2, 1) := by decide +kernel
theorem dX12_reckons_216 : decode cX12_reckons 216 = .ok (.laload, 1) := by decide +kernel
theorem dX12_reckons_217 : decode cX12_reckons 217 = .ok (.invokestatic 508, 3) := by decide +kernel
theorem dX12_reckons_220 : decode cX12_reckons 220 = .ok (.lastore, 1) := by decide +kernel
theorem dX12_reckons_221 : decode cX12_reckons 221 = .ok (.iinc 3 1, 3) := by decide +kernel
theorem dX12_reckons_224 : decode cX12_reckons 224 = .ok (.goto (-199), 3) := by decide +kernel
theorem dX12_reckons_227 : decode cX12_reckons 227 = .ok (.aload_n 0, 1) := by decide +kernel
theorem dX12_reckons_228 : decode cX12_reckons 228 = .ok (.getfield 216, 3) := by decide +kernel
theorem dX12_reckons_231 : decode cX12_reckons 231 = .ok (.iconst 0, 1) := by decide +kernel
theorem dX12_reckons_232 : decode cX12_reckons 232 = .ok (.laload, 1) := by decide +kernel
theorem dX12_reckons_233 : decode cX12_reckons 233 = .ok (.lreturn, 1) := by decide +kernel
theorem dX12_isTold_0 : decode cX12_isTold 0 = .ok (.aload_n 0, 1) := by decide +kernel
theorem dX12_isTold_1 : decode cX12_isTold 1 = .ok (.getfield 105, 3) := by decide +kernel
theorem dX12_isTold_4 : decode cX12_isTold 4 = .ok (.iconst 2, 1) := by decide +kernel
theorem dX12_isTold_5 : decode cX12_isTold 5 = .ok (.aload_n 0, 1) := by decide +kernel
theorem dX12_isTold_6 : decode cX12_isTold 6 = .ok (.getfield 51, 3) := by decide +kernel
theorem dX12_isTold_9 : decode cX12_isTold 9 = .ok (.imul, 1) := by decide +kernel
theorem dX12_isTold_10 : decode cX12_isTold 10 = .ok (.iload_n 1, 1) := by decide +kernel
theorem dX12_isTold_11 : decode cX12_isTold 11 = .ok (.iadd, 1) := by decide +kernel
theorem dX12_isTold_12 : decode cX12_isTold 12 = .ok (.iaload, 1) := by decide +kernel
theorem dX12_isTold_13 : decode cX12_isTold 13 = .ok (.iconst (-1), 1) := by decide +kernel
theorem dX12_isTold_14 : decode cX12_isTold 14 = .ok (.if_icmp .eq 7, 3) := by decide +kernel
theorem dX12_isTold_17 : decode cX12_isTold 17 = .ok (.iconst 1, 1) := by decide +kernel
theorem dX12_isTold_18 : decode cX12_isTold 18 = .ok (.goto 4, 3) := by decide +kernel
theorem dX12_isTold_21 : decode cX12_isTold 21 = .ok (.iconst 0, 1) := by decide +kernel
theorem dX12_isTold_22 : decode cX12_isTold 22 = .ok (.ireturn, 1) := by decide +kernel
theorem dX12_restOf_0 : decode cX12_restOf 0 = .ok (.iload_n 1, 1) := by decide +kernel
theorem dX12_restOf_1 : decode cX12_restOf 1 = .ok (.aload_n 0, 1) := by decide +kernel
theorem dX12_restOf_2 : decode cX12_restOf 2 = .ok (.getfield 222, 3) := by decide +kernel
theorem dX12_restOf_5 : decode cX12_restOf 5 = .ok (.if_icmp .ne 10, 3) := by decide +kernel
theorem dX12_restOf_8 : decode cX12_restOf 8 = .ok (.aload_n 0, 1) := by decide +kernel
theorem dX12_restOf_9 : decode cX12_restOf 9 = .ok (.getfield 225, 3) := by decide +kernel
theorem dX12_restOf_12 : decode cX12_restOf 12 = .ok (.goto 17, 3) := by decide +kernel
theorem dX12_restOf_15 : decode cX12_restOf 15 = .ok (.aload_n 0, 1) := by decide +kernel
theorem dX12_restOf_16 : decode cX12_restOf 16 = .ok (.getfield 57, 3) := by decide +kernel
theorem dX12_restOf_19 : decode cX12_restOf 19 = .ok (.bipush 6, 2) := by decide +kernel
theorem dX12_restOf_21 : decode cX12_restOf 21 = .ok (.aload_n 0, 1) := by decide +kernel
theorem dX12_restOf_22 : decode cX12_restOf 22 = .ok (.getfield 51, 3) := by decide +kernel
theorem dX12_restOf_25 : decode cX12_restOf 25 = .ok (.imul, 1) := by decide +kernel
theorem dX12_restOf_26 : decode cX12_restOf 26 = .ok (.iload_n 1, 1) := by decide +kernel
theorem dX12_restOf_27 : decode cX12_restOf 27 = .ok (.iadd, 1) := by decide +kernel
theorem dX12_restOf_28 : decode cX12_restOf 28 = .ok (.iaload, 1) := by decide +kernel
theorem dX12_restOf_29 : decode cX12_restOf 29 = .ok (.ireturn, 1) := by decide +kernel
theorem dX12_isRestDay_0 : decode cX12_isRestDay 0 = .ok (.iload_n 2, 1) := by decide +kernel
theorem dX12_isRestDay_1 : decode cX12_isRestDay 1 = .ok (.aload_n 0, 1) := by decide +kernel
theorem dX12_isRestDay_2 : decode cX12_isRestDay 2 = .ok (.getfield 60, 3) := by decide +kernel
theorem dX12_isRestDay_5 : decode cX12_isRestDay 5 = .ok (.bipush 6, 2) := by decide +kernel
theorem dX12_isRestDay_7 : decode cX12_isRestDay 7 = .ok (.aload_n 0, 1) := by decide +kernel
theorem dX12_isRestDay_8 : decode cX12_isRestDay 8 = .ok (.getfield 51, 3) := by decide +kernel
theorem dX12_isRestDay_11 : decode cX12_isRestDay 11 = .ok (.imul, 1) := by decide +kernel
theorem dX12_isRestDay_12 : decode cX12_isRestDay 12 = .ok (.iload_n 1, 1) := by decide +kernel
theorem dX12_isRestDay_13 : decode cX12_isRestDay 13 = .ok (.iadd, 1) := by decide +kernel
theorem dX12_isRestDay_14 : decode cX12_isRestDay 14 = .ok (.iaload, 1) := by decide +kernel
theorem dX12_isRestDay_15 : decode cX12_isRestDay 15 = .ok (.irem, 1) := by decide +kernel
theorem dX12_isRestDay_16 : decode cX12_isRestDay 16 = .ok (.aload_n 0, 1) := by decide +kernel
theorem dX12_isRestDay_17 : decode cX12_isRestDay 17 = .ok (.iload_n 1, 1) := by decide +kernel
theorem dX12_isRestDay_18 : decode cX12_isRestDay 18 = .ok (.invokevirtual 512, 3) := by decide +kernel
theorem dX12_isRestDay_21 : decode cX12_isRestDay 21 = .ok (.if_icmp .ne 7, 3) := by decide +kernel
theorem dX12_isRestDay_24 : decode cX12_isRestDay 24 = .ok (.iconst 1, 1) := by decide +kernel
theorem dX12_isRestDay_25 : decode cX12_isRestDay 25 = .ok (.goto 4, 3) := by decide +kernel
theorem dX12_isRestDay_28 : decode cX12_isRestDay 28 = .ok (.iconst 0, 1) := by decide +kernel
theorem dX12_isRestDay_29 : decode cX12_isRestDay 29 = .ok (.ireturn, 1) := by decide +kernel
theorem dX12_kindOfTool_0 : decode cX12_kindOfTool 0 = .ok (.aload_n 0, 1) := by decide +kernel
theorem dX12_kindOfTool_1 : decode cX12_kindOfTool 1 = .ok (.getfield 66, 3) := by decide +kernel
theorem dX12_kindOfTool_4 : decode cX12_kindOfTool 4 = .ok (.bipush 8, 2) := by decide +kernel
theorem dX12_kindOfTool_6 : decode cX12_kindOfTool 6 = .ok (.aload_n 0, 1) := by decide +kernel
theorem dX12_kindOfTool_7 : decode cX12_kindOfTool 7 = .ok (.getfield 51, 3) := by decide +kernel
theorem dX12_kindOfTool_10 : decode cX12_kindOfTool 10 = .ok (.imul, 1) := by decide +kernel
theorem dX12_kindOfTool_11 : decode cX12_kindOfTool 11 = .ok (.iload_n 1, 1) := by decide +kernel
theorem dX12_kindOfTool_12 : decode cX12_kindOfTool 12 = .ok (.iadd, 1) := by decide +kernel
theorem dX12_kindOfTool_13 : decode cX12_kindOfTool 13 = .ok (.iaload, 1) := by decide +kernel
theorem dX12_kindOfTool_14 : decode cX12_kindOfTool 14 = .ok (.ireturn, 1) := by decide +kernel
theorem dX12_knownIn_0 : decode cX12_knownIn 0 = .ok (.aload_n 0, 1) := by decide +kernel
theorem dX12_knownIn_1 : decode cX12_knownIn 1 = .ok (.getfield 192, 3) := by decide +kernel
theorem dX12_knownIn_4 : decode cX12_knownIn 4 = .ok (.bipush 48, 2) := by decide +kernel
theorem dX12_knownIn_6 : decode cX12_knownIn 6 = .ok (.iload_n 1, 1) := by decide +kernel
theorem dX12_knownIn_7 : decode cX12_knownIn 7 = .ok (.imul, 1) := by decide +kernel
theorem dX12_knownIn_8 : decode cX12_knownIn 8 = .ok (.bipush 8, 2) := by decide +kernel
theorem dX12_knownIn_10 : decode cX12_knownIn 10 = .ok (.iload_n 2, 1) := by decide +kernel
theorem dX12_knownIn_11 : decode cX12_knownIn 11 = .ok (.imul, 1) := by decide +kernel
theorem dX12_knownIn_12 : decode cX12_knownIn 12 = .ok (.iadd, 1) := by decide +kernel
theorem dX12_knownIn_13 : decode cX12_knownIn 13 = .ok (.iload_n 3, 1) := by decide +kernel
theorem dX12_knownIn_14 : decode cX12_knownIn 14 = .ok (.iadd, 1) := by decide +kernel
theorem dX12_knownIn_15 : decode cX12_knownIn 15 = .ok (.iaload, 1) := by decide +kernel
theorem dX12_knownIn_16 : decode cX12_knownIn 16 = .ok (.ireturn, 1) := by decide +kernel
theorem dX12_doneIn_0 : decode cX12_doneIn 0 = .ok (.aload_n 0, 1) := by decide +kernel
theorem dX12_doneIn_1 : decode cX12_doneIn 1 = .ok (.getfield 195, 3) := by decide +kernel
theorem dX12_doneIn_4 : decode cX12_doneIn 4 = .ok (.bipush 6, 2) := by decide +kernel
theorem dX12_doneIn_6 : decode cX12_doneIn 6 = .ok (.iload_n 1, 1) := by decide +kernel
theorem dX12_doneIn_7 : decode cX12_doneIn 7 = .ok (.imul, 1) := by decide +kernel
theorem dX12_doneIn_8 : decode cX12_doneIn 8 = .ok (.iload_n 2, 1) := by decide +kernel
theorem dX12_doneIn_9 : decode cX12_doneIn 9 = .ok (.iadd, 1) := by decide +kernel
theorem dX12_doneIn_10 : decode cX12_doneIn 10 = .ok (.iaload, 1) := by decide +kernel
theorem dX12_doneIn_11 : decode cX12_doneIn 11 = .ok (.ireturn, 1) := by decide +kernel
theorem dX12_stepsOf_0 : decode cX12_stepsOf 0 = .ok (.aload_n 0, 1) := by decide +kernel
theorem dX12_stepsOf_1 : decode cX12_stepsOf 1 = .ok (.getfield 84, 3) := by decide +kernel
theorem dX12_stepsOf_4 : decode cX12_stepsOf 4 = .ok (.bipush 6, 2) := by decide +kernel
theorem dX12_stepsOf_6 : decode cX12_stepsOf 6 = .ok (.aload_n 0, 1) := by decide +kernel
theorem dX12_stepsOf_7 : decode cX12_stepsOf 7 = .ok (.getfield 51, 3) := by decide +kernel
theorem dX12_stepsOf_10 : decode cX12_stepsOf 10 = .ok (.imul, 1) := by decide +kernel
theorem dX12_stepsOf_11 : decode cX12_stepsOf 11 = .ok (.iload_n 1, 1) := by decide +kernel
theorem dX12_stepsOf_12 : decode cX12_stepsOf 12 = .ok (.iadd, 1) := by decide +kernel
theorem dX12_stepsOf_13 : decode cX12_stepsOf 13 = .ok (.iaload, 1) := by decide +kernel
theorem dX12_stepsOf_14 : decode cX12_stepsOf 14 = .ok (.ireturn, 1) := by decide +kernel
theorem dX12_isDone_0 : decode cX12_isDone 0 = .ok (.aload_n 0, 1) := by decide +kernel
theorem dX12_isDone_1 : decode cX12_isDone 1 = .ok (.iload_n 1, 1) := by decide +kernel
theorem dX12_isDone_2 : decode cX12_isDone 2 = .ok (.iload_n 2, 1) := by decide +kernel
theorem dX12_isDone_3 : decode cX12_isDone 3 = .ok (.invokevirtual 515, 3) := by decide +kernel
theorem dX12_isDone_6 : decode cX12_isDone 6 = .ok (.aload_n 0, 1) := by decide +kernel
theorem dX12_isDone_7 : decode cX12_isDone 7 = .ok (.iload_n 2, 1) := by decide +kernel
theorem dX12_isDone_8 : decode cX12_isDone 8 = .ok (.invokevirtual 518, 3) := by decide +kernel
theorem dX12_isDone_11 : decode cX12_isDone 11 = .ok (.if_icmp .ne 7, 3) := by decide +kernel
theorem dX12_isDone_14 : decode cX12_isDone 14 = .ok (.iconst 1, 1) := by decide +kernel
theorem dX12_isDone_15 : decode cX12_isDone 15 = .ok (.goto 4, 3) := by decide +kernel
theorem dX12_isDone_18 : decode cX12_isDone 18 = .ok (.iconst 0, 1) := by decide +kernel
theorem dX12_isDone_19 : decode cX12_isDone 19 = .ok (.ireturn, 1) := by decide +kernel
theorem dX12_lateIn_0 : decode cX12_lateIn 0 = .ok (.aload_n 0, 1) := by decide +kernel
theorem dX12_lateIn_1 : decode cX12_lateIn 1 = .ok (.iload_n 1, 1) := by decide +kernel
theorem dX12_lateIn_2 : decode cX12_lateIn 2 = .ok (.iload_n 2, 1) := by decide +kernel
theorem dX12_lateIn_3 : decode cX12_lateIn 3 = .ok (.invokevirtual 521, 3) := by decide +kernel
theorem dX12_lateIn_6 : decode cX12_lateIn 6 = .ok (.ifCond .ne 23, 3) := by decide +kernel
theorem dX12_lateIn_9 : decode cX12_lateIn 9 = .ok (.aload_n 0, 1) := by decide +kernel
theorem dX12_lateIn_10 : decode cX12_lateIn 10 = .ok (.getfield 177, 3) := by decide +kernel
theorem dX12_lateIn_13 : decode cX12_lateIn 13 = .ok (.iload_n 1, 1) := by decide +kernel
theorem dX12_lateIn_14 : decode cX12_lateIn 14 = .ok (.iaload, 1) := by decide +kernel
theorem dX12_lateIn_15 : decode cX12_lateIn 15 = .ok (.aload_n 0, 1) := by decide +kernel
theorem dX12_lateIn_16 : decode cX12_lateIn 16 = .ok (.getfield 198, 3) := by decide +kernel
theorem dX12_lateIn_19 : decode cX12_lateIn 19 = .ok (.bipush 6, 2) := by decide +kernel
theorem dX12_lateIn_21 : decode cX12_lateIn 21 = .ok (.iload_n 1, 1) := by decide +kernel
theorem dX12_lateIn_22 : decode cX12_lateIn 22 = .ok (.imul, 1) := by decide +kernel
theorem dX12_lateIn_23 : decode cX12_lateIn 23 = .ok (.iload_n 2, 1) := by decide +kernel
theorem dX12_lateIn_24 : decode cX12_lateIn 24 = .ok (.iadd, 1) := by decide +kernel
theorem dX12_lateIn_25 : decode cX12_lateIn 25 = .ok (.iaload, 1) := by decide +kernel
theorem dX12_lateIn_26 : decode cX12_lateIn 26 = .ok (.if_icmp .gt 7, 3) := by decide +kernel
theorem dX12_lateIn_29 : decode cX12_lateIn 29 = .ok (.iconst 0, 1) := by decide +kernel
theorem dX12_lateIn_30 : decode cX12_lateIn 30 = .ok (.goto 21, 3) := by decide +kernel
theorem dX12_lateIn_33 : decode cX12_lateIn 33 = .ok (.aload_n 0, 1) := by decide +kernel
theorem dX12_lateIn_34 : decode cX12_lateIn 34 = .ok (.getfield 177, 3) := by decide +kernel
theorem dX12_lateIn_37 : decode cX12_lateIn 37 = .ok (.iload_n 1, 1) := by decide +kernel
theorem dX12_lateIn_38 : decode cX12_lateIn 38 = .ok (.iaload, 1) := by decide +kernel
theorem dX12_lateIn_39 : decode cX12_lateIn 39 = .ok (.aload_n 0, 1) := by decide +kernel
theorem dX12_lateIn_40 : decode cX12_lateIn 40 = .ok (.getfield 198, 3) := by decide +kernel
theorem dX12_lateIn_43 : decode cX12_lateIn 43 = .ok (.bipush 6, 2) := by decide +kernel
theorem dX12_lateIn_45 : decode cX12_lateIn 45 = .ok (.iload_n 1, 1) := by decide +kernel
theorem dX12_lateIn_46 : decode cX12_lateIn 46 = .ok (.imul, 1) := by decide +kernel
theorem dX12_lateIn_47 : decode cX12_lateIn 47 = .ok (.iload_n 2, 1) := by decide +kernel
theorem dX12_lateIn_48 : decode cX12_lateIn 48 = .ok (.iadd, 1) := by decide +kernel
theorem dX12_lateIn_49 : decode cX12_lateIn 49 = .ok (.iaload, 1) := by decide +kernel
theorem dX12_lateIn_50 : decode cX12_lateIn 50 = .ok (.isub, 1) := by decide +kernel
theorem dX12_lateIn_51 : decode cX12_lateIn 51 = .ok (.ireturn, 1) := by decide +kernel
theorem dX12_step_0 : decode cX12_step 0 = .ok (.iconst 4, 1) := by decide +kernel
theorem dX12_step_1 : decode cX12_step 1 = .ok (.bipush 6, 2) := by decide +kernel
theorem dX12_step_3 : decode cX12_step 3 = .ok (.aload_n 0, 1) := by decide +kernel
theorem dX12_step_4 : decode cX12_step 4 = .ok (.getfield 51, 3) := by decide +kernel
theorem dX12_step_7 : decode cX12_step 7 = .ok (.imul, 1) := by decide +kernel
theorem dX12_step_8 : decode cX12_step 8 = .ok (.iload_n 2, 1) := by decide +kernel
theorem dX12_step_9 : decode cX12_step 9 = .ok (.iadd, 1) := by decide +kernel
theorem dX12_step_10 : decode cX12_step 10 = .ok (.imul, 1) := by decide +kernel
theorem dX12_step_11 : decode cX12_step 11 = .ok (.aload_n 0, 1) := by decide +kernel
theorem dX12_step_12 : decode cX12_step 12 = .ok (.iload_n 1, 1) := by decide +kernel
theorem dX12_step_13 : decode cX12_step 13 = .ok (.iload_n 2, 1) := by decide +kernel
theorem dX12_step_14 : decode cX12_step 14 = .ok (.invokevirtual 515, 3) := by decide +kernel
theorem dX12_step_17 : decode cX12_step 17 = .ok (.iadd, 1) := by decide +kernel
theorem dX12_step_18 : decode cX12_step 18 = .ok (.ireturn, 1) := by decide +kernel
theorem dX12_tells_0 : decode cX12_tells 0 = .ok (.aload_n 0, 1) := by decide +kernel
theorem dX12_tells_1 : decode cX12_tells 1 = .ok (.getfield 219, 3) := by decide +kernel
theorem dX12_tells_4 : decode cX12_tells 4 = .ok (.iconst 1, 1) := by decide +kernel
theorem dX12_tells_5 : decode cX12_tells 5 = .ok (.aload_n 0, 1) := by decide +kernel
theorem dX12_tells_6 : decode cX12_tells 6 = .ok (.aload_n 0, 1) := by decide +kernel
theorem dX12_tells_7 : decode cX12_tells 7 = .ok (.iload_n 3, 1) := by decide +kernel
theorem dX12_tells_8 : decode cX12_tells 8 = .ok (.invokevirtual 524, 3) := by decide +kernel
theorem dX12_tells_11 : decode cX12_tells 11 = .ok (.aload_n 0, 1) := by decide +kernel
theorem dX12_tells_12 : decode cX12_tells 12 = .ok (.getfield 177, 3) := by decide +kernel
theorem dX12_tells_15 : decode cX12_tells 15 = .ok (.iload_n 1, 1) := by decide +kernel
theorem dX12_tells_16 : decode cX12_tells 16 = .ok (.iaload, 1) := by decide +kernel
theorem dX12_tells_17 : decode cX12_tells 17 = .ok (.invokevirtual 527, 3) := by decide +kernel
theorem dX12_tells_20 : decode cX12_tells 20 = .ok (.ifCond .eq 7, 3) := by decide +kernel
theorem dX12_tells_23 : decode cX12_tells 23 = .ok (.iconst 1, 1) := by decide +kernel
theorem dX12_tells_24 : decode cX12_tells 24 = .ok (.goto 4, 3) := by decide +kernel
theorem dX12_tells_27 : decode cX12_tells 27 = .ok (.iconst 0, 1) := by decide +kernel
theorem dX12_tells_28 : decode cX12_tells 28 = .ok (.iastore, 1) := by decide +kernel
theorem dX12_tells_29 : decode cX12_tells 29 = .ok (.aload_n 0, 1) := by decide +kernel
theorem dX12_tells_30 : decode cX12_tells 30 = .ok (.getfield 219, 3) := by decide +kernel
theorem dX12_tells_33 : decode cX12_tells 33 = .ok (.iconst 2, 1) := by decide +kernel
theorem dX12_tells_34 : decode cX12_tells 34 = .ok (.aload_n 0, 1) := by decide +kernel
theorem dX12_tells_35 : decode cX12_tells 35 = .ok (.getfield 183, 3) := by decide +kernel
theorem dX12_tells_38 : decode cX12_tells 38 = .ok (.bipush 8, 2) := by decide +kernel
theorem dX12_tells_40 : decode cX12_tells 40 = .ok (.iload_n 1, 1) := by decide +kernel
theorem dX12_tells_41 : decode cX12_tells 41 = .ok (.imul, 1) := by decide +kernel
theorem dX12_tells_42 : decode cX12_tells 42 = .ok (.iload_n 3, 1) := by decide +kernel
theorem dX12_tells_43 : decode cX12_tells 43 = .ok (.iadd, 1) := by decide +kernel
theorem dX12_tells_44 : decode cX12_tells 44 = .ok (.iaload, 1) := by decide +kernel
theorem dX12_tells_45 : decode cX12_tells 45 = .ok (.iastore, 1) := by decide +kernel
theorem dX12_tells_46 : decode cX12_tells 46 = .ok (.aload_n 0, 1) := by decide +kernel
theorem dX12_tells_47 : decode cX12_tells 47 = .ok (.getfield 219, 3) := by decide +kernel
theorem dX12_tells_50 : decode cX12_tells 50 = .ok (.iconst 3, 1) := by decide +kernel
theorem dX12_tells_51 : decode cX12_tells 51 = .ok (.aload_n 0, 1) := by decide +kernel
theorem dX12_tells_52 : decode cX12_tells 52 = .ok (.iload_n 1, 1) := by decide +kernel
theorem dX12_tells_53 : decode cX12_tells 53 = .ok (.iload 4, 2) := by decide +kernel
theorem dX12_tells_55 : decode cX12_tells 55 = .ok (.iload_n 3, 1) := by decide +kernel
theorem dX12_tells_56 : decode cX12_tells 56 = .ok (.invokevirtual 530, 3) := by decide +kernel
theorem dX12_tells_59 : decode cX12_tells 59 = .ok (.iastore, 1) := by decide +kernel
theorem dX12_tells_60 : decode cX12_tells 60 = .ok (.aload_n 0, 1) := by decide +kernel
theorem dX12_tells_61 : decode cX12_tells 61 = .ok (.getfield 219, 3) := by decide +kernel
theorem dX12_tells_64 : decode cX12_tells 64 = .ok (.iconst 4, 1) := by decide +kernel
theorem dX12_tells_65 : decode cX12_tells 65 = .ok (.aload_n 0, 1) := by decide +kernel
theorem dX12_tells_66 : decode cX12_tells 66 = .ok (.getfield 90, 3) := by decide +kernel
theorem dX12_tells_69 : decode cX12_tells 69 = .ok (.aload_n 0, 1) := by decide +kernel
theorem dX12_tells_70 : decode cX12_tells 70 = .ok (.iload_n 1, 1) := by decide +kernel
theorem dX12_tells_71 : decode cX12_tells 71 = .ok (.iload_n 2, 1) := by decide +kernel
theorem dX12_tells_72 : decode cX12_tells 72 = .ok (.invokevirtual 534, 3) := by decide +kernel
theorem dX12_tells_75 : decode cX12_tells 75 = .ok (.iaload, 1) := by decide +kernel
theorem dX12_tells_76 : decode cX12_tells 76 = .ok (.iastore, 1) := by decide +kernel
theorem dX12_tells_77 : decode cX12_tells 77 = .ok (.aload_n 0, 1) := by decide +kernel
theorem dX12_tells_78 : decode cX12_tells 78 = .ok (.getfield 219, 3) := by decide +kernel
theorem dX12_tells_81 : decode cX12_tells 81 = .ok (.iconst 5, 1) := by decide +kernel
theorem dX12_tells_82 : decode cX12_tells 82 = .ok (.aload_n 0, 1) := by decide +kernel
theorem dX12_tells_83 : decode cX12_tells 83 = .ok (.getfield 177, 3) := by decide +kernel
theorem dX12_tells_86 : decode cX12_tells 86 = .ok (.iload_n 1, 1) := by decide +kernel
theorem dX12_tells_87 : decode cX12_tells 87 = .ok (.iaload, 1) := by decide +kernel
theorem dX12_tells_88 : decode cX12_tells 88 = .ok (.iastore, 1) := by decide +kernel
theorem dX12_tells_89 : decode cX12_tells 89 = .ok (.aload_n 0, 1) := by decide +kernel
theorem dX12_tells_90 : decode cX12_tells 90 = .ok (.getfield 219, 3) := by decide +kernel
theorem dX12_tells_93 : decode cX12_tells 93 = .ok (.bipush 6, 2) := by decide +kernel
theorem dX12_tells_95 : decode cX12_tells 95 = .ok (.aload_n 0, 1) := by decide +kernel
theorem dX12_tells_96 : decode cX12_tells 96 = .ok (.iload_n 1, 1) := by decide +kernel
theorem dX12_tells_97 : decode cX12_tells 97 = .ok (.iload_n 2, 1) := by decide +kernel
theorem dX12_tells_98 : decode cX12_tells 98 = .ok (.invokevirtual 537, 3) := by decide +kernel
theorem dX12_tells_101 : decode cX12_tells 101 = .ok (.iastore, 1) := by decide +kernel
theorem dX12_tells_102 : decode cX12_tells 102 = .ok (.return_, 1) := by decide +kernel
theorem dX12_bits_0 : decode cX12_bits 0 = .ok (.iconst 0, 1) := by decide +kernel
theorem dX12_bits_1 : decode cX12_bits 1 = .ok (.istore_n 1, 1) := by decide +kernel
theorem dX12_bits_2 : decode cX12_bits 2 = .ok (.iload_n 0, 1) := by decide +kernel
theorem dX12_bits_3 : decode cX12_bits 3 = .ok (.istore_n 2, 1) := by decide +kernel
theorem dX12_bits_4 : decode cX12_bits 4 = .ok (.iload_n 2, 1) := by decide +kernel
theorem dX12_bits_5 : decode cX12_bits 5 = .ok (.ifCond .eq 15, 3) := by decide +kernel
theorem dX12_bits_8 : decode cX12_bits 8 = .ok (.iinc 1 1, 3) := by decide +kernel
theorem dX12_bits_11 : decode cX12_bits 11 = .ok (.iload_n 2, 1) := by decide +kernel
theorem dX12_bits_12 : decode cX12_bits 12 = .ok (.iload_n 2, 1) := by decide +kernel
theorem dX12_bits_13 : decode cX12_bits 13 = .ok (.iconst 1, 1) := by decide +kernel
theorem dX12_bits_14 : decode cX12_bits 14 = .ok (.isub, 1) := by decide +kernel
theorem dX12_bits_15 : decode cX12_bits 15 = .ok (.iand, 1) := by decide +kernel
theorem dX12_bits_16 : decode cX12_bits 16 = .ok (.istore_n 2, 1) := by decide +kernel
theorem dX12_bits_17 : decode cX12_bits 17 = .ok (.goto (-13), 3) := by decide +kernel
theorem dX12_bits_20 : decode cX12_bits 20 = .ok (.iload_n 1, 1) := by decide +kernel
theorem dX12_bits_21 : decode cX12_bits 21 = .ok (.ireturn, 1) := by decide +kernel
theorem dX12_bestHand_0 : decode cX12_bestHand 0 = .ok (.iconst (-1), 1) := by decide +kernel
theorem dX12_bestHand_1 : decode cX12_bestHand 1 = .ok (.istore_n 3, 1) := by decide +kernel
theorem dX12_bestHand_2 : decode cX12_bestHand 2 = .ok (.iconst 0, 1) := by decide +kernel
theorem dX12_bestHand_3 : decode cX12_bestHand 3 = .ok (.istore 4, 2) := by decide +kernel
theorem dX12_bestHand_5 : decode cX12_bestHand 5 = .ok (.iload 4, 2) := by decide +kernel
theorem dX12_bestHand_7 : decode cX12_bestHand 7 = .ok (.aload_n 0, 1) := by decide +kernel
theorem dX12_bestHand_8 : decode cX12_bestHand 8 = .ok (.getfield 72, 3) := by decide +kernel
theorem dX12_bestHand_11 : decode cX12_bestHand 11 = .ok (.aload_n 0, 1) := by decide +kernel
theorem dX12_bestHand_12 : decode cX12_bestHand 12 = .ok (.getfield 51, 3) := by decide +kernel
theorem dX12_bestHand_15 : decode cX12_bestHand 15 = .ok (.iaload, 1) := by decide +kernel
theorem dX12_bestHand_16 : decode cX12_bestHand 16 = .ok (.if_icmp .ge 47, 3) := by decide +kernel
theorem dX12_bestHand_19 : decode cX12_bestHand 19 = .ok (.aload_n 0, 1) := by decide +kernel
theorem dX12_bestHand_20 : decode cX12_bestHand 20 = .ok (.getfield 237, 3) := by decide +kernel
theorem dX12_bestHand_23 : decode cX12_bestHand 23 = .ok (.iload 4, 2) := by decide +kernel
theorem dX12_bestHand_25 : decode cX12_bestHand 25 = .ok (.invokestatic 421, 3) := by decide +kernel
theorem dX12_bestHand_28 : decode cX12_bestHand 28 = .ok (.ifCond .ne 29, 3) := by decide +kernel
theorem dX12_bestHand_31 : decode cX12_bestHand 31 = .ok (.iload_n 3, 1) := by decide +kernel
theorem dX12_bestHand_32 : decode cX12_bestHand 32 = .ok (.iconst (-1), 1) := by decide +kernel
theorem dX12_bestHand_33 : decode cX12_bestHand 33 = .ok (.if_icmp .eq 21, 3) := by decide +kernel
theorem dX12_bestHand_36 : decode cX12_bestHand 36 = .ok (.aload_n 0, 1) := by decide +kernel
theorem dX12_bestHand_37 : decode cX12_bestHand 37 = .ok (.iload_n 1, 1) := by decide +kernel
theorem dX12_bestHand_38 : decode cX12_bestHand 38 = .ok (.iload 4, 2) := by decide +kernel
theorem dX12_bestHand_40 : decode cX12_bestHand 40 = .ok (.iload_n 2, 1) := by decide +kernel
theorem dX12_bestHand_41 : decode cX12_bestHand 41 = .ok (.invokevirtual 530, 3) := by decide +kernel
theorem dX12_bestHand_44 : decode cX12_bestHand 44 = .ok (.aload_n 0, 1) := by decide +kernel
theorem dX12_bestHand_45 : decode cX12_bestHand 45 = .ok (.iload_n 1, 1) := by decide +kernel
theorem dX12_bestHand_46 : decode cX12_bestHand 46 = .ok (.iload_n 3, 1) := by decide +kernel
theorem dX12_bestHand_47 : decode cX12_bestHand 47 = .ok (.iload_n 2, 1) := by decide +kernel
theorem dX12_bestHand_48 : decode cX12_bestHand 48 = .ok (.invokevirtual 530, 3) := by decide +kernel
theorem dX12_bestHand_51 : decode cX12_bestHand 51 = .ok (.if_icmp .le 6, 3) := by decide +kernel
theorem dX12_bestHand_54 : decode cX12_bestHand 54 = .ok (.iload 4, 2) := by decide +kernel
theorem dX12_bestHand_56 : decode cX12_bestHand 56 = .ok (.istore_n 3, 1) := by decide +kernel
theorem dX12_bestHand_57 : decode cX12_bestHand 57 = .ok (.iinc 4 1, 3) := by decide +kernel
theorem dX12_bestHand_60 : decode cX12_bestHand 60 = .ok (.goto (-55), 3) := by decide +kernel
theorem dX12_bestHand_63 : decode cX12_bestHand 63 = .ok (.iload_n 3, 1) := by decide +kernel
theorem dX12_bestHand_64 : decode cX12_bestHand 64 = .ok (.ireturn, 1) := by decide +kernel
theorem dX12_isAllowed_0 : decode cX12_isAllowed 0 = .ok (.aload_n 0, 1) := by decide +kernel
theorem dX12_isAllowed_1 : decode cX12_isAllowed 1 = .ok (.iconst 1, 1) := by decide +kernel
theorem dX12_isAllowed_2 : decode cX12_isAllowed 2 = .ok (.invokevirtual 540, 3) := by decide +kernel
theorem dX12_isAllowed_5 : decode cX12_isAllowed 5 = .ok (.ifCond .ne 27, 3) := by decide +kernel
theorem dX12_isAllowed_8 : decode cX12_isAllowed 8 = .ok (.aload_n 0, 1) := by decide +kernel
theorem dX12_isAllowed_9 : decode cX12_isAllowed 9 = .ok (.aload_n 0, 1) := by decide +kernel
theorem dX12_isAllowed_10 : decode cX12_isAllowed 10 = .ok (.iload_n 3, 1) := by decide +kernel
theorem dX12_isAllowed_11 : decode cX12_isAllowed 11 = .ok (.invokevirtual 524, 3) := by decide +kernel
theorem dX12_isAllowed_14 : decode cX12_isAllowed 14 = .ok (.aload_n 0, 1) := by decide +kernel
theorem dX12_isAllowed_15 : decode cX12_isAllowed 15 = .ok (.getfield 177, 3) := by decide +kernel
theorem dX12_isAllowed_18 : decode cX12_isAllowed 18 = .ok (.iload_n 1, 1) := by decide +kernel
theorem dX12_isAllowed_19 : decode cX12_isAllowed 19 = .ok (.iaload, 1) := by decide +kernel
theorem dX12_isAllowed_20 : decode cX12_isAllowed 20 = .ok (.invokevirtual 527, 3) := by decide +kernel
theorem dX12_isAllowed_23 : decode cX12_isAllowed 23 = .ok (.ifCond .ne 7, 3) := by decide +kernel
theorem dX12_isAllowed_26 : decode cX12_isAllowed 26 = .ok (.iconst 1, 1) := by decide +kernel
theorem dX12_isAllowed_27 : decode cX12_isAllowed 27 = .ok (.goto 4, 3) := by decide +kernel
theorem dX12_isAllowed_30 : decode cX12_isAllowed 30 = .ok (.iconst 0, 1) := by decide +kernel
theorem dX12_isAllowed_31 : decode cX12_isAllowed 31 = .ok (.ireturn, 1) := by decide +kernel
theorem dX12_isAllowed_32 : decode cX12_isAllowed 32 = .ok (.aload_n 0, 1) := by decide +kernel
theorem dX12_isAllowed_33 : decode cX12_isAllowed 33 = .ok (.iload_n 1, 1) := by decide +kernel
theorem dX12_isAllowed_34 : decode cX12_isAllowed 34 = .ok (.iload_n 2, 1) := by decide +kernel
theorem dX12_isAllowed_35 : decode cX12_isAllowed 35 = .ok (.iload_n 3, 1) := by decide +kernel
theorem dX12_isAllowed_36 : decode cX12_isAllowed 36 = .ok (.iload 4, 2) := by decide +kernel
theorem dX12_isAllowed_38 : decode cX12_isAllowed 38 = .ok (.invokevirtual 543, 3) := by decide +kernel
theorem dX12_isAllowed_41 : decode cX12_isAllowed 41 = .ok (.aload_n 0, 1) := by decide +kernel
theorem dX12_isAllowed_42 : decode cX12_isAllowed 42 = .ok (.getfield 219, 3) := by decide +kernel
theorem dX12_isAllowed_45 : decode cX12_isAllowed 45 = .ok (.bipush 7, 2) := by decide +kernel
theorem dX12_isAllowed_47 : decode cX12_isAllowed 47 = .ok (.aload_n 0, 1) := by decide +kernel
theorem dX12_isAllowed_48 : decode cX12_isAllowed 48 = .ok (.getfield 240, 3) := by decide +kernel
theorem dX12_isAllowed_51 : decode cX12_isAllowed 51 = .ok (.ifCond .eq 7, 3) := by decide +kernel
theorem dX12_isAllowed_54 : decode cX12_isAllowed 54 = .ok (.iconst 1, 1) := by decide +kernel
theorem dX12_isAllowed_55 : decode cX12_isAllowed 55 = .ok (.goto 4, 3) := by decide +kernel
theorem dX12_isAllowed_58 : decode cX12_isAllowed 58 = .ok (.iconst 0, 1) := by decide +kernel
theorem dX12_isAllowed_59 : decode cX12_isAllowed 59 = .ok (.iastore, 1) := by decide +kernel
theorem dX12_isAllowed_60 : decode cX12_isAllowed 60 = .ok (.aload_n 0, 1) := by decide +kernel
theorem dX12_isAllowed_61 : decode cX12_isAllowed 61 = .ok (.getfield 219, 3) := by decide +kernel
theorem dX12_isAllowed_64 : decode cX12_isAllowed 64 = .ok (.bipush 8, 2) := by decide +kernel
theorem dX12_isAllowed_66 : decode cX12_isAllowed 66 = .ok (.aload_n 0, 1) := by decide +kernel
theorem dX12_isAllowed_67 : decode cX12_isAllowed 67 = .ok (.getfield 234, 3) := by decide +kernel
theorem dX12_isAllowed_70 : decode cX12_isAllowed 70 = .ok (.invokestatic 547, 3) := by decide +kernel
theorem dX12_isAllowed_73 : decode cX12_isAllowed 73 = .ok (.iastore, 1) := by decide +kernel
theorem dX12_isAllowed_74 : decode cX12_isAllowed 74 = .ok (.aload_n 0, 1) := by decide +kernel
theorem dX12_isAllowed_75 : decode cX12_isAllowed 75 = .ok (.iconst 1, 1) := by decide +kernel
theorem dX12_isAllowed_76 : decode cX12_isAllowed 76 = .ok (.invokevirtual 550, 3) := by decide +kernel
theorem dX12_isAllowed_79 : decode cX12_isAllowed 79 = .ok (.lconst 1, 1) := by decide +kernel
theorem dX12_isAllowed_80 : decode cX12_isAllowed 80 = .ok (.lcmp, 1) := by decide +kernel
theorem dX12_isAllowed_81 : decode cX12_isAllowed 81 = .ok (.ifCond .ne 7, 3) := by decide +kernel
theorem dX12_isAllowed_84 : decode cX12_isAllowed 84 = .ok (.iconst 1, 1) := by decide +kernel
theorem dX12_isAllowed_85 : decode cX12_isAllowed 85 = .ok (.goto 4, 3) := by decide +kernel
theorem dX12_isAllowed_88 : decode cX12_isAllowed 88 = .ok (.iconst 0, 1) := by decide +kernel
theorem dX12_isAllowed_89 : decode cX12_isAllowed 89 = .ok (.ireturn, 1) := by decide +kernel
theorem dX12_bestTool_0 : decode cX12_bestTool 0 = .ok (.iconst (-1), 1) := by decide +kernel
theorem dX12_bestTool_1 : decode cX12_bestTool 1 = .ok (.istore_n 3, 1) := by decide +kernel
theorem dX12_bestTool_2 : decode cX12_bestTool 2 = .ok (.iconst 0, 1) := by decide +kernel
theorem dX12_bestTool_3 : decode cX12_bestTool 3 = .ok (.istore 4, 2) := by decide +kernel
theorem dX12_bestTool_5 : decode cX12_bestTool 5 = .ok (.iload 4, 2) := by decide +kernel
theorem dX12_bestTool_7 : decode cX12_bestTool 7 = .ok (.aload_n 0, 1) := by decide +kernel
theorem dX12_bestTool_8 : decode cX12_bestTool 8 = .ok (.getfield 63, 3) := by decide +kernel
theorem dX12_bestTool_11 : decode cX12_bestTool 11 = .ok (.aload_n 0, 1) := by decide +kernel
theorem dX12_bestTool_12 : decode cX12_bestTool 12 = .ok (.getfield 51, 3) := by decide +kernel
theorem dX12_bestTool_15 : decode cX12_bestTool 15 = .ok (.iaload, 1) := by decide +kernel
theorem dX12_bestTool_16 : decode cX12_bestTool 16 = .ok (.if_icmp .ge 124, 3) := by decide +kernel
theorem dX12_bestTool_19 : decode cX12_bestTool 19 = .ok (.aload_n 0, 1) := by decide +kernel
theorem dX12_bestTool_20 : decode cX12_bestTool 20 = .ok (.iload 4, 2) := by decide +kernel
theorem dX12_bestTool_22 : decode cX12_bestTool 22 = .ok (.invokevirtual 524, 3) := by decide +kernel
theorem dX12_bestTool_25 : decode cX12_bestTool 25 = .ok (.aload_n 0, 1) := by decide +kernel
theorem dX12_bestTool_26 : decode cX12_bestTool 26 = .ok (.getfield 87, 3) := by decide +kernel
theorem dX12_bestTool_29 : decode cX12_bestTool 29 = .ok (.aload_n 0, 1) := by decide +kernel
theorem dX12_bestTool_30 : decode cX12_bestTool 30 = .ok (.iload_n 1, 1) := by decide +kernel
theorem dX12_bestTool_31 : decode cX12_bestTool 31 = .ok (.iload_n 2, 1) := by decide +kernel
theorem dX12_bestTool_32 : decode cX12_bestTool 32 = .ok (.invokevirtual 534, 3) := by decide +kernel
theorem dX12_bestTool_35 : decode cX12_bestTool 35 = .ok (.iaload, 1) := by decide +kernel
theorem dX12_bestTool_36 : decode cX12_bestTool 36 = .ok (.if_icmp .ne 98, 3) := by decide +kernel
theorem dX12_bestTool_39 : decode cX12_bestTool 39 = .ok (.aload_n 0, 1) := by decide +kernel
theorem dX12_bestTool_40 : decode cX12_bestTool 40 = .ok (.getfield 186, 3) := by decide +kernel
theorem dX12_bestTool_43 : decode cX12_bestTool 43 = .ok (.iload_n 1, 1) := by decide +kernel
theorem dX12_bestTool_44 : decode cX12_bestTool 44 = .ok (.iaload, 1) := by decide +kernel
theorem dX12_bestTool_45 : decode cX12_bestTool 45 = .ok (.aload_n 0, 1) := by decide +kernel
theorem dX12_bestTool_46 : decode cX12_bestTool 46 = .ok (.getfield 189, 3) := by decide +kernel
theorem dX12_bestTool_49 : decode cX12_bestTool 49 = .ok (.iload_n 1, 1) := by decide +kernel
theorem dX12_bestTool_50 : decode cX12_bestTool 50 = .ok (.iaload, 1) := by decide +kernel
theorem dX12_bestTool_51 : decode cX12_bestTool 51 = .ok (.ior, 1) := by decide +kernel
theorem dX12_bestTool_52 : decode cX12_bestTool 52 = .ok (.aload_n 0, 1) := by decide +kernel
theorem dX12_bestTool_53 : decode cX12_bestTool 53 = .ok (.getfield 234, 3) := by decide +kernel
theorem dX12_bestTool_56 : decode cX12_bestTool 56 = .ok (.ior, 1) := by decide +kernel
theorem dX12_bestTool_57 : decode cX12_bestTool 57 = .ok (.iload 4, 2) := by decide +kernel
theorem dX12_bestTool_59 : decode cX12_bestTool 59 = .ok (.invokestatic 421, 3) := by decide +kernel
theorem dX12_bestTool_62 : decode cX12_bestTool 62 = .ok (.ifCond .ne 72, 3) := by decide +kernel
theorem dX12_bestTool_65 : decode cX12_bestTool 65 = .ok (.aload_n 0, 1) := by decide +kernel
theorem dX12_bestTool_66 : decode cX12_bestTool 66 = .ok (.iload_n 1, 1) := by decide +kernel
theorem dX12_bestTool_67 : decode cX12_bestTool 67 = .ok (.iload 4, 2) := by decide +kernel
theorem dX12_bestTool_69 : decode cX12_bestTool 69 = .ok (.invokevirtual 554, 3) := by decide +kernel
theorem dX12_bestTool_72 : decode cX12_bestTool 72 = .ok (.iconst (-1), 1) := by decide +kernel
theorem dX12_bestTool_73 : decode cX12_bestTool 73 = .ok (.if_icmp .ne 6, 3) := by decide +kernel
theorem dX12_bestTool_76 : decode cX12_bestTool 76 = .ok (.goto 58, 3) := by decide +kernel
theorem dX12_bestTool_79 : decode cX12_bestTool 79 = .ok (.iload_n 3, 1) := by decide +kernel
theorem dX12_bestTool_80 : decode cX12_bestTool 80 = .ok (.iconst (-1), 1) := by decide +kernel
theorem dX12_bestTool_81 : decode cX12_bestTool 81 = .ok (.if_icmp .eq 32, 3) := by decide +kernel
theorem dX12_bestTool_84 : decode cX12_bestTool 84 = .ok (.aload_n 0, 1) := by decide +kernel
theorem dX12_bestTool_85 : decode cX12_bestTool 85 = .ok (.getfield 183, 3) := by decide +kernel
theorem dX12_bestTool_88 : decode cX12_bestTool 88 = .ok (.bipush 8, 2) := by decide +kernel
theorem dX12_bestTool_90 : decode cX12_bestTool 90 = .ok (.iload_n 1, 1) := by decide +kernel
theorem dX12_bestTool_91 : decode cX12_bestTool 91 = .ok (.imul, 1) := by decide +kernel
theorem dX12_bestTool_92 : decode cX12_bestTool 92 = .ok (.iload 4, 2) := by decide +kernel
theorem dX12_bestTool_94 : decode cX12_bestTool 94 = .ok (.iadd, 1) := by decide +kernel
theorem dX12_bestTool_95 : decode cX12_bestTool 95 = .ok (.iaload, 1) := by decide +kernel
theorem dX12_bestTool_96 : decode cX12_bestTool 96 = .ok (.aload_n 0, 1) := by decide +kernel
theorem dX12_bestTool_97 : decode cX12_bestTool 97 = .ok (.getfield 183, 3) := by decide +kernel
theorem dX12_bestTool_100 : decode cX12_bestTool 100 = .ok (.bipush 8, 2) := by decide +kernel
theorem dX12_bestTool_102 : decode cX12_bestTool 102 = .ok (.iload_n 1, 1) := by decide +kernel
theorem dX12_bestTool_103 : decode cX12_bestTool 103 = .ok (.imul, 1) := by decide +kernel
theorem dX12_bestTool_104 : decode cX12_bestTool 104 = .ok (.iload_n 3, 1) := by decide +kernel
theorem dX12_bestTool_105 : decode cX12_bestTool 105 = .ok (.iadd, 1) := by decide +kernel
theorem dX12_bestTool_106 : decode cX12_bestTool 106 = .ok (.iaload, 1) := by decide +kernel
theorem dX12_bestTool_107 : decode cX12_bestTool 107 = .ok (.if_icmp .lt 6, 3) := by decide +kernel
theorem dX12_bestTool_110 : decode cX12_bestTool 110 = .ok (.goto 24, 3) := by decide +kernel
theorem dX12_bestTool_113 : decode cX12_bestTool 113 = .ok (.aload_n 0, 1) := by decide +kernel
theorem dX12_bestTool_114 : decode cX12_bestTool 114 = .ok (.iload_n 1, 1) := by decide +kernel
theorem dX12_bestTool_115 : decode cX12_bestTool 115 = .ok (.iload_n 2, 1) := by decide +kernel
theorem dX12_bestTool_116 : decode cX12_bestTool 116 = .ok (.iload 4, 2) := by decide +kernel
theorem dX12_bestTool_118 : decode cX12_bestTool 118 = .ok (.aload_n 0, 1) := by decide +kernel
theorem dX12_bestTool_119 : decode cX12_bestTool 119 = .ok (.iload_n 1, 1) := by decide +kernel
theorem dX12_bestTool_120 : decode cX12_bestTool 120 = .ok (.iload 4, 2) := by decide +kernel
theorem dX12_bestTool_122 : decode cX12_bestTool 122 = .ok (.invokevirtual 554, 3) := by decide +kernel
theorem dX12_bestTool_125 : decode cX12_bestTool 125 = .ok (.invokevirtual 557, 3) := by decide +kernel
theorem dX12_bestTool_128 : decode cX12_bestTool 128 = .ok (.ifCond .eq 6, 3) := by decide +kernel
theorem dX12_bestTool_131 : decode cX12_bestTool 131 = .ok (.iload 4, 2) := by decide +kernel
theorem dX12_bestTool_133 : decode cX12_bestTool 133 = .ok (.istore_n 3, 1) := by decide +kernel
theorem dX12_bestTool_134 : decode cX12_bestTool 134 = .ok (.iinc 4 1, 3) := by decide +kernel
theorem dX12_bestTool_137 : decode cX12_bestTool 137 = .ok (.goto (-132), 3) := by decide +kernel
theorem dX12_bestTool_140 : decode cX12_bestTool 140 = .ok (.iload_n 3, 1) := by decide +kernel
theorem dX12_bestTool_141 : decode cX12_bestTool 141 = .ok (.ireturn, 1) := by decide +kernel
theorem dX12_pays_0 : decode cX12_pays 0 = .ok (.aload_n 0, 1) := by decide +kernel
theorem dX12_pays_1 : decode cX12_pays 1 = .ok (.getfield 180, 3) := by decide +kernel
theorem dX12_pays_4 : decode cX12_pays 4 = .ok (.iload_n 1, 1) := by decide +kernel
theorem dX12_pays_5 : decode cX12_pays 5 = .ok (.iaload, 1) := by decide +kernel
theorem dX12_pays_6 : decode cX12_pays 6 = .ok (.aload_n 0, 1) := by decide +kernel
theorem dX12_pays_7 : decode cX12_pays 7 = .ok (.iconst 1, 1) := by decide +kernel
theorem dX12_pays_8 : decode cX12_pays 8 = .ok (.invokevirtual 561, 3) := by decide +kernel
theorem dX12_pays_11 : decode cX12_pays 11 = .ok (.iadd, 1) := by decide +kernel
theorem dX12_pays_12 : decode cX12_pays 12 = .ok (.istore_n 2, 1) := by decide +kernel
theorem dX12_pays_13 : decode cX12_pays 13 = .ok (.aload_n 0, 1) := by decide +kernel
theorem dX12_pays_14 : decode cX12_pays 14 = .ok (.getfield 180, 3) := by decide +kernel
theorem dX12_pays_17 : decode cX12_pays 17 = .ok (.iload_n 1, 1) := by decide +kernel
theorem dX12_pays_18 : decode cX12_pays 18 = .ok (.iload_n 2, 1) := by decide +kernel
theorem dX12_pays_19 : decode cX12_pays 19 = .ok (.sipush 9999, 3) := by decide +kernel
theorem dX12_pays_22 : decode cX12_pays 22 = .ok (.if_icmp .le 9, 3) := by decide +kernel
theorem dX12_pays_25 : decode cX12_pays 25 = .ok (.sipush 9999, 3) := by decide +kernel
theorem dX12_pays_28 : decode cX12_pays 28 = .ok (.goto 4, 3) := by decide +kernel
theorem dX12_pays_31 : decode cX12_pays 31 = .ok (.iload_n 2, 1) := by decide +kernel
theorem dX12_pays_32 : decode cX12_pays 32 = .ok (.iastore, 1) := by decide +kernel
theorem dX12_pays_33 : decode cX12_pays 33 = .ok (.return_, 1) := by decide +kernel
theorem dX12_writesDown_0 : decode cX12_writesDown 0 = .ok (.aload_n 0, 1) := by decide +kernel
theorem dX12_writesDown_1 : decode cX12_writesDown 1 = .ok (.getfield 201, 3) := by decide +kernel
theorem dX12_writesDown_4 : decode cX12_writesDown 4 = .ok (.iload_n 1, 1) := by decide +kernel
theorem dX12_writesDown_5 : decode cX12_writesDown 5 = .ok (.iaload, 1) := by decide +kernel
theorem dX12_writesDown_6 : decode cX12_writesDown 6 = .ok (.bipush 60, 2) := by decide +kernel
theorem dX12_writesDown_8 : decode cX12_writesDown 8 = .ok (.if_icmp .ne 58, 3) := by decide +kernel
theorem dX12_writesDown_11 : decode cX12_writesDown 11 = .ok (.sipush 240, 3) := by decide +kernel
theorem dX12_writesDown_14 : decode cX12_writesDown 14 = .ok (.iload_n 1, 1) := by decide +kernel
theorem dX12_writesDown_15 : decode cX12_writesDown 15 = .ok (.imul, 1) := by decide +kernel
theorem dX12_writesDown_16 : decode cX12_writesDown 16 = .ok (.istore 5, 2) := by decide +kernel
theorem dX12_writesDown_18 : decode cX12_writesDown 18 = .ok (.iload 5, 2) := by decide +kernel
theorem dX12_writesDown_20 : decode cX12_writesDown 20 = .ok (.sipush 240, 3) := by decide +kernel
theorem dX12_writesDown_23 : decode cX12_writesDown 23 = .ok (.iload_n 1, 1) := by decide +kernel
theorem dX12_writesDown_24 : decode cX12_writesDown 24 = .ok (.imul, 1) := by decide +kernel
theorem dX12_writesDown_25 : decode cX12_writesDown 25 = .ok (.sipush 240, 3) := by decide +kernel
theorem dX12_writesDown_28 : decode cX12_writesDown 28 = .ok (.iadd, 1) := by decide +kernel
theorem dX12_writesDown_29 : decode cX12_writesDown 29 = .ok (.iconst 4, 1) := by decide +kernel
theorem dX12_writesDown_30 : decode cX12_writesDown 30 = .ok (.isub, 1) := by decide +kernel
theorem dX12_writesDown_31 : decode cX12_writesDown 31 = .ok (.if_icmp .ge 25, 3) := by decide +kernel
theorem dX12_writesDown_34 : decode cX12_writesDown 34 = .ok (.aload_n 0, 1) := by decide +kernel
theorem dX12_writesDown_35 : decode cX12_writesDown 35 = .ok (.getfield 204, 3) := by decide +kernel
theorem dX12_writesDown_38 : decode cX12_writesDown 38 = .ok (.iload 5, 2) := by decide +kernel
theorem dX12_writesDown_40 : decode cX12_writesDown 40 = .ok (.aload_n 0, 1) := by decide +kernel
theorem dX12_writesDown_41 : decode cX12_writesDown 41 = .ok (.getfield 204, 3) := by decide +kernel
theorem dX12_writesDown_44 : decode cX12_writesDown 44 = .ok (.iload 5, 2) := by decide +kernel
theorem dX12_writesDown_46 : decode cX12_writesDown 46 = .ok (.iconst 4, 1) := by decide +kernel
theorem dX12_writesDown_47 : decode cX12_writesDown 47 = .ok (.iadd, 1) := by decide +kernel
theorem dX12_writesDown_48 : decode cX12_writesDown 48 = .ok (.iaload, 1) := by decide +kernel
theorem dX12_writesDown_49 : decode cX12_writesDown 49 = .ok (.iastore, 1) := by decide +kernel
theorem dX12_writesDown_50 : decode cX12_writesDown 50 = .ok (.iinc 5 1, 3) := by decide +kernel
theorem dX12_writesDown_53 : decode cX12_writesDown 53 = .ok (.goto (-35), 3) := by decide +kernel
theorem dX12_writesDown_56 : decode cX12_writesDown 56 = .ok (.aload_n 0, 1) := by decide +kernel
theorem dX12_writesDown_57 : decode cX12_writesDown 57 = .ok (.getfield 201, 3) := by decide +kernel
theorem dX12_writesDown_60 : decode cX12_writesDown 60 = .ok (.iload_n 1, 1) := by decide +kernel
theorem dX12_writesDown_61 : decode cX12_writesDown 61 = .ok (.dup2, 1) := by decide +kernel
theorem dX12_writesDown_62 : decode cX12_writesDown 62 = .ok (.iaload, 1) := by decide +kernel
theorem dX12_writesDown_63 : decode cX12_writesDown 63 = .ok (.iconst 1, 1) := by decide +kernel
theorem dX12_writesDown_64 : decode cX12_writesDown 64 = .ok (.isub, 1) := by decide +kernel
theorem dX12_writesDown_65 : decode cX12_writesDown 65 = .ok (.iastore, 1) := by decide +kernel
theorem dX12_writesDown_66 : decode cX12_writesDown 66 = .ok (.iconst 4, 1) := by decide +kernel
theorem dX12_writesDown_67 : decode cX12_writesDown 67 = .ok (.bipush 60, 2) := by decide +kernel
theorem dX12_writesDown_69 : decode cX12_writesDown 69 = .ok (.iload_n 1, 1) := by decide +kernel
theorem dX12_writesDown_70 : decode cX12_writesDown 70 = .ok (.imul, 1) := by decide +kernel
theorem dX12_writesDown_71 : decode cX12_writesDown 71 = .ok (.aload_n 0, 1) := by decide +kernel
theorem dX12_writesDown_72 : decode cX12_writesDown 72 = .ok (.getfield 201, 3) := by decide +kernel
theorem dX12_writesDown_75 : decode cX12_writesDown 75 = .ok (.iload_n 1, 1) := by decide +kernel
theorem dX12_writesDown_76 : decode cX12_writesDown 76 = .ok (.iaload, 1) := by decide +kernel
theorem dX12_writesDown_77 : decode cX12_writesDown 77 = .ok (.iadd, 1) := by decide +kernel
theorem dX12_writesDown_78 : decode cX12_writesDown 78 = .ok (.imul, 1) := by decide +kernel
theorem dX12_writesDown_79 : decode cX12_writesDown 79 = .ok (.istore 5, 2) := by decide +kernel
theorem dX12_writesDown_81 : decode cX12_writesDown 81 = .ok (.aload_n 0, 1) := by decide +kernel
theorem dX12_writesDown_82 : decode cX12_writesDown 82 = .ok (.getfield 204, 3) := by decide +kernel
theorem dX12_writesDown_85 : decode cX12_writesDown 85 = .ok (.iload 5, 2) := by decide +kernel
theorem dX12_writesDown_87 : decode cX12_writesDown 87 = .ok (.aload_n 0, 1) := by decide +kernel
theorem dX12_writesDown_88 : decode cX12_writesDown 88 = .ok (.getfield 177, 3) := by decide +kernel
theorem dX12_writesDown_91 : decode cX12_writesDown 91 = .ok (.iload_n 1, 1) := by decide +kernel
theorem dX12_writesDown_92 : decode cX12_writesDown 92 = .ok (.iaload, 1) := by decide +kernel
theorem dX12_writesDown_93 : decode cX12_writesDown 93 = .ok (.iastore, 1) := by decide +kernel
theorem dX12_writesDown_94 : decode cX12_writesDown 94 = .ok (.aload_n 0, 1) := by decide +kernel
theorem dX12_writesDown_95 : decode cX12_writesDown 95 = .ok (.getfield 204, 3) := by decide +kernel
theorem dX12_writesDown_98 : decode cX12_writesDown 98 = .ok (.iload 5, 2) := by decide +kernel
theorem dX12_writesDown_100 : decode cX12_writesDown 100 = .ok (.iconst 1, 1) := by decide +kernel
theorem dX12_writesDown_101 : decode cX12_writesDown 101 = .ok (.iadd, 1) := by decide +kernel
theorem dX12_writesDown_102 : decode cX12_writesDown 102 = .ok (.iload_n 2, 1) := by decide +kernel
theorem dX12_writesDown_103 : decode cX12_writesDown 103 = .ok (.iastore, 1) := by decide +kernel
theorem dX12_writesDown_104 : decode cX12_writesDown 104 = .ok (.aload_n 0, 1) := by decide +kernel
theorem dX12_writesDown_105 : decode cX12_writesDown 105 = .ok (.getfield 204, 3) := by decide +kernel
theorem dX12_writesDown_108 : decode cX12_writesDown 108 = .ok (.iload 5, 2) := by decide +kernel
theorem dX12_writesDown_110 : decode cX12_writesDown 110 = .ok (.iconst 2, 1) := by decide +kernel
theorem dX12_writesDown_111 : decode cX12_writesDown 111 = .ok (.iadd, 1) := by decide +kernel
theorem dX12_writesDown_112 : decode cX12_writesDown 112 = .ok (.iload_n 3, 1) := by decide +kernel
theorem dX12_writesDown_113 : decode cX12_writesDown 113 = .ok (.iastore, 1) := by decide +kernel
theorem dX12_writesDown_114 : decode cX12_writesDown 114 = .ok (.aload_n 0, 1) := by decide +kernel
theorem dX12_writesDown_115 : decode cX12_writesDown 115 = .ok (.getfield 204, 3) := by decide +kernel
theorem dX12_writesDown_118 : decode cX12_writesDown 118 = .ok (.iload 5, 2) := by decide +kernel
theorem dX12_writesDown_120 : decode cX12_writesDown 120 = .ok (.iconst 3, 1) := by decide +kernel
theorem dX12_writesDown_121 : decode cX12_writesDown 121 = .ok (.iadd, 1) := by decide +kernel
theorem dX12_writesDown_122 : decode cX12_writesDown 122 = .ok (.iload 4, 2) := by decide +kernel
theorem dX12_writesDown_124 : decode cX12_writesDown 124 = .ok (.iastore, 1) := by decide +kernel
theorem dX12_writesDown_125 : decode cX12_writesDown 125 = .ok (.aload_n 0, 1) := by decide +kernel
theorem dX12_writesDown_126 : decode cX12_writesDown 126 = .ok (.getfield 201, 3) := by decide +kernel
theorem dX12_writesDown_129 : decode cX12_writesDown 129 = .ok (.iload_n 1, 1) := by decide +kernel
theorem dX12_writesDown_130 : decode cX12_writesDown 130 = .ok (.dup2, 1) := by decide +kernel
theorem dX12_writesDown_131 : decode cX12_writesDown 131 = .ok (.iaload, 1) := by decide +kernel
theorem dX12_writesDown_132 : decode cX12_writesDown 132 = .ok (.iconst 1, 1) := by decide +kernel
theorem dX12_writesDown_133 : decode cX12_writesDown 133 = .ok (.iadd, 1) := by decide +kernel
theorem dX12_writesDown_134 : decode cX12_writesDown 134 = .ok (.iastore, 1) := by decide +kernel
theorem dX12_writesDown_135 : decode cX12_writesDown 135 = .ok (.return_, 1) := by decide +kernel
theorem dX12_works_0 : decode cX12_works 0 = .ok (.aload_n 0, 1) := by decide +kernel
theorem dX12_works_1 : decode cX12_works 1 = .ok (.iload_n 1, 1) := by decide +kernel
theorem dX12_works_2 : decode cX12_works 2 = .ok (.iload_n 2, 1) := by decide +kernel
theorem dX12_works_3 : decode cX12_works 3 = .ok (.invokevirtual 521, 3) := by decide +kernel
theorem dX12_works_6 : decode cX12_works 6 = .ok (.ifCond .eq 7, 3) := by decide +kernel
theorem dX12_works_9 : decode cX12_works 9 = .ok (.iconst (-1), 1) := by decide +kernel
theorem dX12_works_10 : decode cX12_works 10 = .ok (.goto 9, 3) := by decide +kernel
theorem dX12_works_13 : decode cX12_works 13 = .ok (.aload_n 0, 1) := by decide +kernel
theorem dX12_works_14 : decode cX12_works 14 = .ok (.iload_n 1, 1) := by decide +kernel
theorem dX12_works_15 : decode cX12_works 15 = .ok (.iload_n 2, 1) := by decide +kernel
theorem dX12_works_16 : decode cX12_works 16 = .ok (.invokevirtual 564, 3) := by decide +kernel
theorem dX12_works_19 : decode cX12_works 19 = .ok (.istore_n 3, 1) := by decide +kernel
theorem dX12_works_20 : decode cX12_works 20 = .ok (.iload_n 3, 1) := by decide +kernel
theorem dX12_works_21 : decode cX12_works 21 = .ok (.iconst (-1), 1) := by decide +kernel
theorem dX12_works_22 : decode cX12_works 22 = .ok (.if_icmp .ne 4, 3) := by decide +kernel
theorem dX12_works_25 : decode cX12_works 25 = .ok (.return_, 1) := by decide +kernel
theorem dX12_works_26 : decode cX12_works 26 = .ok (.aload_n 0, 1) := by decide +kernel
theorem dX12_works_27 : decode cX12_works 27 = .ok (.iload_n 1, 1) := by decide +kernel
theorem dX12_works_28 : decode cX12_works 28 = .ok (.iload_n 3, 1) := by decide +kernel
theorem dX12_works_29 : decode cX12_works 29 = .ok (.invokevirtual 554, 3) := by decide +kernel
theorem dX12_works_32 : decode cX12_works 32 = .ok (.istore 4, 2) := by decide +kernel
theorem dX12_works_34 : decode cX12_works 34 = .ok (.aload_n 0, 1) := by decide +kernel
theorem dX12_works_35 : decode cX12_works 35 = .ok (.iload_n 1, 1) := by decide +kernel
theorem dX12_works_36 : decode cX12_works 36 = .ok (.iload_n 2, 1) := by decide +kernel
theorem dX12_works_37 : decode cX12_works 37 = .ok (.iload_n 3, 1) := by decide +kernel
theorem dX12_works_38 : decode cX12_works 38 = .ok (.iload 4, 2) := by decide +kernel
theorem dX12_works_40 : decode cX12_works 40 = .ok (.invokevirtual 543, 3) := by decide +kernel
theorem dX12_works_43 : decode cX12_works 43 = .ok (.aload_n 0, 1) := by decide +kernel
theorem dX12_works_44 : decode cX12_works 44 = .ok (.iconst 0, 1) := by decide +kernel
theorem dX12_works_45 : decode cX12_works 45 = .ok (.invokevirtual 540, 3) := by decide +kernel
theorem dX12_works_48 : decode cX12_works 48 = .ok (.ifCond .eq 11, 3) := by decide +kernel
theorem dX12_works_51 : decode cX12_works 51 = .ok (.aload_n 0, 1) := by decide +kernel
theorem dX12_works_52 : decode cX12_works 52 = .ok (.iconst 0, 1) := by decide +kernel
theorem dX12_works_53 : decode cX12_works 53 = .ok (.invokevirtual 550, 3) := by decide +kernel
theorem dX12_works_56 : decode cX12_works 56 = .ok (.goto 10, 3) := by decide +kernel
theorem dX12_works_59 : decode cX12_works 59 = .ok (.aload_n 0, 1) := by decide +kernel
theorem dX12_works_60 : decode cX12_works 60 = .ok (.getfield 219, 3) := by decide +kernel
theorem dX12_works_63 : decode cX12_works 63 = .ok (.iconst 4, 1) := by decide +kernel
theorem dX12_works_64 : decode cX12_works 64 = .ok (.iaload, 1) := by decide +kernel
theorem dX12_works_65 : decode cX12_works 65 = .ok (.i2l, 1) := by decide +kernel
theorem dX12_works_66 : decode cX12_works 66 = .ok (.lstore 5, 2) := by decide +kernel
theorem dX12_works_68 : decode cX12_works 68 = .ok (.lload 5, 2) := by decide +kernel
theorem dX12_works_70 : decode cX12_works 70 = .ok (.lconst 0, 1) := by decide +kernel
theorem dX12_works_71 : decode cX12_works 71 = .ok (.lcmp, 1) := by decide +kernel
theorem dX12_works_72 : decode cX12_works 72 = .ok (.ifCond .ge 7, 3) := by decide +kernel
theorem dX12_works_75 : decode cX12_works 75 = .ok (.lconst 0, 1) := by decide +kernel
theorem dX12_works_76 : decode cX12_works 76 = .ok (.goto 20, 3) := by decide +kernel
theorem dX12_works_79 : decode cX12_works 79 = .ok (.lload 5, 2) := by decide +kernel
theorem dX12_works_81 : decode cX12_works 81 = .ok (.ldc2_w 567, 3) := by decide +kernel
theorem dX12_works_84 : decode cX12_works 84 = .ok (.lcmp, 1) := by decide +kernel
theorem dX12_works_85 : decode cX12_works 85 = .ok (.ifCond .le 9, 3) := by decide +kernel
theorem dX12_works_88 : decode cX12_works 88 = .ok (.ldc2_w 567, 3) := by decide +kernel
theorem dX12_works_91 : decode cX12_works 91 = .ok (.goto 5, 3) := by decide +kernel
theorem dX12_works_94 : decode cX12_works 94 = .ok (.lload 5, 2) := by decide +kernel
theorem dX12_works_96 : decode cX12_works 96 = .ok (.lstore 5, 2) := by decide +kernel
theorem dX12_works_98 : decode cX12_works 98 = .ok (.bipush 8, 2) := by decide +kernel
theorem dX12_works_100 : decode cX12_works 100 = .ok (.iload_n 1, 1) := by decide +kernel
theorem dX12_works_101 : decode cX12_works 101 = .ok (.imul, 1) := by decide +kernel
theorem dX12_works_102 : decode cX12_works 102 = .ok (.iload_n 3, 1) := by decide +kernel
theorem dX12_works_103 : decode cX12_works 103 = .ok (.iadd, 1) := by decide +kernel
theorem dX12_works_104 : decode cX12_works 104 = .ok (.istore 7, 2) := by decide +kernel
theorem dX12_works_106 : decode cX12_works 106 = .ok (.aload_n 0, 1) := by decide +kernel
theorem dX12_works_107 : decode cX12_works 107 = .ok (.getfield 183, 3) := by decide +kernel
theorem dX12_works_110 : decode cX12_works 110 = .ok (.iload 7, 2) := by decide +kernel
theorem dX12_works_112 : decode cX12_works 112 = .ok (.iaload, 1) := by decide +kernel
theorem dX12_works_113 : decode cX12_works 113 = .ok (.lload 5, 2) := by decide +kernel
theorem dX12_works_115 : decode cX12_works 115 = .ok (.l2i, 1) := by decide +kernel
theorem dX12_works_116 : decode cX12_works 116 = .ok (.iadd, 1) := by decide +kernel
theorem dX12_works_117 : decode cX12_works 117 = .ok (.istore 8, 2) := by decide +kernel
theorem dX12_works_119 : decode cX12_works 119 = .ok (.aload_n 0, 1) := by decide +kernel
theorem dX12_works_120 : decode cX12_works 120 = .ok (.getfield 183, 3) := by decide +kernel
theorem dX12_works_123 : decode cX12_works 123 = .ok (.iload 7, 2) := by decide +kernel
theorem dX12_works_125 : decode cX12_works 125 = .ok (.iload 8, 2) := by decide +kernel
theorem dX12_works_127 : decode cX12_works 127 = .ok (.bipush 100, 2) := by decide +kernel
theorem dX12_works_129 : decode cX12_works 129 = .ok (.if_icmp .le 8, 3) := by decide +kernel
theorem dX12_works_132 : decode cX12_works 132 = .ok (.bipush 100, 2) := by decide +kernel
theorem dX12_works_134 : decode cX12_works 134 = .ok (.goto 5, 3) := by decide +kernel
theorem dX12_works_137 : decode cX12_works 137 = .ok (.iload 8, 2) := by decide +kernel
theorem dX12_works_139 : decode cX12_works 139 = .ok (.iastore, 1) := by decide +kernel
theorem dX12_works_140 : decode cX12_works 140 = .ok (.bipush 48, 2) := by decide +kernel
theorem dX12_works_142 : decode cX12_works 142 = .ok (.iload_n 1, 1) := by decide +kernel
theorem dX12_works_143 : decode cX12_works 143 = .ok (.imul, 1) := by decide +kernel
theorem dX12_works_144 : decode cX12_works 144 = .ok (.bipush 8, 2) := by decide +kernel
theorem dX12_works_146 : decode cX12_works 146 = .ok (.iload 4, 2) := by decide +kernel
theorem dX12_works_148 : decode cX12_works 148 = .ok (.imul, 1) := by decide +kernel
theorem dX12_works_149 : decode cX12_works 149 = .ok (.iadd, 1) := by decide +kernel
theorem dX12_works_150 : decode cX12_works 150 = .ok (.iload_n 3, 1) := by decide +kernel
theorem dX12_works_151 : decode cX12_works 151 = .ok (.iadd, 1) := by decide +kernel
theorem dX12_works_152 : decode cX12_works 152 = .ok (.istore 9, 2) := by decide +kernel
theorem dX12_works_154 : decode cX12_works 154 = .ok (.aload_n 0, 1) := by decide +kernel
theorem dX12_works_155 : decode cX12_works 155 = .ok (.getfield 192, 3) := by decide +kernel
theorem dX12_works_158 : decode cX12_works 158 = .ok (.iload 9, 2) := by decide +kernel
theorem dX12_works_160 : decode cX12_works 160 = .ok (.aload_n 0, 1) := by decide +kernel
theorem dX12_works_161 : decode cX12_works 161 = .ok (.getfield 192, 3) := by decide +kernel
theorem dX12_works_164 : decode cX12_works 164 = .ok (.iload 9, 2) := by decide +kernel
theorem dX12_works_166 : decode cX12_works 166 = .ok (.iaload, 1) := by decide +kernel
theorem dX12_works_167 : decode cX12_works 167 = .ok (.bipush 9, 2) := by decide +kernel
theorem dX12_works_169 : decode cX12_works 169 = .ok (.if_icmp .ge 15, 3) := by decide +kernel
theorem dX12_works_172 : decode cX12_works 172 = .ok (.aload_n 0, 1) := by decide +kernel
theorem dX12_works_173 : decode cX12_works 173 = .ok (.getfield 192, 3) := by decide +kernel
theorem dX12_works_176 : decode cX12_works 176 = .ok (.iload 9, 2) := by decide +kernel
theorem dX12_works_178 : decode cX12_works 178 = .ok (.iaload, 1) := by decide +kernel
theorem dX12_works_179 : decode cX12_works 179 = .ok (.iconst 1, 1) := by decide +kernel
theorem dX12_works_180 : decode cX12_works 180 = .ok (.iadd, 1) := by decide +kernel
theorem dX12_works_181 : decode cX12_works 181 = .ok (.goto 5, 3) := by decide +kernel
theorem dX12_works_184 : decode cX12_works 184 = .ok (.bipush 9, 2) := by decide +kernel
theorem dX12_works_186 : decode cX12_works 186 = .ok (.iastore, 1) := by decide +kernel
theorem dX12_works_187 : decode cX12_works 187 = .ok (.aload_n 0, 1) := by decide +kernel
theorem dX12_works_188 : decode cX12_works 188 = .ok (.aload_n 0, 1) := by decide +kernel
theorem dX12_works_189 : decode cX12_works 189 = .ok (.iload_n 3, 1) := by decide +kernel
theorem dX12_works_190 : decode cX12_works 190 = .ok (.invokevirtual 524, 3) := by decide +kernel
theorem dX12_works_193 : decode cX12_works 193 = .ok (.aload_n 0, 1) := by decide +kernel
theorem dX12_works_194 : decode cX12_works 194 = .ok (.getfield 177, 3) := by decide +kernel
theorem dX12_works_197 : decode cX12_works 197 = .ok (.iload_n 1, 1) := by decide +kernel
theorem dX12_works_198 : decode cX12_works 198 = .ok (.iaload, 1) := by decide +kernel
theorem dX12_works_199 : decode cX12_works 199 = .ok (.invokevirtual 527, 3) := by decide +kernel
theorem dX12_works_202 : decode cX12_works 202 = .ok (.ifCond .eq 8, 3) := by decide +kernel
theorem dX12_works_205 : decode cX12_works 205 = .ok (.aload_n 0, 1) := by decide +kernel
theorem dX12_works_206 : decode cX12_works 206 = .ok (.iload_n 1, 1) := by decide +kernel
theorem dX12_works_207 : decode cX12_works 207 = .ok (.invokevirtual 569, 3) := by decide +kernel
theorem dX12_works_210 : decode cX12_works 210 = .ok (.aload_n 0, 1) := by decide +kernel
theorem dX12_works_211 : decode cX12_works 211 = .ok (.getfield 183, 3) := by decide +kernel
theorem dX12_works_214 : decode cX12_works 214 = .ok (.iload 7, 2) := by decide +kernel
theorem dX12_works_216 : decode cX12_works 216 = .ok (.iaload, 1) := by decide +kernel
theorem dX12_works_217 : decode cX12_works 217 = .ok (.aload_n 0, 1) := by decide +kernel
theorem dX12_works_218 : decode cX12_works 218 = .ok (.iconst 0, 1) := by decide +kernel
theorem dX12_works_219 : decode cX12_works 219 = .ok (.invokevirtual 561, 3) := by decide +kernel
theorem dX12_works_222 : decode cX12_works 222 = .ok (.if_icmp .lt 15, 3) := by decide +kernel
theorem dX12_works_225 : decode cX12_works 225 = .ok (.aload_n 0, 1) := by decide +kernel
theorem dX12_works_226 : decode cX12_works 226 = .ok (.getfield 186, 3) := by decide +kernel
theorem dX12_works_229 : decode cX12_works 229 = .ok (.iload_n 1, 1) := by decide +kernel
theorem dX12_works_230 : decode cX12_works 230 = .ok (.dup2, 1) := by decide +kernel
theorem dX12_works_231 : decode cX12_works 231 = .ok (.iaload, 1) := by decide +kernel
theorem dX12_works_232 : decode cX12_works 232 = .ok (.iconst 1, 1) := by decide +kernel
theorem dX12_works_233 : decode cX12_works 233 = .ok (.iload_n 3, 1) := by decide +kernel
theorem dX12_works_234 : decode cX12_works 234 = .ok (.ishl, 1) := by decide +kernel
theorem dX12_works_235 : decode cX12_works 235 = .ok (.ior, 1) := by decide +kernel
theorem dX12_works_236 : decode cX12_works 236 = .ok (.iastore, 1) := by decide +kernel
theorem dX12_works_237 : decode cX12_works 237 = .ok (.aload_n 0, 1) := by decide +kernel
theorem dX12_works_238 : decode cX12_works 238 = .ok (.dup, 1) := by decide +kernel
theorem dX12_works_239 : decode cX12_works 239 = .ok (.getfield 234, 3) := by decide +kernel
theorem dX12_works_242 : decode cX12_works 242 = .ok (.iconst 1, 1) := by decide +kernel
theorem dX12_works_243 : decode cX12_works 243 = .ok (.iload_n 3, 1) := by decide +kernel
theorem dX12_works_244 : decode cX12_works 244 = .ok (.ishl, 1) := by decide +kernel
theorem dX12_works_245 : decode cX12_works 245 = .ok (.ior, 1) := by decide +kernel
theorem dX12_works_246 : decode cX12_works 246 = .ok (.putfield 234, 3) := by decide +kernel
theorem dX12_works_249 : decode cX12_works 249 = .ok (.aload_n 0, 1) := by decide +kernel
theorem dX12_works_250 : decode cX12_works 250 = .ok (.dup, 1) := by decide +kernel
theorem dX12_works_251 : decode cX12_works 251 = .ok (.getfield 237, 3) := by decide +kernel
theorem dX12_works_254 : decode cX12_works 254 = .ok (.iconst 1, 1) := by decide +kernel
theorem dX12_works_255 : decode cX12_works 255 = .ok (.iload 4, 2) := by decide +kernel
theorem dX12_works_257 : decode cX12_works 257 = .ok (.ishl, 1) := by decide +kernel
theorem dX12_works_258 : decode cX12_works 258 = .ok (.ior, 1) := by decide +kernel
theorem dX12_works_259 : decode cX12_works 259 = .ok (.putfield 237, 3) := by decide +kernel
theorem dX12_works_262 : decode cX12_works 262 = .ok (.aload_n 0, 1) := by decide +kernel
theorem dX12_works_263 : decode cX12_works 263 = .ok (.getfield 195, 3) := by decide +kernel
theorem dX12_works_266 : decode cX12_works 266 = .ok (.bipush 6, 2) := by decide +kernel
theorem dX12_works_268 : decode cX12_works 268 = .ok (.iload_n 1, 1) := by decide +kernel
theorem dX12_works_269 : decode cX12_works 269 = .ok (.imul, 1) := by decide +kernel
theorem dX12_works_270 : decode cX12_works 270 = .ok (.iload_n 2, 1) := by decide +kernel
theorem dX12_works_271 : decode cX12_works 271 = .ok (.iadd, 1) := by decide +kernel
theorem dX12_works_272 : decode cX12_works 272 = .ok (.dup2, 1) := by decide +kernel
theorem dX12_works_273 : decode cX12_works 273 = .ok (.iaload, 1) := by decide +kernel
theorem dX12_works_274 : decode cX12_works 274 = .ok (.iconst 1, 1) := by decide +kernel
theorem dX12_works_275 : decode cX12_works 275 = .ok (.iadd, 1) := by decide +kernel
theorem dX12_works_276 : decode cX12_works 276 = .ok (.iastore, 1) := by decide +kernel
theorem dX12_works_277 : decode cX12_works 277 = .ok (.aload_n 0, 1) := by decide +kernel
theorem dX12_works_278 : decode cX12_works 278 = .ok (.iload_n 1, 1) := by decide +kernel
theorem dX12_works_279 : decode cX12_works 279 = .ok (.iload_n 2, 1) := by decide +kernel
theorem dX12_works_280 : decode cX12_works 280 = .ok (.iload_n 3, 1) := by decide +kernel
theorem dX12_works_281 : decode cX12_works 281 = .ok (.iload 4, 2) := by decide +kernel
theorem dX12_works_283 : decode cX12_works 283 = .ok (.invokevirtual 572, 3) := by decide +kernel
theorem dX12_works_286 : decode cX12_works 286 = .ok (.return_, 1) := by decide +kernel
theorem dX12_passes_0 : decode cX12_passes 0 = .ok (.aload_n 0, 1) := by decide +kernel
theorem dX12_passes_1 : decode cX12_passes 1 = .ok (.iconst 0, 1) := by decide +kernel
theorem dX12_passes_2 : decode cX12_passes 2 = .ok (.putfield 234, 3) := by decide +kernel
theorem dX12_passes_5 : decode cX12_passes 5 = .ok (.aload_n 0, 1) := by decide +kernel
theorem dX12_passes_6 : decode cX12_passes 6 = .ok (.iconst 0, 1) := by decide +kernel
theorem dX12_passes_7 : decode cX12_passes 7 = .ok (.putfield 237, 3) := by decide +kernel
theorem dX12_passes_10 : decode cX12_passes 10 = .ok (.aload_n 0, 1) := by decide +kernel
theorem dX12_passes_11 : decode cX12_passes 11 = .ok (.iload_n 2, 1) := by decide +kernel
theorem dX12_passes_12 : decode cX12_passes 12 = .ok (.putfield 240, 3) := by decide +kernel
theorem dX12_passes_15 : decode cX12_passes 15 = .ok (.aload_n 0, 1) := by decide +kernel
theorem dX12_passes_16 : decode cX12_passes 16 = .ok (.getfield 177, 3) := by decide +kernel
theorem dX12_passes_19 : decode cX12_passes 19 = .ok (.iload_n 1, 1) := by decide +kernel
theorem dX12_passes_20 : decode cX12_passes 20 = .ok (.iaload, 1) := by decide +kernel
theorem dX12_passes_21 : decode cX12_passes 21 = .ok (.aload_n 0, 1) := by decide +kernel
theorem dX12_passes_22 : decode cX12_passes 22 = .ok (.getfield 99, 3) := by decide +kernel
theorem dX12_passes_25 : decode cX12_passes 25 = .ok (.aload_n 0, 1) := by decide +kernel
theorem dX12_passes_26 : decode cX12_passes 26 = .ok (.getfield 51, 3) := by decide +kernel
theorem dX12_passes_29 : decode cX12_passes 29 = .ok (.iaload, 1) := by decide +kernel
theorem dX12_passes_30 : decode cX12_passes 30 = .ok (.irem, 1) := by decide +kernel
theorem dX12_passes_31 : decode cX12_passes 31 = .ok (.aload_n 0, 1) := by decide +kernel
theorem dX12_passes_32 : decode cX12_passes 32 = .ok (.getfield 96, 3) := by decide +kernel
theorem dX12_passes_35 : decode cX12_passes 35 = .ok (.aload_n 0, 1) := by decide +kernel
theorem dX12_passes_36 : decode cX12_passes 36 = .ok (.getfield 51, 3) := by decide +kernel
theorem dX12_passes_39 : decode cX12_passes 39 = .ok (.iaload, 1) := by decide +kernel
theorem dX12_passes_40 : decode cX12_passes 40 = .ok (.if_icmp .ne 56, 3) := by decide +kernel
theorem dX12_passes_43 : decode cX12_passes 43 = .ok (.iconst 0, 1) := by decide +kernel
theorem dX12_passes_44 : decode cX12_passes 44 = .ok (.istore_n 3, 1) := by decide +kernel
theorem dX12_passes_45 : decode cX12_passes 45 = .ok (.iload_n 3, 1) := by decide +kernel
theorem dX12_passes_46 : decode cX12_passes 46 = .ok (.aload_n 0, 1) := by decide +kernel
theorem dX12_passes_47 : decode cX12_passes 47 = .ok (.getfield 63, 3) := by decide +kernel
theorem dX12_passes_50 : decode cX12_passes 50 = .ok (.aload_n 0, 1) := by decide +kernel
theorem dX12_passes_51 : decode cX12_passes 51 = .ok (.getfield 51, 3) := by decide +kernel
theorem dX12_passes_54 : decode cX12_passes 54 = .ok (.iaload, 1) := by decide +kernel
theorem dX12_passes_55 : decode cX12_passes 55 = .ok (.if_icmp .ge 34, 3) := by decide +kernel
theorem dX12_passes_58 : decode cX12_passes 58 = .ok (.aload_n 0, 1) := by decide +kernel
theorem dX12_passes_59 : decode cX12_passes 59 = .ok (.getfield 186, 3) := by decide +kernel
theorem dX12_passes_62 : decode cX12_passes 62 = .ok (.iload_n 1, 1) := by decide +kernel
theorem dX12_passes_63 : decode cX12_passes 63 = .ok (.iaload, 1) := by decide +kernel
theorem dX12_passes_64 : decode cX12_passes 64 = .ok (.iload_n 3, 1) := by decide +kernel
theorem dX12_passes_65 : decode cX12_passes 65 = .ok (.invokestatic 421, 3) := by decide +kernel
theorem dX12_passes_68 : decode cX12_passes 68 = .ok (.ifCond .eq 15, 3) := by decide +kernel
theorem dX12_passes_71 : decode cX12_passes 71 = .ok (.aload_n 0, 1) := by decide +kernel
theorem dX12_passes_72 : decode cX12_passes 72 = .ok (.getfield 183, 3) := by decide +kernel
theorem dX12_passes_75 : decode cX12_passes 75 = .ok (.bipush 8, 2) := by decide +kernel
theorem dX12_passes_77 : decode cX12_passes 77 = .ok (.iload_n 1, 1) := by decide +kernel
theorem dX12_passes_78 : decode cX12_passes 78 = .ok (.imul, 1) := by decide +kernel
theorem dX12_passes_79 : decode cX12_passes 79 = .ok (.iload_n 3, 1) := by decide +kernel
theorem dX12_passes_80 : decode cX12_passes 80 = .ok (.iadd, 1) := by decide +kernel
theorem dX12_passes_81 : decode cX12_passes 81 = .ok (.iconst 0, 1) := by decide +kernel
theorem dX12_passes_82 : decode cX12_passes 82 = .ok (.iastore, 1) := by decide +kernel
theorem dX12_passes_83 : decode cX12_passes 83 = .ok (.iinc 3 1, 3) := by decide +kernel
theorem dX12_passes_86 : decode cX12_passes 86 = .ok (.goto (-41), 3) := by decide +kernel
theorem dX12_passes_89 : decode cX12_passes 89 = .ok (.aload_n 0, 1) := by decide +kernel
theorem dX12_passes_90 : decode cX12_passes 90 = .ok (.getfield 186, 3) := by decide +kernel
theorem dX12_passes_93 : decode cX12_passes 93 = .ok (.iload_n 1, 1) := by decide +kernel
theorem dX12_passes_94 : decode cX12_passes 94 = .ok (.iconst 0, 1) := by decide +kernel
theorem dX12_passes_95 : decode cX12_passes 95 = .ok (.iastore, 1) := by decide +kernel
theorem dX12_passes_96 : decode cX12_passes 96 = .ok (.iconst 0, 1) := by decide +kernel
theorem dX12_passes_97 : decode cX12_passes 97 = .ok (.istore_n 3, 1) := by decide +kernel
theorem dX12_passes_98 : decode cX12_passes 98 = .ok (.iload_n 3, 1) := by decide +kernel
theorem dX12_passes_99 : decode cX12_passes 99 = .ok (.aload_n 0, 1) := by decide +kernel
theorem dX12_passes_100 : decode cX12_passes 100 = .ok (.getfield 78, 3) := by decide +kernel
theorem dX12_passes_103 : decode cX12_passes 103 = .ok (.aload_n 0, 1) := by decide +kernel
theorem dX12_passes_104 : decode cX12_passes 104 = .ok (.getfield 51, 3) := by decide +kernel
theorem dX12_passes_107 : decode cX12_passes 107 = .ok (.iaload, 1) := by decide +kernel
theorem dX12_passes_108 : decode cX12_passes 108 = .ok (.if_icmp .ge 31, 3) := by decide +kernel
theorem dX12_passes_111 : decode cX12_passes 111 = .ok (.aload_n 0, 1) := by decide +kernel
theorem dX12_passes_112 : decode cX12_passes 112 = .ok (.iload_n 1, 1) := by decide +kernel
theorem dX12_passes_113 : decode cX12_passes 113 = .ok (.aload_n 0, 1) := by decide +kernel
theorem dX12_passes_114 : decode cX12_passes 114 = .ok (.getfield 228, 3) := by decide +kernel
theorem dX12_passes_117 : decode cX12_passes 117 = .ok (.ifCond .eq 12, 3) := by decide +kernel
theorem dX12_passes_120 : decode cX12_passes 120 = .ok (.aload_n 0, 1) := by decide +kernel
theorem dX12_passes_121 : decode cX12_passes 121 = .ok (.getfield 231, 3) := by decide +kernel
theorem dX12_passes_124 : decode cX12_passes 124 = .ok (.iload_n 3, 1) := by decide +kernel
theorem dX12_passes_125 : decode cX12_passes 125 = .ok (.iaload, 1) := by decide +kernel
theorem dX12_passes_126 : decode cX12_passes 126 = .ok (.goto 4, 3) := by decide +kernel
theorem dX12_passes_129 : decode cX12_passes 129 = .ok (.iload_n 3, 1) := by decide +kernel
theorem dX12_passes_130 : decode cX12_passes 130 = .ok (.invokevirtual 575, 3) := by decide +kernel
theorem dX12_passes_133 : decode cX12_passes 133 = .ok (.iinc 3 1, 3) := by decide +kernel
theorem dX12_passes_136 : decode cX12_passes 136 = .ok (.goto (-38), 3) := by decide +kernel
theorem dX12_passes_139 : decode cX12_passes 139 = .ok (.iconst 0, 1) := by decide +kernel
theorem dX12_passes_140 : decode cX12_passes 140 = .ok (.istore_n 3, 1) := by decide +kernel
theorem dX12_passes_141 : decode cX12_passes 141 = .ok (.iload_n 3, 1) := by decide +kernel
theorem dX12_passes_142 : decode cX12_passes 142 = .ok (.aload_n 0, 1) := by decide +kernel
theorem dX12_passes_143 : decode cX12_passes 143 = .ok (.getfield 78, 3) := by decide +kernel
theorem dX12_passes_146 : decode cX12_passes 146 = .ok (.aload_n 0, 1) := by decide +kernel
theorem dX12_passes_147 : decode cX12_passes 147 = .ok (.getfield 51, 3) := by decide +kernel
theorem dX12_passes_150 : decode cX12_passes 150 = .ok (.iaload, 1) := by decide +kernel
theorem dX12_passes_151 : decode cX12_passes 151 = .ok (.if_icmp .ge 23, 3) := by decide +kernel
theorem dX12_passes_154 : decode cX12_passes 154 = .ok (.aload_n 0, 1) := by decide +kernel
theorem dX12_passes_155 : decode cX12_passes 155 = .ok (.iload_n 1, 1) := by decide +kernel
theorem dX12_passes_156 : decode cX12_passes 156 = .ok (.iload_n 3, 1) := by decide +kernel
theorem dX12_passes_157 : decode cX12_passes 157 = .ok (.invokevirtual 537, 3) := by decide +kernel
theorem dX12_passes_160 : decode cX12_passes 160 = .ok (.ifCond .le 8, 3) := by decide +kernel
theorem dX12_passes_163 : decode cX12_passes 163 = .ok (.aload_n 0, 1) := by decide +kernel
theorem dX12_passes_164 : decode cX12_passes 164 = .ok (.iload_n 1, 1) := by decide +kernel
theorem dX12_passes_165 : decode cX12_passes 165 = .ok (.invokevirtual 569, 3) := by decide +kernel
theorem dX12_passes_168 : decode cX12_passes 168 = .ok (.iinc 3 1, 3) := by decide +kernel
theorem dX12_passes_171 : decode cX12_passes 171 = .ok (.goto (-30), 3) := by decide +kernel
theorem dX12_passes_174 : decode cX12_passes 174 = .ok (.aload_n 0, 1) := by decide +kernel
theorem dX12_passes_175 : decode cX12_passes 175 = .ok (.getfield 177, 3) := by decide +kernel
theorem dX12_passes_178 : decode cX12_passes 178 = .ok (.iload_n 1, 1) := by decide +kernel
theorem dX12_passes_179 : decode cX12_passes 179 = .ok (.dup2, 1) := by decide +kernel
theorem dX12_passes_180 : decode cX12_passes 180 = .ok (.iaload, 1) := by decide +kernel
theorem dX12_passes_181 : decode cX12_passes 181 = .ok (.iconst 1, 1) := by decide +kernel
theorem dX12_passes_182 : decode cX12_passes 182 = .ok (.iadd, 1) := by decide +kernel
theorem dX12_passes_183 : decode cX12_passes 183 = .ok (.iastore, 1) := by decide +kernel
theorem dX12_passes_184 : decode cX12_passes 184 = .ok (.aload_n 0, 1) := by decide +kernel
theorem dX12_passes_185 : decode cX12_passes 185 = .ok (.getfield 234, 3) := by decide +kernel
theorem dX12_passes_188 : decode cX12_passes 188 = .ok (.invokestatic 547, 3) := by decide +kernel
theorem dX12_passes_191 : decode cX12_passes 191 = .ok (.ireturn, 1) := by decide +kernel
theorem dX12_isKind_0 : decode cX12_isKind 0 = .ok (.iload_n 1, 1) := by decide +kernel
theorem dX12_isKind_1 : decode cX12_isKind 1 = .ok (.ifCond .lt 20, 3) := by decide +kernel
theorem dX12_isKind_4 : decode cX12_isKind 4 = .ok (.iload_n 1, 1) := by decide +kernel
theorem dX12_isKind_5 : decode cX12_isKind 5 = .ok (.aload_n 0, 1) := by decide +kernel
theorem dX12_isKind_6 : decode cX12_isKind 6 = .ok (.getfield 54, 3) := by decide +kernel
theorem dX12_isKind_9 : decode cX12_isKind 9 = .ok (.aload_n 0, 1) := by decide +kernel
theorem dX12_isKind_10 : decode cX12_isKind 10 = .ok (.getfield 51, 3) := by decide +kernel
theorem dX12_isKind_13 : decode cX12_isKind 13 = .ok (.iaload, 1) := by decide +kernel
theorem dX12_isKind_14 : decode cX12_isKind 14 = .ok (.if_icmp .ge 7, 3) := by decide +kernel
theorem dX12_isKind_17 : decode cX12_isKind 17 = .ok (.iconst 1, 1) := by decide +kernel
theorem dX12_isKind_18 : decode cX12_isKind 18 = .ok (.goto 4, 3) := by decide +kernel
theorem dX12_isKind_21 : decode cX12_isKind 21 = .ok (.iconst 0, 1) := by decide +kernel
theorem dX12_isKind_22 : decode cX12_isKind 22 = .ok (.ireturn, 1) := by decide +kernel
theorem dX12_isTool_0 : decode cX12_isTool 0 = .ok (.iload_n 1, 1) := by decide +kernel
theorem dX12_isTool_1 : decode cX12_isTool 1 = .ok (.ifCond .lt 20, 3) := by decide +kernel
theorem dX12_isTool_4 : decode cX12_isTool 4 = .ok (.iload_n 1, 1) := by decide +kernel
theorem dX12_isTool_5 : decode cX12_isTool 5 = .ok (.aload_n 0, 1) := by decide +kernel
theorem dX12_isTool_6 : decode cX12_isTool 6 = .ok (.getfield 63, 3) := by decide +kernel
theorem dX12_isTool_9 : decode cX12_isTool 9 = .ok (.aload_n 0, 1) := by decide +kernel
theorem dX12_isTool_10 : decode cX12_isTool 10 = .ok (.getfield 51, 3) := by decide +kernel
theorem dX12_isTool_13 : decode cX12_isTool 13 = .ok (.iaload, 1) := by decide +kernel
theorem dX12_isTool_14 : decode cX12_isTool 14 = .ok (.if_icmp .ge 7, 3) := by decide +kernel
theorem dX12_isTool_17 : decode cX12_isTool 17 = .ok (.iconst 1, 1) := by decide +kernel
theorem dX12_isTool_18 : decode cX12_isTool 18 = .ok (.goto 4, 3) := by decide +kernel
theorem dX12_isTool_21 : decode cX12_isTool 21 = .ok (.iconst 0, 1) := by decide +kernel
theorem dX12_isTool_22 : decode cX12_isTool 22 = .ok (.ireturn, 1) := by decide +kernel
theorem dX12_isHand_0 : decode cX12_isHand 0 = .ok (.iload_n 1, 1) := by decide +kernel
theorem dX12_isHand_1 : decode cX12_isHand 1 = .ok (.ifCond .lt 20, 3) := by decide +kernel
theorem dX12_isHand_4 : decode cX12_isHand 4 = .ok (.iload_n 1, 1) := by decide +kernel
theorem dX12_isHand_5 : decode cX12_isHand 5 = .ok (.aload_n 0, 1) := by decide +kernel
theorem dX12_isHand_6 : decode cX12_isHand 6 = .ok (.getfield 72, 3) := by decide +kernel
theorem dX12_isHand_9 : decode cX12_isHand 9 = .ok (.aload_n 0, 1) := by decide +kernel
theorem dX12_isHand_10 : decode cX12_isHand 10 = .ok (.getfield 51, 3) := by decide +kernel
theorem dX12_isHand_13 : decode cX12_isHand 13 = .ok (.iaload, 1) := by decide +kernel
theorem dX12_isHand_14 : decode cX12_isHand 14 = .ok (.if_icmp .ge 7, 3) := by decide +kernel
theorem dX12_isHand_17 : decode cX12_isHand 17 = .ok (.iconst 1, 1) := by decide +kernel
theorem dX12_isHand_18 : decode cX12_isHand 18 = .ok (.goto 4, 3) := by decide +kernel
theorem dX12_isHand_21 : decode cX12_isHand 21 = .ok (.iconst 0, 1) := by decide +kernel
theorem dX12_isHand_22 : decode cX12_isHand 22 = .ok (.ireturn, 1) := by decide +kernel
theorem dX12_isJob_0 : decode cX12_isJob 0 = .ok (.iload_n 1, 1) := by decide +kernel
theorem dX12_isJob_1 : decode cX12_isJob 1 = .ok (.ifCond .lt 20, 3) := by decide +kernel
theorem dX12_isJob_4 : decode cX12_isJob 4 = .ok (.iload_n 1, 1) := by decide +kernel
theorem dX12_isJob_5 : decode cX12_isJob 5 = .ok (.aload_n 0, 1) := by decide +kernel
theorem dX12_isJob_6 : decode cX12_isJob 6 = .ok (.getfield 78, 3) := by decide +kernel
theorem dX12_isJob_9 : decode cX12_isJob 9 = .ok (.aload_n 0, 1) := by decide +kernel
theorem dX12_isJob_10 : decode cX12_isJob 10 = .ok (.getfield 51, 3) := by decide +kernel
theorem dX12_isJob_13 : decode cX12_isJob 13 = .ok (.iaload, 1) := by decide +kernel
theorem dX12_isJob_14 : decode cX12_isJob 14 = .ok (.if_icmp .ge 7, 3) := by decide +kernel
theorem dX12_isJob_17 : decode cX12_isJob 17 = .ok (.iconst 1, 1) := by decide +kernel
theorem dX12_isJob_18 : decode cX12_isJob 18 = .ok (.goto 4, 3) := by decide +kernel
theorem dX12_isJob_21 : decode cX12_isJob 21 = .ok (.iconst 0, 1) := by decide +kernel
theorem dX12_isJob_22 : decode cX12_isJob 22 = .ok (.ireturn, 1) := by decide +kernel
theorem dX12_has_0 : decode cX12_has 0 = .ok (.iconst 0, 1) := by decide +kernel
theorem dX12_has_1 : decode cX12_has 1 = .ok (.istore_n 2, 1) := by decide +kernel
theorem dX12_has_2 : decode cX12_has 2 = .ok (.iload_n 1, 1) := by decide +kernel
theorem dX12_has_3 : decode cX12_has 3 = .ok (.tableswitch 237 0 12 #[65, 75, 85, 95, 105, 112, 119, 129, 139, 179, 219, 226, 231], 65) := by decide +kernel
theorem dX12_has_68 : decode cX12_has 68 = .ok (.aload_n 0, 1) := by decide +kernel
theorem dX12_has_69 : decode cX12_has 69 = .ok (.getfield 54, 3) := by decide +kernel
theorem dX12_has_72 : decode cX12_has 72 = .ok (.aload_n 0, 1) := by decide +kernel
theorem dX12_has_73 : decode cX12_has 73 = .ok (.getfield 51, 3) := by decide +kernel
theorem dX12_has_76 : decode cX12_has 76 = .ok (.iaload, 1) := by decide +kernel
theorem dX12_has_77 : decode cX12_has 77 = .ok (.ireturn, 1) := by decide +kernel
theorem dX12_has_78 : decode cX12_has 78 = .ok (.aload_n 0, 1) := by decide +kernel
theorem dX12_has_79 : decode cX12_has 79 = .ok (.getfield 63, 3) := by decide +kernel
theorem dX12_has_82 : decode cX12_has 82 = .ok (.aload_n 0, 1) := by decide +kernel
theorem dX12_has_83 : decode cX12_has 83 = .ok (.getfield 51, 3) := by decide +kernel
theorem dX12_has_86 : decode cX12_has 86 = .ok (.iaload, 1) := by decide +kernel
theorem dX12_has_87 : decode cX12_has 87 = .ok (.ireturn, 1) := by decide +kernel
theorem dX12_has_88 : decode cX12_has 88 = .ok (.aload_n 0, 1) := by decide +kernel
theorem dX12_has_89 : decode cX12_has 89 = .ok (.getfield 72, 3) := by decide +kernel
theorem dX12_has_92 : decode cX12_has 92 = .ok (.aload_n 0, 1) := by decide +kernel
theorem dX12_has_93 : decode cX12_has 93 = .ok (.getfield 51, 3) := by decide +kernel
theorem dX12_has_96 : decode cX12_has 96 = .ok (.iaload, 1) := by decide +kernel
theorem dX12_has_97 : decode cX12_has 97 = .ok (.ireturn, 1) := by decide +kernel
theorem dX12_has_98 : decode cX12_has 98 = .ok (.aload_n 0, 1) := by decide +kernel
theorem dX12_has_99 : decode cX12_has 99 = .ok (.getfield 78, 3) := by decide +kernel
theorem dX12_has_102 : decode cX12_has 102 = .ok (.aload_n 0, 1) := by decide +kernel
theorem dX12_has_103 : decode cX12_has 103 = .ok (.getfield 51, 3) := by decide +kernel
theorem dX12_has_106 : decode cX12_has 106 = .ok (.iaload, 1) := by decide +kernel
theorem dX12_has_107 : decode cX12_has 107 = .ok (.ireturn, 1) := by decide +kernel
theorem dX12_has_108 : decode cX12_has 108 = .ok (.aload_n 0, 1) := by decide +kernel
theorem dX12_has_109 : decode cX12_has 109 = .ok (.getfield 177, 3) := by decide +kernel
theorem dX12_has_112 : decode cX12_has 112 = .ok (.iconst 0, 1) := by decide +kernel
theorem dX12_has_113 : decode cX12_has 113 = .ok (.iaload, 1) := by decide +kernel
theorem dX12_has_114 : decode cX12_has 114 = .ok (.ireturn, 1) := by decide +kernel
theorem dX12_has_115 : decode cX12_has 115 = .ok (.aload_n 0, 1) := by decide +kernel
theorem dX12_has_116 : decode cX12_has 116 = .ok (.getfield 180, 3) := by decide +kernel
theorem dX12_has_119 : decode cX12_has 119 = .ok (.iconst 0, 1) := by decide +kernel
theorem dX12_has_120 : decode cX12_has 120 = .ok (.iaload, 1) := by decide +kernel
theorem dX12_has_121 : decode cX12_has 121 = .ok (.ireturn, 1) := by decide +kernel
theorem dX12_has_122 : decode cX12_has 122 = .ok (.aload_n 0, 1) := by decide +kernel
theorem dX12_has_123 : decode cX12_has 123 = .ok (.getfield 186, 3) := by decide +kernel
theorem dX12_has_126 : decode cX12_has 126 = .ok (.iconst 0, 1) := by decide +kernel
theorem dX12_has_127 : decode cX12_has 127 = .ok (.iaload, 1) := by decide +kernel
theorem dX12_has_128 : decode cX12_has 128 = .ok (.invokestatic 547, 3) := by decide +kernel
theorem dX12_has_131 : decode cX12_has 131 = .ok (.ireturn, 1) := by decide +kernel
theorem dX12_has_132 : decode cX12_has 132 = .ok (.aload_n 0, 1) := by decide +kernel
theorem dX12_has_133 : decode cX12_has 133 = .ok (.getfield 189, 3) := by decide +kernel
theorem dX12_has_136 : decode cX12_has 136 = .ok (.iconst 0, 1) := by decide +kernel
theorem dX12_has_137 : decode cX12_has 137 = .ok (.iaload, 1) := by decide +kernel
theorem dX12_has_138 : decode cX12_has 138 = .ok (.invokestatic 547, 3) := by decide +kernel
theorem dX12_has_141 : decode cX12_has 141 = .ok (.ireturn, 1) := by decide +kernel
theorem dX12_has_142 : decode cX12_has 142 = .ok (.iconst 0, 1) := by decide +kernel
theorem dX12_has_143 : decode cX12_has 143 = .ok (.istore_n 3, 1) := by decide +kernel
theorem dX12_has_144 : decode cX12_has 144 = .ok (.iload_n 3, 1) := by decide +kernel
theorem dX12_has_145 : decode cX12_has 145 = .ok (.aload_n 0, 1) := by decide +kernel
theorem dX12_has_146 : decode cX12_has 146 = .ok (.getfield 78, 3) := by decide +kernel
theorem dX12_has_149 : decode cX12_has 149 = .ok (.aload_n 0, 1) := by decide +kernel
theorem dX12_has_150 : decode cX12_has 150 = .ok (.getfield 51, 3) := by decide +kernel
theorem dX12_has_153 : decode cX12_has 153 = .ok (.iaload, 1) := by decide +kernel
theorem dX12_has_154 : decode cX12_has 154 = .ok (.if_icmp .ge 26, 3) := by decide +kernel
theorem dX12_has_157 : decode cX12_has 157 = .ok (.iload_n 2, 1) := by decide +kernel
theorem dX12_has_158 : decode cX12_has 158 = .ok (.aload_n 0, 1) := by decide +kernel
theorem dX12_has_159 : decode cX12_has 159 = .ok (.iconst 0, 1) := by decide +kernel
theorem dX12_has_160 : decode cX12_has 160 = .ok (.iload_n 3, 1) := by decide +kernel
theorem dX12_has_161 : decode cX12_has 161 = .ok (.invokevirtual 521, 3) := by decide +kernel
theorem dX12_has_164 : decode cX12_has 164 = .ok (.ifCond .eq 7, 3) := by decide +kernel
theorem dX12_has_167 : decode cX12_has 167 = .ok (.iconst 1, 1) := by decide +kernel
theorem dX12_has_168 : decode cX12_has 168 = .ok (.goto 4, 3) := by decide +kernel
theorem dX12_has_171 : decode cX12_has 171 = .ok (.iconst 0, 1) := by decide +kernel
theorem dX12_has_172 : decode cX12_has 172 = .ok (.iadd, 1) := by decide +kernel
theorem dX12_has_173 : decode cX12_has 173 = .ok (.istore_n 2, 1) := by decide +kernel
theorem dX12_has_174 : decode cX12_has 174 = .ok (.iinc 3 1, 3) := by decide +kernel
theorem dX12_has_177 : decode cX12_has 177 = .ok (.goto (-33), 3) := by decide +kernel
theorem dX12_has_180 : decode cX12_has 180 = .ok (.iload_n 2, 1) := by decide +kernel
theorem dX12_has_181 : decode cX12_has 181 = .ok (.ireturn, 1) := by decide +kernel
theorem dX12_has_182 : decode cX12_has 182 = .ok (.iconst 0, 1) := by decide +kernel
theorem dX12_has_183 : decode cX12_has 183 = .ok (.istore_n 3, 1) := by decide +kernel
theorem dX12_has_184 : decode cX12_has 184 = .ok (.iload_n 3, 1) := by decide +kernel
theorem dX12_has_185 : decode cX12_has 185 = .ok (.aload_n 0, 1) := by decide +kernel
theorem dX12_has_186 : decode cX12_has 186 = .ok (.getfield 78, 3) := by decide +kernel
theorem dX12_has_189 : decode cX12_has 189 = .ok (.aload_n 0, 1) := by decide +kernel
theorem dX12_has_190 : decode cX12_has 190 = .ok (.getfield 51, 3) := by decide +kernel
theorem dX12_has_193 : decode cX12_has 193 = .ok (.iaload, 1) := by decide +kernel
theorem dX12_has_194 : decode cX12_has 194 = .ok (.if_icmp .ge 26, 3) := by decide +kernel
theorem dX12_has_197 : decode cX12_has 197 = .ok (.iload_n 2, 1) := by decide +kernel
theorem dX12_has_198 : decode cX12_has 198 = .ok (.aload_n 0, 1) := by decide +kernel
theorem dX12_has_199 : decode cX12_has 199 = .ok (.iconst 0, 1) := by decide +kernel
theorem dX12_has_200 : decode cX12_has 200 = .ok (.iload_n 3, 1) := by decide +kernel
theorem dX12_has_201 : decode cX12_has 201 = .ok (.invokevirtual 537, 3) := by decide +kernel
theorem dX12_has_204 : decode cX12_has 204 = .ok (.ifCond .le 7, 3) := by decide +kernel
theorem dX12_has_207 : decode cX12_has 207 = .ok (.iconst 1, 1) := by decide +kernel
theorem dX12_has_208 : decode cX12_has 208 = .ok (.goto 4, 3) := by decide +kernel
theorem dX12_has_211 : decode cX12_has 211 = .ok (.iconst 0, 1) := by decide +kernel
theorem dX12_has_212 : decode cX12_has 212 = .ok (.iadd, 1) := by decide +kernel
theorem dX12_has_213 : decode cX12_has 213 = .ok (.istore_n 2, 1) := by decide +kernel
theorem dX12_has_214 : decode cX12_has 214 = .ok (.iinc 3 1, 3) := by decide +kernel
theorem dX12_has_217 : decode cX12_has 217 = .ok (.goto (-33), 3) := by decide +kernel
theorem dX12_has_220 : decode cX12_has 220 = .ok (.iload_n 2, 1) := by decide +kernel
theorem dX12_has_221 : decode cX12_has 221 = .ok (.ireturn, 1) := by decide +kernel
theorem dX12_has_222 : decode cX12_has 222 = .ok (.aload_n 0, 1) := by decide +kernel
theorem dX12_has_223 : decode cX12_has 223 = .ok (.getfield 201, 3) := by decide +kernel
theorem dX12_has_226 : decode cX12_has 226 = .ok (.iconst 0, 1) := by decide +kernel
theorem dX12_has_227 : decode cX12_has 227 = .ok (.iaload, 1) := by decide +kernel
theorem dX12_has_228 : decode cX12_has 228 = .ok (.ireturn, 1) := by decide +kernel
theorem dX12_has_229 : decode cX12_has 229 = .ok (.aload_n 0, 1) := by decide +kernel
theorem dX12_has_230 : decode cX12_has 230 = .ok (.getfield 210, 3) := by decide +kernel
theorem dX12_has_233 : decode cX12_has 233 = .ok (.ireturn, 1) := by decide +kernel
theorem dX12_has_234 : decode cX12_has 234 = .ok (.aload_n 0, 1) := by decide +kernel
theorem dX12_has_235 : decode cX12_has 235 = .ok (.getfield 213, 3) := by decide +kernel
theorem dX12_has_238 : decode cX12_has 238 = .ok (.l2i, 1) := by decide +kernel
theorem dX12_has_239 : decode cX12_has 239 = .ok (.ireturn, 1) := by decide +kernel
theorem dX12_has_240 : decode cX12_has 240 = .ok (.iconst (-1), 1) := by decide +kernel
theorem dX12_has_241 : decode cX12_has 241 = .ok (.ireturn, 1) := by decide +kernel
theorem dX12_letter_0 : decode cX12_letter 0 = .ok (.iload_n 1, 1) := by decide +kernel
theorem dX12_letter_1 : decode cX12_letter 1 = .ok (.iconst 0, 1) := by decide +kernel
theorem dX12_letter_2 : decode cX12_letter 2 = .ok (.iconst 3, 1) := by decide +kernel
theorem dX12_letter_3 : decode cX12_letter 3 = .ok (.invokestatic 379, 3) := by decide +kernel
theorem dX12_letter_6 : decode cX12_letter 6 = .ok (.ifCond .eq 31, 3) := by decide +kernel
theorem dX12_letter_9 : decode cX12_letter 9 = .ok (.iload_n 2, 1) := by decide +kernel
theorem dX12_letter_10 : decode cX12_letter 10 = .ok (.iconst 0, 1) := by decide +kernel
theorem dX12_letter_11 : decode cX12_letter 11 = .ok (.aload_n 0, 1) := by decide +kernel
theorem dX12_letter_12 : decode cX12_letter 12 = .ok (.aload_n 0, 1) := by decide +kernel
theorem dX12_letter_13 : decode cX12_letter 13 = .ok (.getfield 51, 3) := by decide +kernel
theorem dX12_letter_16 : decode cX12_letter 16 = .ok (.iload_n 1, 1) := by decide +kernel
theorem dX12_letter_17 : decode cX12_letter 17 = .ok (.invokevirtual 371, 3) := by decide +kernel
theorem dX12_letter_20 : decode cX12_letter 20 = .ok (.iconst 1, 1) := by decide +kernel
theorem dX12_letter_21 : decode cX12_letter 21 = .ok (.isub, 1) := by decide +kernel
theorem dX12_letter_22 : decode cX12_letter 22 = .ok (.invokestatic 379, 3) := by decide +kernel
theorem dX12_letter_25 : decode cX12_letter 25 = .ok (.ifCond .eq 12, 3) := by decide +kernel
theorem dX12_letter_28 : decode cX12_letter 28 = .ok (.iload_n 3, 1) := by decide +kernel
theorem dX12_letter_29 : decode cX12_letter 29 = .ok (.iconst 0, 1) := by decide +kernel
theorem dX12_letter_30 : decode cX12_letter 30 = .ok (.iconst 5, 1) := by decide +kernel
theorem dX12_letter_31 : decode cX12_letter 31 = .ok (.invokestatic 379, 3) := by decide +kernel
theorem dX12_letter_34 : decode cX12_letter 34 = .ok (.ifCond .ne 5, 3) := by decide +kernel
theorem dX12_letter_37 : decode cX12_letter 37 = .ok (.iconst (-1), 1) := by decide +kernel
theorem dX12_letter_38 : decode cX12_letter 38 = .ok (.ireturn, 1) := by decide +kernel
theorem dX12_letter_39 : decode cX12_letter 39 = .ok (.aload_n 0, 1) := by decide +kernel
theorem dX12_letter_40 : decode cX12_letter 40 = .ok (.aload_n 0, 1) := by decide +kernel
theorem dX12_letter_41 : decode cX12_letter 41 = .ok (.getfield 51, 3) := by decide +kernel
theorem dX12_letter_44 : decode cX12_letter 44 = .ok (.iload_n 1, 1) := by decide +kernel
theorem dX12_letter_45 : decode cX12_letter 45 = .ok (.iload_n 2, 1) := by decide +kernel
theorem dX12_letter_46 : decode cX12_letter 46 = .ok (.invokevirtual 375, 3) := by decide +kernel
theorem dX12_letter_49 : decode cX12_letter 49 = .ok (.lstore 4, 2) := by decide +kernel
theorem dX12_letter_51 : decode cX12_letter 51 = .ok (.iconst 0, 1) := by decide +kernel
theorem dX12_letter_52 : decode cX12_letter 52 = .ok (.istore 6, 2) := by decide +kernel
theorem dX12_letter_54 : decode cX12_letter 54 = .ok (.lload 4, 2) := by decide +kernel
theorem dX12_letter_56 : decode cX12_letter 56 = .ok (.lstore 7, 2) := by decide +kernel
theorem dX12_letter_58 : decode cX12_letter 58 = .ok (.lload 7, 2) := by decide +kernel
theorem dX12_letter_60 : decode cX12_letter 60 = .ok (.lconst 0, 1) := by decide +kernel
theorem dX12_letter_61 : decode cX12_letter 61 = .ok (.lcmp, 1) := by decide +kernel
theorem dX12_letter_62 : decode cX12_letter 62 = .ok (.ifCond .le 16, 3) := by decide +kernel
theorem dX12_letter_65 : decode cX12_letter 65 = .ok (.iinc 6 1, 3) := by decide +kernel
theorem dX12_letter_68 : decode cX12_letter 68 = .ok (.lload 7, 2) := by decide +kernel
theorem dX12_letter_70 : decode cX12_letter 70 = .ok (.bipush 8, 2) := by decide +kernel
theorem dX12_letter_72 : decode cX12_letter 72 = .ok (.lshr, 1) := by decide +kernel
theorem dX12_letter_73 : decode cX12_letter 73 = .ok (.lstore 7, 2) := by decide +kernel
theorem dX12_letter_75 : decode cX12_letter 75 = .ok (.goto (-17), 3) := by decide +kernel
theorem dX12_letter_78 : decode cX12_letter 78 = .ok (.iload_n 3, 1) := by decide +kernel
theorem dX12_letter_79 : decode cX12_letter 79 = .ok (.iload 6, 2) := by decide +kernel
theorem dX12_letter_81 : decode cX12_letter 81 = .ok (.if_icmp .lt 7, 3) := by decide +kernel
theorem dX12_letter_84 : decode cX12_letter 84 = .ok (.iconst 0, 1) := by decide +kernel
theorem dX12_letter_85 : decode cX12_letter 85 = .ok (.goto 25, 3) := by decide +kernel
theorem dX12_letter_88 : decode cX12_letter 88 = .ok (.lload 4, 2) := by decide +kernel
theorem dX12_letter_90 : decode cX12_letter 90 = .ok (.bipush 8, 2) := by decide +kernel
theorem dX12_letter_92 : decode cX12_letter 92 = .ok (.iload 6, 2) := by decide +kernel
theorem dX12_letter_94 : decode cX12_letter 94 = .ok (.iconst 1, 1) := by decide +kernel
theorem dX12_letter_95 : decode cX12_letter 95 = .ok (.isub, 1) := by decide +kernel
theorem dX12_letter_96 : decode cX12_letter 96 = .ok (.iload_n 3, 1) := by decide +kernel
theorem dX12_letter_97 : decode cX12_letter 97 = .ok (.isub, 1) := by decide +kernel
theorem dX12_letter_98 : decode cX12_letter 98 = .ok (.imul, 1) := by decide +kernel
theorem dX12_letter_99 : decode cX12_letter 99 = .ok (.lshr, 1) := by decide +kernel
theorem dX12_letter_100 : decode cX12_letter 100 = .ok (.ldc2_w 578, 3) := by decide +kernel
theorem dX12_letter_103 : decode cX12_letter 103 = .ok (.land, 1) := by decide +kernel
theorem dX12_letter_104 : decode cX12_letter 104 = .ok (.l2i, 1) := by decide +kernel
theorem dX12_letter_105 : decode cX12_letter 105 = .ok (.bipush 97, 2) := by decide +kernel
theorem dX12_letter_107 : decode cX12_letter 107 = .ok (.isub, 1) := by decide +kernel
theorem dX12_letter_108 : decode cX12_letter 108 = .ok (.iconst 1, 1) := by decide +kernel
theorem dX12_letter_109 : decode cX12_letter 109 = .ok (.iadd, 1) := by decide +kernel
theorem dX12_letter_110 : decode cX12_letter 110 = .ok (.ireturn, 1) := by decide +kernel
theorem dX12_kind_0 : decode cX12_kind 0 = .ok (.aload_n 0, 1) := by decide +kernel
theorem dX12_kind_1 : decode cX12_kind 1 = .ok (.iload_n 1, 1) := by decide +kernel
theorem dX12_kind_2 : decode cX12_kind 2 = .ok (.invokevirtual 580, 3) := by decide +kernel
theorem dX12_kind_5 : decode cX12_kind 5 = .ok (.ifCond .ne 5, 3) := by decide +kernel
theorem dX12_kind_8 : decode cX12_kind 8 = .ok (.iconst (-1), 1) := by decide +kernel
theorem dX12_kind_9 : decode cX12_kind 9 = .ok (.ireturn, 1) := by decide +kernel
theorem dX12_kind_10 : decode cX12_kind 10 = .ok (.aload_n 0, 1) := by decide +kernel
theorem dX12_kind_11 : decode cX12_kind 11 = .ok (.getfield 60, 3) := by decide +kernel
theorem dX12_kind_14 : decode cX12_kind 14 = .ok (.bipush 6, 2) := by decide +kernel
theorem dX12_kind_16 : decode cX12_kind 16 = .ok (.aload_n 0, 1) := by decide +kernel
theorem dX12_kind_17 : decode cX12_kind 17 = .ok (.getfield 51, 3) := by decide +kernel
theorem dX12_kind_20 : decode cX12_kind 20 = .ok (.imul, 1) := by decide +kernel
theorem dX12_kind_21 : decode cX12_kind 21 = .ok (.iload_n 1, 1) := by decide +kernel
theorem dX12_kind_22 : decode cX12_kind 22 = .ok (.iadd, 1) := by decide +kernel
theorem dX12_kind_23 : decode cX12_kind 23 = .ok (.iaload, 1) := by decide +kernel
theorem dX12_kind_24 : decode cX12_kind 24 = .ok (.istore_n 3, 1) := by decide +kernel
theorem dX12_kind_25 : decode cX12_kind 25 = .ok (.iload_n 2, 1) := by decide +kernel
theorem dX12_kind_26 : decode cX12_kind 26 = .ok (.tableswitch 133 0 4 #[34, 40, 42, 94, 114], 34) := by decide +kernel
theorem dX12_kind_60 : decode cX12_kind 60 = .ok (.aload_n 0, 1) := by decide +kernel
theorem dX12_kind_61 : decode cX12_kind 61 = .ok (.iload_n 1, 1) := by decide +kernel
theorem dX12_kind_62 : decode cX12_kind 62 = .ok (.invokevirtual 512, 3) := by decide +kernel
theorem dX12_kind_65 : decode cX12_kind 65 = .ok (.ireturn, 1) := by decide +kernel
theorem dX12_kind_66 : decode cX12_kind 66 = .ok (.iload_n 3, 1) := by decide +kernel
theorem dX12_kind_67 : decode cX12_kind 67 = .ok (.ireturn, 1) := by decide +kernel
theorem dX12_kind_68 : decode cX12_kind 68 = .ok (.iconst 0, 1) := by decide +kernel
theorem dX12_kind_69 : decode cX12_kind 69 = .ok (.istore 4, 2) := by decide +kernel
theorem dX12_kind_71 : decode cX12_kind 71 = .ok (.iconst 0, 1) := by decide +kernel
theorem dX12_kind_72 : decode cX12_kind 72 = .ok (.istore 5, 2) := by decide +kernel
theorem dX12_kind_74 : decode cX12_kind 74 = .ok (.iload 5, 2) := by decide +kernel
theorem dX12_kind_76 : decode cX12_kind 76 = .ok (.aload_n 0, 1) := by decide +kernel
theorem dX12_kind_77 : decode cX12_kind 77 = .ok (.getfield 63, 3) := by decide +kernel
theorem dX12_kind_80 : decode cX12_kind 80 = .ok (.aload_n 0, 1) := by decide +kernel
theorem dX12_kind_81 : decode cX12_kind 81 = .ok (.getfield 51, 3) := by decide +kernel
theorem dX12_kind_84 : decode cX12_kind 84 = .ok (.iaload, 1) := by decide +kernel
theorem dX12_kind_85 : decode cX12_kind 85 = .ok (.if_icmp .ge 32, 3) := by decide +kernel
theorem dX12_kind_88 : decode cX12_kind 88 = .ok (.iload 4, 2) := by decide +kernel
theorem dX12_kind_90 : decode cX12_kind 90 = .ok (.aload_n 0, 1) := by decide +kernel
theorem dX12_kind_91 : decode cX12_kind 91 = .ok (.iload 5, 2) := by decide +kernel
theorem dX12_kind_93 : decode cX12_kind 93 = .ok (.invokevirtual 524, 3) := by decide +kernel
theorem dX12_kind_96 : decode cX12_kind 96 = .ok (.iload_n 1, 1) := by decide +kernel
theorem dX12_kind_97 : decode cX12_kind 97 = .ok (.if_icmp .ne 10, 3) := by decide +kernel
theorem dX12_kind_100 : decode cX12_kind 100 = .ok (.iconst 1, 1) := by decide +kernel
theorem dX12_kind_101 : decode cX12_kind 101 = .ok (.iload 5, 2) := by decide +kernel
theorem dX12_kind_103 : decode cX12_kind 103 = .ok (.ishl, 1) := by decide +kernel
theorem dX12_kind_104 : decode cX12_kind 104 = .ok (.goto 4, 3) := by decide +kernel
theorem dX12_kind_107 : decode cX12_kind 107 = .ok (.iconst 0, 1) := by decide +kernel
theorem dX12_kind_108 : decode cX12_kind 108 = .ok (.ior, 1) := by decide +kernel
theorem dX12_kind_109 : decode cX12_kind 109 = .ok (.istore 4, 2) := by decide +kernel
theorem dX12_kind_111 : decode cX12_kind 111 = .ok (.iinc 5 1, 3) := by decide +kernel
theorem dX12_kind_114 : decode cX12_kind 114 = .ok (.goto (-40), 3) := by decide +kernel
theorem dX12_kind_117 : decode cX12_kind 117 = .ok (.iload 4, 2) := by decide +kernel
theorem dX12_kind_119 : decode cX12_kind 119 = .ok (.ireturn, 1) := by decide +kernel
theorem dX12_kind_120 : decode cX12_kind 120 = .ok (.aload_n 0, 1) := by decide +kernel
theorem dX12_kind_121 : decode cX12_kind 121 = .ok (.iload_n 1, 1) := by decide +kernel
theorem dX12_kind_122 : decode cX12_kind 122 = .ok (.aload_n 0, 1) := by decide +kernel
theorem dX12_kind_123 : decode cX12_kind 123 = .ok (.getfield 177, 3) := by decide +kernel
theorem dX12_kind_126 : decode cX12_kind 126 = .ok (.iconst 0, 1) := by decide +kernel
theorem dX12_kind_127 : decode cX12_kind 127 = .ok (.iaload, 1) := by decide +kernel
theorem dX12_kind_128 : decode cX12_kind 128 = .ok (.invokevirtual 527, 3) := by decide +kernel
theorem dX12_kind_131 : decode cX12_kind 131 = .ok (.ifCond .eq 7, 3) := by decide +kernel
theorem dX12_kind_134 : decode cX12_kind 134 = .ok (.iconst 1, 1) := by decide +kernel
theorem dX12_kind_135 : decode cX12_kind 135 = .ok (.goto 4, 3) := by decide +kernel
theorem dX12_kind_138 : decode cX12_kind 138 = .ok (.iconst 0, 1) := by decide +kernel
theorem dX12_kind_139 : decode cX12_kind 139 = .ok (.ireturn, 1) := by decide +kernel
theorem dX12_kind_140 : decode cX12_kind 140 = .ok (.aload_n 0, 1) := by decide +kernel
theorem dX12_kind_141 : decode cX12_kind 141 = .ok (.iload_n 1, 1) := by decide +kernel
theorem dX12_kind_142 : decode cX12_kind 142 = .ok (.invokevirtual 512, 3) := by decide +kernel
theorem dX12_kind_145 : decode cX12_kind 145 = .ok (.iload_n 3, 1) := by decide +kernel
theorem dX12_kind_146 : decode cX12_kind 146 = .ok (.iadd, 1) := by decide +kernel
theorem dX12_kind_147 : decode cX12_kind 147 = .ok (.aload_n 0, 1) := by decide +kernel
theorem dX12_kind_148 : decode cX12_kind 148 = .ok (.getfield 177, 3) := by decide +kernel
theorem dX12_kind_151 : decode cX12_kind 151 = .ok (.iconst 0, 1) := by decide +kernel
theorem dX12_kind_152 : decode cX12_kind 152 = .ok (.iaload, 1) := by decide +kernel
theorem dX12_kind_153 : decode cX12_kind 153 = .ok (.iload_n 3, 1) := by decide +kernel
theorem dX12_kind_154 : decode cX12_kind 154 = .ok (.irem, 1) := by decide +kernel
theorem dX12_kind_155 : decode cX12_kind 155 = .ok (.isub, 1) := by decide +kernel
theorem dX12_kind_156 : decode cX12_kind 156 = .ok (.iload_n 3, 1) := by decide +kernel
theorem dX12_kind_157 : decode cX12_kind 157 = .ok (.irem, 1) := by decide +kernel
theorem dX12_kind_158 : decode cX12_kind 158 = .ok (.ireturn, 1) := by decide +kernel
theorem dX12_kind_159 : decode cX12_kind 159 = .ok (.iconst (-1), 1) := by decide +kernel
theorem dX12_kind_160 : decode cX12_kind 160 = .ok (.ireturn, 1) := by decide +kernel
theorem dX12_tool_0 : decode cX12_tool 0 = .ok (.aload_n 0, 1) := by decide +kernel
theorem dX12_tool_1 : decode cX12_tool 1 = .ok (.iload_n 1, 1) := by decide +kernel
theorem dX12_tool_2 : decode cX12_tool 2 = .ok (.invokevirtual 583, 3) := by decide +kernel
theorem dX12_tool_5 : decode cX12_tool 5 = .ok (.ifCond .ne 5, 3) := by decide +kernel
theorem dX12_tool_8 : decode cX12_tool 8 = .ok (.iconst (-1), 1) := by decide +kernel
theorem dX12_tool_9 : decode cX12_tool 9 = .ok (.ireturn, 1) := by decide +kernel
theorem dX12_tool_10 : decode cX12_tool 10 = .ok (.iload_n 2, 1) := by decide +kernel
theorem dX12_tool_11 : decode cX12_tool 11 = .ok (.ifCond .ne 11, 3) := by decide +kernel
theorem dX12_tool_14 : decode cX12_tool 14 = .ok (.aload_n 0, 1) := by decide +kernel
theorem dX12_tool_15 : decode cX12_tool 15 = .ok (.iload_n 1, 1) := by decide +kernel
theorem dX12_tool_16 : decode cX12_tool 16 = .ok (.invokevirtual 524, 3) := by decide +kernel
theorem dX12_tool_19 : decode cX12_tool 19 = .ok (.goto 54, 3) := by decide +kernel
theorem dX12_tool_22 : decode cX12_tool 22 = .ok (.iload_n 2, 1) := by decide +kernel
theorem dX12_tool_23 : decode cX12_tool 23 = .ok (.iconst 1, 1) := by decide +kernel
theorem dX12_tool_24 : decode cX12_tool 24 = .ok (.if_icmp .ne 12, 3) := by decide +kernel
theorem dX12_tool_27 : decode cX12_tool 27 = .ok (.aload_n 0, 1) := by decide +kernel
theorem dX12_tool_28 : decode cX12_tool 28 = .ok (.getfield 183, 3) := by decide +kernel
theorem dX12_tool_31 : decode cX12_tool 31 = .ok (.iload_n 1, 1) := by decide +kernel
theorem dX12_tool_32 : decode cX12_tool 32 = .ok (.iaload, 1) := by decide +kernel
theorem dX12_tool_33 : decode cX12_tool 33 = .ok (.goto 40, 3) := by decide +kernel
theorem dX12_tool_36 : decode cX12_tool 36 = .ok (.iload_n 2, 1) := by decide +kernel
theorem dX12_tool_37 : decode cX12_tool 37 = .ok (.iconst 2, 1) := by decide +kernel
theorem dX12_tool_38 : decode cX12_tool 38 = .ok (.if_icmp .ne 16, 3) := by decide +kernel
theorem dX12_tool_41 : decode cX12_tool 41 = .ok (.aload_n 0, 1) := by decide +kernel
theorem dX12_tool_42 : decode cX12_tool 42 = .ok (.getfield 186, 3) := by decide +kernel
theorem dX12_tool_45 : decode cX12_tool 45 = .ok (.iconst 0, 1) := by decide +kernel
theorem dX12_tool_46 : decode cX12_tool 46 = .ok (.iaload, 1) := by decide +kernel
theorem dX12_tool_47 : decode cX12_tool 47 = .ok (.iload_n 1, 1) := by decide +kernel
theorem dX12_tool_48 : decode cX12_tool 48 = .ok (.ishr, 1) := by decide +kernel
theorem dX12_tool_49 : decode cX12_tool 49 = .ok (.iconst 1, 1) := by decide +kernel
theorem dX12_tool_50 : decode cX12_tool 50 = .ok (.iand, 1) := by decide +kernel
theorem dX12_tool_51 : decode cX12_tool 51 = .ok (.goto 22, 3) := by decide +kernel
theorem dX12_tool_54 : decode cX12_tool 54 = .ok (.iload_n 2, 1) := by decide +kernel
theorem dX12_tool_55 : decode cX12_tool 55 = .ok (.iconst 3, 1) := by decide +kernel
theorem dX12_tool_56 : decode cX12_tool 56 = .ok (.if_icmp .ne 16, 3) := by decide +kernel
theorem dX12_tool_59 : decode cX12_tool 59 = .ok (.aload_n 0, 1) := by decide +kernel
theorem dX12_tool_60 : decode cX12_tool 60 = .ok (.getfield 189, 3) := by decide +kernel
theorem dX12_tool_63 : decode cX12_tool 63 = .ok (.iconst 0, 1) := by decide +kernel
theorem dX12_tool_64 : decode cX12_tool 64 = .ok (.iaload, 1) := by decide +kernel
theorem dX12_tool_65 : decode cX12_tool 65 = .ok (.iload_n 1, 1) := by decide +kernel
theorem dX12_tool_66 : decode cX12_tool 66 = .ok (.ishr, 1) := by decide +kernel
theorem dX12_tool_67 : decode cX12_tool 67 = .ok (.iconst 1, 1) := by decide +kernel
theorem dX12_tool_68 : decode cX12_tool 68 = .ok (.iand, 1) := by decide +kernel
theorem dX12_tool_69 : decode cX12_tool 69 = .ok (.goto 4, 3) := by decide +kernel
theorem dX12_tool_72 : decode cX12_tool 72 = .ok (.iconst (-1), 1) := by decide +kernel
theorem dX12_tool_73 : decode cX12_tool 73 = .ok (.ireturn, 1) := by decide +kernel
theorem dX12_knows_0 : decode cX12_knows 0 = .ok (.aload_n 0, 1) := by decide +kernel
theorem dX12_knows_1 : decode cX12_knows 1 = .ok (.iload_n 1, 1) := by decide +kernel
theorem dX12_knows_2 : decode cX12_knows 2 = .ok (.invokevirtual 586, 3) := by decide +kernel
theorem dX12_knows_5 : decode cX12_knows 5 = .ok (.ifCond .eq 21, 3) := by decide +kernel
theorem dX12_knows_8 : decode cX12_knows 8 = .ok (.aload_n 0, 1) := by decide +kernel
theorem dX12_knows_9 : decode cX12_knows 9 = .ok (.iload_n 2, 1) := by decide +kernel
theorem dX12_knows_10 : decode cX12_knows 10 = .ok (.invokevirtual 583, 3) := by decide +kernel
theorem dX12_knows_13 : decode cX12_knows 13 = .ok (.ifCond .eq 13, 3) := by decide +kernel
theorem dX12_knows_16 : decode cX12_knows 16 = .ok (.aload_n 0, 1) := by decide +kernel
theorem dX12_knows_17 : decode cX12_knows 17 = .ok (.iconst 0, 1) := by decide +kernel
theorem dX12_knows_18 : decode cX12_knows 18 = .ok (.iload_n 1, 1) := by decide +kernel
theorem dX12_knows_19 : decode cX12_knows 19 = .ok (.iload_n 2, 1) := by decide +kernel
theorem dX12_knows_20 : decode cX12_knows 20 = .ok (.invokevirtual 530, 3) := by decide +kernel
theorem dX12_knows_23 : decode cX12_knows 23 = .ok (.goto 4, 3) := by decide +kernel
theorem dX12_knows_26 : decode cX12_knows 26 = .ok (.iconst (-1), 1) := by decide +kernel
theorem dX12_knows_27 : decode cX12_knows 27 = .ok (.ireturn, 1) := by decide +kernel
theorem dX12_job_0 : decode cX12_job 0 = .ok (.aload_n 0, 1) := by decide +kernel
theorem dX12_job_1 : decode cX12_job 1 = .ok (.iload_n 1, 1) := by decide +kernel
theorem dX12_job_2 : decode cX12_job 2 = .ok (.invokevirtual 589, 3) := by decide +kernel
theorem dX12_job_5 : decode cX12_job 5 = .ok (.ifCond .ne 5, 3) := by decide +kernel
theorem dX12_job_8 : decode cX12_job 8 = .ok (.iconst (-1), 1) := by decide +kernel
theorem dX12_job_9 : decode cX12_job 9 = .ok (.ireturn, 1) := by decide +kernel
theorem dX12_job_10 : decode cX12_job 10 = .ok (.iconst 4, 1) := by decide +kernel
theorem dX12_job_11 : decode cX12_job 11 = .ok (.bipush 6, 2) := by decide +kernel
theorem dX12_job_13 : decode cX12_job 13 = .ok (.aload_n 0, 1) := by decide +kernel
theorem dX12_job_14 : decode cX12_job 14 = .ok (.getfield 51, 3) := by decide +kernel
theorem dX12_job_17 : decode cX12_job 17 = .ok (.imul, 1) := by decide +kernel
theorem dX12_job_18 : decode cX12_job 18 = .ok (.iload_n 1, 1) := by decide +kernel
theorem dX12_job_19 : decode cX12_job 19 = .ok (.iadd, 1) := by decide +kernel
theorem dX12_job_20 : decode cX12_job 20 = .ok (.imul, 1) := by decide +kernel
theorem dX12_job_21 : decode cX12_job 21 = .ok (.istore_n 3, 1) := by decide +kernel
theorem dX12_job_22 : decode cX12_job 22 = .ok (.iload_n 2, 1) := by decide +kernel
theorem dX12_job_23 : decode cX12_job 23 = .ok (.tableswitch 56 0 3 #[29, 36, 42, 49], 29) := by decide +kernel
theorem dX12_job_52 : decode cX12_job 52 = .ok (.aload_n 0, 1) := by decide +kernel
theorem dX12_job_53 : decode cX12_job 53 = .ok (.getfield 198, 3) := by decide +kernel
theorem dX12_job_56 : decode cX12_job 56 = .ok (.iload_n 1, 1) := by decide +kernel
theorem dX12_job_57 : decode cX12_job 57 = .ok (.iaload, 1) := by decide +kernel
theorem dX12_job_58 : decode cX12_job 58 = .ok (.ireturn, 1) := by decide +kernel
theorem dX12_job_59 : decode cX12_job 59 = .ok (.aload_n 0, 1) := by decide +kernel
theorem dX12_job_60 : decode cX12_job 60 = .ok (.iload_n 1, 1) := by decide +kernel
theorem dX12_job_61 : decode cX12_job 61 = .ok (.invokevirtual 518, 3) := by decide +kernel
theorem dX12_job_64 : decode cX12_job 64 = .ok (.ireturn, 1) := by decide +kernel
theorem dX12_job_65 : decode cX12_job 65 = .ok (.aload_n 0, 1) := by decide +kernel
theorem dX12_job_66 : decode cX12_job 66 = .ok (.iconst 0, 1) := by decide +kernel
theorem dX12_job_67 : decode cX12_job 67 = .ok (.iload_n 1, 1) := by decide +kernel
theorem dX12_job_68 : decode cX12_job 68 = .ok (.invokevirtual 515, 3) := by decide +kernel
theorem dX12_job_71 : decode cX12_job 71 = .ok (.ireturn, 1) := by decide +kernel
theorem dX12_job_72 : decode cX12_job 72 = .ok (.aload_n 0, 1) := by decide +kernel
theorem dX12_job_73 : decode cX12_job 73 = .ok (.iconst 0, 1) := by decide +kernel
theorem dX12_job_74 : decode cX12_job 74 = .ok (.iload_n 1, 1) := by decide +kernel
theorem dX12_job_75 : decode cX12_job 75 = .ok (.invokevirtual 537, 3) := by decide +kernel
theorem dX12_job_78 : decode cX12_job 78 = .ok (.ireturn, 1) := by decide +kernel
theorem dX12_job_79 : decode cX12_job 79 = .ok (.iload_n 2, 1) := by decide +kernel
theorem dX12_job_80 : decode cX12_job 80 = .ok (.bipush 10, 2) := by decide +kernel
theorem dX12_job_82 : decode cX12_job 82 = .ok (.bipush 9, 2) := by decide +kernel
theorem dX12_job_84 : decode cX12_job 84 = .ok (.aload_n 0, 1) := by decide +kernel
theorem dX12_job_85 : decode cX12_job 85 = .ok (.iload_n 1, 1) := by decide +kernel
theorem dX12_job_86 : decode cX12_job 86 = .ok (.invokevirtual 518, 3) := by decide +kernel
theorem dX12_job_89 : decode cX12_job 89 = .ok (.iadd, 1) := by decide +kernel
theorem dX12_job_90 : decode cX12_job 90 = .ok (.invokestatic 379, 3) := by decide +kernel
theorem dX12_job_93 : decode cX12_job 93 = .ok (.ifCond .eq 15, 3) := by decide +kernel
theorem dX12_job_96 : decode cX12_job 96 = .ok (.aload_n 0, 1) := by decide +kernel
theorem dX12_job_97 : decode cX12_job 97 = .ok (.getfield 87, 3) := by decide +kernel
theorem dX12_job_100 : decode cX12_job 100 = .ok (.iload_n 3, 1) := by decide +kernel
theorem dX12_job_101 : decode cX12_job 101 = .ok (.iload_n 2, 1) := by decide +kernel
theorem dX12_job_102 : decode cX12_job 102 = .ok (.iadd, 1) := by decide +kernel
theorem dX12_job_103 : decode cX12_job 103 = .ok (.bipush 10, 2) := by decide +kernel
theorem dX12_job_105 : decode cX12_job 105 = .ok (.isub, 1) := by decide +kernel
theorem dX12_job_106 : decode cX12_job 106 = .ok (.iaload, 1) := by decide +kernel
theorem dX12_job_107 : decode cX12_job 107 = .ok (.ireturn, 1) := by decide +kernel
theorem dX12_job_108 : decode cX12_job 108 = .ok (.iload_n 2, 1) := by decide +kernel
theorem dX12_job_109 : decode cX12_job 109 = .ok (.bipush 20, 2) := by decide +kernel
theorem dX12_job_111 : decode cX12_job 111 = .ok (.bipush 19, 2) := by decide +kernel
theorem dX12_job_113 : decode cX12_job 113 = .ok (.aload_n 0, 1) := by decide +kernel
theorem dX12_job_114 : decode cX12_job 114 = .ok (.iload_n 1, 1) := by decide +kernel
theorem dX12_job_115 : decode cX12_job 115 = .ok (.invokevirtual 518, 3) := by decide +kernel
theorem dX12_job_118 : decode cX12_job 118 = .ok (.iadd, 1) := by decide +kernel
theorem dX12_job_119 : decode cX12_job 119 = .ok (.invokestatic 379, 3) := by decide +kernel
theorem dX12_job_122 : decode cX12_job 122 = .ok (.ifCond .eq 17, 3) := by decide +kernel
theorem dX12_job_125 : decode cX12_job 125 = .ok (.aload_n 0, 1) := by decide +kernel
theorem dX12_job_126 : decode cX12_job 126 = .ok (.getfield 90, 3) := by decide +kernel
theorem dX12_job_129 : decode cX12_job 129 = .ok (.iload_n 3, 1) := by decide +kernel
theorem dX12_job_130 : decode cX12_job 130 = .ok (.iload_n 2, 1) := by decide +kernel
theorem dX12_job_131 : decode cX12_job 131 = .ok (.iadd, 1) := by decide +kernel
theorem dX12_job_132 : decode cX12_job 132 = .ok (.bipush 20, 2) := by decide +kernel
theorem dX12_job_134 : decode cX12_job 134 = .ok (.isub, 1) := by decide +kernel
theorem dX12_job_135 : decode cX12_job 135 = .ok (.iaload, 1) := by decide +kernel
theorem dX12_job_136 : decode cX12_job 136 = .ok (.goto 4, 3) := by decide +kernel
theorem dX12_job_139 : decode cX12_job 139 = .ok (.iconst (-1), 1) := by decide +kernel
theorem dX12_job_140 : decode cX12_job 140 = .ok (.ireturn, 1) := by decide +kernel
theorem dX12_isAhead_0 : decode cX12_isAhead 0 = .ok (.iload_n 1, 1) := by decide +kernel
theorem dX12_isAhead_1 : decode cX12_isAhead 1 = .ok (.iload_n 2, 1) := by decide +kernel
theorem dX12_isAhead_2 : decode cX12_isAhead 2 = .ok (.iload_n 3, 1) := by decide +kernel
theorem dX12_isAhead_3 : decode cX12_isAhead 3 = .ok (.invokestatic 379, 3) := by decide +kernel
theorem dX12_isAhead_6 : decode cX12_isAhead 6 = .ok (.ifCond .eq 21, 3) := by decide +kernel
theorem dX12_isAhead_9 : decode cX12_isAhead 9 = .ok (.aload_n 0, 1) := by decide +kernel
theorem dX12_isAhead_10 : decode cX12_isAhead 10 = .ok (.getfield 177, 3) := by decide +kernel
theorem dX12_isAhead_13 : decode cX12_isAhead 13 = .ok (.iconst 0, 1) := by decide +kernel
theorem dX12_isAhead_14 : decode cX12_isAhead 14 = .ok (.iaload, 1) := by decide +kernel
theorem dX12_isAhead_15 : decode cX12_isAhead 15 = .ok (.sipush 999, 3) := by decide +kernel
theorem dX12_isAhead_18 : decode cX12_isAhead 18 = .ok (.iload_n 1, 1) := by decide +kernel
theorem dX12_isAhead_19 : decode cX12_isAhead 19 = .ok (.isub, 1) := by decide +kernel
theorem dX12_isAhead_20 : decode cX12_isAhead 20 = .ok (.if_icmp .gt 7, 3) := by decide +kernel
theorem dX12_isAhead_23 : decode cX12_isAhead 23 = .ok (.iconst 1, 1) := by decide +kernel
theorem dX12_isAhead_24 : decode cX12_isAhead 24 = .ok (.goto 4, 3) := by decide +kernel
theorem dX12_isAhead_27 : decode cX12_isAhead 27 = .ok (.iconst 0, 1) := by decide +kernel
theorem dX12_isAhead_28 : decode cX12_isAhead 28 = .ok (.ireturn, 1) := by decide +kernel
theorem dX12_later_0 : decode cX12_later 0 = .ok (.aload_n 0, 1) := by decide +kernel
theorem dX12_later_1 : decode cX12_later 1 = .ok (.iload_n 1, 1) := by decide +kernel
theorem dX12_later_2 : decode cX12_later 2 = .ok (.iconst 0, 1) := by decide +kernel
theorem dX12_later_3 : decode cX12_later 3 = .ok (.bipush 100, 2) := by decide +kernel
theorem dX12_later_5 : decode cX12_later 5 = .ok (.invokevirtual 592, 3) := by decide +kernel
theorem dX12_later_8 : decode cX12_later 8 = .ok (.ifCond .eq 16, 3) := by decide +kernel
theorem dX12_later_11 : decode cX12_later 11 = .ok (.iload_n 2, 1) := by decide +kernel
theorem dX12_later_12 : decode cX12_later 12 = .ok (.iconst (-1), 1) := by decide +kernel
theorem dX12_later_13 : decode cX12_later 13 = .ok (.if_icmp .eq 13, 3) := by decide +kernel
theorem dX12_later_16 : decode cX12_later 16 = .ok (.aload_n 0, 1) := by decide +kernel
theorem dX12_later_17 : decode cX12_later 17 = .ok (.iload_n 2, 1) := by decide +kernel
theorem dX12_later_18 : decode cX12_later 18 = .ok (.invokevirtual 589, 3) := by decide +kernel
theorem dX12_later_21 : decode cX12_later 21 = .ok (.ifCond .ne 5, 3) := by decide +kernel
theorem dX12_later_24 : decode cX12_later 24 = .ok (.iconst (-1), 1) := by decide +kernel
theorem dX12_later_25 : decode cX12_later 25 = .ok (.ireturn, 1) := by decide +kernel
theorem dX12_later_26 : decode cX12_later 26 = .ok (.aload_n 0, 1) := by decide +kernel
theorem dX12_later_27 : decode cX12_later 27 = .ok (.iconst 1, 1) := by decide +kernel
theorem dX12_later_28 : decode cX12_later 28 = .ok (.iconst 0, 1) := by decide +kernel
theorem dX12_later_29 : decode cX12_later 29 = .ok (.invokevirtual 493, 3) := by decide +kernel
theorem dX12_later_32 : decode cX12_later 32 = .ok (.iconst 0, 1) := by decide +kernel
theorem dX12_later_33 : decode cX12_later 33 = .ok (.istore_n 3, 1) := by decide +kernel
theorem dX12_later_34 : decode cX12_later 34 = .ok (.iload_n 3, 1) := by decide +kernel
theorem dX12_later_35 : decode cX12_later 35 = .ok (.iload_n 1, 1) := by decide +kernel
theorem dX12_later_36 : decode cX12_later 36 = .ok (.if_icmp .ge 16, 3) := by decide +kernel
theorem dX12_later_39 : decode cX12_later 39 = .ok (.aload_n 0, 1) := by decide +kernel
theorem dX12_later_40 : decode cX12_later 40 = .ok (.iconst 1, 1) := by decide +kernel
theorem dX12_later_41 : decode cX12_later 41 = .ok (.iconst 0, 1) := by decide +kernel
theorem dX12_later_42 : decode cX12_later 42 = .ok (.invokevirtual 595, 3) := by decide +kernel
theorem dX12_later_45 : decode cX12_later 45 = .ok (.pop, 1) := by decide +kernel
theorem dX12_later_46 : decode cX12_later 46 = .ok (.iinc 3 1, 3) := by decide +kernel
theorem dX12_later_49 : decode cX12_later 49 = .ok (.goto (-15), 3) := by decide +kernel
theorem dX12_later_52 : decode cX12_later 52 = .ok (.iload_n 2, 1) := by decide +kernel
theorem dX12_later_53 : decode cX12_later 53 = .ok (.iconst (-1), 1) := by decide +kernel
theorem dX12_later_54 : decode cX12_later 54 = .ok (.if_icmp .ne 12, 3) := by decide +kernel
theorem dX12_later_57 : decode cX12_later 57 = .ok (.aload_n 0, 1) := by decide +kernel
theorem dX12_later_58 : decode cX12_later 58 = .ok (.getfield 180, 3) := by decide +kernel
theorem dX12_later_61 : decode cX12_later 61 = .ok (.iconst 1, 1) := by decide +kernel
theorem dX12_later_62 : decode cX12_later 62 = .ok (.iaload, 1) := by decide +kernel
theorem dX12_later_63 : decode cX12_later 63 = .ok (.goto 9, 3) := by decide +kernel
theorem dX12_later_66 : decode cX12_later 66 = .ok (.aload_n 0, 1) := by decide +kernel
theorem dX12_later_67 : decode cX12_later 67 = .ok (.iconst 1, 1) := by decide +kernel
theorem dX12_later_68 : decode cX12_later 68 = .ok (.iload_n 2, 1) := by decide +kernel
theorem dX12_later_69 : decode cX12_later 69 = .ok (.invokevirtual 515, 3) := by decide +kernel
theorem dX12_later_72 : decode cX12_later 72 = .ok (.ireturn, 1) := by decide +kernel
theorem dX12_done_0 : decode cX12_done 0 = .ok (.aload_n 0, 1) := by decide +kernel
theorem dX12_done_1 : decode cX12_done 1 = .ok (.iload_n 1, 1) := by decide +kernel
theorem dX12_done_2 : decode cX12_done 2 = .ok (.invokevirtual 589, 3) := by decide +kernel
theorem dX12_done_5 : decode cX12_done 5 = .ok (.ifCond .ne 5, 3) := by decide +kernel
theorem dX12_done_8 : decode cX12_done 8 = .ok (.iconst (-1), 1) := by decide +kernel
theorem dX12_done_9 : decode cX12_done 9 = .ok (.ireturn, 1) := by decide +kernel
theorem dX12_done_10 : decode cX12_done 10 = .ok (.aload_n 0, 1) := by decide +kernel
theorem dX12_done_11 : decode cX12_done 11 = .ok (.iconst 1, 1) := by decide +kernel
theorem dX12_done_12 : decode cX12_done 12 = .ok (.iconst 0, 1) := by decide +kernel
theorem dX12_done_13 : decode cX12_done 13 = .ok (.invokevirtual 493, 3) := by decide +kernel
theorem dX12_done_16 : decode cX12_done 16 = .ok (.iconst 0, 1) := by decide +kernel
theorem dX12_done_17 : decode cX12_done 17 = .ok (.istore_n 2, 1) := by decide +kernel
theorem dX12_done_18 : decode cX12_done 18 = .ok (.aload_n 0, 1) := by decide +kernel
theorem dX12_done_19 : decode cX12_done 19 = .ok (.iload_n 2, 1) := by decide +kernel
theorem dX12_done_20 : decode cX12_done 20 = .ok (.iconst 0, 1) := by decide +kernel
theorem dX12_done_21 : decode cX12_done 21 = .ok (.bipush 100, 2) := by decide +kernel
theorem dX12_done_23 : decode cX12_done 23 = .ok (.invokevirtual 592, 3) := by decide +kernel
theorem dX12_done_26 : decode cX12_done 26 = .ok (.ifCond .eq 27, 3) := by decide +kernel
theorem dX12_done_29 : decode cX12_done 29 = .ok (.aload_n 0, 1) := by decide +kernel
theorem dX12_done_30 : decode cX12_done 30 = .ok (.iconst 1, 1) := by decide +kernel
theorem dX12_done_31 : decode cX12_done 31 = .ok (.iload_n 1, 1) := by decide +kernel
theorem dX12_done_32 : decode cX12_done 32 = .ok (.invokevirtual 521, 3) := by decide +kernel
theorem dX12_done_35 : decode cX12_done 35 = .ok (.ifCond .eq 5, 3) := by decide +kernel
theorem dX12_done_38 : decode cX12_done 38 = .ok (.iload_n 2, 1) := by decide +kernel
theorem dX12_done_39 : decode cX12_done 39 = .ok (.ireturn, 1) := by decide +kernel
theorem dX12_done_40 : decode cX12_done 40 = .ok (.aload_n 0, 1) := by decide +kernel
theorem dX12_done_41 : decode cX12_done 41 = .ok (.iconst 1, 1) := by decide +kernel
theorem dX12_done_42 : decode cX12_done 42 = .ok (.iconst 0, 1) := by decide +kernel
theorem dX12_done_43 : decode cX12_done 43 = .ok (.invokevirtual 595, 3) := by decide +kernel
theorem dX12_done_46 : decode cX12_done 46 = .ok (.pop, 1) := by decide +kernel
theorem dX12_done_47 : decode cX12_done 47 = .ok (.iinc 2 1, 3) := by decide +kernel
theorem dX12_done_50 : decode cX12_done 50 = .ok (.goto (-32), 3) := by decide +kernel
theorem dX12_done_53 : decode cX12_done 53 = .ok (.iconst (-1), 1) := by decide +kernel
theorem dX12_done_54 : decode cX12_done 54 = .ok (.ireturn, 1) := by decide +kernel
theorem dX12_lateAll_0 : decode cX12_lateAll 0 = .ok (.aload_n 0, 1) := by decide +kernel
theorem dX12_lateAll_1 : decode cX12_lateAll 1 = .ok (.iconst 1, 1) := by decide +kernel
theorem dX12_lateAll_2 : decode cX12_lateAll 2 = .ok (.iconst 0, 1) := by decide +kernel
theorem dX12_lateAll_3 : decode cX12_lateAll 3 = .ok (.invokevirtual 493, 3) := by decide +kernel
theorem dX12_lateAll_6 : decode cX12_lateAll 6 = .ok (.iconst 0, 1) := by decide +kernel
theorem dX12_lateAll_7 : decode cX12_lateAll 7 = .ok (.istore_n 2, 1) := by decide +kernel
theorem dX12_lateAll_8 : decode cX12_lateAll 8 = .ok (.iconst 0, 1) := by decide +kernel
theorem dX12_lateAll_9 : decode cX12_lateAll 9 = .ok (.istore_n 3, 1) := by decide +kernel
theorem dX12_lateAll_10 : decode cX12_lateAll 10 = .ok (.iload_n 3, 1) := by decide +kernel
theorem dX12_lateAll_11 : decode cX12_lateAll 11 = .ok (.iload_n 1, 1) := by decide +kernel
theorem dX12_lateAll_12 : decode cX12_lateAll 12 = .ok (.if_icmp .ge 69, 3) := by decide +kernel
theorem dX12_lateAll_15 : decode cX12_lateAll 15 = .ok (.aload_n 0, 1) := by decide +kernel
theorem dX12_lateAll_16 : decode cX12_lateAll 16 = .ok (.iconst 1, 1) := by decide +kernel
theorem dX12_lateAll_17 : decode cX12_lateAll 17 = .ok (.iconst 0, 1) := by decide +kernel
theorem dX12_lateAll_18 : decode cX12_lateAll 18 = .ok (.invokevirtual 595, 3) := by decide +kernel
theorem dX12_lateAll_21 : decode cX12_lateAll 21 = .ok (.pop, 1) := by decide +kernel
theorem dX12_lateAll_22 : decode cX12_lateAll 22 = .ok (.aload_n 0, 1) := by decide +kernel
theorem dX12_lateAll_23 : decode cX12_lateAll 23 = .ok (.getfield 177, 3) := by decide +kernel
theorem dX12_lateAll_26 : decode cX12_lateAll 26 = .ok (.iconst 1, 1) := by decide +kernel
theorem dX12_lateAll_27 : decode cX12_lateAll 27 = .ok (.dup2, 1) := by decide +kernel
theorem dX12_lateAll_28 : decode cX12_lateAll 28 = .ok (.iaload, 1) := by decide +kernel
theorem dX12_lateAll_29 : decode cX12_lateAll 29 = .ok (.iconst 1, 1) := by decide +kernel
theorem dX12_lateAll_30 : decode cX12_lateAll 30 = .ok (.isub, 1) := by decide +kernel
theorem dX12_lateAll_31 : decode cX12_lateAll 31 = .ok (.iastore, 1) := by decide +kernel
theorem dX12_lateAll_32 : decode cX12_lateAll 32 = .ok (.iconst 0, 1) := by decide +kernel
theorem dX12_lateAll_33 : decode cX12_lateAll 33 = .ok (.istore 4, 2) := by decide +kernel
theorem dX12_lateAll_35 : decode cX12_lateAll 35 = .ok (.iload 4, 2) := by decide +kernel
theorem dX12_lateAll_37 : decode cX12_lateAll 37 = .ok (.aload_n 0, 1) := by decide +kernel
theorem dX12_lateAll_38 : decode cX12_lateAll 38 = .ok (.getfield 78, 3) := by decide +kernel
theorem dX12_lateAll_41 : decode cX12_lateAll 41 = .ok (.aload_n 0, 1) := by decide +kernel
theorem dX12_lateAll_42 : decode cX12_lateAll 42 = .ok (.getfield 51, 3) := by decide +kernel
theorem dX12_lateAll_45 : decode cX12_lateAll 45 = .ok (.iaload, 1) := by decide +kernel
theorem dX12_lateAll_46 : decode cX12_lateAll 46 = .ok (.if_icmp .ge 19, 3) := by decide +kernel
theorem dX12_lateAll_49 : decode cX12_lateAll 49 = .ok (.iload_n 2, 1) := by decide +kernel
theorem dX12_lateAll_50 : decode cX12_lateAll 50 = .ok (.aload_n 0, 1) := by decide +kernel
theorem dX12_lateAll_51 : decode cX12_lateAll 51 = .ok (.iconst 1, 1) := by decide +kernel
theorem dX12_lateAll_52 : decode cX12_lateAll 52 = .ok (.iload 4, 2) := by decide +kernel
theorem dX12_lateAll_54 : decode cX12_lateAll 54 = .ok (.invokevirtual 537, 3) := by decide +kernel
theorem dX12_lateAll_57 : decode cX12_lateAll 57 = .ok (.iadd, 1) := by decide +kernel
theorem dX12_lateAll_58 : decode cX12_lateAll 58 = .ok (.istore_n 2, 1) := by decide +kernel
theorem dX12_lateAll_59 : decode cX12_lateAll 59 = .ok (.iinc 4 1, 3) := by decide +kernel
theorem dX12_lateAll_62 : decode cX12_lateAll 62 = .ok (.goto (-27), 3) := by decide +kernel
theorem dX12_lateAll_65 : decode cX12_lateAll 65 = .ok (.aload_n 0, 1) := by decide +kernel
theorem dX12_lateAll_66 : decode cX12_lateAll 66 = .ok (.getfield 177, 3) := by decide +kernel
theorem dX12_lateAll_69 : decode cX12_lateAll 69 = .ok (.iconst 1, 1) := by decide +kernel
theorem dX12_lateAll_70 : decode cX12_lateAll 70 = .ok (.dup2, 1) := by decide +kernel
theorem dX12_lateAll_71 : decode cX12_lateAll 71 = .ok (.iaload, 1) := by decide +kernel
theorem dX12_lateAll_72 : decode cX12_lateAll 72 = .ok (.iconst 1, 1) := by decide +kernel
theorem dX12_lateAll_73 : decode cX12_lateAll 73 = .ok (.iadd, 1) := by decide +kernel
theorem dX12_lateAll_74 : decode cX12_lateAll 74 = .ok (.iastore, 1) := by decide +kernel
theorem dX12_lateAll_75 : decode cX12_lateAll 75 = .ok (.iinc 3 1, 3) := by decide +kernel
theorem dX12_lateAll_78 : decode cX12_lateAll 78 = .ok (.goto (-68), 3) := by decide +kernel
theorem dX12_lateAll_81 : decode cX12_lateAll 81 = .ok (.iload_n 2, 1) := by decide +kernel
theorem dX12_lateAll_82 : decode cX12_lateAll 82 = .ok (.ireturn, 1) := by decide +kernel
theorem dX12_late_0 : decode cX12_late 0 = .ok (.aload_n 0, 1) := by decide +kernel
theorem dX12_late_1 : decode cX12_late 1 = .ok (.iload_n 1, 1) := by decide +kernel
theorem dX12_late_2 : decode cX12_late 2 = .ok (.iconst 1, 1) := by decide +kernel
theorem dX12_late_3 : decode cX12_late 3 = .ok (.bipush 100, 2) := by decide +kernel
theorem dX12_late_5 : decode cX12_late 5 = .ok (.invokevirtual 592, 3) := by decide +kernel
theorem dX12_late_8 : decode cX12_late 8 = .ok (.ifCond .eq 11, 3) := by decide +kernel
theorem dX12_late_11 : decode cX12_late 11 = .ok (.aload_n 0, 1) := by decide +kernel
theorem dX12_late_12 : decode cX12_late 12 = .ok (.iload_n 1, 1) := by decide +kernel
theorem dX12_late_13 : decode cX12_late 13 = .ok (.invokevirtual 599, 3) := by decide +kernel
theorem dX12_late_16 : decode cX12_late 16 = .ok (.goto 4, 3) := by decide +kernel
theorem dX12_late_19 : decode cX12_late 19 = .ok (.iconst (-1), 1) := by decide +kernel
theorem dX12_late_20 : decode cX12_late 20 = .ok (.ireturn, 1) := by decide +kernel
theorem dX12_isRow_0 : decode cX12_isRow 0 = .ok (.iload_n 1, 1) := by decide +kernel
theorem dX12_isRow_1 : decode cX12_isRow 1 = .ok (.istore_n 2, 1) := by decide +kernel
theorem dX12_isRow_2 : decode cX12_isRow 2 = .ok (.iconst 0, 1) := by decide +kernel
theorem dX12_isRow_3 : decode cX12_isRow 3 = .ok (.istore_n 3, 1) := by decide +kernel
theorem dX12_isRow_4 : decode cX12_isRow 4 = .ok (.aload_n 0, 1) := by decide +kernel
theorem dX12_isRow_5 : decode cX12_isRow 5 = .ok (.getfield 78, 3) := by decide +kernel
theorem dX12_isRow_8 : decode cX12_isRow 8 = .ok (.aload_n 0, 1) := by decide +kernel
theorem dX12_isRow_9 : decode cX12_isRow 9 = .ok (.getfield 51, 3) := by decide +kernel
theorem dX12_isRow_12 : decode cX12_isRow 12 = .ok (.iaload, 1) := by decide +kernel
theorem dX12_isRow_13 : decode cX12_isRow 13 = .ok (.iconst 1, 1) := by decide +kernel
theorem dX12_isRow_14 : decode cX12_isRow 14 = .ok (.isub, 1) := by decide +kernel
theorem dX12_isRow_15 : decode cX12_isRow 15 = .ok (.istore 4, 2) := by decide +kernel
theorem dX12_isRow_17 : decode cX12_isRow 17 = .ok (.iload 4, 2) := by decide +kernel
theorem dX12_isRow_19 : decode cX12_isRow 19 = .ok (.ifCond .lt 51, 3) := by decide +kernel
theorem dX12_isRow_22 : decode cX12_isRow 22 = .ok (.aload_n 0, 1) := by decide +kernel
theorem dX12_isRow_23 : decode cX12_isRow 23 = .ok (.getfield 231, 3) := by decide +kernel
theorem dX12_isRow_26 : decode cX12_isRow 26 = .ok (.iload 4, 2) := by decide +kernel
theorem dX12_isRow_28 : decode cX12_isRow 28 = .ok (.iload_n 2, 1) := by decide +kernel
theorem dX12_isRow_29 : decode cX12_isRow 29 = .ok (.aload_n 0, 1) := by decide +kernel
theorem dX12_isRow_30 : decode cX12_isRow 30 = .ok (.getfield 78, 3) := by decide +kernel
theorem dX12_isRow_33 : decode cX12_isRow 33 = .ok (.aload_n 0, 1) := by decide +kernel
theorem dX12_isRow_34 : decode cX12_isRow 34 = .ok (.getfield 51, 3) := by decide +kernel
theorem dX12_isRow_37 : decode cX12_isRow 37 = .ok (.iaload, 1) := by decide +kernel
theorem dX12_isRow_38 : decode cX12_isRow 38 = .ok (.irem, 1) := by decide +kernel
theorem dX12_isRow_39 : decode cX12_isRow 39 = .ok (.iastore, 1) := by decide +kernel
theorem dX12_isRow_40 : decode cX12_isRow 40 = .ok (.iload_n 3, 1) := by decide +kernel
theorem dX12_isRow_41 : decode cX12_isRow 41 = .ok (.iconst 1, 1) := by decide +kernel
theorem dX12_isRow_42 : decode cX12_isRow 42 = .ok (.aload_n 0, 1) := by decide +kernel
theorem dX12_isRow_43 : decode cX12_isRow 43 = .ok (.getfield 231, 3) := by decide +kernel
theorem dX12_isRow_46 : decode cX12_isRow 46 = .ok (.iload 4, 2) := by decide +kernel
theorem dX12_isRow_48 : decode cX12_isRow 48 = .ok (.iaload, 1) := by decide +kernel
theorem dX12_isRow_49 : decode cX12_isRow 49 = .ok (.ishl, 1) := by decide +kernel
theorem dX12_isRow_50 : decode cX12_isRow 50 = .ok (.ior, 1) := by decide +kernel
theorem dX12_isRow_51 : decode cX12_isRow 51 = .ok (.istore_n 3, 1) := by decide +kernel
theorem dX12_isRow_52 : decode cX12_isRow 52 = .ok (.iload_n 2, 1) := by decide +kernel
theorem dX12_isRow_53 : decode cX12_isRow 53 = .ok (.aload_n 0, 1) := by decide +kernel
theorem dX12_isRow_54 : decode cX12_isRow 54 = .ok (.getfield 78, 3) := by decide +kernel
theorem dX12_isRow_57 : decode cX12_isRow 57 = .ok (.aload_n 0, 1) := by decide +kernel
theorem dX12_isRow_58 : decode cX12_isRow 58 = .ok (.getfield 51, 3) := by decide +kernel
theorem dX12_isRow_61 : decode cX12_isRow 61 = .ok (.iaload, 1) := by decide +kernel
theorem dX12_isRow_62 : decode cX12_isRow 62 = .ok (.idiv, 1) := by decide +kernel
theorem dX12_isRow_63 : decode cX12_isRow 63 = .ok (.istore_n 2, 1) := by decide +kernel
theorem dX12_isRow_64 : decode cX12_isRow 64 = .ok (.iinc 4 (-1), 3) := by decide +kernel
theorem dX12_isRow_67 : decode cX12_isRow 67 = .ok (.goto (-50), 3) := by decide +kernel
theorem dX12_isRow_70 : decode cX12_isRow 70 = .ok (.iload_n 3, 1) := by decide +kernel
theorem dX12_isRow_71 : decode cX12_isRow 71 = .ok (.iconst 1, 1) := by decide +kernel
theorem dX12_isRow_72 : decode cX12_isRow 72 = .ok (.aload_n 0, 1) := by decide +kernel
theorem dX12_isRow_73 : decode cX12_isRow 73 = .ok (.getfield 78, 3) := by decide +kernel
theorem dX12_isRow_76 : decode cX12_isRow 76 = .ok (.aload_n 0, 1) := by decide +kernel
theorem dX12_isRow_77 : decode cX12_isRow 77 = .ok (.getfield 51, 3) := by decide +kernel
theorem dX12_isRow_80 : decode cX12_isRow 80 = .ok (.iaload, 1) := by decide +kernel
theorem dX12_isRow_81 : decode cX12_isRow 81 = .ok (.ishl, 1) := by decide +kernel
theorem dX12_isRow_82 : decode cX12_isRow 82 = .ok (.iconst 1, 1) := by decide +kernel
theorem dX12_isRow_83 : decode cX12_isRow 83 = .ok (.isub, 1) := by decide +kernel
theorem dX12_isRow_84 : decode cX12_isRow 84 = .ok (.if_icmp .ne 7, 3) := by decide +kernel
theorem dX12_isRow_87 : decode cX12_isRow 87 = .ok (.iconst 1, 1) := by decide +kernel
theorem dX12_isRow_88 : decode cX12_isRow 88 = .ok (.goto 4, 3) := by decide +kernel
theorem dX12_isRow_91 : decode cX12_isRow 91 = .ok (.iconst 0, 1) := by decide +kernel
theorem dX12_isRow_92 : decode cX12_isRow 92 = .ok (.ireturn, 1) := by decide +kernel
theorem dX12_order_0 : decode cX12_order 0 = .ok (.aload_n 0, 1) := by decide +kernel
theorem dX12_order_1 : decode cX12_order 1 = .ok (.iload_n 1, 1) := by decide +kernel
theorem dX12_order_2 : decode cX12_order 2 = .ok (.iconst 1, 1) := by decide +kernel
theorem dX12_order_3 : decode cX12_order 3 = .ok (.bipush 30, 2) := by decide +kernel
theorem dX12_order_5 : decode cX12_order 5 = .ok (.invokevirtual 592, 3) := by decide +kernel
theorem dX12_order_8 : decode cX12_order 8 = .ok (.ifCond .eq 16, 3) := by decide +kernel
theorem dX12_order_11 : decode cX12_order 11 = .ok (.iload_n 2, 1) := by decide +kernel
theorem dX12_order_12 : decode cX12_order 12 = .ok (.iconst (-1), 1) := by decide +kernel
theorem dX12_order_13 : decode cX12_order 13 = .ok (.if_icmp .eq 13, 3) := by decide +kernel
theorem dX12_order_16 : decode cX12_order 16 = .ok (.aload_n 0, 1) := by decide +kernel
theorem dX12_order_17 : decode cX12_order 17 = .ok (.iload_n 2, 1) := by decide +kernel
theorem dX12_order_18 : decode cX12_order 18 = .ok (.invokevirtual 589, 3) := by decide +kernel
theorem dX12_order_21 : decode cX12_order 21 = .ok (.ifCond .ne 5, 3) := by decide +kernel
theorem dX12_order_24 : decode cX12_order 24 = .ok (.iconst (-1), 1) := by decide +kernel
theorem dX12_order_25 : decode cX12_order 25 = .ok (.ireturn, 1) := by decide +kernel
theorem dX12_order_26 : decode cX12_order 26 = .ok (.iconst 1, 1) := by decide +kernel
theorem dX12_order_27 : decode cX12_order 27 = .ok (.istore_n 3, 1) := by decide +kernel
theorem dX12_order_28 : decode cX12_order 28 = .ok (.iconst 0, 1) := by decide +kernel
theorem dX12_order_29 : decode cX12_order 29 = .ok (.istore 4, 2) := by decide +kernel
theorem dX12_order_31 : decode cX12_order 31 = .ok (.iload 4, 2) := by decide +kernel
theorem dX12_order_33 : decode cX12_order 33 = .ok (.aload_n 0, 1) := by decide +kernel
theorem dX12_order_34 : decode cX12_order 34 = .ok (.getfield 78, 3) := by decide +kernel
theorem dX12_order_37 : decode cX12_order 37 = .ok (.aload_n 0, 1) := by decide +kernel
theorem dX12_order_38 : decode cX12_order 38 = .ok (.getfield 51, 3) := by decide +kernel
theorem dX12_order_41 : decode cX12_order 41 = .ok (.iaload, 1) := by decide +kernel
theorem dX12_order_42 : decode cX12_order 42 = .ok (.if_icmp .ge 21, 3) := by decide +kernel
theorem dX12_order_45 : decode cX12_order 45 = .ok (.iload_n 3, 1) := by decide +kernel
theorem dX12_order_46 : decode cX12_order 46 = .ok (.aload_n 0, 1) := by decide +kernel
theorem dX12_order_47 : decode cX12_order 47 = .ok (.getfield 78, 3) := by decide +kernel
theorem dX12_order_50 : decode cX12_order 50 = .ok (.aload_n 0, 1) := by decide +kernel
theorem dX12_order_51 : decode cX12_order 51 = .ok (.getfield 51, 3) := by decide +kernel
theorem dX12_order_54 : decode cX12_order 54 = .ok (.iaload, 1) := by decide +kernel
theorem dX12_order_55 : decode cX12_order 55 = .ok (.imul, 1) := by decide +kernel
theorem dX12_order_56 : decode cX12_order 56 = .ok (.istore_n 3, 1) := by decide +kernel
theorem dX12_order_57 : decode cX12_order 57 = .ok (.iinc 4 1, 3) := by decide +kernel
theorem dX12_order_60 : decode cX12_order 60 = .ok (.goto (-29), 3) := by decide +kernel
theorem dX12_order_63 : decode cX12_order 63 = .ok (.ldc_w 602, 3) := by decide +kernel
theorem dX12_order_66 : decode cX12_order 66 = .ok (.istore 4, 2) := by decide +kernel
theorem dX12_order_68 : decode cX12_order 68 = .ok (.aload_n 0, 1) := by decide +kernel
theorem dX12_order_69 : decode cX12_order 69 = .ok (.iconst 1, 1) := by decide +kernel
theorem dX12_order_70 : decode cX12_order 70 = .ok (.putfield 228, 3) := by decide +kernel
theorem dX12_order_73 : decode cX12_order 73 = .ok (.iconst 0, 1) := by decide +kernel
theorem dX12_order_74 : decode cX12_order 74 = .ok (.istore 5, 2) := by decide +kernel
theorem dX12_order_76 : decode cX12_order 76 = .ok (.iload 5, 2) := by decide +kernel
theorem dX12_order_78 : decode cX12_order 78 = .ok (.iload_n 3, 1) := by decide +kernel
theorem dX12_order_79 : decode cX12_order 79 = .ok (.if_icmp .ge 79, 3) := by decide +kernel
theorem dX12_order_82 : decode cX12_order 82 = .ok (.aload_n 0, 1) := by decide +kernel
theorem dX12_order_83 : decode cX12_order 83 = .ok (.iload 5, 2) := by decide +kernel
theorem dX12_order_85 : decode cX12_order 85 = .ok (.invokevirtual 603, 3) := by decide +kernel
theorem dX12_order_88 : decode cX12_order 88 = .ok (.ifCond .ne 6, 3) := by decide +kernel
theorem dX12_order_91 : decode cX12_order 91 = .ok (.goto 61, 3) := by decide +kernel
theorem dX12_order_94 : decode cX12_order 94 = .ok (.aload_n 0, 1) := by decide +kernel
theorem dX12_order_95 : decode cX12_order 95 = .ok (.iload_n 1, 1) := by decide +kernel
theorem dX12_order_96 : decode cX12_order 96 = .ok (.invokevirtual 599, 3) := by decide +kernel
theorem dX12_order_99 : decode cX12_order 99 = .ok (.istore 6, 2) := by decide +kernel
theorem dX12_order_101 : decode cX12_order 101 = .ok (.iload 6, 2) := by decide +kernel
theorem dX12_order_103 : decode cX12_order 103 = .ok (.iload 4, 2) := by decide +kernel
theorem dX12_order_105 : decode cX12_order 105 = .ok (.if_icmp .lt 6, 3) := by decide +kernel
theorem dX12_order_108 : decode cX12_order 108 = .ok (.goto 44, 3) := by decide +kernel
theorem dX12_order_111 : decode cX12_order 111 = .ok (.iload 6, 2) := by decide +kernel
theorem dX12_order_113 : decode cX12_order 113 = .ok (.istore 4, 2) := by decide +kernel
theorem dX12_order_115 : decode cX12_order 115 = .ok (.iconst 0, 1) := by decide +kernel
theorem dX12_order_116 : decode cX12_order 116 = .ok (.istore 7, 2) := by decide +kernel
theorem dX12_order_118 : decode cX12_order 118 = .ok (.iload 7, 2) := by decide +kernel
theorem dX12_order_120 : decode cX12_order 120 = .ok (.aload_n 0, 1) := by decide +kernel
theorem dX12_order_121 : decode cX12_order 121 = .ok (.getfield 78, 3) := by decide +kernel
theorem dX12_order_124 : decode cX12_order 124 = .ok (.aload_n 0, 1) := by decide +kernel
theorem dX12_order_125 : decode cX12_order 125 = .ok (.getfield 51, 3) := by decide +kernel
theorem dX12_order_128 : decode cX12_order 128 = .ok (.iaload, 1) := by decide +kernel
theorem dX12_order_129 : decode cX12_order 129 = .ok (.if_icmp .ge 23, 3) := by decide +kernel
theorem dX12_order_132 : decode cX12_order 132 = .ok (.aload_n 0, 1) := by decide +kernel
theorem dX12_order_133 : decode cX12_order 133 = .ok (.getfield 243, 3) := by decide +kernel
theorem dX12_order_136 : decode cX12_order 136 = .ok (.iload 7, 2) := by decide +kernel
theorem dX12_order_138 : decode cX12_order 138 = .ok (.aload_n 0, 1) := by decide +kernel
theorem dX12_order_139 : decode cX12_order 139 = .ok (.getfield 231, 3) := by decide +kernel
theorem dX12_order_142 : decode cX12_order 142 = .ok (.iload 7, 2) := by decide +kernel
theorem dX12_order_144 : decode cX12_order 144 = .ok (.iaload, 1) := by decide +kernel
theorem dX12_order_145 : decode cX12_order 145 = .ok (.iastore, 1) := by decide +kernel
theorem dX12_order_146 : decode cX12_order 146 = .ok (.iinc 7 1, 3) := by decide +kernel
theorem dX12_order_149 : decode cX12_order 149 = .ok (.goto (-31), 3) := by decide +kernel
theorem dX12_order_152 : decode cX12_order 152 = .ok (.iinc 5 1, 3) := by decide +kernel
theorem dX12_order_155 : decode cX12_order 155 = .ok (.goto (-79), 3) := by decide +kernel
theorem dX12_order_158 : decode cX12_order 158 = .ok (.aload_n 0, 1) := by decide +kernel
theorem dX12_order_159 : decode cX12_order 159 = .ok (.iconst 0, 1) := by decide +kernel
theorem dX12_order_160 : decode cX12_order 160 = .ok (.putfield 228, 3) := by decide +kernel
theorem dX12_order_163 : decode cX12_order 163 = .ok (.iload_n 2, 1) := by decide +kernel
theorem dX12_order_164 : decode cX12_order 164 = .ok (.iconst (-1), 1) := by decide +kernel
theorem dX12_order_165 : decode cX12_order 165 = .ok (.if_icmp .ne 8, 3) := by decide +kernel
theorem dX12_order_168 : decode cX12_order 168 = .ok (.iload 4, 2) := by decide +kernel
theorem dX12_order_170 : decode cX12_order 170 = .ok (.goto 9, 3) := by decide +kernel
theorem dX12_order_173 : decode cX12_order 173 = .ok (.aload_n 0, 1) := by decide +kernel
theorem dX12_order_174 : decode cX12_order 174 = .ok (.getfield 243, 3) := by decide +kernel
theorem dX12_order_177 : decode cX12_order 177 = .ok (.iload_n 2, 1) := by decide +kernel
theorem dX12_order_178 : decode cX12_order 178 = .ok (.iaload, 1) := by decide +kernel
theorem dX12_order_179 : decode cX12_order 179 = .ok (.ireturn, 1) := by decide +kernel
theorem dX12_moved_0 : decode cX12_moved 0 = .ok (.aload_n 0, 1) := by decide +kernel
theorem dX12_moved_1 : decode cX12_moved 1 = .ok (.iload_n 1, 1) := by decide +kernel
theorem dX12_moved_2 : decode cX12_moved 2 = .ok (.iconst 1, 1) := by decide +kernel
theorem dX12_moved_3 : decode cX12_moved 3 = .ok (.bipush 60, 2) := by decide +kernel
theorem dX12_moved_5 : decode cX12_moved 5 = .ok (.invokevirtual 592, 3) := by decide +kernel
theorem dX12_moved_8 : decode cX12_moved 8 = .ok (.ifCond .eq 12, 3) := by decide +kernel
theorem dX12_moved_11 : decode cX12_moved 11 = .ok (.iload_n 2, 1) := by decide +kernel
theorem dX12_moved_12 : decode cX12_moved 12 = .ok (.iconst 0, 1) := by decide +kernel
theorem dX12_moved_13 : decode cX12_moved 13 = .ok (.iconst 2, 1) := by decide +kernel
theorem dX12_moved_14 : decode cX12_moved 14 = .ok (.invokestatic 379, 3) := by decide +kernel
theorem dX12_moved_17 : decode cX12_moved 17 = .ok (.ifCond .ne 5, 3) := by decide +kernel
theorem dX12_moved_20 : decode cX12_moved 20 = .ok (.iconst (-1), 1) := by decide +kernel
theorem dX12_moved_21 : decode cX12_moved 21 = .ok (.ireturn, 1) := by decide +kernel
theorem dX12_moved_22 : decode cX12_moved 22 = .ok (.aload_n 0, 1) := by decide +kernel
theorem dX12_moved_23 : decode cX12_moved 23 = .ok (.iload_n 1, 1) := by decide +kernel
theorem dX12_moved_24 : decode cX12_moved 24 = .ok (.invokevirtual 599, 3) := by decide +kernel
theorem dX12_moved_27 : decode cX12_moved 27 = .ok (.istore_n 3, 1) := by decide +kernel
theorem dX12_moved_28 : decode cX12_moved 28 = .ok (.iload_n 3, 1) := by decide +kernel
theorem dX12_moved_29 : decode cX12_moved 29 = .ok (.istore 4, 2) := by decide +kernel
theorem dX12_moved_31 : decode cX12_moved 31 = .ok (.iconst (-1), 1) := by decide +kernel
theorem dX12_moved_32 : decode cX12_moved 32 = .ok (.istore 5, 2) := by decide +kernel
theorem dX12_moved_34 : decode cX12_moved 34 = .ok (.iconst (-1), 1) := by decide +kernel
theorem dX12_moved_35 : decode cX12_moved 35 = .ok (.istore 6, 2) := by decide +kernel
theorem dX12_moved_37 : decode cX12_moved 37 = .ok (.iconst 0, 1) := by decide +kernel
theorem dX12_moved_38 : decode cX12_moved 38 = .ok (.istore 7, 2) := by decide +kernel
theorem dX12_moved_40 : decode cX12_moved 40 = .ok (.iload 7, 2) := by decide +kernel
theorem dX12_moved_42 : decode cX12_moved 42 = .ok (.aload_n 0, 1) := by decide +kernel
theorem dX12_moved_43 : decode cX12_moved 43 = .ok (.getfield 54, 3) := by decide +kernel
theorem dX12_moved_46 : decode cX12_moved 46 = .ok (.aload_n 0, 1) := by decide +kernel
theorem dX12_moved_47 : decode cX12_moved 47 = .ok (.getfield 51, 3) := by decide +kernel
theorem dX12_moved_50 : decode cX12_moved 50 = .ok (.iaload, 1) := by decide +kernel
theorem dX12_moved_51 : decode cX12_moved 51 = .ok (.if_icmp .ge 107, 3) := by decide +kernel
theorem dX12_moved_54 : decode cX12_moved 54 = .ok (.iconst 0, 1) := by decide +kernel
theorem dX12_moved_55 : decode cX12_moved 55 = .ok (.istore 8, 2) := by decide +kernel
theorem dX12_moved_57 : decode cX12_moved 57 = .ok (.iload 8, 2) := by decide +kernel
theorem dX12_moved_59 : decode cX12_moved 59 = .ok (.aload_n 0, 1) := by decide +kernel
theorem dX12_moved_60 : decode cX12_moved 60 = .ok (.getfield 60, 3) := by decide +kernel
theorem dX12_moved_63 : decode cX12_moved 63 = .ok (.bipush 6, 2) := by decide +kernel
theorem dX12_moved_65 : decode cX12_moved 65 = .ok (.aload_n 0, 1) := by decide +kernel
theorem dX12_moved_66 : decode cX12_moved 66 = .ok (.getfield 51, 3) := by decide +kernel
theorem dX12_moved_69 : decode cX12_moved 69 = .ok (.imul, 1) := by decide +kernel
theorem dX12_moved_70 : decode cX12_moved 70 = .ok (.iload 7, 2) := by decide +kernel
theorem dX12_moved_72 : decode cX12_moved 72 = .ok (.iadd, 1) := by decide +kernel
theorem dX12_moved_73 : decode cX12_moved 73 = .ok (.iaload, 1) := by decide +kernel
theorem dX12_moved_74 : decode cX12_moved 74 = .ok (.if_icmp .ge 78, 3) := by decide +kernel
theorem dX12_moved_77 : decode cX12_moved 77 = .ok (.iload 8, 2) := by decide +kernel
theorem dX12_moved_79 : decode cX12_moved 79 = .ok (.aload_n 0, 1) := by decide +kernel
theorem dX12_moved_80 : decode cX12_moved 80 = .ok (.getfield 57, 3) := by decide +kernel
theorem dX12_moved_83 : decode cX12_moved 83 = .ok (.bipush 6, 2) := by decide +kernel
theorem dX12_moved_85 : decode cX12_moved 85 = .ok (.aload_n 0, 1) := by decide +kernel
theorem dX12_moved_86 : decode cX12_moved 86 = .ok (.getfield 51, 3) := by decide +kernel
theorem dX12_moved_89 : decode cX12_moved 89 = .ok (.imul, 1) := by decide +kernel
theorem dX12_moved_90 : decode cX12_moved 90 = .ok (.iload 7, 2) := by decide +kernel
theorem dX12_moved_92 : decode cX12_moved 92 = .ok (.iadd, 1) := by decide +kernel
theorem dX12_moved_93 : decode cX12_moved 93 = .ok (.iaload, 1) := by decide +kernel
theorem dX12_moved_94 : decode cX12_moved 94 = .ok (.if_icmp .ne 6, 3) := by decide +kernel
theorem dX12_moved_97 : decode cX12_moved 97 = .ok (.goto 49, 3) := by decide +kernel
theorem dX12_moved_100 : decode cX12_moved 100 = .ok (.aload_n 0, 1) := by decide +kernel
theorem dX12_moved_101 : decode cX12_moved 101 = .ok (.iload 7, 2) := by decide +kernel
theorem dX12_moved_103 : decode cX12_moved 103 = .ok (.putfield 222, 3) := by decide +kernel
theorem dX12_moved_106 : decode cX12_moved 106 = .ok (.aload_n 0, 1) := by decide +kernel
theorem dX12_moved_107 : decode cX12_moved 107 = .ok (.iload 8, 2) := by decide +kernel
theorem dX12_moved_109 : decode cX12_moved 109 = .ok (.putfield 225, 3) := by decide +kernel
theorem dX12_moved_112 : decode cX12_moved 112 = .ok (.aload_n 0, 1) := by decide +kernel
theorem dX12_moved_113 : decode cX12_moved 113 = .ok (.iload_n 1, 1) := by decide +kernel
theorem dX12_moved_114 : decode cX12_moved 114 = .ok (.invokevirtual 599, 3) := by decide +kernel
theorem dX12_moved_117 : decode cX12_moved 117 = .ok (.istore 9, 2) := by decide +kernel
theorem dX12_moved_119 : decode cX12_moved 119 = .ok (.aload_n 0, 1) := by decide +kernel
theorem dX12_moved_120 : decode cX12_moved 120 = .ok (.iconst (-1), 1) := by decide +kernel
theorem dX12_moved_121 : decode cX12_moved 121 = .ok (.putfield 222, 3) := by decide +kernel
theorem dX12_moved_124 : decode cX12_moved 124 = .ok (.iload 9, 2) := by decide +kernel
theorem dX12_moved_126 : decode cX12_moved 126 = .ok (.iload 4, 2) := by decide +kernel
theorem dX12_moved_128 : decode cX12_moved 128 = .ok (.if_icmp .lt 6, 3) := by decide +kernel
theorem dX12_moved_131 : decode cX12_moved 131 = .ok (.goto 15, 3) := by decide +kernel
theorem dX12_moved_134 : decode cX12_moved 134 = .ok (.iload 9, 2) := by decide +kernel
theorem dX12_moved_136 : decode cX12_moved 136 = .ok (.istore 4, 2) := by decide +kernel
theorem dX12_moved_138 : decode cX12_moved 138 = .ok (.iload 7, 2) := by decide +kernel
theorem dX12_moved_140 : decode cX12_moved 140 = .ok (.istore 5, 2) := by decide +kernel
theorem dX12_moved_142 : decode cX12_moved 142 = .ok (.iload 8, 2) := by decide +kernel
theorem dX12_moved_144 : decode cX12_moved 144 = .ok (.istore 6, 2) := by decide +kernel
theorem dX12_moved_146 : decode cX12_moved 146 = .ok (.iinc 8 1, 3) := by decide +kernel
theorem dX12_moved_149 : decode cX12_moved 149 = .ok (.goto (-92), 3) := by decide +kernel
theorem dX12_moved_152 : decode cX12_moved 152 = .ok (.iinc 7 1, 3) := by decide +kernel
theorem dX12_moved_155 : decode cX12_moved 155 = .ok (.goto (-115), 3) := by decide +kernel
theorem dX12_moved_158 : decode cX12_moved 158 = .ok (.iload 5, 2) := by decide +kernel
theorem dX12_moved_160 : decode cX12_moved 160 = .ok (.iconst (-1), 1) := by decide +kernel
theorem dX12_moved_161 : decode cX12_moved 161 = .ok (.if_icmp .ne 7, 3) := by decide +kernel
theorem dX12_moved_164 : decode cX12_moved 164 = .ok (.iconst (-1), 1) := by decide +kernel
theorem dX12_moved_165 : decode cX12_moved 165 = .ok (.goto 26, 3) := by decide +kernel
theorem dX12_moved_168 : decode cX12_moved 168 = .ok (.iload_n 2, 1) := by decide +kernel
theorem dX12_moved_169 : decode cX12_moved 169 = .ok (.ifCond .ne 8, 3) := by decide +kernel
theorem dX12_moved_172 : decode cX12_moved 172 = .ok (.iload 5, 2) := by decide +kernel
theorem dX12_moved_174 : decode cX12_moved 174 = .ok (.goto 17, 3) := by decide +kernel
theorem dX12_moved_177 : decode cX12_moved 177 = .ok (.iload_n 2, 1) := by decide +kernel
theorem dX12_moved_178 : decode cX12_moved 178 = .ok (.iconst 1, 1) := by decide +kernel
theorem dX12_moved_179 : decode cX12_moved 179 = .ok (.if_icmp .ne 8, 3) := by decide +kernel
theorem dX12_moved_182 : decode cX12_moved 182 = .ok (.iload 6, 2) := by decide +kernel
theorem dX12_moved_184 : decode cX12_moved 184 = .ok (.goto 7, 3) := by decide +kernel
theorem dX12_moved_187 : decode cX12_moved 187 = .ok (.iload_n 3, 1) := by decide +kernel
theorem dX12_moved_188 : decode cX12_moved 188 = .ok (.iload 4, 2) := by decide +kernel
theorem dX12_moved_190 : decode cX12_moved 190 = .ok (.isub, 1) := by decide +kernel
theorem dX12_moved_191 : decode cX12_moved 191 = .ok (.ireturn, 1) := by decide +kernel
theorem dX12_serves_0 : decode cX12_serves 0 = .ok (.aload_n 0, 1) := by decide +kernel
theorem dX12_serves_1 : decode cX12_serves 1 = .ok (.getfield 93, 3) := by decide +kernel
theorem dX12_serves_4 : decode cX12_serves 4 = .ok (.bipush 6, 2) := by decide +kernel
theorem dX12_serves_6 : decode cX12_serves 6 = .ok (.bipush 6, 2) := by decide +kernel
theorem dX12_serves_8 : decode cX12_serves 8 = .ok (.aload_n 0, 1) := by decide +kernel
theorem dX12_serves_9 : decode cX12_serves 9 = .ok (.getfield 51, 3) := by decide +kernel
theorem dX12_serves_12 : decode cX12_serves 12 = .ok (.imul, 1) := by decide +kernel
theorem dX12_serves_13 : decode cX12_serves 13 = .ok (.iload_n 1, 1) := by decide +kernel
theorem dX12_serves_14 : decode cX12_serves 14 = .ok (.iadd, 1) := by decide +kernel
theorem dX12_serves_15 : decode cX12_serves 15 = .ok (.imul, 1) := by decide +kernel
theorem dX12_serves_16 : decode cX12_serves 16 = .ok (.iload_n 2, 1) := by decide +kernel
theorem dX12_serves_17 : decode cX12_serves 17 = .ok (.iadd, 1) := by decide +kernel
theorem dX12_serves_18 : decode cX12_serves 18 = .ok (.iaload, 1) := by decide +kernel
theorem dX12_serves_19 : decode cX12_serves 19 = .ok (.ireturn, 1) := by decide +kernel
theorem dX12_isBetter_0 : decode cX12_isBetter 0 = .ok (.iload_n 1, 1) := by decide +kernel
theorem dX12_isBetter_1 : decode cX12_isBetter 1 = .ok (.aload_n 0, 1) := by decide +kernel
theorem dX12_isBetter_2 : decode cX12_isBetter 2 = .ok (.getfield 246, 3) := by decide +kernel
theorem dX12_isBetter_5 : decode cX12_isBetter 5 = .ok (.iload_n 3, 1) := by decide +kernel
theorem dX12_isBetter_6 : decode cX12_isBetter 6 = .ok (.iaload, 1) := by decide +kernel
theorem dX12_isBetter_7 : decode cX12_isBetter 7 = .ok (.if_icmp .lt 23, 3) := by decide +kernel
theorem dX12_isBetter_10 : decode cX12_isBetter 10 = .ok (.iload_n 1, 1) := by decide +kernel
theorem dX12_isBetter_11 : decode cX12_isBetter 11 = .ok (.aload_n 0, 1) := by decide +kernel
theorem dX12_isBetter_12 : decode cX12_isBetter 12 = .ok (.getfield 246, 3) := by decide +kernel
theorem dX12_isBetter_15 : decode cX12_isBetter 15 = .ok (.iload_n 3, 1) := by decide +kernel
theorem dX12_isBetter_16 : decode cX12_isBetter 16 = .ok (.iaload, 1) := by decide +kernel
theorem dX12_isBetter_17 : decode cX12_isBetter 17 = .ok (.if_icmp .ne 17, 3) := by decide +kernel
theorem dX12_isBetter_20 : decode cX12_isBetter 20 = .ok (.iload_n 2, 1) := by decide +kernel
theorem dX12_isBetter_21 : decode cX12_isBetter 21 = .ok (.aload_n 0, 1) := by decide +kernel
theorem dX12_isBetter_22 : decode cX12_isBetter 22 = .ok (.getfield 249, 3) := by decide +kernel
theorem dX12_isBetter_25 : decode cX12_isBetter 25 = .ok (.iload_n 3, 1) := by decide +kernel
theorem dX12_isBetter_26 : decode cX12_isBetter 26 = .ok (.iaload, 1) := by decide +kernel
theorem dX12_isBetter_27 : decode cX12_isBetter 27 = .ok (.if_icmp .ge 7, 3) := by decide +kernel
theorem dX12_isBetter_30 : decode cX12_isBetter 30 = .ok (.iconst 1, 1) := by decide +kernel
theorem dX12_isBetter_31 : decode cX12_isBetter 31 = .ok (.goto 4, 3) := by decide +kernel
theorem dX12_isBetter_34 : decode cX12_isBetter 34 = .ok (.iconst 0, 1) := by decide +kernel
theorem dX12_isBetter_35 : decode cX12_isBetter 35 = .ok (.ireturn, 1) := by decide +kernel
theorem dX12_findsMakeshifts_0 : decode cX12_findsMakeshifts 0 = .ok (.iconst 0, 1) := by decide +kernel
theorem dX12_findsMakeshifts_1 : decode cX12_findsMakeshifts 1 = .ok (.istore_n 2, 1) := by decide +kernel
theorem dX12_findsMakeshifts_2 : decode cX12_findsMakeshifts 2 = .ok (.iload_n 2, 1) := by decide +kernel
theorem dX12_findsMakeshifts_3 : decode cX12_findsMakeshifts 3 = .ok (.bipush 6, 2) := by decide +kernel
theorem dX12_findsMakeshifts_5 : decode cX12_findsMakeshifts 5 = .ok (.if_icmp .ge 34, 3) := by decide +kernel
theorem dX12_findsMakeshifts_8 : decode cX12_findsMakeshifts 8 = .ok (.aload_n 0, 1) := by decide +kernel
theorem dX12_findsMakeshifts_9 : decode cX12_findsMakeshifts 9 = .ok (.getfield 246, 3) := by decide +kernel
theorem dX12_findsMakeshifts_12 : decode cX12_findsMakeshifts 12 = .ok (.iload_n 2, 1) := by decide +kernel
theorem dX12_findsMakeshifts_13 : decode cX12_findsMakeshifts 13 = .ok (.iload_n 2, 1) := by decide +kernel
theorem dX12_findsMakeshifts_14 : decode cX12_findsMakeshifts 14 = .ok (.iload_n 1, 1) := by decide +kernel
theorem dX12_findsMakeshifts_15 : decode cX12_findsMakeshifts 15 = .ok (.if_icmp .ne 7, 3) := by decide +kernel
theorem dX12_findsMakeshifts_18 : decode cX12_findsMakeshifts 18 = .ok (.iconst 0, 1) := by decide +kernel
theorem dX12_findsMakeshifts_19 : decode cX12_findsMakeshifts 19 = .ok (.goto 6, 3) := by decide +kernel
theorem dX12_findsMakeshifts_22 : decode cX12_findsMakeshifts 22 = .ok (.ldc_w 602, 3) := by decide +kernel
theorem dX12_findsMakeshifts_25 : decode cX12_findsMakeshifts 25 = .ok (.iastore, 1) := by decide +kernel
theorem dX12_findsMakeshifts_26 : decode cX12_findsMakeshifts 26 = .ok (.aload_n 0, 1) := by decide +kernel
theorem dX12_findsMakeshifts_27 : decode cX12_findsMakeshifts 27 = .ok (.getfield 249, 3) := by decide +kernel
theorem dX12_findsMakeshifts_30 : decode cX12_findsMakeshifts 30 = .ok (.iload_n 2, 1) := by decide +kernel
theorem dX12_findsMakeshifts_31 : decode cX12_findsMakeshifts 31 = .ok (.iconst 0, 1) := by decide +kernel
theorem dX12_findsMakeshifts_32 : decode cX12_findsMakeshifts 32 = .ok (.iastore, 1) := by decide +kernel
theorem dX12_findsMakeshifts_33 : decode cX12_findsMakeshifts 33 = .ok (.iinc 2 1, 3) := by decide +kernel
theorem dX12_findsMakeshifts_36 : decode cX12_findsMakeshifts 36 = .ok (.goto (-34), 3) := by decide +kernel
theorem dX12_findsMakeshifts_39 : decode cX12_findsMakeshifts 39 = .ok (.iconst 0, 1) := by decide +kernel
theorem dX12_findsMakeshifts_40 : decode cX12_findsMakeshifts 40 = .ok (.istore_n 2, 1) := by decide +kernel
theorem dX12_findsMakeshifts_41 : decode cX12_findsMakeshifts 41 = .ok (.iload_n 2, 1) := by decide +kernel
theorem dX12_findsMakeshifts_42 : decode cX12_findsMakeshifts 42 = .ok (.bipush 6, 2) := by decide +kernel
theorem dX12_findsMakeshifts_44 : decode cX12_findsMakeshifts 44 = .ok (.if_icmp .ge 147, 3) := by decide +kernel
theorem dX12_findsMakeshifts_47 : decode cX12_findsMakeshifts 47 = .ok (.iconst 0, 1) := by decide +kernel
theorem dX12_findsMakeshifts_48 : decode cX12_findsMakeshifts 48 = .ok (.istore_n 3, 1) := by decide +kernel
theorem dX12_findsMakeshifts_49 : decode cX12_findsMakeshifts 49 = .ok (.iload_n 3, 1) := by decide +kernel
theorem dX12_findsMakeshifts_50 : decode cX12_findsMakeshifts 50 = .ok (.aload_n 0, 1) := by decide +kernel
theorem dX12_findsMakeshifts_51 : decode cX12_findsMakeshifts 51 = .ok (.getfield 54, 3) := by decide +kernel
theorem dX12_findsMakeshifts_54 : decode cX12_findsMakeshifts 54 = .ok (.aload_n 0, 1) := by decide +kernel
theorem dX12_findsMakeshifts_55 : decode cX12_findsMakeshifts 55 = .ok (.getfield 51, 3) := by decide +kernel
theorem dX12_findsMakeshifts_58 : decode cX12_findsMakeshifts 58 = .ok (.iaload, 1) := by decide +kernel
theorem dX12_findsMakeshifts_59 : decode cX12_findsMakeshifts 59 = .ok (.if_icmp .ge 126, 3) := by decide +kernel
theorem dX12_findsMakeshifts_62 : decode cX12_findsMakeshifts 62 = .ok (.iconst 0, 1) := by decide +kernel
theorem dX12_findsMakeshifts_63 : decode cX12_findsMakeshifts 63 = .ok (.istore 4, 2) := by decide +kernel
theorem dX12_findsMakeshifts_65 : decode cX12_findsMakeshifts 65 = .ok (.iload 4, 2) := by decide +kernel
theorem dX12_findsMakeshifts_67 : decode cX12_findsMakeshifts 67 = .ok (.aload_n 0, 1) := by decide +kernel
theorem dX12_findsMakeshifts_68 : decode cX12_findsMakeshifts 68 = .ok (.getfield 54, 3) := by decide +kernel
theorem dX12_findsMakeshifts_71 : decode cX12_findsMakeshifts 71 = .ok (.aload_n 0, 1) := by decide +kernel
theorem dX12_findsMakeshifts_72 : decode cX12_findsMakeshifts 72 = .ok (.getfield 51, 3) := by decide +kernel
theorem dX12_findsMakeshifts_75 : decode cX12_findsMakeshifts 75 = .ok (.iaload, 1) := by decide +kernel
theorem dX12_findsMakeshifts_76 : decode cX12_findsMakeshifts 76 = .ok (.if_icmp .ge 103, 3) := by decide +kernel
theorem dX12_findsMakeshifts_79 : decode cX12_findsMakeshifts 79 = .ok (.aload_n 0, 1) := by decide +kernel
theorem dX12_findsMakeshifts_80 : decode cX12_findsMakeshifts 80 = .ok (.iload 4, 2) := by decide +kernel
theorem dX12_findsMakeshifts_82 : decode cX12_findsMakeshifts 82 = .ok (.iload_n 3, 1) := by decide +kernel
theorem dX12_findsMakeshifts_83 : decode cX12_findsMakeshifts 83 = .ok (.invokevirtual 606, 3) := by decide +kernel
theorem dX12_findsMakeshifts_86 : decode cX12_findsMakeshifts 86 = .ok (.ifCond .eq 87, 3) := by decide +kernel
theorem dX12_findsMakeshifts_89 : decode cX12_findsMakeshifts 89 = .ok (.aload_n 0, 1) := by decide +kernel
theorem dX12_findsMakeshifts_90 : decode cX12_findsMakeshifts 90 = .ok (.getfield 246, 3) := by decide +kernel
theorem dX12_findsMakeshifts_93 : decode cX12_findsMakeshifts 93 = .ok (.iload 4, 2) := by decide +kernel
theorem dX12_findsMakeshifts_95 : decode cX12_findsMakeshifts 95 = .ok (.iaload, 1) := by decide +kernel
theorem dX12_findsMakeshifts_96 : decode cX12_findsMakeshifts 96 = .ok (.ldc_w 602, 3) := by decide +kernel
theorem dX12_findsMakeshifts_99 : decode cX12_findsMakeshifts 99 = .ok (.if_icmp .eq 74, 3) := by decide +kernel
theorem dX12_findsMakeshifts_102 : decode cX12_findsMakeshifts 102 = .ok (.aload_n 0, 1) := by decide +kernel
theorem dX12_findsMakeshifts_103 : decode cX12_findsMakeshifts 103 = .ok (.aload_n 0, 1) := by decide +kernel
theorem dX12_findsMakeshifts_104 : decode cX12_findsMakeshifts 104 = .ok (.getfield 246, 3) := by decide +kernel
theorem dX12_findsMakeshifts_107 : decode cX12_findsMakeshifts 107 = .ok (.iload 4, 2) := by decide +kernel
theorem dX12_findsMakeshifts_109 : decode cX12_findsMakeshifts 109 = .ok (.iaload, 1) := by decide +kernel
theorem dX12_findsMakeshifts_110 : decode cX12_findsMakeshifts 110 = .ok (.aload_n 0, 1) := by decide +kernel
theorem dX12_findsMakeshifts_111 : decode cX12_findsMakeshifts 111 = .ok (.iload 4, 2) := by decide +kernel
theorem dX12_findsMakeshifts_113 : decode cX12_findsMakeshifts 113 = .ok (.iload_n 3, 1) := by decide +kernel
theorem dX12_findsMakeshifts_114 : decode cX12_findsMakeshifts 114 = .ok (.invokevirtual 606, 3) := by decide +kernel
theorem dX12_findsMakeshifts_117 : decode cX12_findsMakeshifts 117 = .ok (.iadd, 1) := by decide +kernel
theorem dX12_findsMakeshifts_118 : decode cX12_findsMakeshifts 118 = .ok (.aload_n 0, 1) := by decide +kernel
theorem dX12_findsMakeshifts_119 : decode cX12_findsMakeshifts 119 = .ok (.getfield 249, 3) := by decide +kernel
theorem dX12_findsMakeshifts_122 : decode cX12_findsMakeshifts 122 = .ok (.iload 4, 2) := by decide +kernel
theorem dX12_findsMakeshifts_124 : decode cX12_findsMakeshifts 124 = .ok (.iaload, 1) := by decide +kernel
theorem dX12_findsMakeshifts_125 : decode cX12_findsMakeshifts 125 = .ok (.iconst 1, 1) := by decide +kernel
theorem dX12_findsMakeshifts_126 : decode cX12_findsMakeshifts 126 = .ok (.iadd, 1) := by decide +kernel
theorem dX12_findsMakeshifts_127 : decode cX12_findsMakeshifts 127 = .ok (.iload_n 3, 1) := by decide +kernel
theorem dX12_findsMakeshifts_128 : decode cX12_findsMakeshifts 128 = .ok (.invokevirtual 609, 3) := by decide +kernel
theorem dX12_findsMakeshifts_131 : decode cX12_findsMakeshifts 131 = .ok (.ifCond .ne 6, 3) := by decide +kernel
theorem dX12_findsMakeshifts_134 : decode cX12_findsMakeshifts 134 = .ok (.goto 39, 3) := by decide +kernel
theorem dX12_findsMakeshifts_137 : decode cX12_findsMakeshifts 137 = .ok (.aload_n 0, 1) := by decide +kernel
theorem dX12_findsMakeshifts_138 : decode cX12_findsMakeshifts 138 = .ok (.getfield 246, 3) := by decide +kernel
theorem dX12_findsMakeshifts_141 : decode cX12_findsMakeshifts 141 = .ok (.iload_n 3, 1) := by decide +kernel
theorem dX12_findsMakeshifts_142 : decode cX12_findsMakeshifts 142 = .ok (.aload_n 0, 1) := by decide +kernel
theorem dX12_findsMakeshifts_143 : decode cX12_findsMakeshifts 143 = .ok (.getfield 246, 3) := by decide +kernel
theorem dX12_findsMakeshifts_146 : decode cX12_findsMakeshifts 146 = .ok (.iload 4, 2) := by decide +kernel
theorem dX12_findsMakeshifts_148 : decode cX12_findsMakeshifts 148 = .ok (.iaload, 1) := by decide +kernel
theorem dX12_findsMakeshifts_149 : decode cX12_findsMakeshifts 149 = .ok (.aload_n 0, 1) := by decide +kernel
theorem dX12_findsMakeshifts_150 : decode cX12_findsMakeshifts 150 = .ok (.iload 4, 2) := by decide +kernel
theorem dX12_findsMakeshifts_152 : decode cX12_findsMakeshifts 152 = .ok (.iload_n 3, 1) := by decide +kernel
theorem dX12_findsMakeshifts_153 : decode cX12_findsMakeshifts 153 = .ok (.invokevirtual 606, 3) := by decide +kernel
theorem dX12_findsMakeshifts_156 : decode cX12_findsMakeshifts 156 = .ok (.iadd, 1) := by decide +kernel
theorem dX12_findsMakeshifts_157 : decode cX12_findsMakeshifts 157 = .ok (.iastore, 1) := by decide +kernel
theorem dX12_findsMakeshifts_158 : decode cX12_findsMakeshifts 158 = .ok (.aload_n 0, 1) := by decide +kernel
theorem dX12_findsMakeshifts_159 : decode cX12_findsMakeshifts 159 = .ok (.getfield 249, 3) := by decide +kernel
theorem dX12_findsMakeshifts_162 : decode cX12_findsMakeshifts 162 = .ok (.iload_n 3, 1) := by decide +kernel
theorem dX12_findsMakeshifts_163 : decode cX12_findsMakeshifts 163 = .ok (.aload_n 0, 1) := by decide +kernel
theorem dX12_findsMakeshifts_164 : decode cX12_findsMakeshifts 164 = .ok (.getfield 249, 3) := by decide +kernel
theorem dX12_findsMakeshifts_167 : decode cX12_findsMakeshifts 167 = .ok (.iload 4, 2) := by decide +kernel
theorem dX12_findsMakeshifts_169 : decode cX12_findsMakeshifts 169 = .ok (.iaload, 1) := by decide +kernel
theorem dX12_findsMakeshifts_170 : decode cX12_findsMakeshifts 170 = .ok (.iconst 1, 1) := by decide +kernel
theorem dX12_findsMakeshifts_171 : decode cX12_findsMakeshifts 171 = .ok (.iadd, 1) := by decide +kernel
theorem dX12_findsMakeshifts_172 : decode cX12_findsMakeshifts 172 = .ok (.iastore, 1) := by decide +kernel
theorem dX12_findsMakeshifts_173 : decode cX12_findsMakeshifts 173 = .ok (.iinc 4 1, 3) := by decide +kernel
theorem dX12_findsMakeshifts_176 : decode cX12_findsMakeshifts 176 = .ok (.goto (-111), 3) := by decide +kernel
theorem dX12_findsMakeshifts_179 : decode cX12_findsMakeshifts 179 = .ok (.iinc 3 1, 3) := by decide +kernel
theorem dX12_findsMakeshifts_182 : decode cX12_findsMakeshifts 182 = .ok (.goto (-133), 3) := by decide +kernel
theorem dX12_findsMakeshifts_185 : decode cX12_findsMakeshifts 185 = .ok (.iinc 2 1, 3) := by decide +kernel
theorem dX12_findsMakeshifts_188 : decode cX12_findsMakeshifts 188 = .ok (.goto (-147), 3) := by decide +kernel
theorem dX12_findsMakeshifts_191 : decode cX12_findsMakeshifts 191 = .ok (.return_, 1) := by decide +kernel
theorem dX12_makeshift_0 : decode cX12_makeshift 0 = .ok (.aload_n 0, 1) := by decide +kernel
theorem dX12_makeshift_1 : decode cX12_makeshift 1 = .ok (.iload_n 1, 1) := by decide +kernel
theorem dX12_makeshift_2 : decode cX12_makeshift 2 = .ok (.invokevirtual 580, 3) := by decide +kernel
theorem dX12_makeshift_5 : decode cX12_makeshift 5 = .ok (.ifCond .eq 16, 3) := by decide +kernel
theorem dX12_makeshift_8 : decode cX12_makeshift 8 = .ok (.aload_n 0, 1) := by decide +kernel
theorem dX12_makeshift_9 : decode cX12_makeshift 9 = .ok (.iload_n 2, 1) := by decide +kernel
theorem dX12_makeshift_10 : decode cX12_makeshift 10 = .ok (.invokevirtual 580, 3) := by decide +kernel
theorem dX12_makeshift_13 : decode cX12_makeshift 13 = .ok (.ifCond .eq 8, 3) := by decide +kernel
theorem dX12_makeshift_16 : decode cX12_makeshift 16 = .ok (.iload_n 3, 1) := by decide +kernel
theorem dX12_makeshift_17 : decode cX12_makeshift 17 = .ok (.iconst (-1), 1) := by decide +kernel
theorem dX12_makeshift_18 : decode cX12_makeshift 18 = .ok (.if_icmp .ge 5, 3) := by decide +kernel
theorem dX12_makeshift_21 : decode cX12_makeshift 21 = .ok (.iconst (-1), 1) := by decide +kernel
theorem dX12_makeshift_22 : decode cX12_makeshift 22 = .ok (.ireturn, 1) := by decide +kernel
theorem dX12_makeshift_23 : decode cX12_makeshift 23 = .ok (.aload_n 0, 1) := by decide +kernel
theorem dX12_makeshift_24 : decode cX12_makeshift 24 = .ok (.iload_n 1, 1) := by decide +kernel
theorem dX12_makeshift_25 : decode cX12_makeshift 25 = .ok (.invokevirtual 612, 3) := by decide +kernel
theorem dX12_makeshift_28 : decode cX12_makeshift 28 = .ok (.aload_n 0, 1) := by decide +kernel
theorem dX12_makeshift_29 : decode cX12_makeshift 29 = .ok (.getfield 246, 3) := by decide +kernel
theorem dX12_makeshift_32 : decode cX12_makeshift 32 = .ok (.iload_n 2, 1) := by decide +kernel
theorem dX12_makeshift_33 : decode cX12_makeshift 33 = .ok (.iaload, 1) := by decide +kernel
theorem dX12_makeshift_34 : decode cX12_makeshift 34 = .ok (.ldc_w 602, 3) := by decide +kernel
theorem dX12_makeshift_37 : decode cX12_makeshift 37 = .ok (.if_icmp .ne 5, 3) := by decide +kernel
theorem dX12_makeshift_40 : decode cX12_makeshift 40 = .ok (.iconst (-1), 1) := by decide +kernel
theorem dX12_makeshift_41 : decode cX12_makeshift 41 = .ok (.ireturn, 1) := by decide +kernel
theorem dX12_makeshift_42 : decode cX12_makeshift 42 = .ok (.iload_n 3, 1) := by decide +kernel
theorem dX12_makeshift_43 : decode cX12_makeshift 43 = .ok (.iconst (-1), 1) := by decide +kernel
theorem dX12_makeshift_44 : decode cX12_makeshift 44 = .ok (.if_icmp .ne 10, 3) := by decide +kernel
theorem dX12_makeshift_47 : decode cX12_makeshift 47 = .ok (.aload_n 0, 1) := by decide +kernel
theorem dX12_makeshift_48 : decode cX12_makeshift 48 = .ok (.getfield 246, 3) := by decide +kernel
theorem dX12_makeshift_51 : decode cX12_makeshift 51 = .ok (.iload_n 2, 1) := by decide +kernel
theorem dX12_makeshift_52 : decode cX12_makeshift 52 = .ok (.iaload, 1) := by decide +kernel
theorem dX12_makeshift_53 : decode cX12_makeshift 53 = .ok (.ireturn, 1) := by decide +kernel
theorem dX12_makeshift_54 : decode cX12_makeshift 54 = .ok (.iload_n 3, 1) := by decide +kernel
theorem dX12_makeshift_55 : decode cX12_makeshift 55 = .ok (.aload_n 0, 1) := by decide +kernel
theorem dX12_makeshift_56 : decode cX12_makeshift 56 = .ok (.getfield 249, 3) := by decide +kernel
theorem dX12_makeshift_59 : decode cX12_makeshift 59 = .ok (.iload_n 2, 1) := by decide +kernel
theorem dX12_makeshift_60 : decode cX12_makeshift 60 = .ok (.iaload, 1) := by decide +kernel
theorem dX12_makeshift_61 : decode cX12_makeshift 61 = .ok (.if_icmp .lt 5, 3) := by decide +kernel
theorem dX12_makeshift_64 : decode cX12_makeshift 64 = .ok (.iconst (-1), 1) := by decide +kernel
theorem dX12_makeshift_65 : decode cX12_makeshift 65 = .ok (.ireturn, 1) := by decide +kernel
theorem dX12_makeshift_66 : decode cX12_makeshift 66 = .ok (.iload_n 2, 1) := by decide +kernel
theorem dX12_makeshift_67 : decode cX12_makeshift 67 = .ok (.istore 4, 2) := by decide +kernel
theorem dX12_makeshift_69 : decode cX12_makeshift 69 = .ok (.iconst 0, 1) := by decide +kernel
theorem dX12_makeshift_70 : decode cX12_makeshift 70 = .ok (.istore 5, 2) := by decide +kernel
theorem dX12_makeshift_72 : decode cX12_makeshift 72 = .ok (.iload 5, 2) := by decide +kernel
theorem dX12_makeshift_74 : decode cX12_makeshift 74 = .ok (.iload_n 3, 1) := by decide +kernel
theorem dX12_makeshift_75 : decode cX12_makeshift 75 = .ok (.if_icmp .gt 78, 3) := by decide +kernel
theorem dX12_makeshift_78 : decode cX12_makeshift 78 = .ok (.iconst 0, 1) := by decide +kernel
theorem dX12_makeshift_79 : decode cX12_makeshift 79 = .ok (.istore 6, 2) := by decide +kernel
theorem dX12_makeshift_81 : decode cX12_makeshift 81 = .ok (.aload_n 0, 1) := by decide +kernel
theorem dX12_makeshift_82 : decode cX12_makeshift 82 = .ok (.iload 6, 2) := by decide +kernel
theorem dX12_makeshift_84 : decode cX12_makeshift 84 = .ok (.iload 4, 2) := by decide +kernel
theorem dX12_makeshift_86 : decode cX12_makeshift 86 = .ok (.invokevirtual 606, 3) := by decide +kernel
theorem dX12_makeshift_89 : decode cX12_makeshift 89 = .ok (.ifCond .eq 48, 3) := by decide +kernel
theorem dX12_makeshift_92 : decode cX12_makeshift 92 = .ok (.aload_n 0, 1) := by decide +kernel
theorem dX12_makeshift_93 : decode cX12_makeshift 93 = .ok (.getfield 246, 3) := by decide +kernel
theorem dX12_makeshift_96 : decode cX12_makeshift 96 = .ok (.iload 6, 2) := by decide +kernel
theorem dX12_makeshift_98 : decode cX12_makeshift 98 = .ok (.iaload, 1) := by decide +kernel
theorem dX12_makeshift_99 : decode cX12_makeshift 99 = .ok (.aload_n 0, 1) := by decide +kernel
theorem dX12_makeshift_100 : decode cX12_makeshift 100 = .ok (.iload 6, 2) := by decide +kernel
theorem dX12_makeshift_102 : decode cX12_makeshift 102 = .ok (.iload 4, 2) := by decide +kernel
theorem dX12_makeshift_104 : decode cX12_makeshift 104 = .ok (.invokevirtual 606, 3) := by decide +kernel
theorem dX12_makeshift_107 : decode cX12_makeshift 107 = .ok (.iadd, 1) := by decide +kernel
theorem dX12_makeshift_108 : decode cX12_makeshift 108 = .ok (.aload_n 0, 1) := by decide +kernel
theorem dX12_makeshift_109 : decode cX12_makeshift 109 = .ok (.getfield 246, 3) := by decide +kernel
theorem dX12_makeshift_112 : decode cX12_makeshift 112 = .ok (.iload 4, 2) := by decide +kernel
theorem dX12_makeshift_114 : decode cX12_makeshift 114 = .ok (.iaload, 1) := by decide +kernel
theorem dX12_makeshift_115 : decode cX12_makeshift 115 = .ok (.if_icmp .ne 22, 3) := by decide +kernel
theorem dX12_makeshift_118 : decode cX12_makeshift 118 = .ok (.aload_n 0, 1) := by decide +kernel
theorem dX12_makeshift_119 : decode cX12_makeshift 119 = .ok (.getfield 249, 3) := by decide +kernel
theorem dX12_makeshift_122 : decode cX12_makeshift 122 = .ok (.iload 6, 2) := by decide +kernel
theorem dX12_makeshift_124 : decode cX12_makeshift 124 = .ok (.iaload, 1) := by decide +kernel
theorem dX12_makeshift_125 : decode cX12_makeshift 125 = .ok (.iconst 1, 1) := by decide +kernel
theorem dX12_makeshift_126 : decode cX12_makeshift 126 = .ok (.iadd, 1) := by decide +kernel
theorem dX12_makeshift_127 : decode cX12_makeshift 127 = .ok (.aload_n 0, 1) := by decide +kernel
theorem dX12_makeshift_128 : decode cX12_makeshift 128 = .ok (.getfield 249, 3) := by decide +kernel
theorem dX12_makeshift_131 : decode cX12_makeshift 131 = .ok (.iload 4, 2) := by decide +kernel
theorem dX12_makeshift_133 : decode cX12_makeshift 133 = .ok (.iaload, 1) := by decide +kernel
theorem dX12_makeshift_134 : decode cX12_makeshift 134 = .ok (.if_icmp .eq 9, 3) := by decide +kernel
theorem dX12_makeshift_137 : decode cX12_makeshift 137 = .ok (.iinc 6 1, 3) := by decide +kernel
theorem dX12_makeshift_140 : decode cX12_makeshift 140 = .ok (.goto (-59), 3) := by decide +kernel
theorem dX12_makeshift_143 : decode cX12_makeshift 143 = .ok (.iload 6, 2) := by decide +kernel
theorem dX12_makeshift_145 : decode cX12_makeshift 145 = .ok (.istore 4, 2) := by decide +kernel
theorem dX12_makeshift_147 : decode cX12_makeshift 147 = .ok (.iinc 5 1, 3) := by decide +kernel
theorem dX12_makeshift_150 : decode cX12_makeshift 150 = .ok (.goto (-78), 3) := by decide +kernel
theorem dX12_makeshift_153 : decode cX12_makeshift 153 = .ok (.iload 4, 2) := by decide +kernel
theorem dX12_makeshift_155 : decode cX12_makeshift 155 = .ok (.ireturn, 1) := by decide +kernel
theorem dX12_isDoneBy_0 : decode cX12_isDoneBy 0 = .ok (.aload_n 0, 1) := by decide +kernel
theorem dX12_isDoneBy_1 : decode cX12_isDoneBy 1 = .ok (.iconst 1, 1) := by decide +kernel
theorem dX12_isDoneBy_2 : decode cX12_isDoneBy 2 = .ok (.iconst 0, 1) := by decide +kernel
theorem dX12_isDoneBy_3 : decode cX12_isDoneBy 3 = .ok (.invokevirtual 493, 3) := by decide +kernel
theorem dX12_isDoneBy_6 : decode cX12_isDoneBy 6 = .ok (.aload_n 0, 1) := by decide +kernel
theorem dX12_isDoneBy_7 : decode cX12_isDoneBy 7 = .ok (.getfield 189, 3) := by decide +kernel
theorem dX12_isDoneBy_10 : decode cX12_isDoneBy 10 = .ok (.iconst 1, 1) := by decide +kernel
theorem dX12_isDoneBy_11 : decode cX12_isDoneBy 11 = .ok (.dup2, 1) := by decide +kernel
theorem dX12_isDoneBy_12 : decode cX12_isDoneBy 12 = .ok (.iaload, 1) := by decide +kernel
theorem dX12_isDoneBy_13 : decode cX12_isDoneBy 13 = .ok (.iload_n 3, 1) := by decide +kernel
theorem dX12_isDoneBy_14 : decode cX12_isDoneBy 14 = .ok (.ior, 1) := by decide +kernel
theorem dX12_isDoneBy_15 : decode cX12_isDoneBy 15 = .ok (.iastore, 1) := by decide +kernel
theorem dX12_isDoneBy_16 : decode cX12_isDoneBy 16 = .ok (.iconst 0, 1) := by decide +kernel
theorem dX12_isDoneBy_17 : decode cX12_isDoneBy 17 = .ok (.istore 4, 2) := by decide +kernel
theorem dX12_isDoneBy_19 : decode cX12_isDoneBy 19 = .ok (.iload 4, 2) := by decide +kernel
theorem dX12_isDoneBy_21 : decode cX12_isDoneBy 21 = .ok (.iload_n 2, 1) := by decide +kernel
theorem dX12_isDoneBy_22 : decode cX12_isDoneBy 22 = .ok (.if_icmp .ge 16, 3) := by decide +kernel
theorem dX12_isDoneBy_25 : decode cX12_isDoneBy 25 = .ok (.aload_n 0, 1) := by decide +kernel
theorem dX12_isDoneBy_26 : decode cX12_isDoneBy 26 = .ok (.iconst 1, 1) := by decide +kernel
theorem dX12_isDoneBy_27 : decode cX12_isDoneBy 27 = .ok (.iconst 0, 1) := by decide +kernel
theorem dX12_isDoneBy_28 : decode cX12_isDoneBy 28 = .ok (.invokevirtual 595, 3) := by decide +kernel
theorem dX12_isDoneBy_31 : decode cX12_isDoneBy 31 = .ok (.pop, 1) := by decide +kernel
theorem dX12_isDoneBy_32 : decode cX12_isDoneBy 32 = .ok (.iinc 4 1, 3) := by decide +kernel
theorem dX12_isDoneBy_35 : decode cX12_isDoneBy 35 = .ok (.goto (-16), 3) := by decide +kernel
theorem dX12_isDoneBy_38 : decode cX12_isDoneBy 38 = .ok (.aload_n 0, 1) := by decide +kernel
theorem dX12_isDoneBy_39 : decode cX12_isDoneBy 39 = .ok (.iconst 1, 1) := by decide +kernel
theorem dX12_isDoneBy_40 : decode cX12_isDoneBy 40 = .ok (.iload_n 1, 1) := by decide +kernel
theorem dX12_isDoneBy_41 : decode cX12_isDoneBy 41 = .ok (.invokevirtual 521, 3) := by decide +kernel
theorem dX12_isDoneBy_44 : decode cX12_isDoneBy 44 = .ok (.ireturn, 1) := by decide +kernel
theorem dX12_hangs_0 : decode cX12_hangs 0 = .ok (.aload_n 0, 1) := by decide +kernel
theorem dX12_hangs_1 : decode cX12_hangs 1 = .ok (.iload_n 1, 1) := by decide +kernel
theorem dX12_hangs_2 : decode cX12_hangs 2 = .ok (.invokevirtual 589, 3) := by decide +kernel
theorem dX12_hangs_5 : decode cX12_hangs 5 = .ok (.ifCond .eq 14, 3) := by decide +kernel
theorem dX12_hangs_8 : decode cX12_hangs 8 = .ok (.aload_n 0, 1) := by decide +kernel
theorem dX12_hangs_9 : decode cX12_hangs 9 = .ok (.iload_n 2, 1) := by decide +kernel
theorem dX12_hangs_10 : decode cX12_hangs 10 = .ok (.iconst 1, 1) := by decide +kernel
theorem dX12_hangs_11 : decode cX12_hangs 11 = .ok (.bipush 60, 2) := by decide +kernel
theorem dX12_hangs_13 : decode cX12_hangs 13 = .ok (.invokevirtual 592, 3) := by decide +kernel
theorem dX12_hangs_16 : decode cX12_hangs 16 = .ok (.ifCond .ne 5, 3) := by decide +kernel
theorem dX12_hangs_19 : decode cX12_hangs 19 = .ok (.iconst (-1), 1) := by decide +kernel
theorem dX12_hangs_20 : decode cX12_hangs 20 = .ok (.ireturn, 1) := by decide +kernel
theorem dX12_hangs_21 : decode cX12_hangs 21 = .ok (.aload_n 0, 1) := by decide +kernel
theorem dX12_hangs_22 : decode cX12_hangs 22 = .ok (.iconst 0, 1) := by decide +kernel
theorem dX12_hangs_23 : decode cX12_hangs 23 = .ok (.iload_n 1, 1) := by decide +kernel
theorem dX12_hangs_24 : decode cX12_hangs 24 = .ok (.invokevirtual 521, 3) := by decide +kernel
theorem dX12_hangs_27 : decode cX12_hangs 27 = .ok (.ifCond .ne 13, 3) := by decide +kernel
theorem dX12_hangs_30 : decode cX12_hangs 30 = .ok (.aload_n 0, 1) := by decide +kernel
theorem dX12_hangs_31 : decode cX12_hangs 31 = .ok (.iload_n 1, 1) := by decide +kernel
theorem dX12_hangs_32 : decode cX12_hangs 32 = .ok (.iload_n 2, 1) := by decide +kernel
theorem dX12_hangs_33 : decode cX12_hangs 33 = .ok (.iconst 0, 1) := by decide +kernel
theorem dX12_hangs_34 : decode cX12_hangs 34 = .ok (.invokevirtual 615, 3) := by decide +kernel
theorem dX12_hangs_37 : decode cX12_hangs 37 = .ok (.ifCond .ne 5, 3) := by decide +kernel
theorem dX12_hangs_40 : decode cX12_hangs 40 = .ok (.iconst 0, 1) := by decide +kernel
theorem dX12_hangs_41 : decode cX12_hangs 41 = .ok (.ireturn, 1) := by decide +kernel
theorem dX12_hangs_42 : decode cX12_hangs 42 = .ok (.iconst 0, 1) := by decide +kernel
theorem dX12_hangs_43 : decode cX12_hangs 43 = .ok (.istore_n 3, 1) := by decide +kernel
theorem dX12_hangs_44 : decode cX12_hangs 44 = .ok (.iconst 0, 1) := by decide +kernel
theorem dX12_hangs_45 : decode cX12_hangs 45 = .ok (.istore 4, 2) := by decide +kernel
theorem dX12_hangs_47 : decode cX12_hangs 47 = .ok (.iload 4, 2) := by decide +kernel
theorem dX12_hangs_49 : decode cX12_hangs 49 = .ok (.aload_n 0, 1) := by decide +kernel
theorem dX12_hangs_50 : decode cX12_hangs 50 = .ok (.getfield 63, 3) := by decide +kernel
theorem dX12_hangs_53 : decode cX12_hangs 53 = .ok (.aload_n 0, 1) := by decide +kernel
theorem dX12_hangs_54 : decode cX12_hangs 54 = .ok (.getfield 51, 3) := by decide +kernel
theorem dX12_hangs_57 : decode cX12_hangs 57 = .ok (.iaload, 1) := by decide +kernel
theorem dX12_hangs_58 : decode cX12_hangs 58 = .ok (.if_icmp .ge 47, 3) := by decide +kernel
theorem dX12_hangs_61 : decode cX12_hangs 61 = .ok (.iload_n 3, 1) := by decide +kernel
theorem dX12_hangs_62 : decode cX12_hangs 62 = .ok (.aload_n 0, 1) := by decide +kernel
theorem dX12_hangs_63 : decode cX12_hangs 63 = .ok (.getfield 189, 3) := by decide +kernel
theorem dX12_hangs_66 : decode cX12_hangs 66 = .ok (.iconst 0, 1) := by decide +kernel
theorem dX12_hangs_67 : decode cX12_hangs 67 = .ok (.iaload, 1) := by decide +kernel
theorem dX12_hangs_68 : decode cX12_hangs 68 = .ok (.iload 4, 2) := by decide +kernel
theorem dX12_hangs_70 : decode cX12_hangs 70 = .ok (.invokestatic 421, 3) := by decide +kernel
theorem dX12_hangs_73 : decode cX12_hangs 73 = .ok (.ifCond .ne 23, 3) := by decide +kernel
theorem dX12_hangs_76 : decode cX12_hangs 76 = .ok (.aload_n 0, 1) := by decide +kernel
theorem dX12_hangs_77 : decode cX12_hangs 77 = .ok (.iload_n 1, 1) := by decide +kernel
theorem dX12_hangs_78 : decode cX12_hangs 78 = .ok (.iload_n 2, 1) := by decide +kernel
theorem dX12_hangs_79 : decode cX12_hangs 79 = .ok (.iconst 1, 1) := by decide +kernel
theorem dX12_hangs_80 : decode cX12_hangs 80 = .ok (.iload 4, 2) := by decide +kernel
theorem dX12_hangs_82 : decode cX12_hangs 82 = .ok (.ishl, 1) := by decide +kernel
theorem dX12_hangs_83 : decode cX12_hangs 83 = .ok (.invokevirtual 615, 3) := by decide +kernel
theorem dX12_hangs_86 : decode cX12_hangs 86 = .ok (.ifCond .ne 10, 3) := by decide +kernel
theorem dX12_hangs_89 : decode cX12_hangs 89 = .ok (.iconst 1, 1) := by decide +kernel
theorem dX12_hangs_90 : decode cX12_hangs 90 = .ok (.iload 4, 2) := by decide +kernel
theorem dX12_hangs_92 : decode cX12_hangs 92 = .ok (.ishl, 1) := by decide +kernel
theorem dX12_hangs_93 : decode cX12_hangs 93 = .ok (.goto 4, 3) := by decide +kernel
theorem dX12_hangs_96 : decode cX12_hangs 96 = .ok (.iconst 0, 1) := by decide +kernel
theorem dX12_hangs_97 : decode cX12_hangs 97 = .ok (.ior, 1) := by decide +kernel
theorem dX12_hangs_98 : decode cX12_hangs 98 = .ok (.istore_n 3, 1) := by decide +kernel
theorem dX12_hangs_99 : decode cX12_hangs 99 = .ok (.iinc 4 1, 3) := by decide +kernel
theorem dX12_hangs_102 : decode cX12_hangs 102 = .ok (.goto (-55), 3) := by decide +kernel
theorem dX12_hangs_105 : decode cX12_hangs 105 = .ok (.iload_n 3, 1) := by decide +kernel
theorem dX12_hangs_106 : decode cX12_hangs 106 = .ok (.ireturn, 1) := by decide +kernel
theorem dX12_guard_0 : decode cX12_guard 0 = .ok (.aload_n 0, 1) := by decide +kernel
theorem dX12_guard_1 : decode cX12_guard 1 = .ok (.iload_n 1, 1) := by decide +kernel
theorem dX12_guard_2 : decode cX12_guard 2 = .ok (.invokevirtual 589, 3) := by decide +kernel
theorem dX12_guard_5 : decode cX12_guard 5 = .ok (.ifCond .eq 23, 3) := by decide +kernel
theorem dX12_guard_8 : decode cX12_guard 8 = .ok (.aload_n 0, 1) := by decide +kernel
theorem dX12_guard_9 : decode cX12_guard 9 = .ok (.iload_n 2, 1) := by decide +kernel
theorem dX12_guard_10 : decode cX12_guard 10 = .ok (.iconst 1, 1) := by decide +kernel
theorem dX12_guard_11 : decode cX12_guard 11 = .ok (.bipush 30, 2) := by decide +kernel
theorem dX12_guard_13 : decode cX12_guard 13 = .ok (.invokevirtual 592, 3) := by decide +kernel
theorem dX12_guard_16 : decode cX12_guard 16 = .ok (.ifCond .eq 12, 3) := by decide +kernel
theorem dX12_guard_19 : decode cX12_guard 19 = .ok (.aload_n 0, 1) := by decide +kernel
theorem dX12_guard_20 : decode cX12_guard 20 = .ok (.iconst 0, 1) := by decide +kernel
theorem dX12_guard_21 : decode cX12_guard 21 = .ok (.iload_n 1, 1) := by decide +kernel
theorem dX12_guard_22 : decode cX12_guard 22 = .ok (.invokevirtual 521, 3) := by decide +kernel
theorem dX12_guard_25 : decode cX12_guard 25 = .ok (.ifCond .eq 5, 3) := by decide +kernel
theorem dX12_guard_28 : decode cX12_guard 28 = .ok (.iconst (-1), 1) := by decide +kernel
theorem dX12_guard_29 : decode cX12_guard 29 = .ok (.ireturn, 1) := by decide +kernel
theorem dX12_guard_30 : decode cX12_guard 30 = .ok (.iconst 0, 1) := by decide +kernel
theorem dX12_guard_31 : decode cX12_guard 31 = .ok (.istore_n 3, 1) := by decide +kernel
theorem dX12_guard_32 : decode cX12_guard 32 = .ok (.iload_n 3, 1) := by decide +kernel
theorem dX12_guard_33 : decode cX12_guard 33 = .ok (.iconst 3, 1) := by decide +kernel
theorem dX12_guard_34 : decode cX12_guard 34 = .ok (.if_icmp .gt 69, 3) := by decide +kernel
theorem dX12_guard_37 : decode cX12_guard 37 = .ok (.iconst 0, 1) := by decide +kernel
theorem dX12_guard_38 : decode cX12_guard 38 = .ok (.istore 4, 2) := by decide +kernel
theorem dX12_guard_40 : decode cX12_guard 40 = .ok (.iload 4, 2) := by decide +kernel
theorem dX12_guard_42 : decode cX12_guard 42 = .ok (.iconst 1, 1) := by decide +kernel
theorem dX12_guard_43 : decode cX12_guard 43 = .ok (.aload_n 0, 1) := by decide +kernel
theorem dX12_guard_44 : decode cX12_guard 44 = .ok (.getfield 63, 3) := by decide +kernel
theorem dX12_guard_47 : decode cX12_guard 47 = .ok (.aload_n 0, 1) := by decide +kernel
theorem dX12_guard_48 : decode cX12_guard 48 = .ok (.getfield 51, 3) := by decide +kernel
theorem dX12_guard_51 : decode cX12_guard 51 = .ok (.iaload, 1) := by decide +kernel
theorem dX12_guard_52 : decode cX12_guard 52 = .ok (.ishl, 1) := by decide +kernel
theorem dX12_guard_53 : decode cX12_guard 53 = .ok (.if_icmp .ge 44, 3) := by decide +kernel
theorem dX12_guard_56 : decode cX12_guard 56 = .ok (.iload 4, 2) := by decide +kernel
theorem dX12_guard_58 : decode cX12_guard 58 = .ok (.invokestatic 547, 3) := by decide +kernel
theorem dX12_guard_61 : decode cX12_guard 61 = .ok (.iload_n 3, 1) := by decide +kernel
theorem dX12_guard_62 : decode cX12_guard 62 = .ok (.if_icmp .ne 29, 3) := by decide +kernel
theorem dX12_guard_65 : decode cX12_guard 65 = .ok (.iload 4, 2) := by decide +kernel
theorem dX12_guard_67 : decode cX12_guard 67 = .ok (.aload_n 0, 1) := by decide +kernel
theorem dX12_guard_68 : decode cX12_guard 68 = .ok (.getfield 189, 3) := by decide +kernel
theorem dX12_guard_71 : decode cX12_guard 71 = .ok (.iconst 0, 1) := by decide +kernel
theorem dX12_guard_72 : decode cX12_guard 72 = .ok (.iaload, 1) := by decide +kernel
theorem dX12_guard_73 : decode cX12_guard 73 = .ok (.iand, 1) := by decide +kernel
theorem dX12_guard_74 : decode cX12_guard 74 = .ok (.ifCond .ne 17, 3) := by decide +kernel
theorem dX12_guard_77 : decode cX12_guard 77 = .ok (.aload_n 0, 1) := by decide +kernel
theorem dX12_guard_78 : decode cX12_guard 78 = .ok (.iload_n 1, 1) := by decide +kernel
theorem dX12_guard_79 : decode cX12_guard 79 = .ok (.iload_n 2, 1) := by decide +kernel
theorem dX12_guard_80 : decode cX12_guard 80 = .ok (.iload 4, 2) := by decide +kernel
theorem dX12_guard_82 : decode cX12_guard 82 = .ok (.invokevirtual 615, 3) := by decide +kernel
theorem dX12_guard_85 : decode cX12_guard 85 = .ok (.ifCond .ne 6, 3) := by decide +kernel
theorem dX12_guard_88 : decode cX12_guard 88 = .ok (.iload 4, 2) := by decide +kernel
theorem dX12_guard_90 : decode cX12_guard 90 = .ok (.ireturn, 1) := by decide +kernel
theorem dX12_guard_91 : decode cX12_guard 91 = .ok (.iinc 4 1, 3) := by decide +kernel
theorem dX12_guard_94 : decode cX12_guard 94 = .ok (.goto (-54), 3) := by decide +kernel
theorem dX12_guard_97 : decode cX12_guard 97 = .ok (.iinc 3 1, 3) := by decide +kernel
theorem dX12_guard_100 : decode cX12_guard 100 = .ok (.goto (-68), 3) := by decide +kernel
theorem dX12_guard_103 : decode cX12_guard 103 = .ok (.iconst (-1), 1) := by decide +kernel
theorem dX12_guard_104 : decode cX12_guard 104 = .ok (.ireturn, 1) := by decide +kernel
theorem dX12_pointed_0 : decode cX12_pointed 0 = .ok (.iload_n 1, 1) := by decide +kernel
theorem dX12_pointed_1 : decode cX12_pointed 1 = .ok (.istore_n 3, 1) := by decide +kernel
theorem dX12_pointed_2 : decode cX12_pointed 2 = .ok (.iconst 0, 1) := by decide +kernel
theorem dX12_pointed_3 : decode cX12_pointed 3 = .ok (.istore 4, 2) := by decide +kernel
theorem dX12_pointed_5 : decode cX12_pointed 5 = .ok (.iload 4, 2) := by decide +kernel
theorem dX12_pointed_7 : decode cX12_pointed 7 = .ok (.aload_n 0, 1) := by decide +kernel
theorem dX12_pointed_8 : decode cX12_pointed 8 = .ok (.getfield 72, 3) := by decide +kernel
theorem dX12_pointed_11 : decode cX12_pointed 11 = .ok (.aload_n 0, 1) := by decide +kernel
theorem dX12_pointed_12 : decode cX12_pointed 12 = .ok (.getfield 51, 3) := by decide +kernel
theorem dX12_pointed_15 : decode cX12_pointed 15 = .ok (.iaload, 1) := by decide +kernel
theorem dX12_pointed_16 : decode cX12_pointed 16 = .ok (.if_icmp .ge 39, 3) := by decide +kernel
theorem dX12_pointed_19 : decode cX12_pointed 19 = .ok (.iload_n 2, 1) := by decide +kernel
theorem dX12_pointed_20 : decode cX12_pointed 20 = .ok (.iload 4, 2) := by decide +kernel
theorem dX12_pointed_22 : decode cX12_pointed 22 = .ok (.invokestatic 421, 3) := by decide +kernel
theorem dX12_pointed_25 : decode cX12_pointed 25 = .ok (.ifCond .eq 24, 3) := by decide +kernel
theorem dX12_pointed_28 : decode cX12_pointed 28 = .ok (.aload_n 0, 1) := by decide +kernel
theorem dX12_pointed_29 : decode cX12_pointed 29 = .ok (.iconst 0, 1) := by decide +kernel
theorem dX12_pointed_30 : decode cX12_pointed 30 = .ok (.iload_n 1, 1) := by decide +kernel
theorem dX12_pointed_31 : decode cX12_pointed 31 = .ok (.iload 4, 2) := by decide +kernel
theorem dX12_pointed_33 : decode cX12_pointed 33 = .ok (.invokevirtual 530, 3) := by decide +kernel
theorem dX12_pointed_36 : decode cX12_pointed 36 = .ok (.aload_n 0, 1) := by decide +kernel
theorem dX12_pointed_37 : decode cX12_pointed 37 = .ok (.iconst 0, 1) := by decide +kernel
theorem dX12_pointed_38 : decode cX12_pointed 38 = .ok (.iload_n 1, 1) := by decide +kernel
theorem dX12_pointed_39 : decode cX12_pointed 39 = .ok (.iload_n 3, 1) := by decide +kernel
theorem dX12_pointed_40 : decode cX12_pointed 40 = .ok (.invokevirtual 530, 3) := by decide +kernel
theorem dX12_pointed_43 : decode cX12_pointed 43 = .ok (.if_icmp .le 6, 3) := by decide +kernel
theorem dX12_pointed_46 : decode cX12_pointed 46 = .ok (.iload 4, 2) := by decide +kernel
theorem dX12_pointed_48 : decode cX12_pointed 48 = .ok (.istore_n 3, 1) := by decide +kernel
theorem dX12_pointed_49 : decode cX12_pointed 49 = .ok (.iinc 4 1, 3) := by decide +kernel
theorem dX12_pointed_52 : decode cX12_pointed 52 = .ok (.goto (-47), 3) := by decide +kernel
theorem dX12_pointed_55 : decode cX12_pointed 55 = .ok (.iload_n 3, 1) := by decide +kernel
theorem dX12_pointed_56 : decode cX12_pointed 56 = .ok (.ireturn, 1) := by decide +kernel
theorem dX12_ringAt_0 : decode cX12_ringAt 0 = .ok (.aload_n 0, 1) := by decide +kernel
theorem dX12_ringAt_1 : decode cX12_ringAt 1 = .ok (.getfield 252, 3) := by decide +kernel
theorem dX12_ringAt_4 : decode cX12_ringAt 4 = .ok (.iload_n 1, 1) := by decide +kernel
theorem dX12_ringAt_5 : decode cX12_ringAt 5 = .ok (.iaload, 1) := by decide +kernel
theorem dX12_ringAt_6 : decode cX12_ringAt 6 = .ok (.istore_n 2, 1) := by decide +kernel
theorem dX12_ringAt_7 : decode cX12_ringAt 7 = .ok (.iconst 1, 1) := by decide +kernel
theorem dX12_ringAt_8 : decode cX12_ringAt 8 = .ok (.istore_n 3, 1) := by decide +kernel
theorem dX12_ringAt_9 : decode cX12_ringAt 9 = .ok (.iload_n 3, 1) := by decide +kernel
theorem dX12_ringAt_10 : decode cX12_ringAt 10 = .ok (.bipush 6, 2) := by decide +kernel
theorem dX12_ringAt_12 : decode cX12_ringAt 12 = .ok (.if_icmp .gt 23, 3) := by decide +kernel
theorem dX12_ringAt_15 : decode cX12_ringAt 15 = .ok (.iload_n 2, 1) := by decide +kernel
theorem dX12_ringAt_16 : decode cX12_ringAt 16 = .ok (.iload_n 1, 1) := by decide +kernel
theorem dX12_ringAt_17 : decode cX12_ringAt 17 = .ok (.if_icmp .ne 5, 3) := by decide +kernel
theorem dX12_ringAt_20 : decode cX12_ringAt 20 = .ok (.iload_n 3, 1) := by decide +kernel
theorem dX12_ringAt_21 : decode cX12_ringAt 21 = .ok (.ireturn, 1) := by decide +kernel
theorem dX12_ringAt_22 : decode cX12_ringAt 22 = .ok (.aload_n 0, 1) := by decide +kernel
theorem dX12_ringAt_23 : decode cX12_ringAt 23 = .ok (.getfield 252, 3) := by decide +kernel
theorem dX12_ringAt_26 : decode cX12_ringAt 26 = .ok (.iload_n 2, 1) := by decide +kernel
theorem dX12_ringAt_27 : decode cX12_ringAt 27 = .ok (.iaload, 1) := by decide +kernel
theorem dX12_ringAt_28 : decode cX12_ringAt 28 = .ok (.istore_n 2, 1) := by decide +kernel
theorem dX12_ringAt_29 : decode cX12_ringAt 29 = .ok (.iinc 3 1, 3) := by decide +kernel
theorem dX12_ringAt_32 : decode cX12_ringAt 32 = .ok (.goto (-23), 3) := by decide +kernel
theorem dX12_ringAt_35 : decode cX12_ringAt 35 = .ok (.iconst 0, 1) := by decide +kernel
theorem dX12_ringAt_36 : decode cX12_ringAt 36 = .ok (.ireturn, 1) := by decide +kernel
theorem dX12_loan_0 : decode cX12_loan 0 = .ok (.aload_n 0, 1) := by decide +kernel
theorem dX12_loan_1 : decode cX12_loan 1 = .ok (.iload_n 1, 1) := by decide +kernel
theorem dX12_loan_2 : decode cX12_loan 2 = .ok (.invokevirtual 586, 3) := by decide +kernel
theorem dX12_loan_5 : decode cX12_loan 5 = .ok (.ifCond .eq 20, 3) := by decide +kernel
theorem dX12_loan_8 : decode cX12_loan 8 = .ok (.aload_n 0, 1) := by decide +kernel
theorem dX12_loan_9 : decode cX12_loan 9 = .ok (.iload_n 1, 1) := by decide +kernel
theorem dX12_loan_10 : decode cX12_loan 10 = .ok (.invokevirtual 583, 3) := by decide +kernel
theorem dX12_loan_13 : decode cX12_loan 13 = .ok (.ifCond .eq 12, 3) := by decide +kernel
theorem dX12_loan_16 : decode cX12_loan 16 = .ok (.iload_n 2, 1) := by decide +kernel
theorem dX12_loan_17 : decode cX12_loan 17 = .ok (.iconst 0, 1) := by decide +kernel
theorem dX12_loan_18 : decode cX12_loan 18 = .ok (.iconst 2, 1) := by decide +kernel
theorem dX12_loan_19 : decode cX12_loan 19 = .ok (.invokestatic 379, 3) := by decide +kernel
theorem dX12_loan_22 : decode cX12_loan 22 = .ok (.ifCond .ne 5, 3) := by decide +kernel
theorem dX12_loan_25 : decode cX12_loan 25 = .ok (.iconst (-1), 1) := by decide +kernel
theorem dX12_loan_26 : decode cX12_loan 26 = .ok (.ireturn, 1) := by decide +kernel
theorem dX12_loan_27 : decode cX12_loan 27 = .ok (.iconst 0, 1) := by decide +kernel
theorem dX12_loan_28 : decode cX12_loan 28 = .ok (.istore_n 3, 1) := by decide +kernel
theorem dX12_loan_29 : decode cX12_loan 29 = .ok (.iconst 0, 1) := by decide +kernel
theorem dX12_loan_30 : decode cX12_loan 30 = .ok (.istore 4, 2) := by decide +kernel
theorem dX12_loan_32 : decode cX12_loan 32 = .ok (.iload 4, 2) := by decide +kernel
theorem dX12_loan_34 : decode cX12_loan 34 = .ok (.aload_n 0, 1) := by decide +kernel
theorem dX12_loan_35 : decode cX12_loan 35 = .ok (.getfield 72, 3) := by decide +kernel
theorem dX12_loan_38 : decode cX12_loan 38 = .ok (.aload_n 0, 1) := by decide +kernel
theorem dX12_loan_39 : decode cX12_loan 39 = .ok (.getfield 51, 3) := by decide +kernel
theorem dX12_loan_42 : decode cX12_loan 42 = .ok (.iaload, 1) := by decide +kernel
theorem dX12_loan_43 : decode cX12_loan 43 = .ok (.if_icmp .ge 29, 3) := by decide +kernel
theorem dX12_loan_46 : decode cX12_loan 46 = .ok (.iload_n 3, 1) := by decide +kernel
theorem dX12_loan_47 : decode cX12_loan 47 = .ok (.aload_n 0, 1) := by decide +kernel
theorem dX12_loan_48 : decode cX12_loan 48 = .ok (.iload 4, 2) := by decide +kernel
theorem dX12_loan_50 : decode cX12_loan 50 = .ok (.invokevirtual 583, 3) := by decide +kernel
theorem dX12_loan_53 : decode cX12_loan 53 = .ok (.ifCond .eq 10, 3) := by decide +kernel
theorem dX12_loan_56 : decode cX12_loan 56 = .ok (.iconst 1, 1) := by decide +kernel
theorem dX12_loan_57 : decode cX12_loan 57 = .ok (.iload 4, 2) := by decide +kernel
theorem dX12_loan_59 : decode cX12_loan 59 = .ok (.ishl, 1) := by decide +kernel
theorem dX12_loan_60 : decode cX12_loan 60 = .ok (.goto 4, 3) := by decide +kernel
theorem dX12_loan_63 : decode cX12_loan 63 = .ok (.iconst 0, 1) := by decide +kernel
theorem dX12_loan_64 : decode cX12_loan 64 = .ok (.ior, 1) := by decide +kernel
theorem dX12_loan_65 : decode cX12_loan 65 = .ok (.istore_n 3, 1) := by decide +kernel
theorem dX12_loan_66 : decode cX12_loan 66 = .ok (.iinc 4 1, 3) := by decide +kernel
theorem dX12_loan_69 : decode cX12_loan 69 = .ok (.goto (-37), 3) := by decide +kernel
theorem dX12_loan_72 : decode cX12_loan 72 = .ok (.iconst 1, 1) := by decide +kernel
theorem dX12_loan_73 : decode cX12_loan 73 = .ok (.istore 4, 2) := by decide +kernel
theorem dX12_loan_75 : decode cX12_loan 75 = .ok (.iload_n 3, 1) := by decide +kernel
theorem dX12_loan_76 : decode cX12_loan 76 = .ok (.ifCond .eq 159, 3) := by decide +kernel
theorem dX12_loan_79 : decode cX12_loan 79 = .ok (.iconst 0, 1) := by decide +kernel
theorem dX12_loan_80 : decode cX12_loan 80 = .ok (.istore 5, 2) := by decide +kernel
theorem dX12_loan_82 : decode cX12_loan 82 = .ok (.iload 5, 2) := by decide +kernel
theorem dX12_loan_84 : decode cX12_loan 84 = .ok (.aload_n 0, 1) := by decide +kernel
theorem dX12_loan_85 : decode cX12_loan 85 = .ok (.getfield 72, 3) := by decide +kernel
theorem dX12_loan_88 : decode cX12_loan 88 = .ok (.aload_n 0, 1) := by decide +kernel
theorem dX12_loan_89 : decode cX12_loan 89 = .ok (.getfield 51, 3) := by decide +kernel
theorem dX12_loan_92 : decode cX12_loan 92 = .ok (.iaload, 1) := by decide +kernel
theorem dX12_loan_93 : decode cX12_loan 93 = .ok (.if_icmp .ge 37, 3) := by decide +kernel
theorem dX12_loan_96 : decode cX12_loan 96 = .ok (.aload_n 0, 1) := by decide +kernel
theorem dX12_loan_97 : decode cX12_loan 97 = .ok (.getfield 252, 3) := by decide +kernel
theorem dX12_loan_100 : decode cX12_loan 100 = .ok (.iload 5, 2) := by decide +kernel
theorem dX12_loan_102 : decode cX12_loan 102 = .ok (.iload_n 3, 1) := by decide +kernel
theorem dX12_loan_103 : decode cX12_loan 103 = .ok (.iload 5, 2) := by decide +kernel
theorem dX12_loan_105 : decode cX12_loan 105 = .ok (.invokestatic 421, 3) := by decide +kernel
theorem dX12_loan_108 : decode cX12_loan 108 = .ok (.ifCond .eq 13, 3) := by decide +kernel
theorem dX12_loan_111 : decode cX12_loan 111 = .ok (.aload_n 0, 1) := by decide +kernel
theorem dX12_loan_112 : decode cX12_loan 112 = .ok (.iload 5, 2) := by decide +kernel
theorem dX12_loan_114 : decode cX12_loan 114 = .ok (.iload_n 3, 1) := by decide +kernel
theorem dX12_loan_115 : decode cX12_loan 115 = .ok (.invokevirtual 618, 3) := by decide +kernel
theorem dX12_loan_118 : decode cX12_loan 118 = .ok (.goto 5, 3) := by decide +kernel
theorem dX12_loan_121 : decode cX12_loan 121 = .ok (.iload 5, 2) := by decide +kernel
theorem dX12_loan_123 : decode cX12_loan 123 = .ok (.iastore, 1) := by decide +kernel
theorem dX12_loan_124 : decode cX12_loan 124 = .ok (.iinc 5 1, 3) := by decide +kernel
theorem dX12_loan_127 : decode cX12_loan 127 = .ok (.goto (-45), 3) := by decide +kernel
theorem dX12_loan_130 : decode cX12_loan 130 = .ok (.iconst 0, 1) := by decide +kernel
theorem dX12_loan_131 : decode cX12_loan 131 = .ok (.istore 5, 2) := by decide +kernel
theorem dX12_loan_133 : decode cX12_loan 133 = .ok (.iconst 0, 1) := by decide +kernel
theorem dX12_loan_134 : decode cX12_loan 134 = .ok (.istore 6, 2) := by decide +kernel
theorem dX12_loan_136 : decode cX12_loan 136 = .ok (.iload 6, 2) := by decide +kernel
theorem dX12_loan_138 : decode cX12_loan 138 = .ok (.aload_n 0, 1) := by decide +kernel
theorem dX12_loan_139 : decode cX12_loan 139 = .ok (.getfield 72, 3) := by decide +kernel
theorem dX12_loan_142 : decode cX12_loan 142 = .ok (.aload_n 0, 1) := by decide +kernel
theorem dX12_loan_143 : decode cX12_loan 143 = .ok (.getfield 51, 3) := by decide +kernel
theorem dX12_loan_146 : decode cX12_loan 146 = .ok (.iaload, 1) := by decide +kernel
theorem dX12_loan_147 : decode cX12_loan 147 = .ok (.if_icmp .ge 75, 3) := by decide +kernel
theorem dX12_loan_150 : decode cX12_loan 150 = .ok (.iload_n 3, 1) := by decide +kernel
theorem dX12_loan_151 : decode cX12_loan 151 = .ok (.iload 6, 2) := by decide +kernel
theorem dX12_loan_153 : decode cX12_loan 153 = .ok (.invokestatic 421, 3) := by decide +kernel
theorem dX12_loan_156 : decode cX12_loan 156 = .ok (.ifCond .eq 60, 3) := by decide +kernel
theorem dX12_loan_159 : decode cX12_loan 159 = .ok (.aload_n 0, 1) := by decide +kernel
theorem dX12_loan_160 : decode cX12_loan 160 = .ok (.iload 6, 2) := by decide +kernel
theorem dX12_loan_162 : decode cX12_loan 162 = .ok (.invokevirtual 621, 3) := by decide +kernel
theorem dX12_loan_165 : decode cX12_loan 165 = .ok (.ifCond .ne 6, 3) := by decide +kernel
theorem dX12_loan_168 : decode cX12_loan 168 = .ok (.goto 48, 3) := by decide +kernel
theorem dX12_loan_171 : decode cX12_loan 171 = .ok (.iload 5, 2) := by decide +kernel
theorem dX12_loan_173 : decode cX12_loan 173 = .ok (.iconst 1, 1) := by decide +kernel
theorem dX12_loan_174 : decode cX12_loan 174 = .ok (.iload 6, 2) := by decide +kernel
theorem dX12_loan_176 : decode cX12_loan 176 = .ok (.ishl, 1) := by decide +kernel
theorem dX12_loan_177 : decode cX12_loan 177 = .ok (.ior, 1) := by decide +kernel
theorem dX12_loan_178 : decode cX12_loan 178 = .ok (.istore 5, 2) := by decide +kernel
theorem dX12_loan_180 : decode cX12_loan 180 = .ok (.aload_n 0, 1) := by decide +kernel
theorem dX12_loan_181 : decode cX12_loan 181 = .ok (.getfield 255, 3) := by decide +kernel
theorem dX12_loan_184 : decode cX12_loan 184 = .ok (.iload 6, 2) := by decide +kernel
theorem dX12_loan_186 : decode cX12_loan 186 = .ok (.aload_n 0, 1) := by decide +kernel
theorem dX12_loan_187 : decode cX12_loan 187 = .ok (.getfield 252, 3) := by decide +kernel
theorem dX12_loan_190 : decode cX12_loan 190 = .ok (.iload 6, 2) := by decide +kernel
theorem dX12_loan_192 : decode cX12_loan 192 = .ok (.iaload, 1) := by decide +kernel
theorem dX12_loan_193 : decode cX12_loan 193 = .ok (.iastore, 1) := by decide +kernel
theorem dX12_loan_194 : decode cX12_loan 194 = .ok (.aload_n 0, 1) := by decide +kernel
theorem dX12_loan_195 : decode cX12_loan 195 = .ok (.getfield 258, 3) := by decide +kernel
theorem dX12_loan_198 : decode cX12_loan 198 = .ok (.iload 6, 2) := by decide +kernel
theorem dX12_loan_200 : decode cX12_loan 200 = .ok (.iload 4, 2) := by decide +kernel
theorem dX12_loan_202 : decode cX12_loan 202 = .ok (.iastore, 1) := by decide +kernel
theorem dX12_loan_203 : decode cX12_loan 203 = .ok (.aload_n 0, 1) := by decide +kernel
theorem dX12_loan_204 : decode cX12_loan 204 = .ok (.getfield 261, 3) := by decide +kernel
theorem dX12_loan_207 : decode cX12_loan 207 = .ok (.iload 6, 2) := by decide +kernel
theorem dX12_loan_209 : decode cX12_loan 209 = .ok (.aload_n 0, 1) := by decide +kernel
theorem dX12_loan_210 : decode cX12_loan 210 = .ok (.iload 6, 2) := by decide +kernel
theorem dX12_loan_212 : decode cX12_loan 212 = .ok (.invokevirtual 621, 3) := by decide +kernel
theorem dX12_loan_215 : decode cX12_loan 215 = .ok (.iastore, 1) := by decide +kernel
theorem dX12_loan_216 : decode cX12_loan 216 = .ok (.iinc 6 1, 3) := by decide +kernel
theorem dX12_loan_219 : decode cX12_loan 219 = .ok (.goto (-83), 3) := by decide +kernel
theorem dX12_loan_222 : decode cX12_loan 222 = .ok (.iload_n 3, 1) := by decide +kernel
theorem dX12_loan_223 : decode cX12_loan 223 = .ok (.iload 5, 2) := by decide +kernel
theorem dX12_loan_225 : decode cX12_loan 225 = .ok (.iconst (-1), 1) := by decide +kernel
theorem dX12_loan_226 : decode cX12_loan 226 = .ok (.ixor, 1) := by decide +kernel
theorem dX12_loan_227 : decode cX12_loan 227 = .ok (.iand, 1) := by decide +kernel
theorem dX12_loan_228 : decode cX12_loan 228 = .ok (.istore_n 3, 1) := by decide +kernel
theorem dX12_loan_229 : decode cX12_loan 229 = .ok (.iinc 4 1, 3) := by decide +kernel
theorem dX12_loan_232 : decode cX12_loan 232 = .ok (.goto (-157), 3) := by decide +kernel
theorem dX12_loan_235 : decode cX12_loan 235 = .ok (.iload_n 2, 1) := by decide +kernel
theorem dX12_loan_236 : decode cX12_loan 236 = .ok (.ifCond .ne 12, 3) := by decide +kernel
theorem dX12_loan_239 : decode cX12_loan 239 = .ok (.aload_n 0, 1) := by decide +kernel
theorem dX12_loan_240 : decode cX12_loan 240 = .ok (.getfield 255, 3) := by decide +kernel
theorem dX12_loan_243 : decode cX12_loan 243 = .ok (.iload_n 1, 1) := by decide +kernel
theorem dX12_loan_244 : decode cX12_loan 244 = .ok (.iaload, 1) := by decide +kernel
theorem dX12_loan_245 : decode cX12_loan 245 = .ok (.goto 23, 3) := by decide +kernel
theorem dX12_loan_248 : decode cX12_loan 248 = .ok (.iload_n 2, 1) := by decide +kernel
theorem dX12_loan_249 : decode cX12_loan 249 = .ok (.iconst 1, 1) := by decide +kernel
theorem dX12_loan_250 : decode cX12_loan 250 = .ok (.if_icmp .ne 12, 3) := by decide +kernel
theorem dX12_loan_253 : decode cX12_loan 253 = .ok (.aload_n 0, 1) := by decide +kernel
theorem dX12_loan_254 : decode cX12_loan 254 = .ok (.getfield 258, 3) := by decide +kernel
theorem dX12_loan_257 : decode cX12_loan 257 = .ok (.iload_n 1, 1) := by decide +kernel
theorem dX12_loan_258 : decode cX12_loan 258 = .ok (.iaload, 1) := by decide +kernel
theorem dX12_loan_259 : decode cX12_loan 259 = .ok (.goto 9, 3) := by decide +kernel
theorem dX12_loan_262 : decode cX12_loan 262 = .ok (.aload_n 0, 1) := by decide +kernel
theorem dX12_loan_263 : decode cX12_loan 263 = .ok (.getfield 261, 3) := by decide +kernel
theorem dX12_loan_266 : decode cX12_loan 266 = .ok (.iload_n 1, 1) := by decide +kernel
theorem dX12_loan_267 : decode cX12_loan 267 = .ok (.iaload, 1) := by decide +kernel
theorem dX12_loan_268 : decode cX12_loan 268 = .ok (.ireturn, 1) := by decide +kernel
theorem dX12_shavings_0 : decode cX12_shavings 0 = .ok (.aload_n 0, 1) := by decide +kernel
theorem dX12_shavings_1 : decode cX12_shavings 1 = .ok (.getfield 13, 3) := by decide +kernel
theorem dX12_shavings_4 : decode cX12_shavings 4 = .ok (.istore_n 1, 1) := by decide +kernel
theorem dX12_shavings_5 : decode cX12_shavings 5 = .ok (.aload_n 0, 1) := by decide +kernel
theorem dX12_shavings_6 : decode cX12_shavings 6 = .ok (.iconst 0, 1) := by decide +kernel
theorem dX12_shavings_7 : decode cX12_shavings 7 = .ok (.putfield 13, 3) := by decide +kernel
theorem dX12_shavings_10 : decode cX12_shavings 10 = .ok (.iload_n 1, 1) := by decide +kernel
theorem dX12_shavings_11 : decode cX12_shavings 11 = .ok (.ifCond .le 19, 3) := by decide +kernel
theorem dX12_shavings_14 : decode cX12_shavings 14 = .ok (.iload_n 1, 1) := by decide +kernel
theorem dX12_shavings_15 : decode cX12_shavings 15 = .ok (.iconst 2, 1) := by decide +kernel
theorem dX12_shavings_16 : decode cX12_shavings 16 = .ok (.irem, 1) := by decide +kernel
theorem dX12_shavings_17 : decode cX12_shavings 17 = .ok (.ifCond .ne 13, 3) := by decide +kernel
theorem dX12_shavings_20 : decode cX12_shavings 20 = .ok (.iload_n 1, 1) := by decide +kernel
theorem dX12_shavings_21 : decode cX12_shavings 21 = .ok (.bipush 32, 2) := by decide +kernel
theorem dX12_shavings_23 : decode cX12_shavings 23 = .ok (.if_icmp .gt 7, 3) := by decide +kernel
theorem dX12_shavings_26 : decode cX12_shavings 26 = .ok (.iconst 1, 1) := by decide +kernel
theorem dX12_shavings_27 : decode cX12_shavings 27 = .ok (.goto 4, 3) := by decide +kernel
theorem dX12_shavings_30 : decode cX12_shavings 30 = .ok (.iconst 0, 1) := by decide +kernel
theorem dX12_shavings_31 : decode cX12_shavings 31 = .ok (.istore_n 2, 1) := by decide +kernel
theorem dX12_shavings_32 : decode cX12_shavings 32 = .ok (.iconst 0, 1) := by decide +kernel
theorem dX12_shavings_33 : decode cX12_shavings 33 = .ok (.istore_n 3, 1) := by decide +kernel
theorem dX12_shavings_34 : decode cX12_shavings 34 = .ok (.iload_n 3, 1) := by decide +kernel
theorem dX12_shavings_35 : decode cX12_shavings 35 = .ok (.iload_n 1, 1) := by decide +kernel
theorem dX12_shavings_36 : decode cX12_shavings 36 = .ok (.if_icmp .ge 44, 3) := by decide +kernel
theorem dX12_shavings_39 : decode cX12_shavings 39 = .ok (.iload_n 2, 1) := by decide +kernel
theorem dX12_shavings_40 : decode cX12_shavings 40 = .ok (.ifCond .eq 40, 3) := by decide +kernel
theorem dX12_shavings_43 : decode cX12_shavings 43 = .ok (.aload_n 0, 1) := by decide +kernel
theorem dX12_shavings_44 : decode cX12_shavings 44 = .ok (.aload_n 0, 1) := by decide +kernel
theorem dX12_shavings_45 : decode cX12_shavings 45 = .ok (.getfield 7, 3) := by decide +kernel
theorem dX12_shavings_48 : decode cX12_shavings 48 = .ok (.iload_n 3, 1) := by decide +kernel
theorem dX12_shavings_49 : decode cX12_shavings 49 = .ok (.iaload, 1) := by decide +kernel
theorem dX12_shavings_50 : decode cX12_shavings 50 = .ok (.invokevirtual 583, 3) := by decide +kernel
theorem dX12_shavings_53 : decode cX12_shavings 53 = .ok (.ifCond .eq 19, 3) := by decide +kernel
theorem dX12_shavings_56 : decode cX12_shavings 56 = .ok (.aload_n 0, 1) := by decide +kernel
theorem dX12_shavings_57 : decode cX12_shavings 57 = .ok (.getfield 7, 3) := by decide +kernel
theorem dX12_shavings_60 : decode cX12_shavings 60 = .ok (.iload_n 3, 1) := by decide +kernel
theorem dX12_shavings_61 : decode cX12_shavings 61 = .ok (.iconst 1, 1) := by decide +kernel
theorem dX12_shavings_62 : decode cX12_shavings 62 = .ok (.iadd, 1) := by decide +kernel
theorem dX12_shavings_63 : decode cX12_shavings 63 = .ok (.iaload, 1) := by decide +kernel
theorem dX12_shavings_64 : decode cX12_shavings 64 = .ok (.iconst 2, 1) := by decide +kernel
theorem dX12_shavings_65 : decode cX12_shavings 65 = .ok (.if_icmp .ge 7, 3) := by decide +kernel
theorem dX12_shavings_68 : decode cX12_shavings 68 = .ok (.iconst 1, 1) := by decide +kernel
theorem dX12_shavings_69 : decode cX12_shavings 69 = .ok (.goto 4, 3) := by decide +kernel
theorem dX12_shavings_72 : decode cX12_shavings 72 = .ok (.iconst 0, 1) := by decide +kernel
theorem dX12_shavings_73 : decode cX12_shavings 73 = .ok (.istore_n 2, 1) := by decide +kernel
theorem dX12_shavings_74 : decode cX12_shavings 74 = .ok (.iinc 3 2, 3) := by decide +kernel
theorem dX12_shavings_77 : decode cX12_shavings 77 = .ok (.goto (-43), 3) := by decide +kernel
theorem dX12_shavings_80 : decode cX12_shavings 80 = .ok (.iload_n 2, 1) := by decide +kernel
theorem dX12_shavings_81 : decode cX12_shavings 81 = .ok (.ifCond .ne 9, 3) := by decide +kernel
theorem dX12_shavings_84 : decode cX12_shavings 84 = .ok (.aload_n 0, 1) := by decide +kernel
theorem dX12_shavings_85 : decode cX12_shavings 85 = .ok (.iconst 5, 1) := by decide +kernel
theorem dX12_shavings_86 : decode cX12_shavings 86 = .ok (.invokevirtual 280, 3) := by decide +kernel
theorem dX12_shavings_89 : decode cX12_shavings 89 = .ok (.ireturn, 1) := by decide +kernel
theorem dX12_shavings_90 : decode cX12_shavings 90 = .ok (.aload_n 0, 1) := by decide +kernel
theorem dX12_shavings_91 : decode cX12_shavings 91 = .ok (.iconst 0, 1) := by decide +kernel
theorem dX12_shavings_92 : decode cX12_shavings 92 = .ok (.putfield 264, 3) := by decide +kernel
theorem dX12_shavings_95 : decode cX12_shavings 95 = .ok (.aload_n 0, 1) := by decide +kernel
theorem dX12_shavings_96 : decode cX12_shavings 96 = .ok (.iconst 1, 1) := by decide +kernel
theorem dX12_shavings_97 : decode cX12_shavings 97 = .ok (.iconst 0, 1) := by decide +kernel
theorem dX12_shavings_98 : decode cX12_shavings 98 = .ok (.invokevirtual 493, 3) := by decide +kernel
theorem dX12_shavings_101 : decode cX12_shavings 101 = .ok (.iconst 0, 1) := by decide +kernel
theorem dX12_shavings_102 : decode cX12_shavings 102 = .ok (.istore_n 3, 1) := by decide +kernel
theorem dX12_shavings_103 : decode cX12_shavings 103 = .ok (.aload_n 0, 1) := by decide +kernel
theorem dX12_shavings_104 : decode cX12_shavings 104 = .ok (.iload_n 3, 1) := by decide +kernel
theorem dX12_shavings_105 : decode cX12_shavings 105 = .ok (.iconst 1, 1) := by decide +kernel
theorem dX12_shavings_106 : decode cX12_shavings 106 = .ok (.iadd, 1) := by decide +kernel
theorem dX12_shavings_107 : decode cX12_shavings 107 = .ok (.iconst 1, 1) := by decide +kernel
theorem dX12_shavings_108 : decode cX12_shavings 108 = .ok (.bipush 61, 2) := by decide +kernel
theorem dX12_shavings_110 : decode cX12_shavings 110 = .ok (.invokevirtual 592, 3) := by decide +kernel
theorem dX12_shavings_113 : decode cX12_shavings 113 = .ok (.ifCond .eq 100, 3) := by decide +kernel
theorem dX12_shavings_116 : decode cX12_shavings 116 = .ok (.aload_n 0, 1) := by decide +kernel
theorem dX12_shavings_117 : decode cX12_shavings 117 = .ok (.iconst 1, 1) := by decide +kernel
theorem dX12_shavings_118 : decode cX12_shavings 118 = .ok (.iconst 0, 1) := by decide +kernel
theorem dX12_shavings_119 : decode cX12_shavings 119 = .ok (.invokevirtual 595, 3) := by decide +kernel
theorem dX12_shavings_122 : decode cX12_shavings 122 = .ok (.pop, 1) := by decide +kernel
theorem dX12_shavings_123 : decode cX12_shavings 123 = .ok (.iconst 1, 1) := by decide +kernel
theorem dX12_shavings_124 : decode cX12_shavings 124 = .ok (.istore 4, 2) := by decide +kernel
theorem dX12_shavings_126 : decode cX12_shavings 126 = .ok (.iconst 0, 1) := by decide +kernel
theorem dX12_shavings_127 : decode cX12_shavings 127 = .ok (.istore 5, 2) := by decide +kernel
theorem dX12_shavings_129 : decode cX12_shavings 129 = .ok (.iload 5, 2) := by decide +kernel
theorem dX12_shavings_131 : decode cX12_shavings 131 = .ok (.iload_n 1, 1) := by decide +kernel
theorem dX12_shavings_132 : decode cX12_shavings 132 = .ok (.if_icmp .ge 47, 3) := by decide +kernel
theorem dX12_shavings_135 : decode cX12_shavings 135 = .ok (.iload 4, 2) := by decide +kernel
theorem dX12_shavings_137 : decode cX12_shavings 137 = .ok (.ifCond .eq 33, 3) := by decide +kernel
theorem dX12_shavings_140 : decode cX12_shavings 140 = .ok (.aload_n 0, 1) := by decide +kernel
theorem dX12_shavings_141 : decode cX12_shavings 141 = .ok (.getfield 234, 3) := by decide +kernel
theorem dX12_shavings_144 : decode cX12_shavings 144 = .ok (.aload_n 0, 1) := by decide +kernel
theorem dX12_shavings_145 : decode cX12_shavings 145 = .ok (.getfield 7, 3) := by decide +kernel
theorem dX12_shavings_148 : decode cX12_shavings 148 = .ok (.iload 5, 2) := by decide +kernel
theorem dX12_shavings_150 : decode cX12_shavings 150 = .ok (.iaload, 1) := by decide +kernel
theorem dX12_shavings_151 : decode cX12_shavings 151 = .ok (.ishr, 1) := by decide +kernel
theorem dX12_shavings_152 : decode cX12_shavings 152 = .ok (.iconst 1, 1) := by decide +kernel
theorem dX12_shavings_153 : decode cX12_shavings 153 = .ok (.iand, 1) := by decide +kernel
theorem dX12_shavings_154 : decode cX12_shavings 154 = .ok (.aload_n 0, 1) := by decide +kernel
theorem dX12_shavings_155 : decode cX12_shavings 155 = .ok (.getfield 7, 3) := by decide +kernel
theorem dX12_shavings_158 : decode cX12_shavings 158 = .ok (.iload 5, 2) := by decide +kernel
theorem dX12_shavings_160 : decode cX12_shavings 160 = .ok (.iconst 1, 1) := by decide +kernel
theorem dX12_shavings_161 : decode cX12_shavings 161 = .ok (.iadd, 1) := by decide +kernel
theorem dX12_shavings_162 : decode cX12_shavings 162 = .ok (.iaload, 1) := by decide +kernel
theorem dX12_shavings_163 : decode cX12_shavings 163 = .ok (.if_icmp .ne 7, 3) := by decide +kernel
theorem dX12_shavings_166 : decode cX12_shavings 166 = .ok (.iconst 1, 1) := by decide +kernel
theorem dX12_shavings_167 : decode cX12_shavings 167 = .ok (.goto 4, 3) := by decide +kernel
theorem dX12_shavings_170 : decode cX12_shavings 170 = .ok (.iconst 0, 1) := by decide +kernel
theorem dX12_shavings_171 : decode cX12_shavings 171 = .ok (.istore 4, 2) := by decide +kernel
theorem dX12_shavings_173 : decode cX12_shavings 173 = .ok (.iinc 5 2, 3) := by decide +kernel
theorem dX12_shavings_176 : decode cX12_shavings 176 = .ok (.goto (-47), 3) := by decide +kernel
theorem dX12_shavings_179 : decode cX12_shavings 179 = .ok (.iload 4, 2) := by decide +kernel
theorem dX12_shavings_181 : decode cX12_shavings 181 = .ok (.ifCond .ne 6, 3) := by decide +kernel
theorem dX12_shavings_184 : decode cX12_shavings 184 = .ok (.goto 23, 3) := by decide +kernel
theorem dX12_shavings_187 : decode cX12_shavings 187 = .ok (.aload_n 0, 1) := by decide +kernel
theorem dX12_shavings_188 : decode cX12_shavings 188 = .ok (.getfield 267, 3) := by decide +kernel
theorem dX12_shavings_191 : decode cX12_shavings 191 = .ok (.aload_n 0, 1) := by decide +kernel
theorem dX12_shavings_192 : decode cX12_shavings 192 = .ok (.getfield 264, 3) := by decide +kernel
theorem dX12_shavings_195 : decode cX12_shavings 195 = .ok (.iload_n 3, 1) := by decide +kernel
theorem dX12_shavings_196 : decode cX12_shavings 196 = .ok (.iastore, 1) := by decide +kernel
theorem dX12_shavings_197 : decode cX12_shavings 197 = .ok (.aload_n 0, 1) := by decide +kernel
theorem dX12_shavings_198 : decode cX12_shavings 198 = .ok (.dup, 1) := by decide +kernel
theorem dX12_shavings_199 : decode cX12_shavings 199 = .ok (.getfield 264, 3) := by decide +kernel
theorem dX12_shavings_202 : decode cX12_shavings 202 = .ok (.iconst 1, 1) := by decide +kernel
theorem dX12_shavings_203 : decode cX12_shavings 203 = .ok (.iadd, 1) := by decide +kernel
theorem dX12_shavings_204 : decode cX12_shavings 204 = .ok (.putfield 264, 3) := by decide +kernel
theorem dX12_shavings_207 : decode cX12_shavings 207 = .ok (.iinc 3 1, 3) := by decide +kernel
theorem dX12_shavings_210 : decode cX12_shavings 210 = .ok (.goto (-107), 3) := by decide +kernel
theorem dX12_shavings_213 : decode cX12_shavings 213 = .ok (.aload_n 0, 1) := by decide +kernel
theorem dX12_shavings_214 : decode cX12_shavings 214 = .ok (.getfield 264, 3) := by decide +kernel
theorem dX12_shavings_217 : decode cX12_shavings 217 = .ok (.ireturn, 1) := by decide +kernel
theorem dX12_when_0 : decode cX12_when 0 = .ok (.iload_n 1, 1) := by decide +kernel
theorem dX12_when_1 : decode cX12_when 1 = .ok (.iconst 0, 1) := by decide +kernel
theorem dX12_when_2 : decode cX12_when 2 = .ok (.aload_n 0, 1) := by decide +kernel
theorem dX12_when_3 : decode cX12_when 3 = .ok (.getfield 264, 3) := by decide +kernel
theorem dX12_when_6 : decode cX12_when 6 = .ok (.iconst 1, 1) := by decide +kernel
theorem dX12_when_7 : decode cX12_when 7 = .ok (.isub, 1) := by decide +kernel
theorem dX12_when_8 : decode cX12_when 8 = .ok (.invokestatic 379, 3) := by decide +kernel
theorem dX12_when_11 : decode cX12_when 11 = .ok (.ifCond .eq 12, 3) := by decide +kernel
theorem dX12_when_14 : decode cX12_when 14 = .ok (.aload_n 0, 1) := by decide +kernel
theorem dX12_when_15 : decode cX12_when 15 = .ok (.getfield 267, 3) := by decide +kernel
theorem dX12_when_18 : decode cX12_when 18 = .ok (.iload_n 1, 1) := by decide +kernel
theorem dX12_when_19 : decode cX12_when 19 = .ok (.iaload, 1) := by decide +kernel
theorem dX12_when_20 : decode cX12_when 20 = .ok (.goto 4, 3) := by decide +kernel
theorem dX12_when_23 : decode cX12_when 23 = .ok (.iconst (-1), 1) := by decide +kernel
theorem dX12_when_24 : decode cX12_when 24 = .ok (.ireturn, 1) := by decide +kernel
theorem dX12_days_0 : decode cX12_days 0 = .ok (.aload_n 0, 1) := by decide +kernel
theorem dX12_days_1 : decode cX12_days 1 = .ok (.iload_n 1, 1) := by decide +kernel
theorem dX12_days_2 : decode cX12_days 2 = .ok (.iconst 1, 1) := by decide +kernel
theorem dX12_days_3 : decode cX12_days 3 = .ok (.bipush 100, 2) := by decide +kernel
theorem dX12_days_5 : decode cX12_days 5 = .ok (.invokevirtual 592, 3) := by decide +kernel
theorem dX12_days_8 : decode cX12_days 8 = .ok (.ifCond .ne 9, 3) := by decide +kernel
theorem dX12_days_11 : decode cX12_days 11 = .ok (.aload_n 0, 1) := by decide +kernel
theorem dX12_days_12 : decode cX12_days 12 = .ok (.iconst 2, 1) := by decide +kernel
theorem dX12_days_13 : decode cX12_days 13 = .ok (.invokevirtual 280, 3) := by decide +kernel
theorem dX12_days_16 : decode cX12_days 16 = .ok (.ireturn, 1) := by decide +kernel
theorem dX12_days_17 : decode cX12_days 17 = .ok (.aload_n 0, 1) := by decide +kernel
theorem dX12_days_18 : decode cX12_days 18 = .ok (.invokevirtual 624, 3) := by decide +kernel
theorem dX12_days_21 : decode cX12_days 21 = .ok (.iconst 0, 1) := by decide +kernel
theorem dX12_days_22 : decode cX12_days 22 = .ok (.istore_n 2, 1) := by decide +kernel
theorem dX12_days_23 : decode cX12_days 23 = .ok (.iconst 0, 1) := by decide +kernel
theorem dX12_days_24 : decode cX12_days 24 = .ok (.istore_n 3, 1) := by decide +kernel
theorem dX12_days_25 : decode cX12_days 25 = .ok (.iload_n 3, 1) := by decide +kernel
theorem dX12_days_26 : decode cX12_days 26 = .ok (.iload_n 1, 1) := by decide +kernel
theorem dX12_days_27 : decode cX12_days 27 = .ok (.if_icmp .ge 18, 3) := by decide +kernel
theorem dX12_days_30 : decode cX12_days 30 = .ok (.iload_n 2, 1) := by decide +kernel
theorem dX12_days_31 : decode cX12_days 31 = .ok (.aload_n 0, 1) := by decide +kernel
theorem dX12_days_32 : decode cX12_days 32 = .ok (.iconst 0, 1) := by decide +kernel
theorem dX12_days_33 : decode cX12_days 33 = .ok (.iconst 0, 1) := by decide +kernel
theorem dX12_days_34 : decode cX12_days 34 = .ok (.invokevirtual 595, 3) := by decide +kernel
theorem dX12_days_37 : decode cX12_days 37 = .ok (.iadd, 1) := by decide +kernel
theorem dX12_days_38 : decode cX12_days 38 = .ok (.istore_n 2, 1) := by decide +kernel
theorem dX12_days_39 : decode cX12_days 39 = .ok (.iinc 3 1, 3) := by decide +kernel
theorem dX12_days_42 : decode cX12_days 42 = .ok (.goto (-17), 3) := by decide +kernel
theorem dX12_days_45 : decode cX12_days 45 = .ok (.iload_n 2, 1) := by decide +kernel
theorem dX12_days_46 : decode cX12_days 46 = .ok (.ireturn, 1) := by decide +kernel
theorem dX12_draw_0 : decode cX12_draw 0 = .ok (.aload_n 0, 1) := by decide +kernel
theorem dX12_draw_1 : decode cX12_draw 1 = .ok (.ldc2_w 627, 3) := by decide +kernel
theorem dX12_draw_4 : decode cX12_draw 4 = .ok (.aload_n 0, 1) := by decide +kernel
theorem dX12_draw_5 : decode cX12_draw 5 = .ok (.getfield 213, 3) := by decide +kernel
theorem dX12_draw_8 : decode cX12_draw 8 = .ok (.lmul, 1) := by decide +kernel
theorem dX12_draw_9 : decode cX12_draw 9 = .ok (.ldc2_w 629, 3) := by decide +kernel
theorem dX12_draw_12 : decode cX12_draw 12 = .ok (.ladd, 1) := by decide +kernel
theorem dX12_draw_13 : decode cX12_draw 13 = .ok (.ldc2_w 631, 3) := by decide +kernel
theorem dX12_draw_16 : decode cX12_draw 16 = .ok (.lrem, 1) := by decide +kernel
theorem dX12_draw_17 : decode cX12_draw 17 = .ok (.putfield 213, 3) := by decide +kernel
theorem dX12_draw_20 : decode cX12_draw 20 = .ok (.aload_n 0, 1) := by decide +kernel
theorem dX12_draw_21 : decode cX12_draw 21 = .ok (.getfield 213, 3) := by decide +kernel
theorem dX12_draw_24 : decode cX12_draw 24 = .ok (.ldc2_w 633, 3) := by decide +kernel
theorem dX12_draw_27 : decode cX12_draw 27 = .ok (.ldiv, 1) := by decide +kernel
theorem dX12_draw_28 : decode cX12_draw 28 = .ok (.iload_n 1, 1) := by decide +kernel
theorem dX12_draw_29 : decode cX12_draw 29 = .ok (.i2l, 1) := by decide +kernel
theorem dX12_draw_30 : decode cX12_draw 30 = .ok (.lrem, 1) := by decide +kernel
theorem dX12_draw_31 : decode cX12_draw 31 = .ok (.l2i, 1) := by decide +kernel
theorem dX12_draw_32 : decode cX12_draw 32 = .ok (.ireturn, 1) := by decide +kernel
theorem dX12_chance_0 : decode cX12_chance 0 = .ok (.aload_n 0, 1) := by decide +kernel
theorem dX12_chance_1 : decode cX12_chance 1 = .ok (.iload_n 1, 1) := by decide +kernel
theorem dX12_chance_2 : decode cX12_chance 2 = .ok (.iconst 1, 1) := by decide +kernel
theorem dX12_chance_3 : decode cX12_chance 3 = .ok (.bipush 100, 2) := by decide +kernel
theorem dX12_chance_5 : decode cX12_chance 5 = .ok (.invokevirtual 592, 3) := by decide +kernel
theorem dX12_chance_8 : decode cX12_chance 8 = .ok (.ifCond .ne 9, 3) := by decide +kernel
theorem dX12_chance_11 : decode cX12_chance 11 = .ok (.aload_n 0, 1) := by decide +kernel
theorem dX12_chance_12 : decode cX12_chance 12 = .ok (.iconst 2, 1) := by decide +kernel
theorem dX12_chance_13 : decode cX12_chance 13 = .ok (.invokevirtual 280, 3) := by decide +kernel
theorem dX12_chance_16 : decode cX12_chance 16 = .ok (.ireturn, 1) := by decide +kernel
theorem dX12_chance_17 : decode cX12_chance 17 = .ok (.aload_n 0, 1) := by decide +kernel
theorem dX12_chance_18 : decode cX12_chance 18 = .ok (.invokevirtual 624, 3) := by decide +kernel
theorem dX12_chance_21 : decode cX12_chance 21 = .ok (.iconst 0, 1) := by decide +kernel
theorem dX12_chance_22 : decode cX12_chance 22 = .ok (.istore_n 2, 1) := by decide +kernel
theorem dX12_chance_23 : decode cX12_chance 23 = .ok (.iconst 0, 1) := by decide +kernel
theorem dX12_chance_24 : decode cX12_chance 24 = .ok (.istore_n 3, 1) := by decide +kernel
theorem dX12_chance_25 : decode cX12_chance 25 = .ok (.iload_n 3, 1) := by decide +kernel
theorem dX12_chance_26 : decode cX12_chance 26 = .ok (.iload_n 1, 1) := by decide +kernel
theorem dX12_chance_27 : decode cX12_chance 27 = .ok (.if_icmp .ge 51, 3) := by decide +kernel
theorem dX12_chance_30 : decode cX12_chance 30 = .ok (.aload_n 0, 1) := by decide +kernel
theorem dX12_chance_31 : decode cX12_chance 31 = .ok (.bipush 100, 2) := by decide +kernel
theorem dX12_chance_33 : decode cX12_chance 33 = .ok (.invokevirtual 635, 3) := by decide +kernel
theorem dX12_chance_36 : decode cX12_chance 36 = .ok (.aload_n 0, 1) := by decide +kernel
theorem dX12_chance_37 : decode cX12_chance 37 = .ok (.iconst 2, 1) := by decide +kernel
theorem dX12_chance_38 : decode cX12_chance 38 = .ok (.invokevirtual 561, 3) := by decide +kernel
theorem dX12_chance_41 : decode cX12_chance 41 = .ok (.if_icmp .ge 7, 3) := by decide +kernel
theorem dX12_chance_44 : decode cX12_chance 44 = .ok (.iconst 1, 1) := by decide +kernel
theorem dX12_chance_45 : decode cX12_chance 45 = .ok (.goto 4, 3) := by decide +kernel
theorem dX12_chance_48 : decode cX12_chance 48 = .ok (.iconst 0, 1) := by decide +kernel
theorem dX12_chance_49 : decode cX12_chance 49 = .ok (.istore 4, 2) := by decide +kernel
theorem dX12_chance_51 : decode cX12_chance 51 = .ok (.iload_n 2, 1) := by decide +kernel
theorem dX12_chance_52 : decode cX12_chance 52 = .ok (.iload 4, 2) := by decide +kernel
theorem dX12_chance_54 : decode cX12_chance 54 = .ok (.ifCond .eq 7, 3) := by decide +kernel
theorem dX12_chance_57 : decode cX12_chance 57 = .ok (.iconst 1, 1) := by decide +kernel
theorem dX12_chance_58 : decode cX12_chance 58 = .ok (.goto 4, 3) := by decide +kernel
theorem dX12_chance_61 : decode cX12_chance 61 = .ok (.iconst 0, 1) := by decide +kernel
theorem dX12_chance_62 : decode cX12_chance 62 = .ok (.iadd, 1) := by decide +kernel
theorem dX12_chance_63 : decode cX12_chance 63 = .ok (.istore_n 2, 1) := by decide +kernel
theorem dX12_chance_64 : decode cX12_chance 64 = .ok (.aload_n 0, 1) := by decide +kernel
theorem dX12_chance_65 : decode cX12_chance 65 = .ok (.iconst 0, 1) := by decide +kernel
theorem dX12_chance_66 : decode cX12_chance 66 = .ok (.iload 4, 2) := by decide +kernel
theorem dX12_chance_68 : decode cX12_chance 68 = .ok (.invokevirtual 595, 3) := by decide +kernel
theorem dX12_chance_71 : decode cX12_chance 71 = .ok (.pop, 1) := by decide +kernel
theorem dX12_chance_72 : decode cX12_chance 72 = .ok (.iinc 3 1, 3) := by decide +kernel
theorem dX12_chance_75 : decode cX12_chance 75 = .ok (.goto (-50), 3) := by decide +kernel
theorem dX12_chance_78 : decode cX12_chance 78 = .ok (.iload_n 2, 1) := by decide +kernel
theorem dX12_chance_79 : decode cX12_chance 79 = .ok (.ireturn, 1) := by decide +kernel
theorem dX12_hold_0 : decode cX12_hold 0 = .ok (.aload_n 0, 1) := by decide +kernel
theorem dX12_hold_1 : decode cX12_hold 1 = .ok (.iload_n 1, 1) := by decide +kernel
theorem dX12_hold_2 : decode cX12_hold 2 = .ok (.invokevirtual 583, 3) := by decide +kernel
theorem dX12_hold_5 : decode cX12_hold 5 = .ok (.ifCond .eq 26, 3) := by decide +kernel
theorem dX12_hold_8 : decode cX12_hold 8 = .ok (.iload_n 2, 1) := by decide +kernel
theorem dX12_hold_9 : decode cX12_hold 9 = .ok (.iconst 0, 1) := by decide +kernel
theorem dX12_hold_10 : decode cX12_hold 10 = .ok (.iconst 1, 1) := by decide +kernel
theorem dX12_hold_11 : decode cX12_hold 11 = .ok (.invokestatic 379, 3) := by decide +kernel
theorem dX12_hold_14 : decode cX12_hold 14 = .ok (.ifCond .eq 17, 3) := by decide +kernel
theorem dX12_hold_17 : decode cX12_hold 17 = .ok (.aload_n 0, 1) := by decide +kernel
theorem dX12_hold_18 : decode cX12_hold 18 = .ok (.getfield 189, 3) := by decide +kernel
theorem dX12_hold_21 : decode cX12_hold 21 = .ok (.iconst 0, 1) := by decide +kernel
theorem dX12_hold_22 : decode cX12_hold 22 = .ok (.iaload, 1) := by decide +kernel
theorem dX12_hold_23 : decode cX12_hold 23 = .ok (.iload_n 1, 1) := by decide +kernel
theorem dX12_hold_24 : decode cX12_hold 24 = .ok (.ishr, 1) := by decide +kernel
theorem dX12_hold_25 : decode cX12_hold 25 = .ok (.iconst 1, 1) := by decide +kernel
theorem dX12_hold_26 : decode cX12_hold 26 = .ok (.iand, 1) := by decide +kernel
theorem dX12_hold_27 : decode cX12_hold 27 = .ok (.iload_n 2, 1) := by decide +kernel
theorem dX12_hold_28 : decode cX12_hold 28 = .ok (.if_icmp .ne 17, 3) := by decide +kernel
theorem dX12_hold_31 : decode cX12_hold 31 = .ok (.aload_n 0, 1) := by decide +kernel
theorem dX12_hold_32 : decode cX12_hold 32 = .ok (.iconst 3, 1) := by decide +kernel
theorem dX12_hold_33 : decode cX12_hold 33 = .ok (.invokevirtual 280, 3) := by decide +kernel
theorem dX12_hold_36 : decode cX12_hold 36 = .ok (.ifCond .lt 7, 3) := by decide +kernel
theorem dX12_hold_39 : decode cX12_hold 39 = .ok (.iconst 1, 1) := by decide +kernel
theorem dX12_hold_40 : decode cX12_hold 40 = .ok (.goto 4, 3) := by decide +kernel
theorem dX12_hold_43 : decode cX12_hold 43 = .ok (.iconst 0, 1) := by decide +kernel
theorem dX12_hold_44 : decode cX12_hold 44 = .ok (.ireturn, 1) := by decide +kernel
theorem dX12_hold_45 : decode cX12_hold 45 = .ok (.aload_n 0, 1) := by decide +kernel
theorem dX12_hold_46 : decode cX12_hold 46 = .ok (.invokevirtual 624, 3) := by decide +kernel
theorem dX12_hold_49 : decode cX12_hold 49 = .ok (.aload_n 0, 1) := by decide +kernel
theorem dX12_hold_50 : decode cX12_hold 50 = .ok (.getfield 189, 3) := by decide +kernel
theorem dX12_hold_53 : decode cX12_hold 53 = .ok (.iconst 0, 1) := by decide +kernel
theorem dX12_hold_54 : decode cX12_hold 54 = .ok (.dup2, 1) := by decide +kernel
theorem dX12_hold_55 : decode cX12_hold 55 = .ok (.iaload, 1) := by decide +kernel
theorem dX12_hold_56 : decode cX12_hold 56 = .ok (.iconst 1, 1) := by decide +kernel
theorem dX12_hold_57 : decode cX12_hold 57 = .ok (.iload_n 1, 1) := by decide +kernel
theorem dX12_hold_58 : decode cX12_hold 58 = .ok (.ishl, 1) := by decide +kernel
theorem dX12_hold_59 : decode cX12_hold 59 = .ok (.ixor, 1) := by decide +kernel
theorem dX12_hold_60 : decode cX12_hold 60 = .ok (.iastore, 1) := by decide +kernel
theorem dX12_hold_61 : decode cX12_hold 61 = .ok (.iconst 1, 1) := by decide +kernel
theorem dX12_hold_62 : decode cX12_hold 62 = .ok (.ireturn, 1) := by decide +kernel
theorem dX12_swap_0 : decode cX12_swap 0 = .ok (.aload_n 0, 1) := by decide +kernel
theorem dX12_swap_1 : decode cX12_swap 1 = .ok (.iload_n 1, 1) := by decide +kernel
theorem dX12_swap_2 : decode cX12_swap 2 = .ok (.invokevirtual 586, 3) := by decide +kernel
theorem dX12_swap_5 : decode cX12_swap 5 = .ok (.ifCond .eq 16, 3) := by decide +kernel
theorem dX12_swap_8 : decode cX12_swap 8 = .ok (.aload_n 0, 1) := by decide +kernel
theorem dX12_swap_9 : decode cX12_swap 9 = .ok (.iload_n 2, 1) := by decide +kernel
theorem dX12_swap_10 : decode cX12_swap 10 = .ok (.invokevirtual 586, 3) := by decide +kernel
theorem dX12_swap_13 : decode cX12_swap 13 = .ok (.ifCond .eq 8, 3) := by decide +kernel
theorem dX12_swap_16 : decode cX12_swap 16 = .ok (.iload_n 1, 1) := by decide +kernel
theorem dX12_swap_17 : decode cX12_swap 17 = .ok (.iload_n 2, 1) := by decide +kernel
theorem dX12_swap_18 : decode cX12_swap 18 = .ok (.if_icmp .ne 17, 3) := by decide +kernel
theorem dX12_swap_21 : decode cX12_swap 21 = .ok (.aload_n 0, 1) := by decide +kernel
theorem dX12_swap_22 : decode cX12_swap 22 = .ok (.iconst 3, 1) := by decide +kernel
theorem dX12_swap_23 : decode cX12_swap 23 = .ok (.invokevirtual 280, 3) := by decide +kernel
theorem dX12_swap_26 : decode cX12_swap 26 = .ok (.ifCond .lt 7, 3) := by decide +kernel
theorem dX12_swap_29 : decode cX12_swap 29 = .ok (.iconst 1, 1) := by decide +kernel
theorem dX12_swap_30 : decode cX12_swap 30 = .ok (.goto 4, 3) := by decide +kernel
theorem dX12_swap_33 : decode cX12_swap 33 = .ok (.iconst 0, 1) := by decide +kernel
theorem dX12_swap_34 : decode cX12_swap 34 = .ok (.ireturn, 1) := by decide +kernel
theorem dX12_swap_35 : decode cX12_swap 35 = .ok (.aload_n 0, 1) := by decide +kernel
theorem dX12_swap_36 : decode cX12_swap 36 = .ok (.invokevirtual 624, 3) := by decide +kernel
theorem dX12_swap_39 : decode cX12_swap 39 = .ok (.iconst 0, 1) := by decide +kernel
theorem dX12_swap_40 : decode cX12_swap 40 = .ok (.istore_n 3, 1) := by decide +kernel
theorem dX12_swap_41 : decode cX12_swap 41 = .ok (.iload_n 3, 1) := by decide +kernel
theorem dX12_swap_42 : decode cX12_swap 42 = .ok (.bipush 8, 2) := by decide +kernel
theorem dX12_swap_44 : decode cX12_swap 44 = .ok (.if_icmp .ge 57, 3) := by decide +kernel
theorem dX12_swap_47 : decode cX12_swap 47 = .ok (.aload_n 0, 1) := by decide +kernel
theorem dX12_swap_48 : decode cX12_swap 48 = .ok (.getfield 192, 3) := by decide +kernel
theorem dX12_swap_51 : decode cX12_swap 51 = .ok (.bipush 8, 2) := by decide +kernel
theorem dX12_swap_53 : decode cX12_swap 53 = .ok (.iload_n 1, 1) := by decide +kernel
theorem dX12_swap_54 : decode cX12_swap 54 = .ok (.imul, 1) := by decide +kernel
theorem dX12_swap_55 : decode cX12_swap 55 = .ok (.iload_n 3, 1) := by decide +kernel
theorem dX12_swap_56 : decode cX12_swap 56 = .ok (.iadd, 1) := by decide +kernel
theorem dX12_swap_57 : decode cX12_swap 57 = .ok (.iaload, 1) := by decide +kernel
theorem dX12_swap_58 : decode cX12_swap 58 = .ok (.istore 4, 2) := by decide +kernel
theorem dX12_swap_60 : decode cX12_swap 60 = .ok (.aload_n 0, 1) := by decide +kernel
theorem dX12_swap_61 : decode cX12_swap 61 = .ok (.getfield 192, 3) := by decide +kernel
theorem dX12_swap_64 : decode cX12_swap 64 = .ok (.bipush 8, 2) := by decide +kernel
theorem dX12_swap_66 : decode cX12_swap 66 = .ok (.iload_n 1, 1) := by decide +kernel
theorem dX12_swap_67 : decode cX12_swap 67 = .ok (.imul, 1) := by decide +kernel
theorem dX12_swap_68 : decode cX12_swap 68 = .ok (.iload_n 3, 1) := by decide +kernel
theorem dX12_swap_69 : decode cX12_swap 69 = .ok (.iadd, 1) := by decide +kernel
theorem dX12_swap_70 : decode cX12_swap 70 = .ok (.aload_n 0, 1) := by decide +kernel
theorem dX12_swap_71 : decode cX12_swap 71 = .ok (.getfield 192, 3) := by decide +kernel
theorem dX12_swap_74 : decode cX12_swap 74 = .ok (.bipush 8, 2) := by decide +kernel
theorem dX12_swap_76 : decode cX12_swap 76 = .ok (.iload_n 2, 1) := by decide +kernel
theorem dX12_swap_77 : decode cX12_swap 77 = .ok (.imul, 1) := by decide +kernel
theorem dX12_swap_78 : decode cX12_swap 78 = .ok (.iload_n 3, 1) := by decide +kernel
theorem dX12_swap_79 : decode cX12_swap 79 = .ok (.iadd, 1) := by decide +kernel
theorem dX12_swap_80 : decode cX12_swap 80 = .ok (.iaload, 1) := by decide +kernel
theorem dX12_swap_81 : decode cX12_swap 81 = .ok (.iastore, 1) := by decide +kernel
theorem dX12_swap_82 : decode cX12_swap 82 = .ok (.aload_n 0, 1) := by decide +kernel
theorem dX12_swap_83 : decode cX12_swap 83 = .ok (.getfield 192, 3) := by decide +kernel
theorem dX12_swap_86 : decode cX12_swap 86 = .ok (.bipush 8, 2) := by decide +kernel
theorem dX12_swap_88 : decode cX12_swap 88 = .ok (.iload_n 2, 1) := by decide +kernel
theorem dX12_swap_89 : decode cX12_swap 89 = .ok (.imul, 1) := by decide +kernel
theorem dX12_swap_90 : decode cX12_swap 90 = .ok (.iload_n 3, 1) := by decide +kernel
theorem dX12_swap_91 : decode cX12_swap 91 = .ok (.iadd, 1) := by decide +kernel
theorem dX12_swap_92 : decode cX12_swap 92 = .ok (.iload 4, 2) := by decide +kernel
theorem dX12_swap_94 : decode cX12_swap 94 = .ok (.iastore, 1) := by decide +kernel
theorem dX12_swap_95 : decode cX12_swap 95 = .ok (.iinc 3 1, 3) := by decide +kernel
theorem dX12_swap_98 : decode cX12_swap 98 = .ok (.goto (-57), 3) := by decide +kernel
theorem dX12_swap_101 : decode cX12_swap 101 = .ok (.iconst 1, 1) := by decide +kernel
theorem dX12_swap_102 : decode cX12_swap 102 = .ok (.ireturn, 1) := by decide +kernel
theorem dX12_due_0 : decode cX12_due 0 = .ok (.aload_n 0, 1) := by decide +kernel
theorem dX12_due_1 : decode cX12_due 1 = .ok (.iload_n 1, 1) := by decide +kernel
theorem dX12_due_2 : decode cX12_due 2 = .ok (.invokevirtual 589, 3) := by decide +kernel
theorem dX12_due_5 : decode cX12_due 5 = .ok (.ifCond .eq 24, 3) := by decide +kernel
theorem dX12_due_8 : decode cX12_due 8 = .ok (.iload_n 2, 1) := by decide +kernel
theorem dX12_due_9 : decode cX12_due 9 = .ok (.iconst 0, 1) := by decide +kernel
theorem dX12_due_10 : decode cX12_due 10 = .ok (.sipush 999, 3) := by decide +kernel
theorem dX12_due_13 : decode cX12_due 13 = .ok (.invokestatic 379, 3) := by decide +kernel
theorem dX12_due_16 : decode cX12_due 16 = .ok (.ifCond .eq 13, 3) := by decide +kernel
theorem dX12_due_19 : decode cX12_due 19 = .ok (.aload_n 0, 1) := by decide +kernel
theorem dX12_due_20 : decode cX12_due 20 = .ok (.getfield 198, 3) := by decide +kernel
theorem dX12_due_23 : decode cX12_due 23 = .ok (.iload_n 1, 1) := by decide +kernel
theorem dX12_due_24 : decode cX12_due 24 = .ok (.iaload, 1) := by decide +kernel
theorem dX12_due_25 : decode cX12_due 25 = .ok (.iload_n 2, 1) := by decide +kernel
theorem dX12_due_26 : decode cX12_due 26 = .ok (.if_icmp .ne 17, 3) := by decide +kernel
theorem dX12_due_29 : decode cX12_due 29 = .ok (.aload_n 0, 1) := by decide +kernel
theorem dX12_due_30 : decode cX12_due 30 = .ok (.iconst 3, 1) := by decide +kernel
theorem dX12_due_31 : decode cX12_due 31 = .ok (.invokevirtual 280, 3) := by decide +kernel
theorem dX12_due_34 : decode cX12_due 34 = .ok (.ifCond .lt 7, 3) := by decide +kernel
theorem dX12_due_37 : decode cX12_due 37 = .ok (.iconst 1, 1) := by decide +kernel
theorem dX12_due_38 : decode cX12_due 38 = .ok (.goto 4, 3) := by decide +kernel
theorem dX12_due_41 : decode cX12_due 41 = .ok (.iconst 0, 1) := by decide +kernel
theorem dX12_due_42 : decode cX12_due 42 = .ok (.ireturn, 1) := by decide +kernel
theorem dX12_due_43 : decode cX12_due 43 = .ok (.aload_n 0, 1) := by decide +kernel
theorem dX12_due_44 : decode cX12_due 44 = .ok (.invokevirtual 624, 3) := by decide +kernel
theorem dX12_due_47 : decode cX12_due 47 = .ok (.aload_n 0, 1) := by decide +kernel
theorem dX12_due_48 : decode cX12_due 48 = .ok (.getfield 198, 3) := by decide +kernel
theorem dX12_due_51 : decode cX12_due 51 = .ok (.iload_n 1, 1) := by decide +kernel
theorem dX12_due_52 : decode cX12_due 52 = .ok (.iload_n 2, 1) := by decide +kernel
theorem dX12_due_53 : decode cX12_due 53 = .ok (.iastore, 1) := by decide +kernel
theorem dX12_due_54 : decode cX12_due 54 = .ok (.iconst 1, 1) := by decide +kernel
theorem dX12_due_55 : decode cX12_due 55 = .ok (.ireturn, 1) := by decide +kernel
theorem dX12_seed_0 : decode cX12_seed 0 = .ok (.iload_n 1, 1) := by decide +kernel
theorem dX12_seed_1 : decode cX12_seed 1 = .ok (.ifCond .ge 17, 3) := by decide +kernel
theorem dX12_seed_4 : decode cX12_seed 4 = .ok (.aload_n 0, 1) := by decide +kernel
theorem dX12_seed_5 : decode cX12_seed 5 = .ok (.iconst 5, 1) := by decide +kernel
theorem dX12_seed_6 : decode cX12_seed 6 = .ok (.invokevirtual 280, 3) := by decide +kernel
theorem dX12_seed_9 : decode cX12_seed 9 = .ok (.ifCond .lt 7, 3) := by decide +kernel
theorem dX12_seed_12 : decode cX12_seed 12 = .ok (.iconst 1, 1) := by decide +kernel
theorem dX12_seed_13 : decode cX12_seed 13 = .ok (.goto 4, 3) := by decide +kernel
theorem dX12_seed_16 : decode cX12_seed 16 = .ok (.iconst 0, 1) := by decide +kernel
theorem dX12_seed_17 : decode cX12_seed 17 = .ok (.ireturn, 1) := by decide +kernel
theorem dX12_seed_18 : decode cX12_seed 18 = .ok (.aload_n 0, 1) := by decide +kernel
theorem dX12_seed_19 : decode cX12_seed 19 = .ok (.iload_n 1, 1) := by decide +kernel
theorem dX12_seed_20 : decode cX12_seed 20 = .ok (.i2l, 1) := by decide +kernel
theorem dX12_seed_21 : decode cX12_seed 21 = .ok (.putfield 213, 3) := by decide +kernel
theorem dX12_seed_24 : decode cX12_seed 24 = .ok (.iconst 1, 1) := by decide +kernel
theorem dX12_seed_25 : decode cX12_seed 25 = .ok (.ireturn, 1) := by decide +kernel
theorem dX12_kept_0 : decode cX12_kept 0 = .ok (.iload_n 1, 1) := by decide +kernel
theorem dX12_kept_1 : decode cX12_kept 1 = .ok (.iconst 0, 1) := by decide +kernel
theorem dX12_kept_2 : decode cX12_kept 2 = .ok (.aload_n 0, 1) := by decide +kernel
theorem dX12_kept_3 : decode cX12_kept 3 = .ok (.getfield 201, 3) := by decide +kernel
theorem dX12_kept_6 : decode cX12_kept 6 = .ok (.iconst 0, 1) := by decide +kernel
theorem dX12_kept_7 : decode cX12_kept 7 = .ok (.iaload, 1) := by decide +kernel
theorem dX12_kept_8 : decode cX12_kept 8 = .ok (.iconst 1, 1) := by decide +kernel
theorem dX12_kept_9 : decode cX12_kept 9 = .ok (.isub, 1) := by decide +kernel
theorem dX12_kept_10 : decode cX12_kept 10 = .ok (.invokestatic 379, 3) := by decide +kernel
theorem dX12_kept_13 : decode cX12_kept 13 = .ok (.ifCond .eq 25, 3) := by decide +kernel
theorem dX12_kept_16 : decode cX12_kept 16 = .ok (.iload_n 2, 1) := by decide +kernel
theorem dX12_kept_17 : decode cX12_kept 17 = .ok (.iconst 0, 1) := by decide +kernel
theorem dX12_kept_18 : decode cX12_kept 18 = .ok (.iconst 3, 1) := by decide +kernel
theorem dX12_kept_19 : decode cX12_kept 19 = .ok (.invokestatic 379, 3) := by decide +kernel
theorem dX12_kept_22 : decode cX12_kept 22 = .ok (.ifCond .eq 16, 3) := by decide +kernel
theorem dX12_kept_25 : decode cX12_kept 25 = .ok (.aload_n 0, 1) := by decide +kernel
theorem dX12_kept_26 : decode cX12_kept 26 = .ok (.getfield 204, 3) := by decide +kernel
theorem dX12_kept_29 : decode cX12_kept 29 = .ok (.iconst 4, 1) := by decide +kernel
theorem dX12_kept_30 : decode cX12_kept 30 = .ok (.iload_n 1, 1) := by decide +kernel
theorem dX12_kept_31 : decode cX12_kept 31 = .ok (.imul, 1) := by decide +kernel
theorem dX12_kept_32 : decode cX12_kept 32 = .ok (.iload_n 2, 1) := by decide +kernel
theorem dX12_kept_33 : decode cX12_kept 33 = .ok (.iadd, 1) := by decide +kernel
theorem dX12_kept_34 : decode cX12_kept 34 = .ok (.iaload, 1) := by decide +kernel
theorem dX12_kept_35 : decode cX12_kept 35 = .ok (.goto 4, 3) := by decide +kernel
theorem dX12_kept_38 : decode cX12_kept 38 = .ok (.iconst (-1), 1) := by decide +kernel
theorem dX12_kept_39 : decode cX12_kept 39 = .ok (.ireturn, 1) := by decide +kernel
theorem dX12_writes_0 : decode cX12_writes 0 = .ok (.aload_n 0, 1) := by decide +kernel
theorem dX12_writes_1 : decode cX12_writes 1 = .ok (.getfield 270, 3) := by decide +kernel
theorem dX12_writes_4 : decode cX12_writes 4 = .ok (.aload_n 0, 1) := by decide +kernel
theorem dX12_writes_5 : decode cX12_writes 5 = .ok (.getfield 273, 3) := by decide +kernel
theorem dX12_writes_8 : decode cX12_writes 8 = .ok (.iload_n 1, 1) := by decide +kernel
theorem dX12_writes_9 : decode cX12_writes 9 = .ok (.sipush 255, 3) := by decide +kernel
theorem dX12_writes_12 : decode cX12_writes 12 = .ok (.iand, 1) := by decide +kernel
theorem dX12_writes_13 : decode cX12_writes 13 = .ok (.iastore, 1) := by decide +kernel
theorem dX12_writes_14 : decode cX12_writes 14 = .ok (.aload_n 0, 1) := by decide +kernel
theorem dX12_writes_15 : decode cX12_writes 15 = .ok (.dup, 1) := by decide +kernel
theorem dX12_writes_16 : decode cX12_writes 16 = .ok (.getfield 273, 3) := by decide +kernel
theorem dX12_writes_19 : decode cX12_writes 19 = .ok (.iconst 1, 1) := by decide +kernel
theorem dX12_writes_20 : decode cX12_writes 20 = .ok (.iadd, 1) := by decide +kernel
theorem dX12_writes_21 : decode cX12_writes 21 = .ok (.putfield 273, 3) := by decide +kernel
theorem dX12_writes_24 : decode cX12_writes 24 = .ok (.return_, 1) := by decide +kernel
theorem dX12_writesTwo_0 : decode cX12_writesTwo 0 = .ok (.aload_n 0, 1) := by decide +kernel
theorem dX12_writesTwo_1 : decode cX12_writesTwo 1 = .ok (.iload_n 1, 1) := by decide +kernel
theorem dX12_writesTwo_2 : decode cX12_writesTwo 2 = .ok (.bipush 8, 2) := by decide +kernel
theorem dX12_writesTwo_4 : decode cX12_writesTwo 4 = .ok (.ishr, 1) := by decide +kernel
theorem dX12_writesTwo_5 : decode cX12_writesTwo 5 = .ok (.invokevirtual 638, 3) := by decide +kernel
theorem dX12_writesTwo_8 : decode cX12_writesTwo 8 = .ok (.aload_n 0, 1) := by decide +kernel
theorem dX12_writesTwo_9 : decode cX12_writesTwo 9 = .ok (.iload_n 1, 1) := by decide +kernel
theorem dX12_writesTwo_10 : decode cX12_writesTwo 10 = .ok (.invokevirtual 638, 3) := by decide +kernel
theorem dX12_writesTwo_13 : decode cX12_writesTwo 13 = .ok (.return_, 1) := by decide +kernel
theorem dX12_image_0 : decode cX12_image 0 = .ok (.aload_n 0, 1) := by decide +kernel
theorem dX12_image_1 : decode cX12_image 1 = .ok (.iconst 0, 1) := by decide +kernel
theorem dX12_image_2 : decode cX12_image 2 = .ok (.putfield 273, 3) := by decide +kernel
theorem dX12_image_5 : decode cX12_image 5 = .ok (.aload_n 0, 1) := by decide +kernel
theorem dX12_image_6 : decode cX12_image 6 = .ok (.aload_n 0, 1) := by decide +kernel
theorem dX12_image_7 : decode cX12_image 7 = .ok (.getfield 177, 3) := by decide +kernel
theorem dX12_image_10 : decode cX12_image 10 = .ok (.iconst 0, 1) := by decide +kernel
theorem dX12_image_11 : decode cX12_image 11 = .ok (.iaload, 1) := by decide +kernel
theorem dX12_image_12 : decode cX12_image 12 = .ok (.invokevirtual 641, 3) := by decide +kernel
theorem dX12_image_15 : decode cX12_image 15 = .ok (.aload_n 0, 1) := by decide +kernel
theorem dX12_image_16 : decode cX12_image 16 = .ok (.aload_n 0, 1) := by decide +kernel
theorem dX12_image_17 : decode cX12_image 17 = .ok (.getfield 180, 3) := by decide +kernel
theorem dX12_image_20 : decode cX12_image 20 = .ok (.iconst 0, 1) := by decide +kernel
theorem dX12_image_21 : decode cX12_image 21 = .ok (.iaload, 1) := by decide +kernel
theorem dX12_image_22 : decode cX12_image 22 = .ok (.invokevirtual 641, 3) := by decide +kernel
theorem dX12_image_25 : decode cX12_image 25 = .ok (.iconst 0, 1) := by decide +kernel
theorem dX12_image_26 : decode cX12_image 26 = .ok (.istore_n 1, 1) := by decide +kernel
theorem dX12_image_27 : decode cX12_image 27 = .ok (.iload_n 1, 1) := by decide +kernel
theorem dX12_image_28 : decode cX12_image 28 = .ok (.aload_n 0, 1) := by decide +kernel
theorem dX12_image_29 : decode cX12_image 29 = .ok (.getfield 63, 3) := by decide +kernel
theorem dX12_image_32 : decode cX12_image 32 = .ok (.aload_n 0, 1) := by decide +kernel
theorem dX12_image_33 : decode cX12_image 33 = .ok (.getfield 51, 3) := by decide +kernel
theorem dX12_image_36 : decode cX12_image 36 = .ok (.iaload, 1) := by decide +kernel
theorem dX12_image_37 : decode cX12_image 37 = .ok (.if_icmp .ge 47, 3) := by decide +kernel
theorem dX12_image_40 : decode cX12_image 40 = .ok (.aload_n 0, 1) := by decide +kernel
theorem dX12_image_41 : decode cX12_image 41 = .ok (.aload_n 0, 1) := by decide +kernel
theorem dX12_image_42 : decode cX12_image 42 = .ok (.getfield 183, 3) := by decide +kernel
theorem dX12_image_45 : decode cX12_image 45 = .ok (.iload_n 1, 1) := by decide +kernel
theorem dX12_image_46 : decode cX12_image 46 = .ok (.iaload, 1) := by decide +kernel
theorem dX12_image_47 : decode cX12_image 47 = .ok (.invokevirtual 638, 3) := by decide +kernel
theorem dX12_image_50 : decode cX12_image 50 = .ok (.aload_n 0, 1) := by decide +kernel
theorem dX12_image_51 : decode cX12_image 51 = .ok (.aload_n 0, 1) := by decide +kernel
theorem dX12_image_52 : decode cX12_image 52 = .ok (.getfield 186, 3) := by decide +kernel
theorem dX12_image_55 : decode cX12_image 55 = .ok (.iconst 0, 1) := by decide +kernel
theorem dX12_image_56 : decode cX12_image 56 = .ok (.iaload, 1) := by decide +kernel
theorem dX12_image_57 : decode cX12_image 57 = .ok (.iload_n 1, 1) := by decide +kernel
theorem dX12_image_58 : decode cX12_image 58 = .ok (.ishr, 1) := by decide +kernel
theorem dX12_image_59 : decode cX12_image 59 = .ok (.iconst 1, 1) := by decide +kernel
theorem dX12_image_60 : decode cX12_image 60 = .ok (.iand, 1) := by decide +kernel
theorem dX12_image_61 : decode cX12_image 61 = .ok (.invokevirtual 638, 3) := by decide +kernel
theorem dX12_image_64 : decode cX12_image 64 = .ok (.aload_n 0, 1) := by decide +kernel
theorem dX12_image_65 : decode cX12_image 65 = .ok (.aload_n 0, 1) := by decide +kernel
theorem dX12_image_66 : decode cX12_image 66 = .ok (.getfield 189, 3) := by decide +kernel
theorem dX12_image_69 : decode cX12_image 69 = .ok (.iconst 0, 1) := by decide +kernel
theorem dX12_image_70 : decode cX12_image 70 = .ok (.iaload, 1) := by decide +kernel
theorem dX12_image_71 : decode cX12_image 71 = .ok (.iload_n 1, 1) := by decide +kernel
theorem dX12_image_72 : decode cX12_image 72 = .ok (.ishr, 1) := by decide +kernel
theorem dX12_image_73 : decode cX12_image 73 = .ok (.iconst 1, 1) := by decide +kernel
theorem dX12_image_74 : decode cX12_image 74 = .ok (.iand, 1) := by decide +kernel
theorem dX12_image_75 : decode cX12_image 75 = .ok (.invokevirtual 638, 3) := by decide +kernel
theorem dX12_image_78 : decode cX12_image 78 = .ok (.iinc 1 1, 3) := by decide +kernel
theorem dX12_image_81 : decode cX12_image 81 = .ok (.goto (-54), 3) := by decide +kernel
theorem dX12_image_84 : decode cX12_image 84 = .ok (.iconst 0, 1) := by decide +kernel
theorem dX12_image_85 : decode cX12_image 85 = .ok (.istore_n 1, 1) := by decide +kernel
theorem dX12_image_86 : decode cX12_image 86 = .ok (.iload_n 1, 1) := by decide +kernel
theorem dX12_image_87 : decode cX12_image 87 = .ok (.aload_n 0, 1) := by decide +kernel
theorem dX12_image_88 : decode cX12_image 88 = .ok (.getfield 72, 3) := by decide +kernel
theorem dX12_image_91 : decode cX12_image 91 = .ok (.aload_n 0, 1) := by decide +kernel
theorem dX12_image_92 : decode cX12_image 92 = .ok (.getfield 51, 3) := by decide +kernel
theorem dX12_image_95 : decode cX12_image 95 = .ok (.iaload, 1) := by decide +kernel
theorem dX12_image_96 : decode cX12_image 96 = .ok (.if_icmp .ge 41, 3) := by decide +kernel
theorem dX12_image_99 : decode cX12_image 99 = .ok (.iconst 0, 1) := by decide +kernel
theorem dX12_image_100 : decode cX12_image 100 = .ok (.istore_n 2, 1) := by decide +kernel
theorem dX12_image_101 : decode cX12_image 101 = .ok (.iload_n 2, 1) := by decide +kernel
theorem dX12_image_102 : decode cX12_image 102 = .ok (.aload_n 0, 1) := by decide +kernel
theorem dX12_image_103 : decode cX12_image 103 = .ok (.getfield 63, 3) := by decide +kernel
theorem dX12_image_106 : decode cX12_image 106 = .ok (.aload_n 0, 1) := by decide +kernel
theorem dX12_image_107 : decode cX12_image 107 = .ok (.getfield 51, 3) := by decide +kernel
theorem dX12_image_110 : decode cX12_image 110 = .ok (.iaload, 1) := by decide +kernel
theorem dX12_image_111 : decode cX12_image 111 = .ok (.if_icmp .ge 20, 3) := by decide +kernel
theorem dX12_image_114 : decode cX12_image 114 = .ok (.aload_n 0, 1) := by decide +kernel
theorem dX12_image_115 : decode cX12_image 115 = .ok (.aload_n 0, 1) := by decide +kernel
theorem dX12_image_116 : decode cX12_image 116 = .ok (.iconst 0, 1) := by decide +kernel
theorem dX12_image_117 : decode cX12_image 117 = .ok (.iload_n 1, 1) := by decide +kernel
theorem dX12_image_118 : decode cX12_image 118 = .ok (.iload_n 2, 1) := by decide +kernel
theorem dX12_image_119 : decode cX12_image 119 = .ok (.invokevirtual 530, 3) := by decide +kernel
theorem dX12_image_122 : decode cX12_image 122 = .ok (.invokevirtual 638, 3) := by decide +kernel
theorem dX12_image_125 : decode cX12_image 125 = .ok (.iinc 2 1, 3) := by decide +kernel
theorem dX12_image_128 : decode cX12_image 128 = .ok (.goto (-27), 3) := by decide +kernel
theorem dX12_image_131 : decode cX12_image 131 = .ok (.iinc 1 1, 3) := by decide +kernel
theorem dX12_image_134 : decode cX12_image 134 = .ok (.goto (-48), 3) := by decide +kernel
theorem dX12_image_137 : decode cX12_image 137 = .ok (.iconst 0, 1) := by decide +kernel
theorem dX12_image_138 : decode cX12_image 138 = .ok (.istore_n 1, 1) := by decide +kernel
theorem dX12_image_139 : decode cX12_image 139 = .ok (.iload_n 1, 1) := by decide +kernel
theorem dX12_image_140 : decode cX12_image 140 = .ok (.aload_n 0, 1) := by decide +kernel
theorem dX12_image_141 : decode cX12_image 141 = .ok (.getfield 78, 3) := by decide +kernel
theorem dX12_image_144 : decode cX12_image 144 = .ok (.aload_n 0, 1) := by decide +kernel
theorem dX12_image_145 : decode cX12_image 145 = .ok (.getfield 51, 3) := by decide +kernel
theorem dX12_image_148 : decode cX12_image 148 = .ok (.iaload, 1) := by decide +kernel
theorem dX12_image_149 : decode cX12_image 149 = .ok (.if_icmp .ge 29, 3) := by decide +kernel
theorem dX12_image_152 : decode cX12_image 152 = .ok (.aload_n 0, 1) := by decide +kernel
theorem dX12_image_153 : decode cX12_image 153 = .ok (.aload_n 0, 1) := by decide +kernel
theorem dX12_image_154 : decode cX12_image 154 = .ok (.iconst 0, 1) := by decide +kernel
theorem dX12_image_155 : decode cX12_image 155 = .ok (.iload_n 1, 1) := by decide +kernel
theorem dX12_image_156 : decode cX12_image 156 = .ok (.invokevirtual 515, 3) := by decide +kernel
theorem dX12_image_159 : decode cX12_image 159 = .ok (.invokevirtual 638, 3) := by decide +kernel
theorem dX12_image_162 : decode cX12_image 162 = .ok (.aload_n 0, 1) := by decide +kernel
theorem dX12_image_163 : decode cX12_image 163 = .ok (.aload_n 0, 1) := by decide +kernel
theorem dX12_image_164 : decode cX12_image 164 = .ok (.getfield 198, 3) := by decide +kernel
theorem dX12_image_167 : decode cX12_image 167 = .ok (.iload_n 1, 1) := by decide +kernel
theorem dX12_image_168 : decode cX12_image 168 = .ok (.iaload, 1) := by decide +kernel
theorem dX12_image_169 : decode cX12_image 169 = .ok (.invokevirtual 641, 3) := by decide +kernel
theorem dX12_image_172 : decode cX12_image 172 = .ok (.iinc 1 1, 3) := by decide +kernel
theorem dX12_image_175 : decode cX12_image 175 = .ok (.goto (-36), 3) := by decide +kernel
theorem dX12_image_178 : decode cX12_image 178 = .ok (.sipush 157, 3) := by decide +kernel
theorem dX12_image_181 : decode cX12_image 181 = .ok (.istore_n 1, 1) := by decide +kernel
theorem dX12_image_182 : decode cX12_image 182 = .ok (.iconst 0, 1) := by decide +kernel
theorem dX12_image_183 : decode cX12_image 183 = .ok (.istore_n 2, 1) := by decide +kernel
theorem dX12_image_184 : decode cX12_image 184 = .ok (.iload_n 2, 1) := by decide +kernel
theorem dX12_image_185 : decode cX12_image 185 = .ok (.aload_n 0, 1) := by decide +kernel
theorem dX12_image_186 : decode cX12_image 186 = .ok (.getfield 273, 3) := by decide +kernel
theorem dX12_image_189 : decode cX12_image 189 = .ok (.if_icmp .ge 24, 3) := by decide +kernel
theorem dX12_image_192 : decode cX12_image 192 = .ok (.iconst 5, 1) := by decide +kernel
theorem dX12_image_193 : decode cX12_image 193 = .ok (.iload_n 1, 1) := by decide +kernel
theorem dX12_image_194 : decode cX12_image 194 = .ok (.imul, 1) := by decide +kernel
theorem dX12_image_195 : decode cX12_image 195 = .ok (.aload_n 0, 1) := by decide +kernel
theorem dX12_image_196 : decode cX12_image 196 = .ok (.getfield 270, 3) := by decide +kernel
theorem dX12_image_199 : decode cX12_image 199 = .ok (.iload_n 2, 1) := by decide +kernel
theorem dX12_image_200 : decode cX12_image 200 = .ok (.iaload, 1) := by decide +kernel
theorem dX12_image_201 : decode cX12_image 201 = .ok (.iadd, 1) := by decide +kernel
theorem dX12_image_202 : decode cX12_image 202 = .ok (.sipush 251, 3) := by decide +kernel
theorem dX12_image_205 : decode cX12_image 205 = .ok (.irem, 1) := by decide +kernel
theorem dX12_image_206 : decode cX12_image 206 = .ok (.istore_n 1, 1) := by decide +kernel
theorem dX12_image_207 : decode cX12_image 207 = .ok (.iinc 2 1, 3) := by decide +kernel
theorem dX12_image_210 : decode cX12_image 210 = .ok (.goto (-26), 3) := by decide +kernel
theorem dX12_image_213 : decode cX12_image 213 = .ok (.aload_n 0, 1) := by decide +kernel
theorem dX12_image_214 : decode cX12_image 214 = .ok (.iload_n 1, 1) := by decide +kernel
theorem dX12_image_215 : decode cX12_image 215 = .ok (.invokevirtual 638, 3) := by decide +kernel
theorem dX12_image_218 : decode cX12_image 218 = .ok (.aload_n 0, 1) := by decide +kernel
theorem dX12_image_219 : decode cX12_image 219 = .ok (.getfield 273, 3) := by decide +kernel
theorem dX12_image_222 : decode cX12_image 222 = .ok (.ireturn, 1) := by decide +kernel
theorem dX12_octet_0 : decode cX12_octet 0 = .ok (.iload_n 1, 1) := by decide +kernel
theorem dX12_octet_1 : decode cX12_octet 1 = .ok (.iconst 0, 1) := by decide +kernel
theorem dX12_octet_2 : decode cX12_octet 2 = .ok (.aload_n 0, 1) := by decide +kernel
theorem dX12_octet_3 : decode cX12_octet 3 = .ok (.getfield 273, 3) := by decide +kernel
theorem dX12_octet_6 : decode cX12_octet 6 = .ok (.iconst 1, 1) := by decide +kernel
theorem dX12_octet_7 : decode cX12_octet 7 = .ok (.isub, 1) := by decide +kernel
theorem dX12_octet_8 : decode cX12_octet 8 = .ok (.invokestatic 379, 3) := by decide +kernel
theorem dX12_octet_11 : decode cX12_octet 11 = .ok (.ifCond .eq 12, 3) := by decide +kernel
theorem dX12_octet_14 : decode cX12_octet 14 = .ok (.aload_n 0, 1) := by decide +kernel
theorem dX12_octet_15 : decode cX12_octet 15 = .ok (.getfield 270, 3) := by decide +kernel
theorem dX12_octet_18 : decode cX12_octet 18 = .ok (.iload_n 1, 1) := by decide +kernel
theorem dX12_octet_19 : decode cX12_octet 19 = .ok (.iaload, 1) := by decide +kernel
theorem dX12_octet_20 : decode cX12_octet 20 = .ok (.goto 4, 3) := by decide +kernel
theorem dX12_octet_23 : decode cX12_octet 23 = .ok (.iconst (-1), 1) := by decide +kernel
theorem dX12_octet_24 : decode cX12_octet 24 = .ok (.ireturn, 1) := by decide +kernel
theorem dX12_twoBytes_0 : decode cX12_twoBytes 0 = .ok (.aload_n 0, 1) := by decide +kernel
theorem dX12_twoBytes_1 : decode cX12_twoBytes 1 = .ok (.getfield 7, 3) := by decide +kernel
theorem dX12_twoBytes_4 : decode cX12_twoBytes 4 = .ok (.iload_n 1, 1) := by decide +kernel
theorem dX12_twoBytes_5 : decode cX12_twoBytes 5 = .ok (.iaload, 1) := by decide +kernel
theorem dX12_twoBytes_6 : decode cX12_twoBytes 6 = .ok (.bipush 8, 2) := by decide +kernel
theorem dX12_twoBytes_8 : decode cX12_twoBytes 8 = .ok (.ishl, 1) := by decide +kernel
theorem dX12_twoBytes_9 : decode cX12_twoBytes 9 = .ok (.aload_n 0, 1) := by decide +kernel
theorem dX12_twoBytes_10 : decode cX12_twoBytes 10 = .ok (.getfield 7, 3) := by decide +kernel
theorem dX12_twoBytes_13 : decode cX12_twoBytes 13 = .ok (.iload_n 1, 1) := by decide +kernel
theorem dX12_twoBytes_14 : decode cX12_twoBytes 14 = .ok (.iconst 1, 1) := by decide +kernel
theorem dX12_twoBytes_15 : decode cX12_twoBytes 15 = .ok (.iadd, 1) := by decide +kernel
theorem dX12_twoBytes_16 : decode cX12_twoBytes 16 = .ok (.iaload, 1) := by decide +kernel
theorem dX12_twoBytes_17 : decode cX12_twoBytes 17 = .ok (.ior, 1) := by decide +kernel
theorem dX12_twoBytes_18 : decode cX12_twoBytes 18 = .ok (.ireturn, 1) := by decide +kernel
theorem dX12_toolOn_0 : decode cX12_toolOn 0 = .ok (.aload_n 0, 1) := by decide +kernel
theorem dX12_toolOn_1 : decode cX12_toolOn 1 = .ok (.getfield 183, 3) := by decide +kernel
theorem dX12_toolOn_4 : decode cX12_toolOn 4 = .ok (.bipush 8, 2) := by decide +kernel
theorem dX12_toolOn_6 : decode cX12_toolOn 6 = .ok (.iload_n 1, 1) := by decide +kernel
theorem dX12_toolOn_7 : decode cX12_toolOn 7 = .ok (.iadd, 1) := by decide +kernel
theorem dX12_toolOn_8 : decode cX12_toolOn 8 = .ok (.aload_n 0, 1) := by decide +kernel
theorem dX12_toolOn_9 : decode cX12_toolOn 9 = .ok (.getfield 7, 3) := by decide +kernel
theorem dX12_toolOn_12 : decode cX12_toolOn 12 = .ok (.iload_n 2, 1) := by decide +kernel
theorem dX12_toolOn_13 : decode cX12_toolOn 13 = .ok (.iaload, 1) := by decide +kernel
theorem dX12_toolOn_14 : decode cX12_toolOn 14 = .ok (.iastore, 1) := by decide +kernel
theorem dX12_toolOn_15 : decode cX12_toolOn 15 = .ok (.aload_n 0, 1) := by decide +kernel
theorem dX12_toolOn_16 : decode cX12_toolOn 16 = .ok (.getfield 186, 3) := by decide +kernel
theorem dX12_toolOn_19 : decode cX12_toolOn 19 = .ok (.iconst 1, 1) := by decide +kernel
theorem dX12_toolOn_20 : decode cX12_toolOn 20 = .ok (.dup2, 1) := by decide +kernel
theorem dX12_toolOn_21 : decode cX12_toolOn 21 = .ok (.iaload, 1) := by decide +kernel
theorem dX12_toolOn_22 : decode cX12_toolOn 22 = .ok (.aload_n 0, 1) := by decide +kernel
theorem dX12_toolOn_23 : decode cX12_toolOn 23 = .ok (.getfield 7, 3) := by decide +kernel
theorem dX12_toolOn_26 : decode cX12_toolOn 26 = .ok (.iload_n 2, 1) := by decide +kernel
theorem dX12_toolOn_27 : decode cX12_toolOn 27 = .ok (.iconst 1, 1) := by decide +kernel
theorem dX12_toolOn_28 : decode cX12_toolOn 28 = .ok (.iadd, 1) := by decide +kernel
theorem dX12_toolOn_29 : decode cX12_toolOn 29 = .ok (.iaload, 1) := by decide +kernel
theorem dX12_toolOn_30 : decode cX12_toolOn 30 = .ok (.iconst 1, 1) := by decide +kernel
theorem dX12_toolOn_31 : decode cX12_toolOn 31 = .ok (.if_icmp .ne 9, 3) := by decide +kernel
theorem dX12_toolOn_34 : decode cX12_toolOn 34 = .ok (.iconst 1, 1) := by decide +kernel
theorem dX12_toolOn_35 : decode cX12_toolOn 35 = .ok (.iload_n 1, 1) := by decide +kernel
theorem dX12_toolOn_36 : decode cX12_toolOn 36 = .ok (.ishl, 1) := by decide +kernel
theorem dX12_toolOn_37 : decode cX12_toolOn 37 = .ok (.goto 4, 3) := by decide +kernel
theorem dX12_toolOn_40 : decode cX12_toolOn 40 = .ok (.iconst 0, 1) := by decide +kernel
theorem dX12_toolOn_41 : decode cX12_toolOn 41 = .ok (.ior, 1) := by decide +kernel
theorem dX12_toolOn_42 : decode cX12_toolOn 42 = .ok (.iastore, 1) := by decide +kernel
theorem dX12_toolOn_43 : decode cX12_toolOn 43 = .ok (.aload_n 0, 1) := by decide +kernel
theorem dX12_toolOn_44 : decode cX12_toolOn 44 = .ok (.getfield 189, 3) := by decide +kernel
theorem dX12_toolOn_47 : decode cX12_toolOn 47 = .ok (.iconst 1, 1) := by decide +kernel
theorem dX12_toolOn_48 : decode cX12_toolOn 48 = .ok (.dup2, 1) := by decide +kernel
theorem dX12_toolOn_49 : decode cX12_toolOn 49 = .ok (.iaload, 1) := by decide +kernel
theorem dX12_toolOn_50 : decode cX12_toolOn 50 = .ok (.aload_n 0, 1) := by decide +kernel
theorem dX12_toolOn_51 : decode cX12_toolOn 51 = .ok (.getfield 7, 3) := by decide +kernel
theorem dX12_toolOn_54 : decode cX12_toolOn 54 = .ok (.iload_n 2, 1) := by decide +kernel
theorem dX12_toolOn_55 : decode cX12_toolOn 55 = .ok (.iconst 2, 1) := by decide +kernel
theorem dX12_toolOn_56 : decode cX12_toolOn 56 = .ok (.iadd, 1) := by decide +kernel
theorem dX12_toolOn_57 : decode cX12_toolOn 57 = .ok (.iaload, 1) := by decide +kernel
theorem dX12_toolOn_58 : decode cX12_toolOn 58 = .ok (.iconst 1, 1) := by decide +kernel
theorem dX12_toolOn_59 : decode cX12_toolOn 59 = .ok (.if_icmp .ne 9, 3) := by decide +kernel
theorem dX12_toolOn_62 : decode cX12_toolOn 62 = .ok (.iconst 1, 1) := by decide +kernel
theorem dX12_toolOn_63 : decode cX12_toolOn 63 = .ok (.iload_n 1, 1) := by decide +kernel
theorem dX12_toolOn_64 : decode cX12_toolOn 64 = .ok (.ishl, 1) := by decide +kernel
theorem dX12_toolOn_65 : decode cX12_toolOn 65 = .ok (.goto 4, 3) := by decide +kernel
theorem dX12_toolOn_68 : decode cX12_toolOn 68 = .ok (.iconst 0, 1) := by decide +kernel
theorem dX12_toolOn_69 : decode cX12_toolOn 69 = .ok (.ior, 1) := by decide +kernel
theorem dX12_toolOn_70 : decode cX12_toolOn 70 = .ok (.iastore, 1) := by decide +kernel
theorem dX12_toolOn_71 : decode cX12_toolOn 71 = .ok (.aload_n 0, 1) := by decide +kernel
theorem dX12_toolOn_72 : decode cX12_toolOn 72 = .ok (.getfield 7, 3) := by decide +kernel
theorem dX12_toolOn_75 : decode cX12_toolOn 75 = .ok (.iload_n 2, 1) := by decide +kernel
theorem dX12_toolOn_76 : decode cX12_toolOn 76 = .ok (.iaload, 1) := by decide +kernel
theorem dX12_toolOn_77 : decode cX12_toolOn 77 = .ok (.bipush 100, 2) := by decide +kernel
theorem dX12_toolOn_79 : decode cX12_toolOn 79 = .ok (.if_icmp .gt 31, 3) := by decide +kernel
theorem dX12_toolOn_82 : decode cX12_toolOn 82 = .ok (.aload_n 0, 1) := by decide +kernel
theorem dX12_toolOn_83 : decode cX12_toolOn 83 = .ok (.getfield 7, 3) := by decide +kernel
theorem dX12_toolOn_86 : decode cX12_toolOn 86 = .ok (.iload_n 2, 1) := by decide +kernel
theorem dX12_toolOn_87 : decode cX12_toolOn 87 = .ok (.iconst 1, 1) := by decide +kernel
theorem dX12_toolOn_88 : decode cX12_toolOn 88 = .ok (.iadd, 1) := by decide +kernel
theorem dX12_toolOn_89 : decode cX12_toolOn 89 = .ok (.iaload, 1) := by decide +kernel
theorem dX12_toolOn_90 : decode cX12_toolOn 90 = .ok (.iconst 2, 1) := by decide +kernel
theorem dX12_toolOn_91 : decode cX12_toolOn 91 = .ok (.if_icmp .ge 19, 3) := by decide +kernel
theorem dX12_toolOn_94 : decode cX12_toolOn 94 = .ok (.aload_n 0, 1) := by decide +kernel
theorem dX12_toolOn_95 : decode cX12_toolOn 95 = .ok (.getfield 7, 3) := by decide +kernel
theorem dX12_toolOn_98 : decode cX12_toolOn 98 = .ok (.iload_n 2, 1) := by decide +kernel
theorem dX12_toolOn_99 : decode cX12_toolOn 99 = .ok (.iconst 2, 1) := by decide +kernel
theorem dX12_toolOn_100 : decode cX12_toolOn 100 = .ok (.iadd, 1) := by decide +kernel
theorem dX12_toolOn_101 : decode cX12_toolOn 101 = .ok (.iaload, 1) := by decide +kernel
theorem dX12_toolOn_102 : decode cX12_toolOn 102 = .ok (.iconst 2, 1) := by decide +kernel
theorem dX12_toolOn_103 : decode cX12_toolOn 103 = .ok (.if_icmp .ge 7, 3) := by decide +kernel
theorem dX12_toolOn_106 : decode cX12_toolOn 106 = .ok (.iconst 1, 1) := by decide +kernel
theorem dX12_toolOn_107 : decode cX12_toolOn 107 = .ok (.goto 4, 3) := by decide +kernel
theorem dX12_toolOn_110 : decode cX12_toolOn 110 = .ok (.iconst 0, 1) := by decide +kernel
theorem dX12_toolOn_111 : decode cX12_toolOn 111 = .ok (.ireturn, 1) := by decide +kernel
theorem dX12_handOn_0 : decode cX12_handOn 0 = .ok (.iconst 1, 1) := by decide +kernel
theorem dX12_handOn_1 : decode cX12_handOn 1 = .ok (.istore_n 3, 1) := by decide +kernel
theorem dX12_handOn_2 : decode cX12_handOn 2 = .ok (.iconst 0, 1) := by decide +kernel
theorem dX12_handOn_3 : decode cX12_handOn 3 = .ok (.istore 4, 2) := by decide +kernel
theorem dX12_handOn_5 : decode cX12_handOn 5 = .ok (.iload 4, 2) := by decide +kernel
theorem dX12_handOn_7 : decode cX12_handOn 7 = .ok (.aload_n 0, 1) := by decide +kernel
theorem dX12_handOn_8 : decode cX12_handOn 8 = .ok (.getfield 63, 3) := by decide +kernel
theorem dX12_handOn_11 : decode cX12_handOn 11 = .ok (.aload_n 0, 1) := by decide +kernel
theorem dX12_handOn_12 : decode cX12_handOn 12 = .ok (.getfield 51, 3) := by decide +kernel
theorem dX12_handOn_15 : decode cX12_handOn 15 = .ok (.iaload, 1) := by decide +kernel
theorem dX12_handOn_16 : decode cX12_handOn 16 = .ok (.if_icmp .ge 57, 3) := by decide +kernel
theorem dX12_handOn_19 : decode cX12_handOn 19 = .ok (.aload_n 0, 1) := by decide +kernel
theorem dX12_handOn_20 : decode cX12_handOn 20 = .ok (.getfield 192, 3) := by decide +kernel
theorem dX12_handOn_23 : decode cX12_handOn 23 = .ok (.bipush 48, 2) := by decide +kernel
theorem dX12_handOn_25 : decode cX12_handOn 25 = .ok (.bipush 8, 2) := by decide +kernel
theorem dX12_handOn_27 : decode cX12_handOn 27 = .ok (.iload_n 1, 1) := by decide +kernel
theorem dX12_handOn_28 : decode cX12_handOn 28 = .ok (.imul, 1) := by decide +kernel
theorem dX12_handOn_29 : decode cX12_handOn 29 = .ok (.iadd, 1) := by decide +kernel
theorem dX12_handOn_30 : decode cX12_handOn 30 = .ok (.iload 4, 2) := by decide +kernel
theorem dX12_handOn_32 : decode cX12_handOn 32 = .ok (.iadd, 1) := by decide +kernel
theorem dX12_handOn_33 : decode cX12_handOn 33 = .ok (.aload_n 0, 1) := by decide +kernel
theorem dX12_handOn_34 : decode cX12_handOn 34 = .ok (.getfield 7, 3) := by decide +kernel
theorem dX12_handOn_37 : decode cX12_handOn 37 = .ok (.iload_n 2, 1) := by decide +kernel
theorem dX12_handOn_38 : decode cX12_handOn 38 = .ok (.iload 4, 2) := by decide +kernel
theorem dX12_handOn_40 : decode cX12_handOn 40 = .ok (.iadd, 1) := by decide +kernel
theorem dX12_handOn_41 : decode cX12_handOn 41 = .ok (.iaload, 1) := by decide +kernel
theorem dX12_handOn_42 : decode cX12_handOn 42 = .ok (.iastore, 1) := by decide +kernel
theorem dX12_handOn_43 : decode cX12_handOn 43 = .ok (.iload_n 3, 1) := by decide +kernel
theorem dX12_handOn_44 : decode cX12_handOn 44 = .ok (.ifCond .eq 21, 3) := by decide +kernel
theorem dX12_handOn_47 : decode cX12_handOn 47 = .ok (.aload_n 0, 1) := by decide +kernel
theorem dX12_handOn_48 : decode cX12_handOn 48 = .ok (.getfield 7, 3) := by decide +kernel
theorem dX12_handOn_51 : decode cX12_handOn 51 = .ok (.iload_n 2, 1) := by decide +kernel
theorem dX12_handOn_52 : decode cX12_handOn 52 = .ok (.iload 4, 2) := by decide +kernel
theorem dX12_handOn_54 : decode cX12_handOn 54 = .ok (.iadd, 1) := by decide +kernel
theorem dX12_handOn_55 : decode cX12_handOn 55 = .ok (.iaload, 1) := by decide +kernel
theorem dX12_handOn_56 : decode cX12_handOn 56 = .ok (.bipush 9, 2) := by decide +kernel
theorem dX12_handOn_58 : decode cX12_handOn 58 = .ok (.if_icmp .gt 7, 3) := by decide +kernel
theorem dX12_handOn_61 : decode cX12_handOn 61 = .ok (.iconst 1, 1) := by decide +kernel
theorem dX12_handOn_62 : decode cX12_handOn 62 = .ok (.goto 4, 3) := by decide +kernel
theorem dX12_handOn_65 : decode cX12_handOn 65 = .ok (.iconst 0, 1) := by decide +kernel
theorem dX12_handOn_66 : decode cX12_handOn 66 = .ok (.istore_n 3, 1) := by decide +kernel
theorem dX12_handOn_67 : decode cX12_handOn 67 = .ok (.iinc 4 1, 3) := by decide +kernel
theorem dX12_handOn_70 : decode cX12_handOn 70 = .ok (.goto (-65), 3) := by decide +kernel
theorem dX12_handOn_73 : decode cX12_handOn 73 = .ok (.iload_n 3, 1) := by decide +kernel
theorem dX12_handOn_74 : decode cX12_handOn 74 = .ok (.ireturn, 1) := by decide +kernel
theorem dX12_jobOn_0 : decode cX12_jobOn 0 = .ok (.aload_n 0, 1) := by decide +kernel
theorem dX12_jobOn_1 : decode cX12_jobOn 1 = .ok (.getfield 195, 3) := by decide +kernel
theorem dX12_jobOn_4 : decode cX12_jobOn 4 = .ok (.bipush 6, 2) := by decide +kernel
theorem dX12_jobOn_6 : decode cX12_jobOn 6 = .ok (.iload_n 1, 1) := by decide +kernel
theorem dX12_jobOn_7 : decode cX12_jobOn 7 = .ok (.iadd, 1) := by decide +kernel
theorem dX12_jobOn_8 : decode cX12_jobOn 8 = .ok (.aload_n 0, 1) := by decide +kernel
theorem dX12_jobOn_9 : decode cX12_jobOn 9 = .ok (.getfield 7, 3) := by decide +kernel
theorem dX12_jobOn_12 : decode cX12_jobOn 12 = .ok (.iload_n 2, 1) := by decide +kernel
theorem dX12_jobOn_13 : decode cX12_jobOn 13 = .ok (.iaload, 1) := by decide +kernel
theorem dX12_jobOn_14 : decode cX12_jobOn 14 = .ok (.iastore, 1) := by decide +kernel
theorem dX12_jobOn_15 : decode cX12_jobOn 15 = .ok (.aload_n 0, 1) := by decide +kernel
theorem dX12_jobOn_16 : decode cX12_jobOn 16 = .ok (.getfield 198, 3) := by decide +kernel
theorem dX12_jobOn_19 : decode cX12_jobOn 19 = .ok (.bipush 6, 2) := by decide +kernel
theorem dX12_jobOn_21 : decode cX12_jobOn 21 = .ok (.iload_n 1, 1) := by decide +kernel
theorem dX12_jobOn_22 : decode cX12_jobOn 22 = .ok (.iadd, 1) := by decide +kernel
theorem dX12_jobOn_23 : decode cX12_jobOn 23 = .ok (.aload_n 0, 1) := by decide +kernel
theorem dX12_jobOn_24 : decode cX12_jobOn 24 = .ok (.iload_n 2, 1) := by decide +kernel
theorem dX12_jobOn_25 : decode cX12_jobOn 25 = .ok (.iconst 1, 1) := by decide +kernel
theorem dX12_jobOn_26 : decode cX12_jobOn 26 = .ok (.iadd, 1) := by decide +kernel
theorem dX12_jobOn_27 : decode cX12_jobOn 27 = .ok (.invokevirtual 644, 3) := by decide +kernel
theorem dX12_jobOn_30 : decode cX12_jobOn 30 = .ok (.iastore, 1) := by decide +kernel
theorem dX12_jobOn_31 : decode cX12_jobOn 31 = .ok (.aload_n 0, 1) := by decide +kernel
theorem dX12_jobOn_32 : decode cX12_jobOn 32 = .ok (.getfield 7, 3) := by decide +kernel
theorem dX12_jobOn_35 : decode cX12_jobOn 35 = .ok (.iload_n 2, 1) := by decide +kernel
theorem dX12_jobOn_36 : decode cX12_jobOn 36 = .ok (.iaload, 1) := by decide +kernel
theorem dX12_jobOn_37 : decode cX12_jobOn 37 = .ok (.aload_n 0, 1) := by decide +kernel
theorem dX12_jobOn_38 : decode cX12_jobOn 38 = .ok (.iload_n 1, 1) := by decide +kernel
theorem dX12_jobOn_39 : decode cX12_jobOn 39 = .ok (.invokevirtual 518, 3) := by decide +kernel
theorem dX12_jobOn_42 : decode cX12_jobOn 42 = .ok (.if_icmp .gt 20, 3) := by decide +kernel
theorem dX12_jobOn_45 : decode cX12_jobOn 45 = .ok (.aload_n 0, 1) := by decide +kernel
theorem dX12_jobOn_46 : decode cX12_jobOn 46 = .ok (.iload_n 2, 1) := by decide +kernel
theorem dX12_jobOn_47 : decode cX12_jobOn 47 = .ok (.iconst 1, 1) := by decide +kernel
theorem dX12_jobOn_48 : decode cX12_jobOn 48 = .ok (.iadd, 1) := by decide +kernel
theorem dX12_jobOn_49 : decode cX12_jobOn 49 = .ok (.invokevirtual 644, 3) := by decide +kernel
theorem dX12_jobOn_52 : decode cX12_jobOn 52 = .ok (.sipush 999, 3) := by decide +kernel
theorem dX12_jobOn_55 : decode cX12_jobOn 55 = .ok (.if_icmp .gt 7, 3) := by decide +kernel
theorem dX12_jobOn_58 : decode cX12_jobOn 58 = .ok (.iconst 1, 1) := by decide +kernel
theorem dX12_jobOn_59 : decode cX12_jobOn 59 = .ok (.goto 4, 3) := by decide +kernel
theorem dX12_jobOn_62 : decode cX12_jobOn 62 = .ok (.iconst 0, 1) := by decide +kernel
theorem dX12_jobOn_63 : decode cX12_jobOn 63 = .ok (.ireturn, 1) := by decide +kernel
theorem dX12_comesOn_0 : decode cX12_comesOn 0 = .ok (.aload_n 0, 1) := by decide +kernel
theorem dX12_comesOn_1 : decode cX12_comesOn 1 = .ok (.getfield 63, 3) := by decide +kernel
theorem dX12_comesOn_4 : decode cX12_comesOn 4 = .ok (.aload_n 0, 1) := by decide +kernel
theorem dX12_comesOn_5 : decode cX12_comesOn 5 = .ok (.getfield 51, 3) := by decide +kernel
theorem dX12_comesOn_8 : decode cX12_comesOn 8 = .ok (.iaload, 1) := by decide +kernel
theorem dX12_comesOn_9 : decode cX12_comesOn 9 = .ok (.istore_n 2, 1) := by decide +kernel
theorem dX12_comesOn_10 : decode cX12_comesOn 10 = .ok (.iconst 4, 1) := by decide +kernel
theorem dX12_comesOn_11 : decode cX12_comesOn 11 = .ok (.iconst 3, 1) := by decide +kernel
theorem dX12_comesOn_12 : decode cX12_comesOn 12 = .ok (.iload_n 2, 1) := by decide +kernel
theorem dX12_comesOn_13 : decode cX12_comesOn 13 = .ok (.imul, 1) := by decide +kernel
theorem dX12_comesOn_14 : decode cX12_comesOn 14 = .ok (.iadd, 1) := by decide +kernel
theorem dX12_comesOn_15 : decode cX12_comesOn 15 = .ok (.iload_n 2, 1) := by decide +kernel
theorem dX12_comesOn_16 : decode cX12_comesOn 16 = .ok (.aload_n 0, 1) := by decide +kernel
theorem dX12_comesOn_17 : decode cX12_comesOn 17 = .ok (.getfield 72, 3) := by decide +kernel
theorem dX12_comesOn_20 : decode cX12_comesOn 20 = .ok (.aload_n 0, 1) := by decide +kernel
theorem dX12_comesOn_21 : decode cX12_comesOn 21 = .ok (.getfield 51, 3) := by decide +kernel
theorem dX12_comesOn_24 : decode cX12_comesOn 24 = .ok (.iaload, 1) := by decide +kernel
theorem dX12_comesOn_25 : decode cX12_comesOn 25 = .ok (.imul, 1) := by decide +kernel
theorem dX12_comesOn_26 : decode cX12_comesOn 26 = .ok (.iadd, 1) := by decide +kernel
theorem dX12_comesOn_27 : decode cX12_comesOn 27 = .ok (.istore_n 3, 1) := by decide +kernel
theorem dX12_comesOn_28 : decode cX12_comesOn 28 = .ok (.iload_n 1, 1) := by decide +kernel
theorem dX12_comesOn_29 : decode cX12_comesOn 29 = .ok (.iload_n 3, 1) := by decide +kernel
theorem dX12_comesOn_30 : decode cX12_comesOn 30 = .ok (.iconst 3, 1) := by decide +kernel
theorem dX12_comesOn_31 : decode cX12_comesOn 31 = .ok (.aload_n 0, 1) := by decide +kernel
theorem dX12_comesOn_32 : decode cX12_comesOn 32 = .ok (.getfield 78, 3) := by decide +kernel
theorem dX12_comesOn_35 : decode cX12_comesOn 35 = .ok (.aload_n 0, 1) := by decide +kernel
theorem dX12_comesOn_36 : decode cX12_comesOn 36 = .ok (.getfield 51, 3) := by decide +kernel
theorem dX12_comesOn_39 : decode cX12_comesOn 39 = .ok (.iaload, 1) := by decide +kernel
theorem dX12_comesOn_40 : decode cX12_comesOn 40 = .ok (.imul, 1) := by decide +kernel
theorem dX12_comesOn_41 : decode cX12_comesOn 41 = .ok (.iadd, 1) := by decide +kernel
theorem dX12_comesOn_42 : decode cX12_comesOn 42 = .ok (.iconst 1, 1) := by decide +kernel
theorem dX12_comesOn_43 : decode cX12_comesOn 43 = .ok (.iadd, 1) := by decide +kernel
theorem dX12_comesOn_44 : decode cX12_comesOn 44 = .ok (.if_icmp .ne 25, 3) := by decide +kernel
theorem dX12_comesOn_47 : decode cX12_comesOn 47 = .ok (.aload_n 0, 1) := by decide +kernel
theorem dX12_comesOn_48 : decode cX12_comesOn 48 = .ok (.iconst 0, 1) := by decide +kernel
theorem dX12_comesOn_49 : decode cX12_comesOn 49 = .ok (.invokevirtual 644, 3) := by decide +kernel
theorem dX12_comesOn_52 : decode cX12_comesOn 52 = .ok (.sipush 999, 3) := by decide +kernel
theorem dX12_comesOn_55 : decode cX12_comesOn 55 = .ok (.if_icmp .gt 14, 3) := by decide +kernel
theorem dX12_comesOn_58 : decode cX12_comesOn 58 = .ok (.aload_n 0, 1) := by decide +kernel
theorem dX12_comesOn_59 : decode cX12_comesOn 59 = .ok (.iconst 2, 1) := by decide +kernel
theorem dX12_comesOn_60 : decode cX12_comesOn 60 = .ok (.invokevirtual 644, 3) := by decide +kernel
theorem dX12_comesOn_63 : decode cX12_comesOn 63 = .ok (.sipush 9999, 3) := by decide +kernel
theorem dX12_comesOn_66 : decode cX12_comesOn 66 = .ok (.if_icmp .le 5, 3) := by decide +kernel
theorem dX12_comesOn_69 : decode cX12_comesOn 69 = .ok (.iconst 0, 1) := by decide +kernel
theorem dX12_comesOn_70 : decode cX12_comesOn 70 = .ok (.ireturn, 1) := by decide +kernel
theorem dX12_comesOn_71 : decode cX12_comesOn 71 = .ok (.sipush 157, 3) := by decide +kernel
theorem dX12_comesOn_74 : decode cX12_comesOn 74 = .ok (.istore 4, 2) := by decide +kernel
theorem dX12_comesOn_76 : decode cX12_comesOn 76 = .ok (.iconst 0, 1) := by decide +kernel
theorem dX12_comesOn_77 : decode cX12_comesOn 77 = .ok (.istore 5, 2) := by decide +kernel
theorem dX12_comesOn_79 : decode cX12_comesOn 79 = .ok (.iload 5, 2) := by decide +kernel
theorem dX12_comesOn_81 : decode cX12_comesOn 81 = .ok (.iload_n 1, 1) := by decide +kernel
theorem dX12_comesOn_82 : decode cX12_comesOn 82 = .ok (.iconst 1, 1) := by decide +kernel
theorem dX12_comesOn_83 : decode cX12_comesOn 83 = .ok (.isub, 1) := by decide +kernel
theorem dX12_comesOn_84 : decode cX12_comesOn 84 = .ok (.if_icmp .ge 27, 3) := by decide +kernel
theorem dX12_comesOn_87 : decode cX12_comesOn 87 = .ok (.iconst 5, 1) := by decide +kernel
theorem dX12_comesOn_88 : decode cX12_comesOn 88 = .ok (.iload 4, 2) := by decide +kernel
theorem dX12_comesOn_90 : decode cX12_comesOn 90 = .ok (.imul, 1) := by decide +kernel
theorem dX12_comesOn_91 : decode cX12_comesOn 91 = .ok (.aload_n 0, 1) := by decide +kernel
theorem dX12_comesOn_92 : decode cX12_comesOn 92 = .ok (.getfield 7, 3) := by decide +kernel
theorem dX12_comesOn_95 : decode cX12_comesOn 95 = .ok (.iload 5, 2) := by decide +kernel
theorem dX12_comesOn_97 : decode cX12_comesOn 97 = .ok (.iaload, 1) := by decide +kernel
theorem dX12_comesOn_98 : decode cX12_comesOn 98 = .ok (.iadd, 1) := by decide +kernel
theorem dX12_comesOn_99 : decode cX12_comesOn 99 = .ok (.sipush 251, 3) := by decide +kernel
theorem dX12_comesOn_102 : decode cX12_comesOn 102 = .ok (.irem, 1) := by decide +kernel
theorem dX12_comesOn_103 : decode cX12_comesOn 103 = .ok (.istore 4, 2) := by decide +kernel
theorem dX12_comesOn_105 : decode cX12_comesOn 105 = .ok (.iinc 5 1, 3) := by decide +kernel
theorem dX12_comesOn_108 : decode cX12_comesOn 108 = .ok (.goto (-29), 3) := by decide +kernel
theorem dX12_comesOn_111 : decode cX12_comesOn 111 = .ok (.aload_n 0, 1) := by decide +kernel
theorem dX12_comesOn_112 : decode cX12_comesOn 112 = .ok (.getfield 7, 3) := by decide +kernel
theorem dX12_comesOn_115 : decode cX12_comesOn 115 = .ok (.iload_n 1, 1) := by decide +kernel
theorem dX12_comesOn_116 : decode cX12_comesOn 116 = .ok (.iconst 1, 1) := by decide +kernel
theorem dX12_comesOn_117 : decode cX12_comesOn 117 = .ok (.isub, 1) := by decide +kernel
theorem dX12_comesOn_118 : decode cX12_comesOn 118 = .ok (.iaload, 1) := by decide +kernel
theorem dX12_comesOn_119 : decode cX12_comesOn 119 = .ok (.iload 4, 2) := by decide +kernel
theorem dX12_comesOn_121 : decode cX12_comesOn 121 = .ok (.if_icmp .eq 5, 3) := by decide +kernel
theorem dX12_comesOn_124 : decode cX12_comesOn 124 = .ok (.iconst 0, 1) := by decide +kernel
theorem dX12_comesOn_125 : decode cX12_comesOn 125 = .ok (.ireturn, 1) := by decide +kernel
theorem dX12_comesOn_126 : decode cX12_comesOn 126 = .ok (.aload_n 0, 1) := by decide +kernel
theorem dX12_comesOn_127 : decode cX12_comesOn 127 = .ok (.iconst 1, 1) := by decide +kernel
theorem dX12_comesOn_128 : decode cX12_comesOn 128 = .ok (.iconst 0, 1) := by decide +kernel
theorem dX12_comesOn_129 : decode cX12_comesOn 129 = .ok (.invokevirtual 493, 3) := by decide +kernel
theorem dX12_comesOn_132 : decode cX12_comesOn 132 = .ok (.aload_n 0, 1) := by decide +kernel
theorem dX12_comesOn_133 : decode cX12_comesOn 133 = .ok (.getfield 177, 3) := by decide +kernel
theorem dX12_comesOn_136 : decode cX12_comesOn 136 = .ok (.iconst 1, 1) := by decide +kernel
theorem dX12_comesOn_137 : decode cX12_comesOn 137 = .ok (.aload_n 0, 1) := by decide +kernel
theorem dX12_comesOn_138 : decode cX12_comesOn 138 = .ok (.iconst 0, 1) := by decide +kernel
theorem dX12_comesOn_139 : decode cX12_comesOn 139 = .ok (.invokevirtual 644, 3) := by decide +kernel
theorem dX12_comesOn_142 : decode cX12_comesOn 142 = .ok (.iastore, 1) := by decide +kernel
theorem dX12_comesOn_143 : decode cX12_comesOn 143 = .ok (.aload_n 0, 1) := by decide +kernel
theorem dX12_comesOn_144 : decode cX12_comesOn 144 = .ok (.getfield 180, 3) := by decide +kernel
theorem dX12_comesOn_147 : decode cX12_comesOn 147 = .ok (.iconst 1, 1) := by decide +kernel
theorem dX12_comesOn_148 : decode cX12_comesOn 148 = .ok (.aload_n 0, 1) := by decide +kernel
theorem dX12_comesOn_149 : decode cX12_comesOn 149 = .ok (.iconst 2, 1) := by decide +kernel
theorem dX12_comesOn_150 : decode cX12_comesOn 150 = .ok (.invokevirtual 644, 3) := by decide +kernel
theorem dX12_comesOn_153 : decode cX12_comesOn 153 = .ok (.iastore, 1) := by decide +kernel
theorem dX12_comesOn_154 : decode cX12_comesOn 154 = .ok (.aload_n 0, 1) := by decide +kernel
theorem dX12_comesOn_155 : decode cX12_comesOn 155 = .ok (.getfield 186, 3) := by decide +kernel
theorem dX12_comesOn_158 : decode cX12_comesOn 158 = .ok (.iconst 1, 1) := by decide +kernel
theorem dX12_comesOn_159 : decode cX12_comesOn 159 = .ok (.iconst 0, 1) := by decide +kernel
theorem dX12_comesOn_160 : decode cX12_comesOn 160 = .ok (.iastore, 1) := by decide +kernel
theorem dX12_comesOn_161 : decode cX12_comesOn 161 = .ok (.aload_n 0, 1) := by decide +kernel
theorem dX12_comesOn_162 : decode cX12_comesOn 162 = .ok (.getfield 189, 3) := by decide +kernel
theorem dX12_comesOn_165 : decode cX12_comesOn 165 = .ok (.iconst 1, 1) := by decide +kernel
theorem dX12_comesOn_166 : decode cX12_comesOn 166 = .ok (.iconst 0, 1) := by decide +kernel
theorem dX12_comesOn_167 : decode cX12_comesOn 167 = .ok (.iastore, 1) := by decide +kernel
theorem dX12_comesOn_168 : decode cX12_comesOn 168 = .ok (.aload_n 0, 1) := by decide +kernel
theorem dX12_comesOn_169 : decode cX12_comesOn 169 = .ok (.getfield 201, 3) := by decide +kernel
theorem dX12_comesOn_172 : decode cX12_comesOn 172 = .ok (.iconst 1, 1) := by decide +kernel
theorem dX12_comesOn_173 : decode cX12_comesOn 173 = .ok (.iconst 0, 1) := by decide +kernel
theorem dX12_comesOn_174 : decode cX12_comesOn 174 = .ok (.iastore, 1) := by decide +kernel
theorem dX12_comesOn_175 : decode cX12_comesOn 175 = .ok (.iconst 0, 1) := by decide +kernel
theorem dX12_comesOn_176 : decode cX12_comesOn 176 = .ok (.istore 5, 2) := by decide +kernel
theorem dX12_comesOn_178 : decode cX12_comesOn 178 = .ok (.iload 5, 2) := by decide +kernel
theorem dX12_comesOn_180 : decode cX12_comesOn 180 = .ok (.iload_n 2, 1) := by decide +kernel
theorem dX12_comesOn_181 : decode cX12_comesOn 181 = .ok (.if_icmp .ge 26, 3) := by decide +kernel
theorem dX12_comesOn_184 : decode cX12_comesOn 184 = .ok (.aload_n 0, 1) := by decide +kernel
theorem dX12_comesOn_185 : decode cX12_comesOn 185 = .ok (.iload 5, 2) := by decide +kernel
theorem dX12_comesOn_187 : decode cX12_comesOn 187 = .ok (.iconst 4, 1) := by decide +kernel
theorem dX12_comesOn_188 : decode cX12_comesOn 188 = .ok (.iconst 3, 1) := by decide +kernel
theorem dX12_comesOn_189 : decode cX12_comesOn 189 = .ok (.iload 5, 2) := by decide +kernel
theorem dX12_comesOn_191 : decode cX12_comesOn 191 = .ok (.imul, 1) := by decide +kernel
theorem dX12_comesOn_192 : decode cX12_comesOn 192 = .ok (.iadd, 1) := by decide +kernel
theorem dX12_comesOn_193 : decode cX12_comesOn 193 = .ok (.invokevirtual 647, 3) := by decide +kernel
theorem dX12_comesOn_196 : decode cX12_comesOn 196 = .ok (.ifCond .ne 5, 3) := by decide +kernel
theorem dX12_comesOn_199 : decode cX12_comesOn 199 = .ok (.iconst 0, 1) := by decide +kernel
theorem dX12_comesOn_200 : decode cX12_comesOn 200 = .ok (.ireturn, 1) := by decide +kernel
theorem dX12_comesOn_201 : decode cX12_comesOn 201 = .ok (.iinc 5 1, 3) := by decide +kernel
theorem dX12_comesOn_204 : decode cX12_comesOn 204 = .ok (.goto (-26), 3) := by decide +kernel
theorem dX12_comesOn_207 : decode cX12_comesOn 207 = .ok (.iconst 0, 1) := by decide +kernel
theorem dX12_comesOn_208 : decode cX12_comesOn 208 = .ok (.istore 5, 2) := by decide +kernel
theorem dX12_comesOn_210 : decode cX12_comesOn 210 = .ok (.iload 5, 2) := by decide +kernel
theorem dX12_comesOn_212 : decode cX12_comesOn 212 = .ok (.aload_n 0, 1) := by decide +kernel
theorem dX12_comesOn_213 : decode cX12_comesOn 213 = .ok (.getfield 72, 3) := by decide +kernel
theorem dX12_comesOn_216 : decode cX12_comesOn 216 = .ok (.aload_n 0, 1) := by decide +kernel
theorem dX12_comesOn_217 : decode cX12_comesOn 217 = .ok (.getfield 51, 3) := by decide +kernel
theorem dX12_comesOn_220 : decode cX12_comesOn 220 = .ok (.iaload, 1) := by decide +kernel
theorem dX12_comesOn_221 : decode cX12_comesOn 221 = .ok (.if_icmp .ge 30, 3) := by decide +kernel
theorem dX12_comesOn_224 : decode cX12_comesOn 224 = .ok (.aload_n 0, 1) := by decide +kernel
theorem dX12_comesOn_225 : decode cX12_comesOn 225 = .ok (.iload 5, 2) := by decide +kernel
theorem dX12_comesOn_227 : decode cX12_comesOn 227 = .ok (.iconst 4, 1) := by decide +kernel
theorem dX12_comesOn_228 : decode cX12_comesOn 228 = .ok (.iconst 3, 1) := by decide +kernel
theorem dX12_comesOn_229 : decode cX12_comesOn 229 = .ok (.iload_n 2, 1) := by decide +kernel
theorem dX12_comesOn_230 : decode cX12_comesOn 230 = .ok (.imul, 1) := by decide +kernel
theorem dX12_comesOn_231 : decode cX12_comesOn 231 = .ok (.iadd, 1) := by decide +kernel
theorem dX12_comesOn_232 : decode cX12_comesOn 232 = .ok (.iload_n 2, 1) := by decide +kernel
theorem dX12_comesOn_233 : decode cX12_comesOn 233 = .ok (.iload 5, 2) := by decide +kernel
theorem dX12_comesOn_235 : decode cX12_comesOn 235 = .ok (.imul, 1) := by decide +kernel
theorem dX12_comesOn_236 : decode cX12_comesOn 236 = .ok (.iadd, 1) := by decide +kernel
theorem dX12_comesOn_237 : decode cX12_comesOn 237 = .ok (.invokevirtual 650, 3) := by decide +kernel
theorem dX12_comesOn_240 : decode cX12_comesOn 240 = .ok (.ifCond .ne 5, 3) := by decide +kernel
theorem dX12_comesOn_243 : decode cX12_comesOn 243 = .ok (.iconst 0, 1) := by decide +kernel
theorem dX12_comesOn_244 : decode cX12_comesOn 244 = .ok (.ireturn, 1) := by decide +kernel
theorem dX12_comesOn_245 : decode cX12_comesOn 245 = .ok (.iinc 5 1, 3) := by decide +kernel
theorem dX12_comesOn_248 : decode cX12_comesOn 248 = .ok (.goto (-38), 3) := by decide +kernel
theorem dX12_comesOn_251 : decode cX12_comesOn 251 = .ok (.iconst 0, 1) := by decide +kernel
theorem dX12_comesOn_252 : decode cX12_comesOn 252 = .ok (.istore 5, 2) := by decide +kernel
theorem dX12_comesOn_254 : decode cX12_comesOn 254 = .ok (.iload 5, 2) := by decide +kernel
theorem dX12_comesOn_256 : decode cX12_comesOn 256 = .ok (.aload_n 0, 1) := by decide +kernel
theorem dX12_comesOn_257 : decode cX12_comesOn 257 = .ok (.getfield 78, 3) := by decide +kernel
theorem dX12_comesOn_260 : decode cX12_comesOn 260 = .ok (.aload_n 0, 1) := by decide +kernel
theorem dX12_comesOn_261 : decode cX12_comesOn 261 = .ok (.getfield 51, 3) := by decide +kernel
theorem dX12_comesOn_264 : decode cX12_comesOn 264 = .ok (.iaload, 1) := by decide +kernel
theorem dX12_comesOn_265 : decode cX12_comesOn 265 = .ok (.if_icmp .ge 26, 3) := by decide +kernel
theorem dX12_comesOn_268 : decode cX12_comesOn 268 = .ok (.aload_n 0, 1) := by decide +kernel
theorem dX12_comesOn_269 : decode cX12_comesOn 269 = .ok (.iload 5, 2) := by decide +kernel
theorem dX12_comesOn_271 : decode cX12_comesOn 271 = .ok (.iload_n 3, 1) := by decide +kernel
theorem dX12_comesOn_272 : decode cX12_comesOn 272 = .ok (.iconst 3, 1) := by decide +kernel
theorem dX12_comesOn_273 : decode cX12_comesOn 273 = .ok (.iload 5, 2) := by decide +kernel
theorem dX12_comesOn_275 : decode cX12_comesOn 275 = .ok (.imul, 1) := by decide +kernel
theorem dX12_comesOn_276 : decode cX12_comesOn 276 = .ok (.iadd, 1) := by decide +kernel
theorem dX12_comesOn_277 : decode cX12_comesOn 277 = .ok (.invokevirtual 653, 3) := by decide +kernel
theorem dX12_comesOn_280 : decode cX12_comesOn 280 = .ok (.ifCond .ne 5, 3) := by decide +kernel
theorem dX12_comesOn_283 : decode cX12_comesOn 283 = .ok (.iconst 0, 1) := by decide +kernel
theorem dX12_comesOn_284 : decode cX12_comesOn 284 = .ok (.ireturn, 1) := by decide +kernel
theorem dX12_comesOn_285 : decode cX12_comesOn 285 = .ok (.iinc 5 1, 3) := by decide +kernel
theorem dX12_comesOn_288 : decode cX12_comesOn 288 = .ok (.goto (-34), 3) := by decide +kernel
theorem dX12_comesOn_291 : decode cX12_comesOn 291 = .ok (.iconst 1, 1) := by decide +kernel
theorem dX12_comesOn_292 : decode cX12_comesOn 292 = .ok (.ireturn, 1) := by decide +kernel
theorem dX12_on_0 : decode cX12_on 0 = .ok (.aload_n 0, 1) := by decide +kernel
theorem dX12_on_1 : decode cX12_on 1 = .ok (.getfield 13, 3) := by decide +kernel
theorem dX12_on_4 : decode cX12_on 4 = .ok (.istore_n 1, 1) := by decide +kernel
theorem dX12_on_5 : decode cX12_on 5 = .ok (.aload_n 0, 1) := by decide +kernel
theorem dX12_on_6 : decode cX12_on 6 = .ok (.iconst 0, 1) := by decide +kernel
theorem dX12_on_7 : decode cX12_on 7 = .ok (.putfield 13, 3) := by decide +kernel
theorem dX12_on_10 : decode cX12_on 10 = .ok (.aload_n 0, 1) := by decide +kernel
theorem dX12_on_11 : decode cX12_on 11 = .ok (.iload_n 1, 1) := by decide +kernel
theorem dX12_on_12 : decode cX12_on 12 = .ok (.invokevirtual 656, 3) := by decide +kernel
theorem dX12_on_15 : decode cX12_on 15 = .ok (.ifCond .ne 17, 3) := by decide +kernel
theorem dX12_on_18 : decode cX12_on 18 = .ok (.aload_n 0, 1) := by decide +kernel
theorem dX12_on_19 : decode cX12_on 19 = .ok (.iconst 5, 1) := by decide +kernel
theorem dX12_on_20 : decode cX12_on 20 = .ok (.invokevirtual 280, 3) := by decide +kernel
theorem dX12_on_23 : decode cX12_on 23 = .ok (.ifCond .lt 7, 3) := by decide +kernel
theorem dX12_on_26 : decode cX12_on 26 = .ok (.iconst 1, 1) := by decide +kernel
theorem dX12_on_27 : decode cX12_on 27 = .ok (.goto 4, 3) := by decide +kernel
theorem dX12_on_30 : decode cX12_on 30 = .ok (.iconst 0, 1) := by decide +kernel
theorem dX12_on_31 : decode cX12_on 31 = .ok (.ireturn, 1) := by decide +kernel
theorem dX12_on_32 : decode cX12_on 32 = .ok (.aload_n 0, 1) := by decide +kernel
theorem dX12_on_33 : decode cX12_on 33 = .ok (.iconst 0, 1) := by decide +kernel
theorem dX12_on_34 : decode cX12_on 34 = .ok (.iconst 1, 1) := by decide +kernel
theorem dX12_on_35 : decode cX12_on 35 = .ok (.invokevirtual 493, 3) := by decide +kernel
theorem dX12_on_38 : decode cX12_on 38 = .ok (.aload_n 0, 1) := by decide +kernel
theorem dX12_on_39 : decode cX12_on 39 = .ok (.iconst 0, 1) := by decide +kernel
theorem dX12_on_40 : decode cX12_on 40 = .ok (.putfield 210, 3) := by decide +kernel
theorem dX12_on_43 : decode cX12_on 43 = .ok (.iconst 1, 1) := by decide +kernel
theorem dX12_on_44 : decode cX12_on 44 = .ok (.ireturn, 1) := by decide +kernel
theorem dJ6_bitCount_0f7a4_0 : decode cJ6_bitCount_0f7a4 0 = .ok (.iload_n 0, 1) := by decide +kernel
theorem dJ6_bitCount_0f7a4_1 : decode cJ6_bitCount_0f7a4 1 = .ok (.iload_n 0, 1) := by decide +kernel
theorem dJ6_bitCount_0f7a4_2 : decode cJ6_bitCount_0f7a4 2 = .ok (.iconst 1, 1) := by decide +kernel
theorem dJ6_bitCount_0f7a4_3 : decode cJ6_bitCount_0f7a4 3 = .ok (.iushr, 1) := by decide +kernel
theorem dJ6_bitCount_0f7a4_4 : decode cJ6_bitCount_0f7a4 4 = .ok (.ldc_w 265, 3) := by decide +kernel
theorem dJ6_bitCount_0f7a4_7 : decode cJ6_bitCount_0f7a4 7 = .ok (.iand, 1) := by decide +kernel
theorem dJ6_bitCount_0f7a4_8 : decode cJ6_bitCount_0f7a4 8 = .ok (.isub, 1) := by decide +kernel
theorem dJ6_bitCount_0f7a4_9 : decode cJ6_bitCount_0f7a4 9 = .ok (.istore_n 0, 1) := by decide +kernel
theorem dJ6_bitCount_0f7a4_10 : decode cJ6_bitCount_0f7a4 10 = .ok (.iload_n 0, 1) := by decide +kernel
theorem dJ6_bitCount_0f7a4_11 : decode cJ6_bitCount_0f7a4 11 = .ok (.ldc_w 266, 3) := by decide +kernel
theorem dJ6_bitCount_0f7a4_14 : decode cJ6_bitCount_0f7a4 14 = .ok (.iand, 1) := by decide +kernel
theorem dJ6_bitCount_0f7a4_15 : decode cJ6_bitCount_0f7a4 15 = .ok (.iload_n 0, 1) := by decide +kernel
theorem dJ6_bitCount_0f7a4_16 : decode cJ6_bitCount_0f7a4 16 = .ok (.iconst 2, 1) := by decide +kernel
theorem dJ6_bitCount_0f7a4_17 : decode cJ6_bitCount_0f7a4 17 = .ok (.iushr, 1) := by decide +kernel
theorem dJ6_bitCount_0f7a4_18 : decode cJ6_bitCount_0f7a4 18 = .ok (.ldc_w 266, 3) := by decide +kernel
theorem dJ6_bitCount_0f7a4_21 : decode cJ6_bitCount_0f7a4 21 = .ok (.iand, 1) := by decide +kernel
theorem dJ6_bitCount_0f7a4_22 : decode cJ6_bitCount_0f7a4 22 = .ok (.iadd, 1) := by decide +kernel
theorem dJ6_bitCount_0f7a4_23 : decode cJ6_bitCount_0f7a4 23 = .ok (.istore_n 0, 1) := by decide +kernel
theorem dJ6_bitCount_0f7a4_24 : decode cJ6_bitCount_0f7a4 24 = .ok (.iload_n 0, 1) := by decide +kernel
theorem dJ6_bitCount_0f7a4_25 : decode cJ6_bitCount_0f7a4 25 = .ok (.iload_n 0, 1) := by decide +kernel
theorem dJ6_bitCount_0f7a4_26 : decode cJ6_bitCount_0f7a4 26 = .ok (.iconst 4, 1) := by decide +kernel
theorem dJ6_bitCount_0f7a4_27 : decode cJ6_bitCount_0f7a4 27 = .ok (.iushr, 1) := by decide +kernel
theorem dJ6_bitCount_0f7a4_28 : decode cJ6_bitCount_0f7a4 28 = .ok (.iadd, 1) := by decide +kernel
theorem dJ6_bitCount_0f7a4_29 : decode cJ6_bitCount_0f7a4 29 = .ok (.ldc_w 267, 3) := by decide +kernel
theorem dJ6_bitCount_0f7a4_32 : decode cJ6_bitCount_0f7a4 32 = .ok (.iand, 1) := by decide +kernel
theorem dJ6_bitCount_0f7a4_33 : decode cJ6_bitCount_0f7a4 33 = .ok (.istore_n 0, 1) := by decide +kernel
theorem dJ6_bitCount_0f7a4_34 : decode cJ6_bitCount_0f7a4 34 = .ok (.iload_n 0, 1) := by decide +kernel
theorem dJ6_bitCount_0f7a4_35 : decode cJ6_bitCount_0f7a4 35 = .ok (.iload_n 0, 1) := by decide +kernel
theorem dJ6_bitCount_0f7a4_36 : decode cJ6_bitCount_0f7a4 36 = .ok (.bipush 8, 2) := by decide +kernel
theorem dJ6_bitCount_0f7a4_38 : decode cJ6_bitCount_0f7a4 38 = .ok (.iushr, 1) := by decide +kernel
theorem dJ6_bitCount_0f7a4_39 : decode cJ6_bitCount_0f7a4 39 = .ok (.iadd, 1) := by decide +kernel
theorem dJ6_bitCount_0f7a4_40 : decode cJ6_bitCount_0f7a4 40 = .ok (.istore_n 0, 1) := by decide +kernel
theorem dJ6_bitCount_0f7a4_41 : decode cJ6_bitCount_0f7a4 41 = .ok (.iload_n 0, 1) := by decide +kernel
theorem dJ6_bitCount_0f7a4_42 : decode cJ6_bitCount_0f7a4 42 = .ok (.iload_n 0, 1) := by decide +kernel
theorem dJ6_bitCount_0f7a4_43 : decode cJ6_bitCount_0f7a4 43 = .ok (.bipush 16, 2) := by decide +kernel
theorem dJ6_bitCount_0f7a4_45 : decode cJ6_bitCount_0f7a4 45 = .ok (.iushr, 1) := by decide +kernel
theorem dJ6_bitCount_0f7a4_46 : decode cJ6_bitCount_0f7a4 46 = .ok (.iadd, 1) := by decide +kernel
theorem dJ6_bitCount_0f7a4_47 : decode cJ6_bitCount_0f7a4 47 = .ok (.istore_n 0, 1) := by decide +kernel
theorem dJ6_bitCount_0f7a4_48 : decode cJ6_bitCount_0f7a4 48 = .ok (.iload_n 0, 1) := by decide +kernel
theorem dJ6_bitCount_0f7a4_49 : decode cJ6_bitCount_0f7a4 49 = .ok (.bipush 63, 2) := by decide +kernel
theorem dJ6_bitCount_0f7a4_51 : decode cJ6_bitCount_0f7a4 51 = .ok (.iand, 1) := by decide +kernel
theorem dJ6_bitCount_0f7a4_52 : decode cJ6_bitCount_0f7a4 52 = .ok (.ireturn, 1) := by decide +kernel
theorem dJ9_floorMod_7cf53_0 : decode cJ9_floorMod_7cf53 0 = .ok (.iload_n 0, 1) := by decide +kernel
theorem dJ9_floorMod_7cf53_1 : decode cJ9_floorMod_7cf53 1 = .ok (.iload_n 1, 1) := by decide +kernel
theorem dJ9_floorMod_7cf53_2 : decode cJ9_floorMod_7cf53 2 = .ok (.irem, 1) := by decide +kernel
theorem dJ9_floorMod_7cf53_3 : decode cJ9_floorMod_7cf53 3 = .ok (.istore_n 2, 1) := by decide +kernel
theorem dJ9_floorMod_7cf53_4 : decode cJ9_floorMod_7cf53 4 = .ok (.iload_n 0, 1) := by decide +kernel
theorem dJ9_floorMod_7cf53_5 : decode cJ9_floorMod_7cf53 5 = .ok (.iload_n 1, 1) := by decide +kernel
theorem dJ9_floorMod_7cf53_6 : decode cJ9_floorMod_7cf53 6 = .ok (.ixor, 1) := by decide +kernel
theorem dJ9_floorMod_7cf53_7 : decode cJ9_floorMod_7cf53 7 = .ok (.ifCond .ge 11, 3) := by decide +kernel
theorem dJ9_floorMod_7cf53_10 : decode cJ9_floorMod_7cf53 10 = .ok (.iload_n 2, 1) := by decide +kernel
theorem dJ9_floorMod_7cf53_11 : decode cJ9_floorMod_7cf53 11 = .ok (.ifCond .eq 7, 3) := by decide +kernel
theorem dJ9_floorMod_7cf53_14 : decode cJ9_floorMod_7cf53 14 = .ok (.iload_n 2, 1) := by decide +kernel
theorem dJ9_floorMod_7cf53_15 : decode cJ9_floorMod_7cf53 15 = .ok (.iload_n 1, 1) := by decide +kernel
theorem dJ9_floorMod_7cf53_16 : decode cJ9_floorMod_7cf53 16 = .ok (.iadd, 1) := by decide +kernel
theorem dJ9_floorMod_7cf53_17 : decode cJ9_floorMod_7cf53 17 = .ok (.ireturn, 1) := by decide +kernel
theorem dJ9_floorMod_7cf53_18 : decode cJ9_floorMod_7cf53 18 = .ok (.iload_n 2, 1) := by decide +kernel
theorem dJ9_floorMod_7cf53_19 : decode cJ9_floorMod_7cf53 19 = .ok (.ireturn, 1) := by decide +kernel
theorem dJ9_max_7cf53_0 : decode cJ9_max_7cf53 0 = .ok (.iload_n 0, 1) := by decide +kernel
theorem dJ9_max_7cf53_1 : decode cJ9_max_7cf53 1 = .ok (.iload_n 1, 1) := by decide +kernel
theorem dJ9_max_7cf53_2 : decode cJ9_max_7cf53 2 = .ok (.if_icmp .lt 7, 3) := by decide +kernel
theorem dJ9_max_7cf53_5 : decode cJ9_max_7cf53 5 = .ok (.iload_n 0, 1) := by decide +kernel
theorem dJ9_max_7cf53_6 : decode cJ9_max_7cf53 6 = .ok (.goto 4, 3) := by decide +kernel
theorem dJ9_max_7cf53_9 : decode cJ9_max_7cf53 9 = .ok (.iload_n 1, 1) := by decide +kernel
theorem dJ9_max_7cf53_10 : decode cJ9_max_7cf53 10 = .ok (.ireturn, 1) := by decide +kernel
theorem dJ9_min_7cf53_0 : decode cJ9_min_7cf53 0 = .ok (.iload_n 0, 1) := by decide +kernel
theorem dJ9_min_7cf53_1 : decode cJ9_min_7cf53 1 = .ok (.iload_n 1, 1) := by decide +kernel
theorem dJ9_min_7cf53_2 : decode cJ9_min_7cf53 2 = .ok (.if_icmp .gt 7, 3) := by decide +kernel
theorem dJ9_min_7cf53_5 : decode cJ9_min_7cf53 5 = .ok (.iload_n 0, 1) := by decide +kernel
theorem dJ9_min_7cf53_6 : decode cJ9_min_7cf53 6 = .ok (.goto 4, 3) := by decide +kernel
theorem dJ9_min_7cf53_9 : decode cJ9_min_7cf53 9 = .ok (.iload_n 1, 1) := by decide +kernel
theorem dJ9_min_7cf53_10 : decode cJ9_min_7cf53 10 = .ok (.ireturn, 1) := by decide +kernel
theorem dJ0_length_8abf5_0 : decode cJ0_length_8abf5 0 = .ok (.aload_n 0, 1) := by decide +kernel
theorem dJ0_length_8abf5_1 : decode cJ0_length_8abf5 1 = .ok (.getfield 9, 3) := by decide +kernel
theorem dJ0_length_8abf5_4 : decode cJ0_length_8abf5 4 = .ok (.arraylength, 1) := by decide +kernel
theorem dJ0_length_8abf5_5 : decode cJ0_length_8abf5 5 = .ok (.aload_n 0, 1) := by decide +kernel
theorem dJ0_length_8abf5_6 : decode cJ0_length_8abf5 6 = .ok (.invokevirtual 335, 3) := by decide +kernel
theorem dJ0_length_8abf5_9 : decode cJ0_length_8abf5 9 = .ok (.ishr, 1) := by decide +kernel
theorem dJ0_length_8abf5_10 : decode cJ0_length_8abf5 10 = .ok (.ireturn, 1) := by decide +kernel
theorem dJ0_charAt_5068e_0 : decode cJ0_charAt_5068e 0 = .ok (.aload_n 0, 1) := by decide +kernel
theorem dJ0_charAt_5068e_1 : decode cJ0_charAt_5068e 1 = .ok (.invokevirtual 492, 3) := by decide +kernel
theorem dJ0_charAt_5068e_4 : decode cJ0_charAt_5068e 4 = .ok (.ifCond .eq 12, 3) := by decide +kernel
theorem dJ0_charAt_5068e_7 : decode cJ0_charAt_5068e 7 = .ok (.aload_n 0, 1) := by decide +kernel
theorem dJ0_charAt_5068e_8 : decode cJ0_charAt_5068e 8 = .ok (.getfield 9, 3) := by decide +kernel
theorem dJ0_charAt_5068e_11 : decode cJ0_charAt_5068e 11 = .ok (.iload_n 1, 1) := by decide +kernel
theorem dJ0_charAt_5068e_12 : decode cJ0_charAt_5068e 12 = .ok (.invokestatic 495, 3) := by decide +kernel
theorem dJ0_charAt_5068e_15 : decode cJ0_charAt_5068e 15 = .ok (.ireturn, 1) := by decide +kernel
theorem dJ0_charAt_5068e_16 : decode cJ0_charAt_5068e 16 = .ok (.aload_n 0, 1) := by decide +kernel
theorem dJ0_charAt_5068e_17 : decode cJ0_charAt_5068e 17 = .ok (.getfield 9, 3) := by decide +kernel
theorem dJ0_charAt_5068e_20 : decode cJ0_charAt_5068e 20 = .ok (.iload_n 1, 1) := by decide +kernel
theorem dJ0_charAt_5068e_21 : decode cJ0_charAt_5068e 21 = .ok (.invokestatic 498, 3) := by decide +kernel
theorem dJ0_charAt_5068e_24 : decode cJ0_charAt_5068e 24 = .ok (.ireturn, 1) := by decide +kernel
theorem dJ0_coder_7d493_0 : decode cJ0_coder_7d493 0 = .ok (.getstatic 38, 3) := by decide +kernel
theorem dJ0_coder_7d493_3 : decode cJ0_coder_7d493 3 = .ok (.ifCond .eq 10, 3) := by decide +kernel
theorem dJ0_coder_7d493_6 : decode cJ0_coder_7d493 6 = .ok (.aload_n 0, 1) := by decide +kernel
theorem dJ0_coder_7d493_7 : decode cJ0_coder_7d493 7 = .ok (.getfield 15, 3) := by decide +kernel
theorem dJ0_coder_7d493_10 : decode cJ0_coder_7d493 10 = .ok (.goto 4, 3) := by decide +kernel
theorem dJ0_coder_7d493_13 : decode cJ0_coder_7d493 13 = .ok (.iconst 1, 1) := by decide +kernel
theorem dJ0_coder_7d493_14 : decode cJ0_coder_7d493 14 = .ok (.ireturn, 1) := by decide +kernel
theorem dJ0_isLatin1_aae02_0 : decode cJ0_isLatin1_aae02 0 = .ok (.getstatic 38, 3) := by decide +kernel
theorem dJ0_isLatin1_aae02_3 : decode cJ0_isLatin1_aae02 3 = .ok (.ifCond .eq 14, 3) := by decide +kernel
theorem dJ0_isLatin1_aae02_6 : decode cJ0_isLatin1_aae02 6 = .ok (.aload_n 0, 1) := by decide +kernel
theorem dJ0_isLatin1_aae02_7 : decode cJ0_isLatin1_aae02 7 = .ok (.getfield 15, 3) := by decide +kernel
theorem dJ0_isLatin1_aae02_10 : decode cJ0_isLatin1_aae02 10 = .ok (.ifCond .ne 7, 3) := by decide +kernel
theorem dJ0_isLatin1_aae02_13 : decode cJ0_isLatin1_aae02 13 = .ok (.iconst 1, 1) := by decide +kernel
theorem dJ0_isLatin1_aae02_14 : decode cJ0_isLatin1_aae02 14 = .ok (.goto 4, 3) := by decide +kernel
theorem dJ0_isLatin1_aae02_17 : decode cJ0_isLatin1_aae02 17 = .ok (.iconst 0, 1) := by decide +kernel
theorem dJ0_isLatin1_aae02_18 : decode cJ0_isLatin1_aae02 18 = .ok (.ireturn, 1) := by decide +kernel
theorem dJ0_checkIndex_df160_0 : decode cJ0_checkIndex_df160 0 = .ok (.iload_n 0, 1) := by decide +kernel
theorem dJ0_checkIndex_df160_1 : decode cJ0_checkIndex_df160 1 = .ok (.iload_n 1, 1) := by decide +kernel
theorem dJ0_checkIndex_df160_2 : decode cJ0_checkIndex_df160 2 = .ok (.getstatic 1053, 3) := by decide +kernel
theorem dJ0_checkIndex_df160_5 : decode cJ0_checkIndex_df160 5 = .ok (.invokestatic 1059, 3) := by decide +kernel
theorem dJ0_checkIndex_df160_8 : decode cJ0_checkIndex_df160 8 = .ok (.pop, 1) := by decide +kernel
theorem dJ0_checkIndex_df160_9 : decode cJ0_checkIndex_df160 9 = .ok (.return_, 1) := by decide +kernel
theorem dJ1_charAt_3b067_0 : decode cJ1_charAt_3b067 0 = .ok (.iload_n 1, 1) := by decide +kernel
theorem dJ1_charAt_3b067_1 : decode cJ1_charAt_3b067 1 = .ok (.aload_n 0, 1) := by decide +kernel
theorem dJ1_charAt_3b067_2 : decode cJ1_charAt_3b067 2 = .ok (.arraylength, 1) := by decide +kernel
theorem dJ1_charAt_3b067_3 : decode cJ1_charAt_3b067 3 = .ok (.invokestatic 9, 3) := by decide +kernel
theorem dJ1_charAt_3b067_6 : decode cJ1_charAt_3b067 6 = .ok (.aload_n 0, 1) := by decide +kernel
theorem dJ1_charAt_3b067_7 : decode cJ1_charAt_3b067 7 = .ok (.iload_n 1, 1) := by decide +kernel
theorem dJ1_charAt_3b067_8 : decode cJ1_charAt_3b067 8 = .ok (.baload, 1) := by decide +kernel
theorem dJ1_charAt_3b067_9 : decode cJ1_charAt_3b067 9 = .ok (.sipush 255, 3) := by decide +kernel
theorem dJ1_charAt_3b067_12 : decode cJ1_charAt_3b067 12 = .ok (.iand, 1) := by decide +kernel
theorem dJ1_charAt_3b067_13 : decode cJ1_charAt_3b067 13 = .ok (.i2c, 1) := by decide +kernel
theorem dJ1_charAt_3b067_14 : decode cJ1_charAt_3b067 14 = .ok (.ireturn, 1) := by decide +kernel
theorem dJ2_getChar_3b067_0 : decode cJ2_getChar_3b067 0 = .ok (.getstatic 44, 3) := by decide +kernel
theorem dJ2_getChar_3b067_3 : decode cJ2_getChar_3b067 3 = .ok (.ifCond .ne 25, 3) := by decide +kernel
theorem dJ2_getChar_3b067_6 : decode cJ2_getChar_3b067 6 = .ok (.iload_n 1, 1) := by decide +kernel
theorem dJ2_getChar_3b067_7 : decode cJ2_getChar_3b067 7 = .ok (.ifCond .lt 11, 3) := by decide +kernel
theorem dJ2_getChar_3b067_10 : decode cJ2_getChar_3b067 10 = .ok (.iload_n 1, 1) := by decide +kernel
theorem dJ2_getChar_3b067_11 : decode cJ2_getChar_3b067 11 = .ok (.aload_n 0, 1) := by decide +kernel
theorem dJ2_getChar_3b067_12 : decode cJ2_getChar_3b067 12 = .ok (.invokestatic 48, 3) := by decide +kernel
theorem dJ2_getChar_3b067_15 : decode cJ2_getChar_3b067 15 = .ok (.if_icmp .lt 13, 3) := by decide +kernel
theorem dJ2_getChar_3b067_18 : decode cJ2_getChar_3b067 18 = .ok (.new 52, 3) := by decide +kernel
theorem dJ2_getChar_3b067_21 : decode cJ2_getChar_3b067 21 = .ok (.dup, 1) := by decide +kernel
theorem dJ2_getChar_3b067_22 : decode cJ2_getChar_3b067 22 = .ok (.ldc 54, 2) := by decide +kernel
theorem dJ2_getChar_3b067_24 : decode cJ2_getChar_3b067 24 = .ok (.invokespecial 56, 3) := by decide +kernel
theorem dJ2_getChar_3b067_27 : decode cJ2_getChar_3b067 27 = .ok (.athrow, 1) := by decide +kernel
theorem dJ2_getChar_3b067_28 : decode cJ2_getChar_3b067 28 = .ok (.iload_n 1, 1) := by decide +kernel
theorem dJ2_getChar_3b067_29 : decode cJ2_getChar_3b067 29 = .ok (.iconst 1, 1) := by decide +kernel
theorem dJ2_getChar_3b067_30 : decode cJ2_getChar_3b067 30 = .ok (.ishl, 1) := by decide +kernel
theorem dJ2_getChar_3b067_31 : decode cJ2_getChar_3b067 31 = .ok (.istore_n 1, 1) := by decide +kernel
theorem dJ2_getChar_3b067_32 : decode cJ2_getChar_3b067 32 = .ok (.aload_n 0, 1) := by decide +kernel
theorem dJ2_getChar_3b067_33 : decode cJ2_getChar_3b067 33 = .ok (.iload_n 1, 1) := by decide +kernel
theorem dJ2_getChar_3b067_34 : decode cJ2_getChar_3b067 34 = .ok (.iinc 1 1, 3) := by decide +kernel
theorem dJ2_getChar_3b067_37 : decode cJ2_getChar_3b067 37 = .ok (.baload, 1) := by decide +kernel
theorem dJ2_getChar_3b067_38 : decode cJ2_getChar_3b067 38 = .ok (.sipush 255, 3) := by decide +kernel
theorem dJ2_getChar_3b067_41 : decode cJ2_getChar_3b067 41 = .ok (.iand, 1) := by decide +kernel
theorem dJ2_getChar_3b067_42 : decode cJ2_getChar_3b067 42 = .ok (.getstatic 59, 3) := by decide +kernel
theorem dJ2_getChar_3b067_45 : decode cJ2_getChar_3b067 45 = .ok (.ishl, 1) := by decide +kernel
theorem dJ2_getChar_3b067_46 : decode cJ2_getChar_3b067 46 = .ok (.aload_n 0, 1) := by decide +kernel
theorem dJ2_getChar_3b067_47 : decode cJ2_getChar_3b067 47 = .ok (.iload_n 1, 1) := by decide +kernel
theorem dJ2_getChar_3b067_48 : decode cJ2_getChar_3b067 48 = .ok (.baload, 1) := by decide +kernel
theorem dJ2_getChar_3b067_49 : decode cJ2_getChar_3b067 49 = .ok (.sipush 255, 3) := by decide +kernel
theorem dJ2_getChar_3b067_52 : decode cJ2_getChar_3b067 52 = .ok (.iand, 1) := by decide +kernel
theorem dJ2_getChar_3b067_53 : decode cJ2_getChar_3b067 53 = .ok (.getstatic 63, 3) := by decide +kernel
theorem dJ2_getChar_3b067_56 : decode cJ2_getChar_3b067 56 = .ok (.ishl, 1) := by decide +kernel
theorem dJ2_getChar_3b067_57 : decode cJ2_getChar_3b067 57 = .ok (.ior, 1) := by decide +kernel
theorem dJ2_getChar_3b067_58 : decode cJ2_getChar_3b067 58 = .ok (.i2c, 1) := by decide +kernel
theorem dJ2_getChar_3b067_59 : decode cJ2_getChar_3b067 59 = .ok (.ireturn, 1) := by decide +kernel
theorem dJ2_length_9d52b_0 : decode cJ2_length_9d52b 0 = .ok (.aload_n 0, 1) := by decide +kernel
theorem dJ2_length_9d52b_1 : decode cJ2_length_9d52b 1 = .ok (.arraylength, 1) := by decide +kernel
theorem dJ2_length_9d52b_2 : decode cJ2_length_9d52b 2 = .ok (.iconst 1, 1) := by decide +kernel
theorem dJ2_length_9d52b_3 : decode cJ2_length_9d52b 3 = .ok (.ishr, 1) := by decide +kernel
theorem dJ2_length_9d52b_4 : decode cJ2_length_9d52b 4 = .ok (.ireturn, 1) := by decide +kernel
theorem dJ2_charAt_3b067_0 : decode cJ2_charAt_3b067 0 = .ok (.iload_n 1, 1) := by decide +kernel
theorem dJ2_charAt_3b067_1 : decode cJ2_charAt_3b067 1 = .ok (.aload_n 0, 1) := by decide +kernel
theorem dJ2_charAt_3b067_2 : decode cJ2_charAt_3b067 2 = .ok (.invokestatic 67, 3) := by decide +kernel
theorem dJ2_charAt_3b067_5 : decode cJ2_charAt_3b067 5 = .ok (.aload_n 0, 1) := by decide +kernel
theorem dJ2_charAt_3b067_6 : decode cJ2_charAt_3b067 6 = .ok (.iload_n 1, 1) := by decide +kernel
theorem dJ2_charAt_3b067_7 : decode cJ2_charAt_3b067 7 = .ok (.invokestatic 71, 3) := by decide +kernel
theorem dJ2_charAt_3b067_10 : decode cJ2_charAt_3b067 10 = .ok (.ireturn, 1) := by decide +kernel
theorem dJ2_checkIndex_2214a_0 : decode cJ2_checkIndex_2214a 0 = .ok (.iload_n 0, 1) := by decide +kernel
theorem dJ2_checkIndex_2214a_1 : decode cJ2_checkIndex_2214a 1 = .ok (.aload_n 1, 1) := by decide +kernel
theorem dJ2_checkIndex_2214a_2 : decode cJ2_checkIndex_2214a 2 = .ok (.invokestatic 48, 3) := by decide +kernel
theorem dJ2_checkIndex_2214a_5 : decode cJ2_checkIndex_2214a 5 = .ok (.invokestatic 414, 3) := by decide +kernel
theorem dJ2_checkIndex_2214a_8 : decode cJ2_checkIndex_2214a 8 = .ok (.return_, 1) := by decide +kernel
theorem dJ7_fill_53178_0 : decode cJ7_fill_53178 0 = .ok (.iconst 0, 1) := by decide +kernel
theorem dJ7_fill_53178_1 : decode cJ7_fill_53178 1 = .ok (.istore_n 2, 1) := by decide +kernel
theorem dJ7_fill_53178_2 : decode cJ7_fill_53178 2 = .ok (.aload_n 0, 1) := by decide +kernel
theorem dJ7_fill_53178_3 : decode cJ7_fill_53178 3 = .ok (.arraylength, 1) := by decide +kernel
theorem dJ7_fill_53178_4 : decode cJ7_fill_53178 4 = .ok (.istore_n 3, 1) := by decide +kernel
theorem dJ7_fill_53178_5 : decode cJ7_fill_53178 5 = .ok (.iload_n 2, 1) := by decide +kernel
theorem dJ7_fill_53178_6 : decode cJ7_fill_53178 6 = .ok (.iload_n 3, 1) := by decide +kernel
theorem dJ7_fill_53178_7 : decode cJ7_fill_53178 7 = .ok (.if_icmp .ge 13, 3) := by decide +kernel
theorem dJ7_fill_53178_10 : decode cJ7_fill_53178 10 = .ok (.aload_n 0, 1) := by decide +kernel
theorem dJ7_fill_53178_11 : decode cJ7_fill_53178 11 = .ok (.iload_n 2, 1) := by decide +kernel
theorem dJ7_fill_53178_12 : decode cJ7_fill_53178 12 = .ok (.iload_n 1, 1) := by decide +kernel
theorem dJ7_fill_53178_13 : decode cJ7_fill_53178 13 = .ok (.iastore, 1) := by decide +kernel
theorem dJ7_fill_53178_14 : decode cJ7_fill_53178 14 = .ok (.iinc 2 1, 3) := by decide +kernel
theorem dJ7_fill_53178_17 : decode cJ7_fill_53178 17 = .ok (.goto (-12), 3) := by decide +kernel
theorem dJ7_fill_53178_20 : decode cJ7_fill_53178 20 = .ok (.return_, 1) := by decide +kernel
theorem dJ3_checkIndex_8e157_0 : decode cJ3_checkIndex_8e157 0 = .ok (.iload_n 0, 1) := by decide +kernel
theorem dJ3_checkIndex_8e157_1 : decode cJ3_checkIndex_8e157 1 = .ok (.ifCond .lt 8, 3) := by decide +kernel
theorem dJ3_checkIndex_8e157_4 : decode cJ3_checkIndex_8e157 4 = .ok (.iload_n 0, 1) := by decide +kernel
theorem dJ3_checkIndex_8e157_5 : decode cJ3_checkIndex_8e157 5 = .ok (.iload_n 1, 1) := by decide +kernel
theorem dJ3_checkIndex_8e157_6 : decode cJ3_checkIndex_8e157 6 = .ok (.if_icmp .lt 10, 3) := by decide +kernel
theorem dJ3_checkIndex_8e157_9 : decode cJ3_checkIndex_8e157 9 = .ok (.aload_n 2, 1) := by decide +kernel
theorem dJ3_checkIndex_8e157_10 : decode cJ3_checkIndex_8e157 10 = .ok (.iload_n 0, 1) := by decide +kernel
theorem dJ3_checkIndex_8e157_11 : decode cJ3_checkIndex_8e157 11 = .ok (.iload_n 1, 1) := by decide +kernel
theorem dJ3_checkIndex_8e157_12 : decode cJ3_checkIndex_8e157 12 = .ok (.invokestatic 95, 3) := by decide +kernel
theorem dJ3_checkIndex_8e157_15 : decode cJ3_checkIndex_8e157 15 = .ok (.athrow, 1) := by decide +kernel
theorem dJ3_checkIndex_8e157_16 : decode cJ3_checkIndex_8e157 16 = .ok (.iload_n 0, 1) := by decide +kernel
theorem dJ3_checkIndex_8e157_17 : decode cJ3_checkIndex_8e157 17 = .ok (.ireturn, 1) := by decide +kernel
theorem dL_law_0 : decode cL_law 0 = .ok (.new 7, 3) := by decide +kernel
theorem dL_law_3 : decode cL_law 3 = .ok (.dup, 1) := by decide +kernel
theorem dL_law_4 : decode cL_law 4 = .ok (.invokespecial 9, 3) := by decide +kernel
theorem dL_law_7 : decode cL_law 7 = .ok (.astore_n 1, 1) := by decide +kernel
theorem dL_law_8 : decode cL_law 8 = .ok (.new 10, 3) := by decide +kernel
theorem dL_law_11 : decode cL_law 11 = .ok (.dup, 1) := by decide +kernel
theorem dL_law_12 : decode cL_law 12 = .ok (.invokespecial 12, 3) := by decide +kernel
theorem dL_law_15 : decode cL_law 15 = .ok (.astore_n 2, 1) := by decide +kernel
theorem dL_law_16 : decode cL_law 16 = .ok (.iconst 0, 1) := by decide +kernel
theorem dL_law_17 : decode cL_law 17 = .ok (.istore_n 3, 1) := by decide +kernel
theorem dL_law_18 : decode cL_law 18 = .ok (.iload_n 3, 1) := by decide +kernel
theorem dL_law_19 : decode cL_law 19 = .ok (.aload_n 0, 1) := by decide +kernel
theorem dL_law_20 : decode cL_law 20 = .ok (.arraylength, 1) := by decide +kernel
theorem dL_law_21 : decode cL_law 21 = .ok (.bipush 6, 2) := by decide +kernel
theorem dL_law_23 : decode cL_law 23 = .ok (.isub, 1) := by decide +kernel
theorem dL_law_24 : decode cL_law 24 = .ok (.if_icmp .gt 1091, 3) := by decide +kernel
theorem dL_law_27 : decode cL_law 27 = .ok (.aload_n 0, 1) := by decide +kernel
theorem dL_law_28 : decode cL_law 28 = .ok (.iload_n 3, 1) := by decide +kernel
theorem dL_law_29 : decode cL_law 29 = .ok (.iaload, 1) := by decide +kernel
theorem dL_law_30 : decode cL_law 30 = .ok (.bipush 63, 2) := by decide +kernel
theorem dL_law_32 : decode cL_law 32 = .ok (.iand, 1) := by decide +kernel
theorem dL_law_33 : decode cL_law 33 = .ok (.tableswitch 1076 0 32 #[147, 210, 233, 246, 269, 292, 335, 368, 401, 434, 467, 500, 523, 546, 579, 612, 655, 688, 721, 754, 767, 790, 813, 836, 869, 902, 935, 948, 971, 1004, 1017, 1040, 1053], 147) := by decide +kernel
theorem dL_law_180 : decode cL_law 180 = .ok (.aload_n 1, 1) := by decide +kernel
theorem dL_law_181 : decode cL_law 181 = .ok (.aload_n 0, 1) := by decide +kernel
theorem dL_law_182 : decode cL_law 182 = .ok (.iload_n 3, 1) := by decide +kernel
theorem dL_law_183 : decode cL_law 183 = .ok (.iconst 1, 1) := by decide +kernel
theorem dL_law_184 : decode cL_law 184 = .ok (.iadd, 1) := by decide +kernel
theorem dL_law_185 : decode cL_law 185 = .ok (.iaload, 1) := by decide +kernel
theorem dL_law_186 : decode cL_law 186 = .ok (.aload_n 0, 1) := by decide +kernel
theorem dL_law_187 : decode cL_law 187 = .ok (.iload_n 3, 1) := by decide +kernel
theorem dL_law_188 : decode cL_law 188 = .ok (.iconst 2, 1) := by decide +kernel
theorem dL_law_189 : decode cL_law 189 = .ok (.iadd, 1) := by decide +kernel
theorem dL_law_190 : decode cL_law 190 = .ok (.iaload, 1) := by decide +kernel
theorem dL_law_191 : decode cL_law 191 = .ok (.aload_n 0, 1) := by decide +kernel
theorem dL_law_192 : decode cL_law 192 = .ok (.iload_n 3, 1) := by decide +kernel
theorem dL_law_193 : decode cL_law 193 = .ok (.iconst 3, 1) := by decide +kernel
theorem dL_law_194 : decode cL_law 194 = .ok (.iadd, 1) := by decide +kernel
theorem dL_law_195 : decode cL_law 195 = .ok (.iaload, 1) := by decide +kernel
theorem dL_law_196 : decode cL_law 196 = .ok (.aload_n 0, 1) := by decide +kernel
theorem dL_law_197 : decode cL_law 197 = .ok (.iload_n 3, 1) := by decide +kernel
theorem dL_law_198 : decode cL_law 198 = .ok (.iconst 4, 1) := by decide +kernel
theorem dL_law_199 : decode cL_law 199 = .ok (.iadd, 1) := by decide +kernel
theorem dL_law_200 : decode cL_law 200 = .ok (.iaload, 1) := by decide +kernel
theorem dL_law_201 : decode cL_law 201 = .ok (.aload_n 0, 1) := by decide +kernel
theorem dL_law_202 : decode cL_law 202 = .ok (.iload_n 3, 1) := by decide +kernel
theorem dL_law_203 : decode cL_law 203 = .ok (.iconst 5, 1) := by decide +kernel
theorem dL_law_204 : decode cL_law 204 = .ok (.iadd, 1) := by decide +kernel
theorem dL_law_205 : decode cL_law 205 = .ok (.iaload, 1) := by decide +kernel
theorem dL_law_206 : decode cL_law 206 = .ok (.invokevirtual 13, 3) := by decide +kernel
theorem dL_law_209 : decode cL_law 209 = .ok (.aload_n 2, 1) := by decide +kernel
theorem dL_law_210 : decode cL_law 210 = .ok (.aload_n 0, 1) := by decide +kernel
theorem dL_law_211 : decode cL_law 211 = .ok (.iload_n 3, 1) := by decide +kernel
theorem dL_law_212 : decode cL_law 212 = .ok (.iconst 1, 1) := by decide +kernel
theorem dL_law_213 : decode cL_law 213 = .ok (.iadd, 1) := by decide +kernel
theorem dL_law_214 : decode cL_law 214 = .ok (.iaload, 1) := by decide +kernel
theorem dL_law_215 : decode cL_law 215 = .ok (.aload_n 0, 1) := by decide +kernel
theorem dL_law_216 : decode cL_law 216 = .ok (.iload_n 3, 1) := by decide +kernel
theorem dL_law_217 : decode cL_law 217 = .ok (.iconst 2, 1) := by decide +kernel
theorem dL_law_218 : decode cL_law 218 = .ok (.iadd, 1) := by decide +kernel
theorem dL_law_219 : decode cL_law 219 = .ok (.iaload, 1) := by decide +kernel
theorem dL_law_220 : decode cL_law 220 = .ok (.aload_n 0, 1) := by decide +kernel
theorem dL_law_221 : decode cL_law 221 = .ok (.iload_n 3, 1) := by decide +kernel
theorem dL_law_222 : decode cL_law 222 = .ok (.iconst 3, 1) := by decide +kernel
theorem dL_law_223 : decode cL_law 223 = .ok (.iadd, 1) := by decide +kernel
theorem dL_law_224 : decode cL_law 224 = .ok (.iaload, 1) := by decide +kernel
theorem dL_law_225 : decode cL_law 225 = .ok (.aload_n 0, 1) := by decide +kernel
theorem dL_law_226 : decode cL_law 226 = .ok (.iload_n 3, 1) := by decide +kernel
theorem dL_law_227 : decode cL_law 227 = .ok (.iconst 4, 1) := by decide +kernel
theorem dL_law_228 : decode cL_law 228 = .ok (.iadd, 1) := by decide +kernel
theorem dL_law_229 : decode cL_law 229 = .ok (.iaload, 1) := by decide +kernel
theorem dL_law_230 : decode cL_law 230 = .ok (.aload_n 0, 1) := by decide +kernel
theorem dL_law_231 : decode cL_law 231 = .ok (.iload_n 3, 1) := by decide +kernel
theorem dL_law_232 : decode cL_law 232 = .ok (.iconst 5, 1) := by decide +kernel
theorem dL_law_233 : decode cL_law 233 = .ok (.iadd, 1) := by decide +kernel
theorem dL_law_234 : decode cL_law 234 = .ok (.iaload, 1) := by decide +kernel
theorem dL_law_235 : decode cL_law 235 = .ok (.invokevirtual 17, 3) := by decide +kernel
theorem dL_law_238 : decode cL_law 238 = .ok (.if_icmp .eq 871, 3) := by decide +kernel
theorem dL_law_241 : decode cL_law 241 = .ok (.iconst 0, 1) := by decide +kernel
theorem dL_law_242 : decode cL_law 242 = .ok (.ireturn, 1) := by decide +kernel
theorem dL_law_243 : decode cL_law 243 = .ok (.aload_n 1, 1) := by decide +kernel
theorem dL_law_244 : decode cL_law 244 = .ok (.aload_n 0, 1) := by decide +kernel
theorem dL_law_245 : decode cL_law 245 = .ok (.iload_n 3, 1) := by decide +kernel
theorem dL_law_246 : decode cL_law 246 = .ok (.iconst 1, 1) := by decide +kernel
theorem dL_law_247 : decode cL_law 247 = .ok (.iadd, 1) := by decide +kernel
theorem dL_law_248 : decode cL_law 248 = .ok (.iaload, 1) := by decide +kernel
theorem dL_law_249 : decode cL_law 249 = .ok (.invokevirtual 18, 3) := by decide +kernel
theorem dL_law_252 : decode cL_law 252 = .ok (.aload_n 2, 1) := by decide +kernel
theorem dL_law_253 : decode cL_law 253 = .ok (.aload_n 0, 1) := by decide +kernel
theorem dL_law_254 : decode cL_law 254 = .ok (.iload_n 3, 1) := by decide +kernel
theorem dL_law_255 : decode cL_law 255 = .ok (.iconst 1, 1) := by decide +kernel
theorem dL_law_256 : decode cL_law 256 = .ok (.iadd, 1) := by decide +kernel
theorem dL_law_257 : decode cL_law 257 = .ok (.iaload, 1) := by decide +kernel
theorem dL_law_258 : decode cL_law 258 = .ok (.invokevirtual 22, 3) := by decide +kernel
theorem dL_law_261 : decode cL_law 261 = .ok (.if_icmp .eq 848, 3) := by decide +kernel
theorem dL_law_264 : decode cL_law 264 = .ok (.iconst 0, 1) := by decide +kernel
theorem dL_law_265 : decode cL_law 265 = .ok (.ireturn, 1) := by decide +kernel
theorem dL_law_266 : decode cL_law 266 = .ok (.aload_n 1, 1) := by decide +kernel
theorem dL_law_267 : decode cL_law 267 = .ok (.invokevirtual 23, 3) := by decide +kernel
theorem dL_law_270 : decode cL_law 270 = .ok (.aload_n 2, 1) := by decide +kernel
theorem dL_law_271 : decode cL_law 271 = .ok (.invokevirtual 27, 3) := by decide +kernel
theorem dL_law_274 : decode cL_law 274 = .ok (.if_icmp .eq 835, 3) := by decide +kernel
theorem dL_law_277 : decode cL_law 277 = .ok (.iconst 0, 1) := by decide +kernel
theorem dL_law_278 : decode cL_law 278 = .ok (.ireturn, 1) := by decide +kernel
theorem dL_law_279 : decode cL_law 279 = .ok (.aload_n 1, 1) := by decide +kernel
theorem dL_law_280 : decode cL_law 280 = .ok (.aload_n 0, 1) := by decide +kernel
theorem dL_law_281 : decode cL_law 281 = .ok (.iload_n 3, 1) := by decide +kernel
theorem dL_law_282 : decode cL_law 282 = .ok (.iconst 1, 1) := by decide +kernel
theorem dL_law_283 : decode cL_law 283 = .ok (.iadd, 1) := by decide +kernel
theorem dL_law_284 : decode cL_law 284 = .ok (.iaload, 1) := by decide +kernel
theorem dL_law_285 : decode cL_law 285 = .ok (.invokevirtual 28, 3) := by decide +kernel
theorem dL_law_288 : decode cL_law 288 = .ok (.aload_n 2, 1) := by decide +kernel
theorem dL_law_289 : decode cL_law 289 = .ok (.aload_n 0, 1) := by decide +kernel
theorem dL_law_290 : decode cL_law 290 = .ok (.iload_n 3, 1) := by decide +kernel
theorem dL_law_291 : decode cL_law 291 = .ok (.iconst 1, 1) := by decide +kernel
theorem dL_law_292 : decode cL_law 292 = .ok (.iadd, 1) := by decide +kernel
theorem dL_law_293 : decode cL_law 293 = .ok (.iaload, 1) := by decide +kernel
theorem dL_law_294 : decode cL_law 294 = .ok (.invokevirtual 32, 3) := by decide +kernel
theorem dL_law_297 : decode cL_law 297 = .ok (.if_icmp .eq 812, 3) := by decide +kernel
theorem dL_law_300 : decode cL_law 300 = .ok (.iconst 0, 1) := by decide +kernel
theorem dL_law_301 : decode cL_law 301 = .ok (.ireturn, 1) := by decide +kernel
theorem dL_law_302 : decode cL_law 302 = .ok (.aload_n 1, 1) := by decide +kernel
theorem dL_law_303 : decode cL_law 303 = .ok (.aload_n 0, 1) := by decide +kernel
theorem dL_law_304 : decode cL_law 304 = .ok (.iload_n 3, 1) := by decide +kernel
theorem dL_law_305 : decode cL_law 305 = .ok (.iconst 1, 1) := by decide +kernel
theorem dL_law_306 : decode cL_law 306 = .ok (.iadd, 1) := by decide +kernel
theorem dL_law_307 : decode cL_law 307 = .ok (.iaload, 1) := by decide +kernel
theorem dL_law_308 : decode cL_law 308 = .ok (.invokevirtual 33, 3) := by decide +kernel
theorem dL_law_311 : decode cL_law 311 = .ok (.aload_n 2, 1) := by decide +kernel
theorem dL_law_312 : decode cL_law 312 = .ok (.aload_n 0, 1) := by decide +kernel
theorem dL_law_313 : decode cL_law 313 = .ok (.iload_n 3, 1) := by decide +kernel
theorem dL_law_314 : decode cL_law 314 = .ok (.iconst 1, 1) := by decide +kernel
theorem dL_law_315 : decode cL_law 315 = .ok (.iadd, 1) := by decide +kernel
theorem dL_law_316 : decode cL_law 316 = .ok (.iaload, 1) := by decide +kernel
theorem dL_law_317 : decode cL_law 317 = .ok (.invokevirtual 36, 3) := by decide +kernel
theorem dL_law_320 : decode cL_law 320 = .ok (.if_icmp .eq 789, 3) := by decide +kernel
theorem dL_law_323 : decode cL_law 323 = .ok (.iconst 0, 1) := by decide +kernel
theorem dL_law_324 : decode cL_law 324 = .ok (.ireturn, 1) := by decide +kernel
theorem dL_law_325 : decode cL_law 325 = .ok (.aload_n 1, 1) := by decide +kernel
theorem dL_law_326 : decode cL_law 326 = .ok (.aload_n 0, 1) := by decide +kernel
theorem dL_law_327 : decode cL_law 327 = .ok (.iload_n 3, 1) := by decide +kernel
theorem dL_law_328 : decode cL_law 328 = .ok (.iconst 1, 1) := by decide +kernel
theorem dL_law_329 : decode cL_law 329 = .ok (.iadd, 1) := by decide +kernel
theorem dL_law_330 : decode cL_law 330 = .ok (.iaload, 1) := by decide +kernel
theorem dL_law_331 : decode cL_law 331 = .ok (.aload_n 0, 1) := by decide +kernel
theorem dL_law_332 : decode cL_law 332 = .ok (.iload_n 3, 1) := by decide +kernel
theorem dL_law_333 : decode cL_law 333 = .ok (.iconst 2, 1) := by decide +kernel
theorem dL_law_334 : decode cL_law 334 = .ok (.iadd, 1) := by decide +kernel
theorem dL_law_335 : decode cL_law 335 = .ok (.iaload, 1) := by decide +kernel
theorem dL_law_336 : decode cL_law 336 = .ok (.aload_n 0, 1) := by decide +kernel
theorem dL_law_337 : decode cL_law 337 = .ok (.iload_n 3, 1) := by decide +kernel
theorem dL_law_338 : decode cL_law 338 = .ok (.iconst 3, 1) := by decide +kernel
theorem dL_law_339 : decode cL_law 339 = .ok (.iadd, 1) := by decide +kernel
theorem dL_law_340 : decode cL_law 340 = .ok (.iaload, 1) := by decide +kernel
theorem dL_law_341 : decode cL_law 341 = .ok (.invokevirtual 37, 3) := by decide +kernel
theorem dL_law_344 : decode cL_law 344 = .ok (.aload_n 2, 1) := by decide +kernel
theorem dL_law_345 : decode cL_law 345 = .ok (.aload_n 0, 1) := by decide +kernel
theorem dL_law_346 : decode cL_law 346 = .ok (.iload_n 3, 1) := by decide +kernel
theorem dL_law_347 : decode cL_law 347 = .ok (.iconst 1, 1) := by decide +kernel
theorem dL_law_348 : decode cL_law 348 = .ok (.iadd, 1) := by decide +kernel
theorem dL_law_349 : decode cL_law 349 = .ok (.iaload, 1) := by decide +kernel
theorem dL_law_350 : decode cL_law 350 = .ok (.aload_n 0, 1) := by decide +kernel
theorem dL_law_351 : decode cL_law 351 = .ok (.iload_n 3, 1) := by decide +kernel
theorem dL_law_352 : decode cL_law 352 = .ok (.iconst 2, 1) := by decide +kernel
theorem dL_law_353 : decode cL_law 353 = .ok (.iadd, 1) := by decide +kernel
theorem dL_law_354 : decode cL_law 354 = .ok (.iaload, 1) := by decide +kernel
theorem dL_law_355 : decode cL_law 355 = .ok (.aload_n 0, 1) := by decide +kernel
theorem dL_law_356 : decode cL_law 356 = .ok (.iload_n 3, 1) := by decide +kernel
theorem dL_law_357 : decode cL_law 357 = .ok (.iconst 3, 1) := by decide +kernel
theorem dL_law_358 : decode cL_law 358 = .ok (.iadd, 1) := by decide +kernel
theorem dL_law_359 : decode cL_law 359 = .ok (.iaload, 1) := by decide +kernel
theorem dL_law_360 : decode cL_law 360 = .ok (.invokevirtual 41, 3) := by decide +kernel
theorem dL_law_363 : decode cL_law 363 = .ok (.if_icmp .eq 746, 3) := by decide +kernel
theorem dL_law_366 : decode cL_law 366 = .ok (.iconst 0, 1) := by decide +kernel
theorem dL_law_367 : decode cL_law 367 = .ok (.ireturn, 1) := by decide +kernel
theorem dL_law_368 : decode cL_law 368 = .ok (.aload_n 1, 1) := by decide +kernel
theorem dL_law_369 : decode cL_law 369 = .ok (.aload_n 0, 1) := by decide +kernel
theorem dL_law_370 : decode cL_law 370 = .ok (.iload_n 3, 1) := by decide +kernel
theorem dL_law_371 : decode cL_law 371 = .ok (.iconst 1, 1) := by decide +kernel
theorem dL_law_372 : decode cL_law 372 = .ok (.iadd, 1) := by decide +kernel
theorem dL_law_373 : decode cL_law 373 = .ok (.iaload, 1) := by decide +kernel
theorem dL_law_374 : decode cL_law 374 = .ok (.aload_n 0, 1) := by decide +kernel
theorem dL_law_375 : decode cL_law 375 = .ok (.iload_n 3, 1) := by decide +kernel
theorem dL_law_376 : decode cL_law 376 = .ok (.iconst 2, 1) := by decide +kernel
theorem dL_law_377 : decode cL_law 377 = .ok (.iadd, 1) := by decide +kernel
theorem dL_law_378 : decode cL_law 378 = .ok (.iaload, 1) := by decide +kernel
theorem dL_law_379 : decode cL_law 379 = .ok (.invokevirtual 42, 3) := by decide +kernel
theorem dL_law_382 : decode cL_law 382 = .ok (.aload_n 2, 1) := by decide +kernel
theorem dL_law_383 : decode cL_law 383 = .ok (.aload_n 0, 1) := by decide +kernel
theorem dL_law_384 : decode cL_law 384 = .ok (.iload_n 3, 1) := by decide +kernel
theorem dL_law_385 : decode cL_law 385 = .ok (.iconst 1, 1) := by decide +kernel
theorem dL_law_386 : decode cL_law 386 = .ok (.iadd, 1) := by decide +kernel
theorem dL_law_387 : decode cL_law 387 = .ok (.iaload, 1) := by decide +kernel
theorem dL_law_388 : decode cL_law 388 = .ok (.aload_n 0, 1) := by decide +kernel
theorem dL_law_389 : decode cL_law 389 = .ok (.iload_n 3, 1) := by decide +kernel
theorem dL_law_390 : decode cL_law 390 = .ok (.iconst 2, 1) := by decide +kernel
theorem dL_law_391 : decode cL_law 391 = .ok (.iadd, 1) := by decide +kernel
theorem dL_law_392 : decode cL_law 392 = .ok (.iaload, 1) := by decide +kernel
theorem dL_law_393 : decode cL_law 393 = .ok (.invokevirtual 46, 3) := by decide +kernel
theorem dL_law_396 : decode cL_law 396 = .ok (.if_icmp .eq 713, 3) := by decide +kernel
theorem dL_law_399 : decode cL_law 399 = .ok (.iconst 0, 1) := by decide +kernel
theorem dL_law_400 : decode cL_law 400 = .ok (.ireturn, 1) := by decide +kernel
theorem dL_law_401 : decode cL_law 401 = .ok (.aload_n 1, 1) := by decide +kernel
theorem dL_law_402 : decode cL_law 402 = .ok (.aload_n 0, 1) := by decide +kernel
theorem dL_law_403 : decode cL_law 403 = .ok (.iload_n 3, 1) := by decide +kernel
theorem dL_law_404 : decode cL_law 404 = .ok (.iconst 1, 1) := by decide +kernel
theorem dL_law_405 : decode cL_law 405 = .ok (.iadd, 1) := by decide +kernel
theorem dL_law_406 : decode cL_law 406 = .ok (.iaload, 1) := by decide +kernel
theorem dL_law_407 : decode cL_law 407 = .ok (.aload_n 0, 1) := by decide +kernel
theorem dL_law_408 : decode cL_law 408 = .ok (.iload_n 3, 1) := by decide +kernel
theorem dL_law_409 : decode cL_law 409 = .ok (.iconst 2, 1) := by decide +kernel
theorem dL_law_410 : decode cL_law 410 = .ok (.iadd, 1) := by decide +kernel
theorem dL_law_411 : decode cL_law 411 = .ok (.iaload, 1) := by decide +kernel
theorem dL_law_412 : decode cL_law 412 = .ok (.invokevirtual 47, 3) := by decide +kernel
theorem dL_law_415 : decode cL_law 415 = .ok (.aload_n 2, 1) := by decide +kernel
theorem dL_law_416 : decode cL_law 416 = .ok (.aload_n 0, 1) := by decide +kernel
theorem dL_law_417 : decode cL_law 417 = .ok (.iload_n 3, 1) := by decide +kernel
theorem dL_law_418 : decode cL_law 418 = .ok (.iconst 1, 1) := by decide +kernel
theorem dL_law_419 : decode cL_law 419 = .ok (.iadd, 1) := by decide +kernel
theorem dL_law_420 : decode cL_law 420 = .ok (.iaload, 1) := by decide +kernel
theorem dL_law_421 : decode cL_law 421 = .ok (.aload_n 0, 1) := by decide +kernel
theorem dL_law_422 : decode cL_law 422 = .ok (.iload_n 3, 1) := by decide +kernel
theorem dL_law_423 : decode cL_law 423 = .ok (.iconst 2, 1) := by decide +kernel
theorem dL_law_424 : decode cL_law 424 = .ok (.iadd, 1) := by decide +kernel
theorem dL_law_425 : decode cL_law 425 = .ok (.iaload, 1) := by decide +kernel
theorem dL_law_426 : decode cL_law 426 = .ok (.invokevirtual 50, 3) := by decide +kernel
theorem dL_law_429 : decode cL_law 429 = .ok (.if_icmp .eq 680, 3) := by decide +kernel
theorem dL_law_432 : decode cL_law 432 = .ok (.iconst 0, 1) := by decide +kernel
theorem dL_law_433 : decode cL_law 433 = .ok (.ireturn, 1) := by decide +kernel
theorem dL_law_434 : decode cL_law 434 = .ok (.aload_n 1, 1) := by decide +kernel
theorem dL_law_435 : decode cL_law 435 = .ok (.aload_n 0, 1) := by decide +kernel
theorem dL_law_436 : decode cL_law 436 = .ok (.iload_n 3, 1) := by decide +kernel
theorem dL_law_437 : decode cL_law 437 = .ok (.iconst 1, 1) := by decide +kernel
theorem dL_law_438 : decode cL_law 438 = .ok (.iadd, 1) := by decide +kernel
theorem dL_law_439 : decode cL_law 439 = .ok (.iaload, 1) := by decide +kernel
theorem dL_law_440 : decode cL_law 440 = .ok (.aload_n 0, 1) := by decide +kernel
theorem dL_law_441 : decode cL_law 441 = .ok (.iload_n 3, 1) := by decide +kernel
theorem dL_law_442 : decode cL_law 442 = .ok (.iconst 2, 1) := by decide +kernel
theorem dL_law_443 : decode cL_law 443 = .ok (.iadd, 1) := by decide +kernel
theorem dL_law_444 : decode cL_law 444 = .ok (.iaload, 1) := by decide +kernel
theorem dL_law_445 : decode cL_law 445 = .ok (.invokevirtual 51, 3) := by decide +kernel
theorem dL_law_448 : decode cL_law 448 = .ok (.aload_n 2, 1) := by decide +kernel
theorem dL_law_449 : decode cL_law 449 = .ok (.aload_n 0, 1) := by decide +kernel
theorem dL_law_450 : decode cL_law 450 = .ok (.iload_n 3, 1) := by decide +kernel
theorem dL_law_451 : decode cL_law 451 = .ok (.iconst 1, 1) := by decide +kernel
theorem dL_law_452 : decode cL_law 452 = .ok (.iadd, 1) := by decide +kernel
theorem dL_law_453 : decode cL_law 453 = .ok (.iaload, 1) := by decide +kernel
theorem dL_law_454 : decode cL_law 454 = .ok (.aload_n 0, 1) := by decide +kernel
theorem dL_law_455 : decode cL_law 455 = .ok (.iload_n 3, 1) := by decide +kernel
theorem dL_law_456 : decode cL_law 456 = .ok (.iconst 2, 1) := by decide +kernel
theorem dL_law_457 : decode cL_law 457 = .ok (.iadd, 1) := by decide +kernel
theorem dL_law_458 : decode cL_law 458 = .ok (.iaload, 1) := by decide +kernel
theorem dL_law_459 : decode cL_law 459 = .ok (.invokevirtual 54, 3) := by decide +kernel
theorem dL_law_462 : decode cL_law 462 = .ok (.if_icmp .eq 647, 3) := by decide +kernel
theorem dL_law_465 : decode cL_law 465 = .ok (.iconst 0, 1) := by decide +kernel
theorem dL_law_466 : decode cL_law 466 = .ok (.ireturn, 1) := by decide +kernel
theorem dL_law_467 : decode cL_law 467 = .ok (.aload_n 1, 1) := by decide +kernel
theorem dL_law_468 : decode cL_law 468 = .ok (.aload_n 0, 1) := by decide +kernel
theorem dL_law_469 : decode cL_law 469 = .ok (.iload_n 3, 1) := by decide +kernel
theorem dL_law_470 : decode cL_law 470 = .ok (.iconst 1, 1) := by decide +kernel
theorem dL_law_471 : decode cL_law 471 = .ok (.iadd, 1) := by decide +kernel
theorem dL_law_472 : decode cL_law 472 = .ok (.iaload, 1) := by decide +kernel
theorem dL_law_473 : decode cL_law 473 = .ok (.aload_n 0, 1) := by decide +kernel
theorem dL_law_474 : decode cL_law 474 = .ok (.iload_n 3, 1) := by decide +kernel
theorem dL_law_475 : decode cL_law 475 = .ok (.iconst 2, 1) := by decide +kernel
theorem dL_law_476 : decode cL_law 476 = .ok (.iadd, 1) := by decide +kernel
theorem dL_law_477 : decode cL_law 477 = .ok (.iaload, 1) := by decide +kernel
theorem dL_law_478 : decode cL_law 478 = .ok (.invokevirtual 55, 3) := by decide +kernel
theorem dL_law_481 : decode cL_law 481 = .ok (.aload_n 2, 1) := by decide +kernel
theorem dL_law_482 : decode cL_law 482 = .ok (.aload_n 0, 1) := by decide +kernel
theorem dL_law_483 : decode cL_law 483 = .ok (.iload_n 3, 1) := by decide +kernel
theorem dL_law_484 : decode cL_law 484 = .ok (.iconst 1, 1) := by decide +kernel
theorem dL_law_485 : decode cL_law 485 = .ok (.iadd, 1) := by decide +kernel
theorem dL_law_486 : decode cL_law 486 = .ok (.iaload, 1) := by decide +kernel
theorem dL_law_487 : decode cL_law 487 = .ok (.aload_n 0, 1) := by decide +kernel
theorem dL_law_488 : decode cL_law 488 = .ok (.iload_n 3, 1) := by decide +kernel
theorem dL_law_489 : decode cL_law 489 = .ok (.iconst 2, 1) := by decide +kernel
theorem dL_law_490 : decode cL_law 490 = .ok (.iadd, 1) := by decide +kernel
theorem dL_law_491 : decode cL_law 491 = .ok (.iaload, 1) := by decide +kernel
theorem dL_law_492 : decode cL_law 492 = .ok (.invokevirtual 58, 3) := by decide +kernel
theorem dL_law_495 : decode cL_law 495 = .ok (.if_icmp .eq 614, 3) := by decide +kernel
theorem dL_law_498 : decode cL_law 498 = .ok (.iconst 0, 1) := by decide +kernel
theorem dL_law_499 : decode cL_law 499 = .ok (.ireturn, 1) := by decide +kernel
theorem dL_law_500 : decode cL_law 500 = .ok (.aload_n 1, 1) := by decide +kernel
theorem dL_law_501 : decode cL_law 501 = .ok (.aload_n 0, 1) := by decide +kernel
theorem dL_law_502 : decode cL_law 502 = .ok (.iload_n 3, 1) := by decide +kernel
theorem dL_law_503 : decode cL_law 503 = .ok (.iconst 1, 1) := by decide +kernel
theorem dL_law_504 : decode cL_law 504 = .ok (.iadd, 1) := by decide +kernel
theorem dL_law_505 : decode cL_law 505 = .ok (.iaload, 1) := by decide +kernel
theorem dL_law_506 : decode cL_law 506 = .ok (.aload_n 0, 1) := by decide +kernel
theorem dL_law_507 : decode cL_law 507 = .ok (.iload_n 3, 1) := by decide +kernel
theorem dL_law_508 : decode cL_law 508 = .ok (.iconst 2, 1) := by decide +kernel
theorem dL_law_509 : decode cL_law 509 = .ok (.iadd, 1) := by decide +kernel
theorem dL_law_510 : decode cL_law 510 = .ok (.iaload, 1) := by decide +kernel
theorem dL_law_511 : decode cL_law 511 = .ok (.invokevirtual 59, 3) := by decide +kernel
theorem dL_law_514 : decode cL_law 514 = .ok (.aload_n 2, 1) := by decide +kernel
theorem dL_law_515 : decode cL_law 515 = .ok (.aload_n 0, 1) := by decide +kernel
theorem dL_law_516 : decode cL_law 516 = .ok (.iload_n 3, 1) := by decide +kernel
theorem dL_law_517 : decode cL_law 517 = .ok (.iconst 1, 1) := by decide +kernel
theorem dL_law_518 : decode cL_law 518 = .ok (.iadd, 1) := by decide +kernel
theorem dL_law_519 : decode cL_law 519 = .ok (.iaload, 1) := by decide +kernel
theorem dL_law_520 : decode cL_law 520 = .ok (.aload_n 0, 1) := by decide +kernel
theorem dL_law_521 : decode cL_law 521 = .ok (.iload_n 3, 1) := by decide +kernel
theorem dL_law_522 : decode cL_law 522 = .ok (.iconst 2, 1) := by decide +kernel
theorem dL_law_523 : decode cL_law 523 = .ok (.iadd, 1) := by decide +kernel
theorem dL_law_524 : decode cL_law 524 = .ok (.iaload, 1) := by decide +kernel
theorem dL_law_525 : decode cL_law 525 = .ok (.invokevirtual 62, 3) := by decide +kernel
theorem dL_law_528 : decode cL_law 528 = .ok (.if_icmp .eq 581, 3) := by decide +kernel
theorem dL_law_531 : decode cL_law 531 = .ok (.iconst 0, 1) := by decide +kernel
theorem dL_law_532 : decode cL_law 532 = .ok (.ireturn, 1) := by decide +kernel
theorem dL_law_533 : decode cL_law 533 = .ok (.aload_n 1, 1) := by decide +kernel
theorem dL_law_534 : decode cL_law 534 = .ok (.aload_n 0, 1) := by decide +kernel
theorem dL_law_535 : decode cL_law 535 = .ok (.iload_n 3, 1) := by decide +kernel
theorem dL_law_536 : decode cL_law 536 = .ok (.iconst 1, 1) := by decide +kernel
theorem dL_law_537 : decode cL_law 537 = .ok (.iadd, 1) := by decide +kernel
theorem dL_law_538 : decode cL_law 538 = .ok (.iaload, 1) := by decide +kernel
theorem dL_law_539 : decode cL_law 539 = .ok (.invokevirtual 63, 3) := by decide +kernel
theorem dL_law_542 : decode cL_law 542 = .ok (.aload_n 2, 1) := by decide +kernel
theorem dL_law_543 : decode cL_law 543 = .ok (.aload_n 0, 1) := by decide +kernel
theorem dL_law_544 : decode cL_law 544 = .ok (.iload_n 3, 1) := by decide +kernel
theorem dL_law_545 : decode cL_law 545 = .ok (.iconst 1, 1) := by decide +kernel
theorem dL_law_546 : decode cL_law 546 = .ok (.iadd, 1) := by decide +kernel
theorem dL_law_547 : decode cL_law 547 = .ok (.iaload, 1) := by decide +kernel
theorem dL_law_548 : decode cL_law 548 = .ok (.invokevirtual 66, 3) := by decide +kernel
theorem dL_law_551 : decode cL_law 551 = .ok (.if_icmp .eq 558, 3) := by decide +kernel
theorem dL_law_554 : decode cL_law 554 = .ok (.iconst 0, 1) := by decide +kernel
theorem dL_law_555 : decode cL_law 555 = .ok (.ireturn, 1) := by decide +kernel
theorem dL_law_556 : decode cL_law 556 = .ok (.aload_n 1, 1) := by decide +kernel
theorem dL_law_557 : decode cL_law 557 = .ok (.aload_n 0, 1) := by decide +kernel
theorem dL_law_558 : decode cL_law 558 = .ok (.iload_n 3, 1) := by decide +kernel
theorem dL_law_559 : decode cL_law 559 = .ok (.iconst 1, 1) := by decide +kernel
theorem dL_law_560 : decode cL_law 560 = .ok (.iadd, 1) := by decide +kernel
theorem dL_law_561 : decode cL_law 561 = .ok (.iaload, 1) := by decide +kernel
theorem dL_law_562 : decode cL_law 562 = .ok (.invokevirtual 67, 3) := by decide +kernel
theorem dL_law_565 : decode cL_law 565 = .ok (.aload_n 2, 1) := by decide +kernel
theorem dL_law_566 : decode cL_law 566 = .ok (.aload_n 0, 1) := by decide +kernel
theorem dL_law_567 : decode cL_law 567 = .ok (.iload_n 3, 1) := by decide +kernel
theorem dL_law_568 : decode cL_law 568 = .ok (.iconst 1, 1) := by decide +kernel
theorem dL_law_569 : decode cL_law 569 = .ok (.iadd, 1) := by decide +kernel
theorem dL_law_570 : decode cL_law 570 = .ok (.iaload, 1) := by decide +kernel
theorem dL_law_571 : decode cL_law 571 = .ok (.invokevirtual 70, 3) := by decide +kernel
theorem dL_law_574 : decode cL_law 574 = .ok (.if_icmp .eq 535, 3) := by decide +kernel
theorem dL_law_577 : decode cL_law 577 = .ok (.iconst 0, 1) := by decide +kernel
theorem dL_law_578 : decode cL_law 578 = .ok (.ireturn, 1) := by decide +kernel
theorem dL_law_579 : decode cL_law 579 = .ok (.aload_n 1, 1) := by decide +kernel
theorem dL_law_580 : decode cL_law 580 = .ok (.aload_n 0, 1) := by decide +kernel
theorem dL_law_581 : decode cL_law 581 = .ok (.iload_n 3, 1) := by decide +kernel
theorem dL_law_582 : decode cL_law 582 = .ok (.iconst 1, 1) := by decide +kernel
theorem dL_law_583 : decode cL_law 583 = .ok (.iadd, 1) := by decide +kernel
theorem dL_law_584 : decode cL_law 584 = .ok (.iaload, 1) := by decide +kernel
theorem dL_law_585 : decode cL_law 585 = .ok (.aload_n 0, 1) := by decide +kernel
theorem dL_law_586 : decode cL_law 586 = .ok (.iload_n 3, 1) := by decide +kernel
theorem dL_law_587 : decode cL_law 587 = .ok (.iconst 2, 1) := by decide +kernel
theorem dL_law_588 : decode cL_law 588 = .ok (.iadd, 1) := by decide +kernel
theorem dL_law_589 : decode cL_law 589 = .ok (.iaload, 1) := by decide +kernel
theorem dL_law_590 : decode cL_law 590 = .ok (.invokevirtual 71, 3) := by decide +kernel
theorem dL_law_593 : decode cL_law 593 = .ok (.aload_n 2, 1) := by decide +kernel
theorem dL_law_594 : decode cL_law 594 = .ok (.aload_n 0, 1) := by decide +kernel
theorem dL_law_595 : decode cL_law 595 = .ok (.iload_n 3, 1) := by decide +kernel
theorem dL_law_596 : decode cL_law 596 = .ok (.iconst 1, 1) := by decide +kernel
theorem dL_law_597 : decode cL_law 597 = .ok (.iadd, 1) := by decide +kernel
theorem dL_law_598 : decode cL_law 598 = .ok (.iaload, 1) := by decide +kernel
theorem dL_law_599 : decode cL_law 599 = .ok (.aload_n 0, 1) := by decide +kernel
theorem dL_law_600 : decode cL_law 600 = .ok (.iload_n 3, 1) := by decide +kernel
theorem dL_law_601 : decode cL_law 601 = .ok (.iconst 2, 1) := by decide +kernel
theorem dL_law_602 : decode cL_law 602 = .ok (.iadd, 1) := by decide +kernel
theorem dL_law_603 : decode cL_law 603 = .ok (.iaload, 1) := by decide +kernel
theorem dL_law_604 : decode cL_law 604 = .ok (.invokevirtual 74, 3) := by decide +kernel
theorem dL_law_607 : decode cL_law 607 = .ok (.if_icmp .eq 502, 3) := by decide +kernel
theorem dL_law_610 : decode cL_law 610 = .ok (.iconst 0, 1) := by decide +kernel
theorem dL_law_611 : decode cL_law 611 = .ok (.ireturn, 1) := by decide +kernel
theorem dL_law_612 : decode cL_law 612 = .ok (.aload_n 1, 1) := by decide +kernel
theorem dL_law_613 : decode cL_law 613 = .ok (.aload_n 0, 1) := by decide +kernel
theorem dL_law_614 : decode cL_law 614 = .ok (.iload_n 3, 1) := by decide +kernel
theorem dL_law_615 : decode cL_law 615 = .ok (.iconst 1, 1) := by decide +kernel
theorem dL_law_616 : decode cL_law 616 = .ok (.iadd, 1) := by decide +kernel
theorem dL_law_617 : decode cL_law 617 = .ok (.iaload, 1) := by decide +kernel
theorem dL_law_618 : decode cL_law 618 = .ok (.aload_n 0, 1) := by decide +kernel
theorem dL_law_619 : decode cL_law 619 = .ok (.iload_n 3, 1) := by decide +kernel
theorem dL_law_620 : decode cL_law 620 = .ok (.iconst 2, 1) := by decide +kernel
theorem dL_law_621 : decode cL_law 621 = .ok (.iadd, 1) := by decide +kernel
theorem dL_law_622 : decode cL_law 622 = .ok (.iaload, 1) := by decide +kernel
theorem dL_law_623 : decode cL_law 623 = .ok (.invokevirtual 75, 3) := by decide +kernel
theorem dL_law_626 : decode cL_law 626 = .ok (.aload_n 2, 1) := by decide +kernel
theorem dL_law_627 : decode cL_law 627 = .ok (.aload_n 0, 1) := by decide +kernel
theorem dL_law_628 : decode cL_law 628 = .ok (.iload_n 3, 1) := by decide +kernel
theorem dL_law_629 : decode cL_law 629 = .ok (.iconst 1, 1) := by decide +kernel
theorem dL_law_630 : decode cL_law 630 = .ok (.iadd, 1) := by decide +kernel
theorem dL_law_631 : decode cL_law 631 = .ok (.iaload, 1) := by decide +kernel
theorem dL_law_632 : decode cL_law 632 = .ok (.aload_n 0, 1) := by decide +kernel
theorem dL_law_633 : decode cL_law 633 = .ok (.iload_n 3, 1) := by decide +kernel
theorem dL_law_634 : decode cL_law 634 = .ok (.iconst 2, 1) := by decide +kernel
theorem dL_law_635 : decode cL_law 635 = .ok (.iadd, 1) := by decide +kernel
theorem dL_law_636 : decode cL_law 636 = .ok (.iaload, 1) := by decide +kernel
theorem dL_law_637 : decode cL_law 637 = .ok (.invokevirtual 78, 3) := by decide +kernel
theorem dL_law_640 : decode cL_law 640 = .ok (.if_icmp .eq 469, 3) := by decide +kernel
theorem dL_law_643 : decode cL_law 643 = .ok (.iconst 0, 1) := by decide +kernel
theorem dL_law_644 : decode cL_law 644 = .ok (.ireturn, 1) := by decide +kernel
theorem dL_law_645 : decode cL_law 645 = .ok (.aload_n 1, 1) := by decide +kernel
theorem dL_law_646 : decode cL_law 646 = .ok (.aload_n 0, 1) := by decide +kernel
theorem dL_law_647 : decode cL_law 647 = .ok (.iload_n 3, 1) := by decide +kernel
theorem dL_law_648 : decode cL_law 648 = .ok (.iconst 1, 1) := by decide +kernel
theorem dL_law_649 : decode cL_law 649 = .ok (.iadd, 1) := by decide +kernel
theorem dL_law_650 : decode cL_law 650 = .ok (.iaload, 1) := by decide +kernel
theorem dL_law_651 : decode cL_law 651 = .ok (.aload_n 0, 1) := by decide +kernel
theorem dL_law_652 : decode cL_law 652 = .ok (.iload_n 3, 1) := by decide +kernel
theorem dL_law_653 : decode cL_law 653 = .ok (.iconst 2, 1) := by decide +kernel
theorem dL_law_654 : decode cL_law 654 = .ok (.iadd, 1) := by decide +kernel
theorem dL_law_655 : decode cL_law 655 = .ok (.iaload, 1) := by decide +kernel
theorem dL_law_656 : decode cL_law 656 = .ok (.aload_n 0, 1) := by decide +kernel
theorem dL_law_657 : decode cL_law 657 = .ok (.iload_n 3, 1) := by decide +kernel
theorem dL_law_658 : decode cL_law 658 = .ok (.iconst 3, 1) := by decide +kernel
theorem dL_law_659 : decode cL_law 659 = .ok (.iadd, 1) := by decide +kernel
theorem dL_law_660 : decode cL_law 660 = .ok (.iaload, 1) := by decide +kernel
theorem dL_law_661 : decode cL_law 661 = .ok (.invokevirtual 79, 3) := by decide +kernel
theorem dL_law_664 : decode cL_law 664 = .ok (.aload_n 2, 1) := by decide +kernel
theorem dL_law_665 : decode cL_law 665 = .ok (.aload_n 0, 1) := by decide +kernel
theorem dL_law_666 : decode cL_law 666 = .ok (.iload_n 3, 1) := by decide +kernel
theorem dL_law_667 : decode cL_law 667 = .ok (.iconst 1, 1) := by decide +kernel
theorem dL_law_668 : decode cL_law 668 = .ok (.iadd, 1) := by decide +kernel
theorem dL_law_669 : decode cL_law 669 = .ok (.iaload, 1) := by decide +kernel
theorem dL_law_670 : decode cL_law 670 = .ok (.aload_n 0, 1) := by decide +kernel
theorem dL_law_671 : decode cL_law 671 = .ok (.iload_n 3, 1) := by decide +kernel
theorem dL_law_672 : decode cL_law 672 = .ok (.iconst 2, 1) := by decide +kernel
theorem dL_law_673 : decode cL_law 673 = .ok (.iadd, 1) := by decide +kernel
theorem dL_law_674 : decode cL_law 674 = .ok (.iaload, 1) := by decide +kernel
theorem dL_law_675 : decode cL_law 675 = .ok (.aload_n 0, 1) := by decide +kernel
theorem dL_law_676 : decode cL_law 676 = .ok (.iload_n 3, 1) := by decide +kernel
theorem dL_law_677 : decode cL_law 677 = .ok (.iconst 3, 1) := by decide +kernel
theorem dL_law_678 : decode cL_law 678 = .ok (.iadd, 1) := by decide +kernel
theorem dL_law_679 : decode cL_law 679 = .ok (.iaload, 1) := by decide +kernel
theorem dL_law_680 : decode cL_law 680 = .ok (.invokevirtual 82, 3) := by decide +kernel
theorem dL_law_683 : decode cL_law 683 = .ok (.if_icmp .eq 426, 3) := by decide +kernel
theorem dL_law_686 : decode cL_law 686 = .ok (.iconst 0, 1) := by decide +kernel
theorem dL_law_687 : decode cL_law 687 = .ok (.ireturn, 1) := by decide +kernel
theorem dL_law_688 : decode cL_law 688 = .ok (.aload_n 1, 1) := by decide +kernel
theorem dL_law_689 : decode cL_law 689 = .ok (.aload_n 0, 1) := by decide +kernel
theorem dL_law_690 : decode cL_law 690 = .ok (.iload_n 3, 1) := by decide +kernel
theorem dL_law_691 : decode cL_law 691 = .ok (.iconst 1, 1) := by decide +kernel
theorem dL_law_692 : decode cL_law 692 = .ok (.iadd, 1) := by decide +kernel
theorem dL_law_693 : decode cL_law 693 = .ok (.iaload, 1) := by decide +kernel
theorem dL_law_694 : decode cL_law 694 = .ok (.aload_n 0, 1) := by decide +kernel
theorem dL_law_695 : decode cL_law 695 = .ok (.iload_n 3, 1) := by decide +kernel
theorem dL_law_696 : decode cL_law 696 = .ok (.iconst 2, 1) := by decide +kernel
theorem dL_law_697 : decode cL_law 697 = .ok (.iadd, 1) := by decide +kernel
theorem dL_law_698 : decode cL_law 698 = .ok (.iaload, 1) := by decide +kernel
theorem dL_law_699 : decode cL_law 699 = .ok (.invokevirtual 83, 3) := by decide +kernel
theorem dL_law_702 : decode cL_law 702 = .ok (.aload_n 2, 1) := by decide +kernel
theorem dL_law_703 : decode cL_law 703 = .ok (.aload_n 0, 1) := by decide +kernel
theorem dL_law_704 : decode cL_law 704 = .ok (.iload_n 3, 1) := by decide +kernel
theorem dL_law_705 : decode cL_law 705 = .ok (.iconst 1, 1) := by decide +kernel
theorem dL_law_706 : decode cL_law 706 = .ok (.iadd, 1) := by decide +kernel
theorem dL_law_707 : decode cL_law 707 = .ok (.iaload, 1) := by decide +kernel
theorem dL_law_708 : decode cL_law 708 = .ok (.aload_n 0, 1) := by decide +kernel
theorem dL_law_709 : decode cL_law 709 = .ok (.iload_n 3, 1) := by decide +kernel
theorem dL_law_710 : decode cL_law 710 = .ok (.iconst 2, 1) := by decide +kernel
theorem dL_law_711 : decode cL_law 711 = .ok (.iadd, 1) := by decide +kernel
theorem dL_law_712 : decode cL_law 712 = .ok (.iaload, 1) := by decide +kernel
theorem dL_law_713 : decode cL_law 713 = .ok (.invokevirtual 86, 3) := by decide +kernel
theorem dL_law_716 : decode cL_law 716 = .ok (.if_icmp .eq 393, 3) := by decide +kernel
theorem dL_law_719 : decode cL_law 719 = .ok (.iconst 0, 1) := by decide +kernel
theorem dL_law_720 : decode cL_law 720 = .ok (.ireturn, 1) := by decide +kernel
theorem dL_law_721 : decode cL_law 721 = .ok (.aload_n 1, 1) := by decide +kernel
theorem dL_law_722 : decode cL_law 722 = .ok (.aload_n 0, 1) := by decide +kernel
theorem dL_law_723 : decode cL_law 723 = .ok (.iload_n 3, 1) := by decide +kernel
theorem dL_law_724 : decode cL_law 724 = .ok (.iconst 1, 1) := by decide +kernel
theorem dL_law_725 : decode cL_law 725 = .ok (.iadd, 1) := by decide +kernel
theorem dL_law_726 : decode cL_law 726 = .ok (.iaload, 1) := by decide +kernel
theorem dL_law_727 : decode cL_law 727 = .ok (.aload_n 0, 1) := by decide +kernel
theorem dL_law_728 : decode cL_law 728 = .ok (.iload_n 3, 1) := by decide +kernel
theorem dL_law_729 : decode cL_law 729 = .ok (.iconst 2, 1) := by decide +kernel
theorem dL_law_730 : decode cL_law 730 = .ok (.iadd, 1) := by decide +kernel
theorem dL_law_731 : decode cL_law 731 = .ok (.iaload, 1) := by decide +kernel
theorem dL_law_732 : decode cL_law 732 = .ok (.invokevirtual 87, 3) := by decide +kernel
theorem dL_law_735 : decode cL_law 735 = .ok (.aload_n 2, 1) := by decide +kernel
theorem dL_law_736 : decode cL_law 736 = .ok (.aload_n 0, 1) := by decide +kernel
theorem dL_law_737 : decode cL_law 737 = .ok (.iload_n 3, 1) := by decide +kernel
theorem dL_law_738 : decode cL_law 738 = .ok (.iconst 1, 1) := by decide +kernel
theorem dL_law_739 : decode cL_law 739 = .ok (.iadd, 1) := by decide +kernel
theorem dL_law_740 : decode cL_law 740 = .ok (.iaload, 1) := by decide +kernel
theorem dL_law_741 : decode cL_law 741 = .ok (.aload_n 0, 1) := by decide +kernel
theorem dL_law_742 : decode cL_law 742 = .ok (.iload_n 3, 1) := by decide +kernel
theorem dL_law_743 : decode cL_law 743 = .ok (.iconst 2, 1) := by decide +kernel
theorem dL_law_744 : decode cL_law 744 = .ok (.iadd, 1) := by decide +kernel
theorem dL_law_745 : decode cL_law 745 = .ok (.iaload, 1) := by decide +kernel
theorem dL_law_746 : decode cL_law 746 = .ok (.invokevirtual 90, 3) := by decide +kernel
theorem dL_law_749 : decode cL_law 749 = .ok (.if_icmp .eq 360, 3) := by decide +kernel
theorem dL_law_752 : decode cL_law 752 = .ok (.iconst 0, 1) := by decide +kernel
theorem dL_law_753 : decode cL_law 753 = .ok (.ireturn, 1) := by decide +kernel
theorem dL_law_754 : decode cL_law 754 = .ok (.aload_n 1, 1) := by decide +kernel
theorem dL_law_755 : decode cL_law 755 = .ok (.aload_n 0, 1) := by decide +kernel
theorem dL_law_756 : decode cL_law 756 = .ok (.iload_n 3, 1) := by decide +kernel
theorem dL_law_757 : decode cL_law 757 = .ok (.iconst 1, 1) := by decide +kernel
theorem dL_law_758 : decode cL_law 758 = .ok (.iadd, 1) := by decide +kernel
theorem dL_law_759 : decode cL_law 759 = .ok (.iaload, 1) := by decide +kernel
theorem dL_law_760 : decode cL_law 760 = .ok (.aload_n 0, 1) := by decide +kernel
theorem dL_law_761 : decode cL_law 761 = .ok (.iload_n 3, 1) := by decide +kernel
theorem dL_law_762 : decode cL_law 762 = .ok (.iconst 2, 1) := by decide +kernel
theorem dL_law_763 : decode cL_law 763 = .ok (.iadd, 1) := by decide +kernel
theorem dL_law_764 : decode cL_law 764 = .ok (.iaload, 1) := by decide +kernel
theorem dL_law_765 : decode cL_law 765 = .ok (.invokevirtual 91, 3) := by decide +kernel
theorem dL_law_768 : decode cL_law 768 = .ok (.aload_n 2, 1) := by decide +kernel
theorem dL_law_769 : decode cL_law 769 = .ok (.aload_n 0, 1) := by decide +kernel
theorem dL_law_770 : decode cL_law 770 = .ok (.iload_n 3, 1) := by decide +kernel
theorem dL_law_771 : decode cL_law 771 = .ok (.iconst 1, 1) := by decide +kernel
theorem dL_law_772 : decode cL_law 772 = .ok (.iadd, 1) := by decide +kernel
theorem dL_law_773 : decode cL_law 773 = .ok (.iaload, 1) := by decide +kernel
theorem dL_law_774 : decode cL_law 774 = .ok (.aload_n 0, 1) := by decide +kernel
theorem dL_law_775 : decode cL_law 775 = .ok (.iload_n 3, 1) := by decide +kernel
theorem dL_law_776 : decode cL_law 776 = .ok (.iconst 2, 1) := by decide +kernel
theorem dL_law_777 : decode cL_law 777 = .ok (.iadd, 1) := by decide +kernel
theorem dL_law_778 : decode cL_law 778 = .ok (.iaload, 1) := by decide +kernel
theorem dL_law_779 : decode cL_law 779 = .ok (.invokevirtual 94, 3) := by decide +kernel
theorem dL_law_782 : decode cL_law 782 = .ok (.if_icmp .eq 327, 3) := by decide +kernel
theorem dL_law_785 : decode cL_law 785 = .ok (.iconst 0, 1) := by decide +kernel
theorem dL_law_786 : decode cL_law 786 = .ok (.ireturn, 1) := by decide +kernel
theorem dL_law_787 : decode cL_law 787 = .ok (.aload_n 1, 1) := by decide +kernel
theorem dL_law_788 : decode cL_law 788 = .ok (.invokevirtual 95, 3) := by decide +kernel
theorem dL_law_791 : decode cL_law 791 = .ok (.aload_n 2, 1) := by decide +kernel
theorem dL_law_792 : decode cL_law 792 = .ok (.invokevirtual 98, 3) := by decide +kernel
theorem dL_law_795 : decode cL_law 795 = .ok (.if_icmp .eq 314, 3) := by decide +kernel
theorem dL_law_798 : decode cL_law 798 = .ok (.iconst 0, 1) := by decide +kernel
theorem dL_law_799 : decode cL_law 799 = .ok (.ireturn, 1) := by decide +kernel
theorem dL_law_800 : decode cL_law 800 = .ok (.aload_n 1, 1) := by decide +kernel
theorem dL_law_801 : decode cL_law 801 = .ok (.aload_n 0, 1) := by decide +kernel
theorem dL_law_802 : decode cL_law 802 = .ok (.iload_n 3, 1) := by decide +kernel
theorem dL_law_803 : decode cL_law 803 = .ok (.iconst 1, 1) := by decide +kernel
theorem dL_law_804 : decode cL_law 804 = .ok (.iadd, 1) := by decide +kernel
theorem dL_law_805 : decode cL_law 805 = .ok (.iaload, 1) := by decide +kernel
theorem dL_law_806 : decode cL_law 806 = .ok (.invokevirtual 99, 3) := by decide +kernel
theorem dL_law_809 : decode cL_law 809 = .ok (.aload_n 2, 1) := by decide +kernel
theorem dL_law_810 : decode cL_law 810 = .ok (.aload_n 0, 1) := by decide +kernel
theorem dL_law_811 : decode cL_law 811 = .ok (.iload_n 3, 1) := by decide +kernel
theorem dL_law_812 : decode cL_law 812 = .ok (.iconst 1, 1) := by decide +kernel
theorem dL_law_813 : decode cL_law 813 = .ok (.iadd, 1) := by decide +kernel
theorem dL_law_814 : decode cL_law 814 = .ok (.iaload, 1) := by decide +kernel
theorem dL_law_815 : decode cL_law 815 = .ok (.invokevirtual 102, 3) := by decide +kernel
theorem dL_law_818 : decode cL_law 818 = .ok (.if_icmp .eq 291, 3) := by decide +kernel
theorem dL_law_821 : decode cL_law 821 = .ok (.iconst 0, 1) := by decide +kernel
theorem dL_law_822 : decode cL_law 822 = .ok (.ireturn, 1) := by decide +kernel
theorem dL_law_823 : decode cL_law 823 = .ok (.aload_n 1, 1) := by decide +kernel
theorem dL_law_824 : decode cL_law 824 = .ok (.aload_n 0, 1) := by decide +kernel
theorem dL_law_825 : decode cL_law 825 = .ok (.iload_n 3, 1) := by decide +kernel
theorem dL_law_826 : decode cL_law 826 = .ok (.iconst 1, 1) := by decide +kernel
theorem dL_law_827 : decode cL_law 827 = .ok (.iadd, 1) := by decide +kernel
theorem dL_law_828 : decode cL_law 828 = .ok (.iaload, 1) := by decide +kernel
theorem dL_law_829 : decode cL_law 829 = .ok (.invokevirtual 103, 3) := by decide +kernel
theorem dL_law_832 : decode cL_law 832 = .ok (.aload_n 2, 1) := by decide +kernel
theorem dL_law_833 : decode cL_law 833 = .ok (.aload_n 0, 1) := by decide +kernel
theorem dL_law_834 : decode cL_law 834 = .ok (.iload_n 3, 1) := by decide +kernel
theorem dL_law_835 : decode cL_law 835 = .ok (.iconst 1, 1) := by decide +kernel
theorem dL_law_836 : decode cL_law 836 = .ok (.iadd, 1) := by decide +kernel
theorem dL_law_837 : decode cL_law 837 = .ok (.iaload, 1) := by decide +kernel
theorem dL_law_838 : decode cL_law 838 = .ok (.invokevirtual 106, 3) := by decide +kernel
theorem dL_law_841 : decode cL_law 841 = .ok (.if_icmp .eq 268, 3) := by decide +kernel
theorem dL_law_844 : decode cL_law 844 = .ok (.iconst 0, 1) := by decide +kernel
theorem dL_law_845 : decode cL_law 845 = .ok (.ireturn, 1) := by decide +kernel
theorem dL_law_846 : decode cL_law 846 = .ok (.aload_n 1, 1) := by decide +kernel
theorem dL_law_847 : decode cL_law 847 = .ok (.aload_n 0, 1) := by decide +kernel
theorem dL_law_848 : decode cL_law 848 = .ok (.iload_n 3, 1) := by decide +kernel
theorem dL_law_849 : decode cL_law 849 = .ok (.iconst 1, 1) := by decide +kernel
theorem dL_law_850 : decode cL_law 850 = .ok (.iadd, 1) := by decide +kernel
theorem dL_law_851 : decode cL_law 851 = .ok (.iaload, 1) := by decide +kernel
theorem dL_law_852 : decode cL_law 852 = .ok (.invokevirtual 107, 3) := by decide +kernel
theorem dL_law_855 : decode cL_law 855 = .ok (.aload_n 2, 1) := by decide +kernel
theorem dL_law_856 : decode cL_law 856 = .ok (.aload_n 0, 1) := by decide +kernel
theorem dL_law_857 : decode cL_law 857 = .ok (.iload_n 3, 1) := by decide +kernel
theorem dL_law_858 : decode cL_law 858 = .ok (.iconst 1, 1) := by decide +kernel
theorem dL_law_859 : decode cL_law 859 = .ok (.iadd, 1) := by decide +kernel
theorem dL_law_860 : decode cL_law 860 = .ok (.iaload, 1) := by decide +kernel
theorem dL_law_861 : decode cL_law 861 = .ok (.invokevirtual 110, 3) := by decide +kernel
theorem dL_law_864 : decode cL_law 864 = .ok (.if_icmp .eq 245, 3) := by decide +kernel
theorem dL_law_867 : decode cL_law 867 = .ok (.iconst 0, 1) := by decide +kernel
theorem dL_law_868 : decode cL_law 868 = .ok (.ireturn, 1) := by decide +kernel
theorem dL_law_869 : decode cL_law 869 = .ok (.aload_n 1, 1) := by decide +kernel
theorem dL_law_870 : decode cL_law 870 = .ok (.aload_n 0, 1) := by decide +kernel
theorem dL_law_871 : decode cL_law 871 = .ok (.iload_n 3, 1) := by decide +kernel
theorem dL_law_872 : decode cL_law 872 = .ok (.iconst 1, 1) := by decide +kernel
theorem dL_law_873 : decode cL_law 873 = .ok (.iadd, 1) := by decide +kernel
theorem dL_law_874 : decode cL_law 874 = .ok (.iaload, 1) := by decide +kernel
theorem dL_law_875 : decode cL_law 875 = .ok (.aload_n 0, 1) := by decide +kernel
theorem dL_law_876 : decode cL_law 876 = .ok (.iload_n 3, 1) := by decide +kernel
theorem dL_law_877 : decode cL_law 877 = .ok (.iconst 2, 1) := by decide +kernel
theorem dL_law_878 : decode cL_law 878 = .ok (.iadd, 1) := by decide +kernel
theorem dL_law_879 : decode cL_law 879 = .ok (.iaload, 1) := by decide +kernel
theorem dL_law_880 : decode cL_law 880 = .ok (.invokevirtual 111, 3) := by decide +kernel
theorem dL_law_883 : decode cL_law 883 = .ok (.aload_n 2, 1) := by decide +kernel
theorem dL_law_884 : decode cL_law 884 = .ok (.aload_n 0, 1) := by decide +kernel
theorem dL_law_885 : decode cL_law 885 = .ok (.iload_n 3, 1) := by decide +kernel
theorem dL_law_886 : decode cL_law 886 = .ok (.iconst 1, 1) := by decide +kernel
theorem dL_law_887 : decode cL_law 887 = .ok (.iadd, 1) := by decide +kernel
theorem dL_law_888 : decode cL_law 888 = .ok (.iaload, 1) := by decide +kernel
theorem dL_law_889 : decode cL_law 889 = .ok (.aload_n 0, 1) := by decide +kernel
theorem dL_law_890 : decode cL_law 890 = .ok (.iload_n 3, 1) := by decide +kernel
theorem dL_law_891 : decode cL_law 891 = .ok (.iconst 2, 1) := by decide +kernel
theorem dL_law_892 : decode cL_law 892 = .ok (.iadd, 1) := by decide +kernel
theorem dL_law_893 : decode cL_law 893 = .ok (.iaload, 1) := by decide +kernel
theorem dL_law_894 : decode cL_law 894 = .ok (.invokevirtual 115, 3) := by decide +kernel
theorem dL_law_897 : decode cL_law 897 = .ok (.if_icmp .eq 212, 3) := by decide +kernel
theorem dL_law_900 : decode cL_law 900 = .ok (.iconst 0, 1) := by decide +kernel
theorem dL_law_901 : decode cL_law 901 = .ok (.ireturn, 1) := by decide +kernel
theorem dL_law_902 : decode cL_law 902 = .ok (.aload_n 1, 1) := by decide +kernel
theorem dL_law_903 : decode cL_law 903 = .ok (.aload_n 0, 1) := by decide +kernel
theorem dL_law_904 : decode cL_law 904 = .ok (.iload_n 3, 1) := by decide +kernel
theorem dL_law_905 : decode cL_law 905 = .ok (.iconst 1, 1) := by decide +kernel
theorem dL_law_906 : decode cL_law 906 = .ok (.iadd, 1) := by decide +kernel
theorem dL_law_907 : decode cL_law 907 = .ok (.iaload, 1) := by decide +kernel
theorem dL_law_908 : decode cL_law 908 = .ok (.aload_n 0, 1) := by decide +kernel
theorem dL_law_909 : decode cL_law 909 = .ok (.iload_n 3, 1) := by decide +kernel
theorem dL_law_910 : decode cL_law 910 = .ok (.iconst 2, 1) := by decide +kernel
theorem dL_law_911 : decode cL_law 911 = .ok (.iadd, 1) := by decide +kernel
theorem dL_law_912 : decode cL_law 912 = .ok (.iaload, 1) := by decide +kernel
theorem dL_law_913 : decode cL_law 913 = .ok (.invokevirtual 116, 3) := by decide +kernel
theorem dL_law_916 : decode cL_law 916 = .ok (.aload_n 2, 1) := by decide +kernel
theorem dL_law_917 : decode cL_law 917 = .ok (.aload_n 0, 1) := by decide +kernel
theorem dL_law_918 : decode cL_law 918 = .ok (.iload_n 3, 1) := by decide +kernel
theorem dL_law_919 : decode cL_law 919 = .ok (.iconst 1, 1) := by decide +kernel
theorem dL_law_920 : decode cL_law 920 = .ok (.iadd, 1) := by decide +kernel
theorem dL_law_921 : decode cL_law 921 = .ok (.iaload, 1) := by decide +kernel
theorem dL_law_922 : decode cL_law 922 = .ok (.aload_n 0, 1) := by decide +kernel
theorem dL_law_923 : decode cL_law 923 = .ok (.iload_n 3, 1) := by decide +kernel
theorem dL_law_924 : decode cL_law 924 = .ok (.iconst 2, 1) := by decide +kernel
theorem dL_law_925 : decode cL_law 925 = .ok (.iadd, 1) := by decide +kernel
theorem dL_law_926 : decode cL_law 926 = .ok (.iaload, 1) := by decide +kernel
theorem dL_law_927 : decode cL_law 927 = .ok (.invokevirtual 119, 3) := by decide +kernel
theorem dL_law_930 : decode cL_law 930 = .ok (.if_icmp .eq 179, 3) := by decide +kernel
theorem dL_law_933 : decode cL_law 933 = .ok (.iconst 0, 1) := by decide +kernel
theorem dL_law_934 : decode cL_law 934 = .ok (.ireturn, 1) := by decide +kernel
theorem dL_law_935 : decode cL_law 935 = .ok (.aload_n 1, 1) := by decide +kernel
theorem dL_law_936 : decode cL_law 936 = .ok (.aload_n 0, 1) := by decide +kernel
theorem dL_law_937 : decode cL_law 937 = .ok (.iload_n 3, 1) := by decide +kernel
theorem dL_law_938 : decode cL_law 938 = .ok (.iconst 1, 1) := by decide +kernel
theorem dL_law_939 : decode cL_law 939 = .ok (.iadd, 1) := by decide +kernel
theorem dL_law_940 : decode cL_law 940 = .ok (.iaload, 1) := by decide +kernel
theorem dL_law_941 : decode cL_law 941 = .ok (.aload_n 0, 1) := by decide +kernel
theorem dL_law_942 : decode cL_law 942 = .ok (.iload_n 3, 1) := by decide +kernel
theorem dL_law_943 : decode cL_law 943 = .ok (.iconst 2, 1) := by decide +kernel
theorem dL_law_944 : decode cL_law 944 = .ok (.iadd, 1) := by decide +kernel
theorem dL_law_945 : decode cL_law 945 = .ok (.iaload, 1) := by decide +kernel
theorem dL_law_946 : decode cL_law 946 = .ok (.invokevirtual 120, 3) := by decide +kernel
theorem dL_law_949 : decode cL_law 949 = .ok (.aload_n 2, 1) := by decide +kernel
theorem dL_law_950 : decode cL_law 950 = .ok (.aload_n 0, 1) := by decide +kernel
theorem dL_law_951 : decode cL_law 951 = .ok (.iload_n 3, 1) := by decide +kernel
theorem dL_law_952 : decode cL_law 952 = .ok (.iconst 1, 1) := by decide +kernel
theorem dL_law_953 : decode cL_law 953 = .ok (.iadd, 1) := by decide +kernel
theorem dL_law_954 : decode cL_law 954 = .ok (.iaload, 1) := by decide +kernel
theorem dL_law_955 : decode cL_law 955 = .ok (.aload_n 0, 1) := by decide +kernel
theorem dL_law_956 : decode cL_law 956 = .ok (.iload_n 3, 1) := by decide +kernel
theorem dL_law_957 : decode cL_law 957 = .ok (.iconst 2, 1) := by decide +kernel
theorem dL_law_958 : decode cL_law 958 = .ok (.iadd, 1) := by decide +kernel
theorem dL_law_959 : decode cL_law 959 = .ok (.iaload, 1) := by decide +kernel
theorem dL_law_960 : decode cL_law 960 = .ok (.invokevirtual 123, 3) := by decide +kernel
theorem dL_law_963 : decode cL_law 963 = .ok (.if_icmp .eq 146, 3) := by decide +kernel
theorem dL_law_966 : decode cL_law 966 = .ok (.iconst 0, 1) := by decide +kernel
theorem dL_law_967 : decode cL_law 967 = .ok (.ireturn, 1) := by decide +kernel
theorem dL_law_968 : decode cL_law 968 = .ok (.aload_n 1, 1) := by decide +kernel
theorem dL_law_969 : decode cL_law 969 = .ok (.invokevirtual 124, 3) := by decide +kernel
theorem dL_law_972 : decode cL_law 972 = .ok (.aload_n 2, 1) := by decide +kernel
theorem dL_law_973 : decode cL_law 973 = .ok (.invokevirtual 128, 3) := by decide +kernel
theorem dL_law_976 : decode cL_law 976 = .ok (.if_icmp .eq 133, 3) := by decide +kernel
theorem dL_law_979 : decode cL_law 979 = .ok (.iconst 0, 1) := by decide +kernel
theorem dL_law_980 : decode cL_law 980 = .ok (.ireturn, 1) := by decide +kernel
theorem dL_law_981 : decode cL_law 981 = .ok (.aload_n 1, 1) := by decide +kernel
theorem dL_law_982 : decode cL_law 982 = .ok (.aload_n 0, 1) := by decide +kernel
theorem dL_law_983 : decode cL_law 983 = .ok (.iload_n 3, 1) := by decide +kernel
theorem dL_law_984 : decode cL_law 984 = .ok (.iconst 1, 1) := by decide +kernel
theorem dL_law_985 : decode cL_law 985 = .ok (.iadd, 1) := by decide +kernel
theorem dL_law_986 : decode cL_law 986 = .ok (.iaload, 1) := by decide +kernel
theorem dL_law_987 : decode cL_law 987 = .ok (.invokevirtual 129, 3) := by decide +kernel
theorem dL_law_990 : decode cL_law 990 = .ok (.aload_n 2, 1) := by decide +kernel
theorem dL_law_991 : decode cL_law 991 = .ok (.aload_n 0, 1) := by decide +kernel
theorem dL_law_992 : decode cL_law 992 = .ok (.iload_n 3, 1) := by decide +kernel
theorem dL_law_993 : decode cL_law 993 = .ok (.iconst 1, 1) := by decide +kernel
theorem dL_law_994 : decode cL_law 994 = .ok (.iadd, 1) := by decide +kernel
theorem dL_law_995 : decode cL_law 995 = .ok (.iaload, 1) := by decide +kernel
theorem dL_law_996 : decode cL_law 996 = .ok (.invokevirtual 132, 3) := by decide +kernel
theorem dL_law_999 : decode cL_law 999 = .ok (.if_icmp .eq 110, 3) := by decide +kernel
theorem dL_law_1002 : decode cL_law 1002 = .ok (.iconst 0, 1) := by decide +kernel
theorem dL_law_1003 : decode cL_law 1003 = .ok (.ireturn, 1) := by decide +kernel
theorem dL_law_1004 : decode cL_law 1004 = .ok (.aload_n 1, 1) := by decide +kernel
theorem dL_law_1005 : decode cL_law 1005 = .ok (.aload_n 0, 1) := by decide +kernel
theorem dL_law_1006 : decode cL_law 1006 = .ok (.iload_n 3, 1) := by decide +kernel
theorem dL_law_1007 : decode cL_law 1007 = .ok (.iconst 1, 1) := by decide +kernel
theorem dL_law_1008 : decode cL_law 1008 = .ok (.iadd, 1) := by decide +kernel
theorem dL_law_1009 : decode cL_law 1009 = .ok (.iaload, 1) := by decide +kernel
theorem dL_law_1010 : decode cL_law 1010 = .ok (.aload_n 0, 1) := by decide +kernel
theorem dL_law_1011 : decode cL_law 1011 = .ok (.iload_n 3, 1) := by decide +kernel
theorem dL_law_1012 : decode cL_law 1012 = .ok (.iconst 2, 1) := by decide +kernel
theorem dL_law_1013 : decode cL_law 1013 = .ok (.iadd, 1) := by decide +kernel
theorem dL_law_1014 : decode cL_law 1014 = .ok (.iaload, 1) := by decide +kernel
theorem dL_law_1015 : decode cL_law 1015 = .ok (.invokevirtual 133, 3) := by decide +kernel
theorem dL_law_1018 : decode cL_law 1018 = .ok (.aload_n 2, 1) := by decide +kernel
theorem dL_law_1019 : decode cL_law 1019 = .ok (.aload_n 0, 1) := by decide +kernel
theorem dL_law_1020 : decode cL_law 1020 = .ok (.iload_n 3, 1) := by decide +kernel
theorem dL_law_1021 : decode cL_law 1021 = .ok (.iconst 1, 1) := by decide +kernel
theorem dL_law_1022 : decode cL_law 1022 = .ok (.iadd, 1) := by decide +kernel
theorem dL_law_1023 : decode cL_law 1023 = .ok (.iaload, 1) := by decide +kernel
theorem dL_law_1024 : decode cL_law 1024 = .ok (.aload_n 0, 1) := by decide +kernel
theorem dL_law_1025 : decode cL_law 1025 = .ok (.iload_n 3, 1) := by decide +kernel
theorem dL_law_1026 : decode cL_law 1026 = .ok (.iconst 2, 1) := by decide +kernel
theorem dL_law_1027 : decode cL_law 1027 = .ok (.iadd, 1) := by decide +kernel
theorem dL_law_1028 : decode cL_law 1028 = .ok (.iaload, 1) := by decide +kernel
theorem dL_law_1029 : decode cL_law 1029 = .ok (.invokevirtual 136, 3) := by decide +kernel
theorem dL_law_1032 : decode cL_law 1032 = .ok (.if_icmp .eq 77, 3) := by decide +kernel
theorem dL_law_1035 : decode cL_law 1035 = .ok (.iconst 0, 1) := by decide +kernel
theorem dL_law_1036 : decode cL_law 1036 = .ok (.ireturn, 1) := by decide +kernel
theorem dL_law_1037 : decode cL_law 1037 = .ok (.aload_n 1, 1) := by decide +kernel
theorem dL_law_1038 : decode cL_law 1038 = .ok (.invokevirtual 137, 3) := by decide +kernel
theorem dL_law_1041 : decode cL_law 1041 = .ok (.aload_n 2, 1) := by decide +kernel
theorem dL_law_1042 : decode cL_law 1042 = .ok (.invokevirtual 140, 3) := by decide +kernel
theorem dL_law_1045 : decode cL_law 1045 = .ok (.if_icmp .eq 64, 3) := by decide +kernel
theorem dL_law_1048 : decode cL_law 1048 = .ok (.iconst 0, 1) := by decide +kernel
theorem dL_law_1049 : decode cL_law 1049 = .ok (.ireturn, 1) := by decide +kernel
theorem dL_law_1050 : decode cL_law 1050 = .ok (.aload_n 1, 1) := by decide +kernel
theorem dL_law_1051 : decode cL_law 1051 = .ok (.aload_n 0, 1) := by decide +kernel
theorem dL_law_1052 : decode cL_law 1052 = .ok (.iload_n 3, 1) := by decide +kernel
theorem dL_law_1053 : decode cL_law 1053 = .ok (.iconst 1, 1) := by decide +kernel
theorem dL_law_1054 : decode cL_law 1054 = .ok (.iadd, 1) := by decide +kernel
theorem dL_law_1055 : decode cL_law 1055 = .ok (.iaload, 1) := by decide +kernel
theorem dL_law_1056 : decode cL_law 1056 = .ok (.invokevirtual 141, 3) := by decide +kernel
theorem dL_law_1059 : decode cL_law 1059 = .ok (.aload_n 2, 1) := by decide +kernel
theorem dL_law_1060 : decode cL_law 1060 = .ok (.aload_n 0, 1) := by decide +kernel
theorem dL_law_1061 : decode cL_law 1061 = .ok (.iload_n 3, 1) := by decide +kernel
theorem dL_law_1062 : decode cL_law 1062 = .ok (.iconst 1, 1) := by decide +kernel
theorem dL_law_1063 : decode cL_law 1063 = .ok (.iadd, 1) := by decide +kernel
theorem dL_law_1064 : decode cL_law 1064 = .ok (.iaload, 1) := by decide +kernel
theorem dL_law_1065 : decode cL_law 1065 = .ok (.invokevirtual 144, 3) := by decide +kernel
theorem dL_law_1068 : decode cL_law 1068 = .ok (.if_icmp .eq 41, 3) := by decide +kernel
theorem dL_law_1071 : decode cL_law 1071 = .ok (.iconst 0, 1) := by decide +kernel
theorem dL_law_1072 : decode cL_law 1072 = .ok (.ireturn, 1) := by decide +kernel
theorem dL_law_1073 : decode cL_law 1073 = .ok (.aload_n 1, 1) := by decide +kernel
theorem dL_law_1074 : decode cL_law 1074 = .ok (.invokevirtual 145, 3) := by decide +kernel
theorem dL_law_1077 : decode cL_law 1077 = .ok (.aload_n 2, 1) := by decide +kernel
theorem dL_law_1078 : decode cL_law 1078 = .ok (.invokevirtual 148, 3) := by decide +kernel
theorem dL_law_1081 : decode cL_law 1081 = .ok (.if_icmp .eq 28, 3) := by decide +kernel
theorem dL_law_1084 : decode cL_law 1084 = .ok (.iconst 0, 1) := by decide +kernel
theorem dL_law_1085 : decode cL_law 1085 = .ok (.ireturn, 1) := by decide +kernel
theorem dL_law_1086 : decode cL_law 1086 = .ok (.aload_n 1, 1) := by decide +kernel
theorem dL_law_1087 : decode cL_law 1087 = .ok (.aload_n 0, 1) := by decide +kernel
theorem dL_law_1088 : decode cL_law 1088 = .ok (.iload_n 3, 1) := by decide +kernel
theorem dL_law_1089 : decode cL_law 1089 = .ok (.iconst 1, 1) := by decide +kernel
theorem dL_law_1090 : decode cL_law 1090 = .ok (.iadd, 1) := by decide +kernel
theorem dL_law_1091 : decode cL_law 1091 = .ok (.iaload, 1) := by decide +kernel
theorem dL_law_1092 : decode cL_law 1092 = .ok (.invokevirtual 149, 3) := by decide +kernel
theorem dL_law_1095 : decode cL_law 1095 = .ok (.aload_n 2, 1) := by decide +kernel
theorem dL_law_1096 : decode cL_law 1096 = .ok (.aload_n 0, 1) := by decide +kernel
theorem dL_law_1097 : decode cL_law 1097 = .ok (.iload_n 3, 1) := by decide +kernel
theorem dL_law_1098 : decode cL_law 1098 = .ok (.iconst 1, 1) := by decide +kernel
theorem dL_law_1099 : decode cL_law 1099 = .ok (.iadd, 1) := by decide +kernel
theorem dL_law_1100 : decode cL_law 1100 = .ok (.iaload, 1) := by decide +kernel
theorem dL_law_1101 : decode cL_law 1101 = .ok (.invokevirtual 152, 3) := by decide +kernel
theorem dL_law_1104 : decode cL_law 1104 = .ok (.if_icmp .eq 5, 3) := by decide +kernel
theorem dL_law_1107 : decode cL_law 1107 = .ok (.iconst 0, 1) := by decide +kernel
theorem dL_law_1108 : decode cL_law 1108 = .ok (.ireturn, 1) := by decide +kernel
theorem dL_law_1109 : decode cL_law 1109 = .ok (.iinc 3 6, 3) := by decide +kernel
theorem dL_law_1112 : decode cL_law 1112 = .ok (.goto (-1094), 3) := by decide +kernel
theorem dL_law_1115 : decode cL_law 1115 = .ok (.iconst 1, 1) := by decide +kernel
theorem dL_law_1116 : decode cL_law 1116 = .ok (.ireturn, 1) := by decide +kernel
