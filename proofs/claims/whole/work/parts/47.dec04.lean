theorem dX10_found_215 : decode cX10_found 215 = .ok (.iadd, 1) := by decide +kernel
theorem dX10_found_216 : decode cX10_found 216 = .ok (.iaload, 1) := by decide +kernel
theorem dX10_found_217 : decode cX10_found 217 = .ok (.iastore, 1) := by decide +kernel
theorem dX10_found_218 : decode cX10_found 218 = .ok (.iinc 3 1, 3) := by decide +kernel
theorem dX10_found_221 : decode cX10_found 221 = .ok (.goto (-32), 3) := by decide +kernel
theorem dX10_found_224 : decode cX10_found 224 = .ok (.aload_n 0, 1) := by decide +kernel
theorem dX10_found_225 : decode cX10_found 225 = .ok (.dup, 1) := by decide +kernel
theorem dX10_found_226 : decode cX10_found 226 = .ok (.getfield 90, 3) := by decide +kernel
theorem dX10_found_229 : decode cX10_found 229 = .ok (.iconst 1, 1) := by decide +kernel
theorem dX10_found_230 : decode cX10_found 230 = .ok (.iadd, 1) := by decide +kernel
theorem dX10_found_231 : decode cX10_found 231 = .ok (.putfield 90, 3) := by decide +kernel
theorem dX10_found_234 : decode cX10_found 234 = .ok (.return_, 1) := by decide +kernel
theorem dX10_isAhead_0 : decode cX10_isAhead 0 = .ok (.aload_n 0, 1) := by decide +kernel
theorem dX10_isAhead_1 : decode cX10_isAhead 1 = .ok (.getfield 26, 3) := by decide +kernel
theorem dX10_isAhead_4 : decode cX10_isAhead 4 = .ok (.iload_n 1, 1) := by decide +kernel
theorem dX10_isAhead_5 : decode cX10_isAhead 5 = .ok (.iaload, 1) := by decide +kernel
theorem dX10_isAhead_6 : decode cX10_isAhead 6 = .ok (.aload_n 0, 1) := by decide +kernel
theorem dX10_isAhead_7 : decode cX10_isAhead 7 = .ok (.getfield 36, 3) := by decide +kernel
theorem dX10_isAhead_10 : decode cX10_isAhead 10 = .ok (.iload_n 2, 1) := by decide +kernel
theorem dX10_isAhead_11 : decode cX10_isAhead 11 = .ok (.iaload, 1) := by decide +kernel
theorem dX10_isAhead_12 : decode cX10_isAhead 12 = .ok (.if_icmp .eq 24, 3) := by decide +kernel
theorem dX10_isAhead_15 : decode cX10_isAhead 15 = .ok (.aload_n 0, 1) := by decide +kernel
theorem dX10_isAhead_16 : decode cX10_isAhead 16 = .ok (.getfield 26, 3) := by decide +kernel
theorem dX10_isAhead_19 : decode cX10_isAhead 19 = .ok (.iload_n 1, 1) := by decide +kernel
theorem dX10_isAhead_20 : decode cX10_isAhead 20 = .ok (.iaload, 1) := by decide +kernel
theorem dX10_isAhead_21 : decode cX10_isAhead 21 = .ok (.aload_n 0, 1) := by decide +kernel
theorem dX10_isAhead_22 : decode cX10_isAhead 22 = .ok (.getfield 36, 3) := by decide +kernel
theorem dX10_isAhead_25 : decode cX10_isAhead 25 = .ok (.iload_n 2, 1) := by decide +kernel
theorem dX10_isAhead_26 : decode cX10_isAhead 26 = .ok (.iaload, 1) := by decide +kernel
theorem dX10_isAhead_27 : decode cX10_isAhead 27 = .ok (.if_icmp .ge 7, 3) := by decide +kernel
theorem dX10_isAhead_30 : decode cX10_isAhead 30 = .ok (.iconst 1, 1) := by decide +kernel
theorem dX10_isAhead_31 : decode cX10_isAhead 31 = .ok (.goto 4, 3) := by decide +kernel
theorem dX10_isAhead_34 : decode cX10_isAhead 34 = .ok (.iconst 0, 1) := by decide +kernel
theorem dX10_isAhead_35 : decode cX10_isAhead 35 = .ok (.ireturn, 1) := by decide +kernel
theorem dX10_isAhead_36 : decode cX10_isAhead 36 = .ok (.bipush 40, 2) := by decide +kernel
theorem dX10_isAhead_38 : decode cX10_isAhead 38 = .ok (.istore_n 3, 1) := by decide +kernel
theorem dX10_isAhead_39 : decode cX10_isAhead 39 = .ok (.iload_n 3, 1) := by decide +kernel
theorem dX10_isAhead_40 : decode cX10_isAhead 40 = .ok (.ifCond .lt 56, 3) := by decide +kernel
theorem dX10_isAhead_43 : decode cX10_isAhead 43 = .ok (.aload_n 0, 1) := by decide +kernel
theorem dX10_isAhead_44 : decode cX10_isAhead 44 = .ok (.getfield 23, 3) := by decide +kernel
theorem dX10_isAhead_47 : decode cX10_isAhead 47 = .ok (.sipush 200, 3) := by decide +kernel
theorem dX10_isAhead_50 : decode cX10_isAhead 50 = .ok (.iload_n 1, 1) := by decide +kernel
theorem dX10_isAhead_51 : decode cX10_isAhead 51 = .ok (.imul, 1) := by decide +kernel
theorem dX10_isAhead_52 : decode cX10_isAhead 52 = .ok (.iload_n 3, 1) := by decide +kernel
theorem dX10_isAhead_53 : decode cX10_isAhead 53 = .ok (.iadd, 1) := by decide +kernel
theorem dX10_isAhead_54 : decode cX10_isAhead 54 = .ok (.iaload, 1) := by decide +kernel
theorem dX10_isAhead_55 : decode cX10_isAhead 55 = .ok (.istore 4, 2) := by decide +kernel
theorem dX10_isAhead_57 : decode cX10_isAhead 57 = .ok (.aload_n 0, 1) := by decide +kernel
theorem dX10_isAhead_58 : decode cX10_isAhead 58 = .ok (.getfield 42, 3) := by decide +kernel
theorem dX10_isAhead_61 : decode cX10_isAhead 61 = .ok (.bipush 41, 2) := by decide +kernel
theorem dX10_isAhead_63 : decode cX10_isAhead 63 = .ok (.iload_n 2, 1) := by decide +kernel
theorem dX10_isAhead_64 : decode cX10_isAhead 64 = .ok (.imul, 1) := by decide +kernel
theorem dX10_isAhead_65 : decode cX10_isAhead 65 = .ok (.iload_n 3, 1) := by decide +kernel
theorem dX10_isAhead_66 : decode cX10_isAhead 66 = .ok (.iadd, 1) := by decide +kernel
theorem dX10_isAhead_67 : decode cX10_isAhead 67 = .ok (.iaload, 1) := by decide +kernel
theorem dX10_isAhead_68 : decode cX10_isAhead 68 = .ok (.istore 5, 2) := by decide +kernel
theorem dX10_isAhead_70 : decode cX10_isAhead 70 = .ok (.iload 4, 2) := by decide +kernel
theorem dX10_isAhead_72 : decode cX10_isAhead 72 = .ok (.iload 5, 2) := by decide +kernel
theorem dX10_isAhead_74 : decode cX10_isAhead 74 = .ok (.if_icmp .eq 16, 3) := by decide +kernel
theorem dX10_isAhead_77 : decode cX10_isAhead 77 = .ok (.iload 4, 2) := by decide +kernel
theorem dX10_isAhead_79 : decode cX10_isAhead 79 = .ok (.iload 5, 2) := by decide +kernel
theorem dX10_isAhead_81 : decode cX10_isAhead 81 = .ok (.if_icmp .ge 7, 3) := by decide +kernel
theorem dX10_isAhead_84 : decode cX10_isAhead 84 = .ok (.iconst 1, 1) := by decide +kernel
theorem dX10_isAhead_85 : decode cX10_isAhead 85 = .ok (.goto 4, 3) := by decide +kernel
theorem dX10_isAhead_88 : decode cX10_isAhead 88 = .ok (.iconst 0, 1) := by decide +kernel
theorem dX10_isAhead_89 : decode cX10_isAhead 89 = .ok (.ireturn, 1) := by decide +kernel
theorem dX10_isAhead_90 : decode cX10_isAhead 90 = .ok (.iinc 3 (-1), 3) := by decide +kernel
theorem dX10_isAhead_93 : decode cX10_isAhead 93 = .ok (.goto (-54), 3) := by decide +kernel
theorem dX10_isAhead_96 : decode cX10_isAhead 96 = .ok (.iconst 0, 1) := by decide +kernel
theorem dX10_isAhead_97 : decode cX10_isAhead 97 = .ok (.ireturn, 1) := by decide +kernel
theorem dX10_toFactor_0 : decode cX10_toFactor 0 = .ok (.aload_n 0, 1) := by decide +kernel
theorem dX10_toFactor_1 : decode cX10_toFactor 1 = .ok (.iload_n 2, 1) := by decide +kernel
theorem dX10_toFactor_2 : decode cX10_toFactor 2 = .ok (.iconst 0, 1) := by decide +kernel
theorem dX10_toFactor_3 : decode cX10_toFactor 3 = .ok (.invokevirtual 170, 3) := by decide +kernel
theorem dX10_toFactor_6 : decode cX10_toFactor 6 = .ok (.iconst 0, 1) := by decide +kernel
theorem dX10_toFactor_7 : decode cX10_toFactor 7 = .ok (.istore_n 3, 1) := by decide +kernel
theorem dX10_toFactor_8 : decode cX10_toFactor 8 = .ok (.iload_n 3, 1) := by decide +kernel
theorem dX10_toFactor_9 : decode cX10_toFactor 9 = .ok (.bipush 40, 2) := by decide +kernel
theorem dX10_toFactor_11 : decode cX10_toFactor 11 = .ok (.if_icmp .gt 32, 3) := by decide +kernel
theorem dX10_toFactor_14 : decode cX10_toFactor 14 = .ok (.aload_n 0, 1) := by decide +kernel
theorem dX10_toFactor_15 : decode cX10_toFactor 15 = .ok (.getfield 23, 3) := by decide +kernel
theorem dX10_toFactor_18 : decode cX10_toFactor 18 = .ok (.sipush 200, 3) := by decide +kernel
theorem dX10_toFactor_21 : decode cX10_toFactor 21 = .ok (.iload_n 2, 1) := by decide +kernel
theorem dX10_toFactor_22 : decode cX10_toFactor 22 = .ok (.imul, 1) := by decide +kernel
theorem dX10_toFactor_23 : decode cX10_toFactor 23 = .ok (.iload_n 3, 1) := by decide +kernel
theorem dX10_toFactor_24 : decode cX10_toFactor 24 = .ok (.iadd, 1) := by decide +kernel
theorem dX10_toFactor_25 : decode cX10_toFactor 25 = .ok (.aload_n 0, 1) := by decide +kernel
theorem dX10_toFactor_26 : decode cX10_toFactor 26 = .ok (.getfield 42, 3) := by decide +kernel
theorem dX10_toFactor_29 : decode cX10_toFactor 29 = .ok (.bipush 41, 2) := by decide +kernel
theorem dX10_toFactor_31 : decode cX10_toFactor 31 = .ok (.iload_n 1, 1) := by decide +kernel
theorem dX10_toFactor_32 : decode cX10_toFactor 32 = .ok (.imul, 1) := by decide +kernel
theorem dX10_toFactor_33 : decode cX10_toFactor 33 = .ok (.iload_n 3, 1) := by decide +kernel
theorem dX10_toFactor_34 : decode cX10_toFactor 34 = .ok (.iadd, 1) := by decide +kernel
theorem dX10_toFactor_35 : decode cX10_toFactor 35 = .ok (.iaload, 1) := by decide +kernel
theorem dX10_toFactor_36 : decode cX10_toFactor 36 = .ok (.iastore, 1) := by decide +kernel
theorem dX10_toFactor_37 : decode cX10_toFactor 37 = .ok (.iinc 3 1, 3) := by decide +kernel
theorem dX10_toFactor_40 : decode cX10_toFactor 40 = .ok (.goto (-32), 3) := by decide +kernel
theorem dX10_toFactor_43 : decode cX10_toFactor 43 = .ok (.aload_n 0, 1) := by decide +kernel
theorem dX10_toFactor_44 : decode cX10_toFactor 44 = .ok (.iload_n 2, 1) := by decide +kernel
theorem dX10_toFactor_45 : decode cX10_toFactor 45 = .ok (.invokevirtual 164, 3) := by decide +kernel
theorem dX10_toFactor_48 : decode cX10_toFactor 48 = .ok (.return_, 1) := by decide +kernel
theorem dX10_settle_0 : decode cX10_settle 0 = .ok (.aload_n 0, 1) := by decide +kernel
theorem dX10_settle_1 : decode cX10_settle 1 = .ok (.iconst 0, 1) := by decide +kernel
theorem dX10_settle_2 : decode cX10_settle 2 = .ok (.putfield 96, 3) := by decide +kernel
theorem dX10_settle_5 : decode cX10_settle 5 = .ok (.iconst 0, 1) := by decide +kernel
theorem dX10_settle_6 : decode cX10_settle 6 = .ok (.istore_n 1, 1) := by decide +kernel
theorem dX10_settle_7 : decode cX10_settle 7 = .ok (.iconst 0, 1) := by decide +kernel
theorem dX10_settle_8 : decode cX10_settle 8 = .ok (.istore_n 2, 1) := by decide +kernel
theorem dX10_settle_9 : decode cX10_settle 9 = .ok (.iload_n 2, 1) := by decide +kernel
theorem dX10_settle_10 : decode cX10_settle 10 = .ok (.aload_n 0, 1) := by decide +kernel
theorem dX10_settle_11 : decode cX10_settle 11 = .ok (.getfield 90, 3) := by decide +kernel
theorem dX10_settle_14 : decode cX10_settle 14 = .ok (.if_icmp .ge 107, 3) := by decide +kernel
theorem dX10_settle_17 : decode cX10_settle 17 = .ok (.aload_n 0, 1) := by decide +kernel
theorem dX10_settle_18 : decode cX10_settle 18 = .ok (.iload_n 2, 1) := by decide +kernel
theorem dX10_settle_19 : decode cX10_settle 19 = .ok (.bipush 21, 2) := by decide +kernel
theorem dX10_settle_21 : decode cX10_settle 21 = .ok (.invokevirtual 239, 3) := by decide +kernel
theorem dX10_settle_24 : decode cX10_settle 24 = .ok (.aload_n 0, 1) := by decide +kernel
theorem dX10_settle_25 : decode cX10_settle 25 = .ok (.getfield 39, 3) := by decide +kernel
theorem dX10_settle_28 : decode cX10_settle 28 = .ok (.iload_n 2, 1) := by decide +kernel
theorem dX10_settle_29 : decode cX10_settle 29 = .ok (.iconst 0, 1) := by decide +kernel
theorem dX10_settle_30 : decode cX10_settle 30 = .ok (.iastore, 1) := by decide +kernel
theorem dX10_settle_31 : decode cX10_settle 31 = .ok (.aload_n 0, 1) := by decide +kernel
theorem dX10_settle_32 : decode cX10_settle 32 = .ok (.bipush 20, 2) := by decide +kernel
theorem dX10_settle_34 : decode cX10_settle 34 = .ok (.bipush 22, 2) := by decide +kernel
theorem dX10_settle_36 : decode cX10_settle 36 = .ok (.invokevirtual 167, 3) := by decide +kernel
theorem dX10_settle_39 : decode cX10_settle 39 = .ok (.aload_n 0, 1) := by decide +kernel
theorem dX10_settle_40 : decode cX10_settle 40 = .ok (.bipush 22, 2) := by decide +kernel
theorem dX10_settle_42 : decode cX10_settle 42 = .ok (.bipush 21, 2) := by decide +kernel
theorem dX10_settle_44 : decode cX10_settle 44 = .ok (.bipush 23, 2) := by decide +kernel
theorem dX10_settle_46 : decode cX10_settle 46 = .ok (.bipush 24, 2) := by decide +kernel
theorem dX10_settle_48 : decode cX10_settle 48 = .ok (.invokevirtual 176, 3) := by decide +kernel
theorem dX10_settle_51 : decode cX10_settle 51 = .ok (.aload_n 0, 1) := by decide +kernel
theorem dX10_settle_52 : decode cX10_settle 52 = .ok (.getfield 26, 3) := by decide +kernel
theorem dX10_settle_55 : decode cX10_settle 55 = .ok (.bipush 24, 2) := by decide +kernel
theorem dX10_settle_57 : decode cX10_settle 57 = .ok (.iaload, 1) := by decide +kernel
theorem dX10_settle_58 : decode cX10_settle 58 = .ok (.ifCond .ge 36, 3) := by decide +kernel
theorem dX10_settle_61 : decode cX10_settle 61 = .ok (.aload_n 0, 1) := by decide +kernel
theorem dX10_settle_62 : decode cX10_settle 62 = .ok (.getfield 39, 3) := by decide +kernel
theorem dX10_settle_65 : decode cX10_settle 65 = .ok (.iload_n 2, 1) := by decide +kernel
theorem dX10_settle_66 : decode cX10_settle 66 = .ok (.dup2, 1) := by decide +kernel
theorem dX10_settle_67 : decode cX10_settle 67 = .ok (.iaload, 1) := by decide +kernel
theorem dX10_settle_68 : decode cX10_settle 68 = .ok (.iconst 1, 1) := by decide +kernel
theorem dX10_settle_69 : decode cX10_settle 69 = .ok (.iadd, 1) := by decide +kernel
theorem dX10_settle_70 : decode cX10_settle 70 = .ok (.iastore, 1) := by decide +kernel
theorem dX10_settle_71 : decode cX10_settle 71 = .ok (.aload_n 0, 1) := by decide +kernel
theorem dX10_settle_72 : decode cX10_settle 72 = .ok (.bipush 23, 2) := by decide +kernel
theorem dX10_settle_74 : decode cX10_settle 74 = .ok (.bipush 22, 2) := by decide +kernel
theorem dX10_settle_76 : decode cX10_settle 76 = .ok (.invokevirtual 167, 3) := by decide +kernel
theorem dX10_settle_79 : decode cX10_settle 79 = .ok (.aload_n 0, 1) := by decide +kernel
theorem dX10_settle_80 : decode cX10_settle 80 = .ok (.bipush 22, 2) := by decide +kernel
theorem dX10_settle_82 : decode cX10_settle 82 = .ok (.bipush 21, 2) := by decide +kernel
theorem dX10_settle_84 : decode cX10_settle 84 = .ok (.bipush 23, 2) := by decide +kernel
theorem dX10_settle_86 : decode cX10_settle 86 = .ok (.bipush 24, 2) := by decide +kernel
theorem dX10_settle_88 : decode cX10_settle 88 = .ok (.invokevirtual 176, 3) := by decide +kernel
theorem dX10_settle_91 : decode cX10_settle 91 = .ok (.goto (-40), 3) := by decide +kernel
theorem dX10_settle_94 : decode cX10_settle 94 = .ok (.aload_n 0, 1) := by decide +kernel
theorem dX10_settle_95 : decode cX10_settle 95 = .ok (.getfield 39, 3) := by decide +kernel
theorem dX10_settle_98 : decode cX10_settle 98 = .ok (.iload_n 2, 1) := by decide +kernel
theorem dX10_settle_99 : decode cX10_settle 99 = .ok (.iaload, 1) := by decide +kernel
theorem dX10_settle_100 : decode cX10_settle 100 = .ok (.iload_n 1, 1) := by decide +kernel
theorem dX10_settle_101 : decode cX10_settle 101 = .ok (.if_icmp .le 12, 3) := by decide +kernel
theorem dX10_settle_104 : decode cX10_settle 104 = .ok (.aload_n 0, 1) := by decide +kernel
theorem dX10_settle_105 : decode cX10_settle 105 = .ok (.getfield 39, 3) := by decide +kernel
theorem dX10_settle_108 : decode cX10_settle 108 = .ok (.iload_n 2, 1) := by decide +kernel
theorem dX10_settle_109 : decode cX10_settle 109 = .ok (.iaload, 1) := by decide +kernel
theorem dX10_settle_110 : decode cX10_settle 110 = .ok (.goto 4, 3) := by decide +kernel
theorem dX10_settle_113 : decode cX10_settle 113 = .ok (.iload_n 1, 1) := by decide +kernel
theorem dX10_settle_114 : decode cX10_settle 114 = .ok (.istore_n 1, 1) := by decide +kernel
theorem dX10_settle_115 : decode cX10_settle 115 = .ok (.iinc 2 1, 3) := by decide +kernel
theorem dX10_settle_118 : decode cX10_settle 118 = .ok (.goto (-109), 3) := by decide +kernel
theorem dX10_settle_121 : decode cX10_settle 121 = .ok (.aload_n 0, 1) := by decide +kernel
theorem dX10_settle_122 : decode cX10_settle 122 = .ok (.getfield 90, 3) := by decide +kernel
theorem dX10_settle_125 : decode cX10_settle 125 = .ok (.iconst 1, 1) := by decide +kernel
theorem dX10_settle_126 : decode cX10_settle 126 = .ok (.isub, 1) := by decide +kernel
theorem dX10_settle_127 : decode cX10_settle 127 = .ok (.istore_n 2, 1) := by decide +kernel
theorem dX10_settle_128 : decode cX10_settle 128 = .ok (.iload_n 2, 1) := by decide +kernel
theorem dX10_settle_129 : decode cX10_settle 129 = .ok (.ifCond .lt 103, 3) := by decide +kernel
theorem dX10_settle_132 : decode cX10_settle 132 = .ok (.aload_n 0, 1) := by decide +kernel
theorem dX10_settle_133 : decode cX10_settle 133 = .ok (.getfield 36, 3) := by decide +kernel
theorem dX10_settle_136 : decode cX10_settle 136 = .ok (.iload_n 2, 1) := by decide +kernel
theorem dX10_settle_137 : decode cX10_settle 137 = .ok (.iaload, 1) := by decide +kernel
theorem dX10_settle_138 : decode cX10_settle 138 = .ok (.iconst 1, 1) := by decide +kernel
theorem dX10_settle_139 : decode cX10_settle 139 = .ok (.if_icmp .ne 87, 3) := by decide +kernel
theorem dX10_settle_142 : decode cX10_settle 142 = .ok (.aload_n 0, 1) := by decide +kernel
theorem dX10_settle_143 : decode cX10_settle 143 = .ok (.getfield 78, 3) := by decide +kernel
theorem dX10_settle_146 : decode cX10_settle 146 = .ok (.aload_n 0, 1) := by decide +kernel
theorem dX10_settle_147 : decode cX10_settle 147 = .ok (.getfield 42, 3) := by decide +kernel
theorem dX10_settle_150 : decode cX10_settle 150 = .ok (.bipush 41, 2) := by decide +kernel
theorem dX10_settle_152 : decode cX10_settle 152 = .ok (.iload_n 2, 1) := by decide +kernel
theorem dX10_settle_153 : decode cX10_settle 153 = .ok (.imul, 1) := by decide +kernel
theorem dX10_settle_154 : decode cX10_settle 154 = .ok (.iaload, 1) := by decide +kernel
theorem dX10_settle_155 : decode cX10_settle 155 = .ok (.isub, 1) := by decide +kernel
theorem dX10_settle_156 : decode cX10_settle 156 = .ok (.aload_n 0, 1) := by decide +kernel
theorem dX10_settle_157 : decode cX10_settle 157 = .ok (.getfield 78, 3) := by decide +kernel
theorem dX10_settle_160 : decode cX10_settle 160 = .ok (.irem, 1) := by decide +kernel
theorem dX10_settle_161 : decode cX10_settle 161 = .ok (.istore_n 3, 1) := by decide +kernel
theorem dX10_settle_162 : decode cX10_settle 162 = .ok (.aload_n 0, 1) := by decide +kernel
theorem dX10_settle_163 : decode cX10_settle 163 = .ok (.getfield 96, 3) := by decide +kernel
theorem dX10_settle_166 : decode cX10_settle 166 = .ok (.istore 4, 2) := by decide +kernel
theorem dX10_settle_168 : decode cX10_settle 168 = .ok (.iload 4, 2) := by decide +kernel
theorem dX10_settle_170 : decode cX10_settle 170 = .ok (.ifCond .le 38, 3) := by decide +kernel
theorem dX10_settle_173 : decode cX10_settle 173 = .ok (.aload_n 0, 1) := by decide +kernel
theorem dX10_settle_174 : decode cX10_settle 174 = .ok (.getfield 54, 3) := by decide +kernel
theorem dX10_settle_177 : decode cX10_settle 177 = .ok (.iload 4, 2) := by decide +kernel
theorem dX10_settle_179 : decode cX10_settle 179 = .ok (.iconst 1, 1) := by decide +kernel
theorem dX10_settle_180 : decode cX10_settle 180 = .ok (.isub, 1) := by decide +kernel
theorem dX10_settle_181 : decode cX10_settle 181 = .ok (.iaload, 1) := by decide +kernel
theorem dX10_settle_182 : decode cX10_settle 182 = .ok (.iload_n 3, 1) := by decide +kernel
theorem dX10_settle_183 : decode cX10_settle 183 = .ok (.if_icmp .le 25, 3) := by decide +kernel
theorem dX10_settle_186 : decode cX10_settle 186 = .ok (.aload_n 0, 1) := by decide +kernel
theorem dX10_settle_187 : decode cX10_settle 187 = .ok (.getfield 54, 3) := by decide +kernel
theorem dX10_settle_190 : decode cX10_settle 190 = .ok (.iload 4, 2) := by decide +kernel
theorem dX10_settle_192 : decode cX10_settle 192 = .ok (.aload_n 0, 1) := by decide +kernel
theorem dX10_settle_193 : decode cX10_settle 193 = .ok (.getfield 54, 3) := by decide +kernel
theorem dX10_settle_196 : decode cX10_settle 196 = .ok (.iload 4, 2) := by decide +kernel
theorem dX10_settle_198 : decode cX10_settle 198 = .ok (.iconst 1, 1) := by decide +kernel
theorem dX10_settle_199 : decode cX10_settle 199 = .ok (.isub, 1) := by decide +kernel
theorem dX10_settle_200 : decode cX10_settle 200 = .ok (.iaload, 1) := by decide +kernel
theorem dX10_settle_201 : decode cX10_settle 201 = .ok (.iastore, 1) := by decide +kernel
theorem dX10_settle_202 : decode cX10_settle 202 = .ok (.iinc 4 (-1), 3) := by decide +kernel
theorem dX10_settle_205 : decode cX10_settle 205 = .ok (.goto (-37), 3) := by decide +kernel
theorem dX10_settle_208 : decode cX10_settle 208 = .ok (.aload_n 0, 1) := by decide +kernel
theorem dX10_settle_209 : decode cX10_settle 209 = .ok (.getfield 54, 3) := by decide +kernel
theorem dX10_settle_212 : decode cX10_settle 212 = .ok (.iload 4, 2) := by decide +kernel
theorem dX10_settle_214 : decode cX10_settle 214 = .ok (.iload_n 3, 1) := by decide +kernel
theorem dX10_settle_215 : decode cX10_settle 215 = .ok (.iastore, 1) := by decide +kernel
theorem dX10_settle_216 : decode cX10_settle 216 = .ok (.aload_n 0, 1) := by decide +kernel
theorem dX10_settle_217 : decode cX10_settle 217 = .ok (.dup, 1) := by decide +kernel
theorem dX10_settle_218 : decode cX10_settle 218 = .ok (.getfield 96, 3) := by decide +kernel
theorem dX10_settle_221 : decode cX10_settle 221 = .ok (.iconst 1, 1) := by decide +kernel
theorem dX10_settle_222 : decode cX10_settle 222 = .ok (.iadd, 1) := by decide +kernel
theorem dX10_settle_223 : decode cX10_settle 223 = .ok (.putfield 96, 3) := by decide +kernel
theorem dX10_settle_226 : decode cX10_settle 226 = .ok (.iinc 2 (-1), 3) := by decide +kernel
theorem dX10_settle_229 : decode cX10_settle 229 = .ok (.goto (-101), 3) := by decide +kernel
theorem dX10_settle_232 : decode cX10_settle 232 = .ok (.aload_n 0, 1) := by decide +kernel
theorem dX10_settle_233 : decode cX10_settle 233 = .ok (.iconst 0, 1) := by decide +kernel
theorem dX10_settle_234 : decode cX10_settle 234 = .ok (.putfield 93, 3) := by decide +kernel
theorem dX10_settle_237 : decode cX10_settle 237 = .ok (.iconst 1, 1) := by decide +kernel
theorem dX10_settle_238 : decode cX10_settle 238 = .ok (.istore_n 2, 1) := by decide +kernel
theorem dX10_settle_239 : decode cX10_settle 239 = .ok (.iload_n 2, 1) := by decide +kernel
theorem dX10_settle_240 : decode cX10_settle 240 = .ok (.iload_n 1, 1) := by decide +kernel
theorem dX10_settle_241 : decode cX10_settle 241 = .ok (.if_icmp .gt 157, 3) := by decide +kernel
theorem dX10_settle_244 : decode cX10_settle 244 = .ok (.aload_n 0, 1) := by decide +kernel
theorem dX10_settle_245 : decode cX10_settle 245 = .ok (.bipush 21, 2) := by decide +kernel
theorem dX10_settle_247 : decode cX10_settle 247 = .ok (.iconst 1, 1) := by decide +kernel
theorem dX10_settle_248 : decode cX10_settle 248 = .ok (.invokevirtual 170, 3) := by decide +kernel
theorem dX10_settle_251 : decode cX10_settle 251 = .ok (.iconst 0, 1) := by decide +kernel
theorem dX10_settle_252 : decode cX10_settle 252 = .ok (.istore_n 3, 1) := by decide +kernel
theorem dX10_settle_253 : decode cX10_settle 253 = .ok (.iconst 0, 1) := by decide +kernel
theorem dX10_settle_254 : decode cX10_settle 254 = .ok (.istore 4, 2) := by decide +kernel
theorem dX10_settle_256 : decode cX10_settle 256 = .ok (.iload 4, 2) := by decide +kernel
theorem dX10_settle_258 : decode cX10_settle 258 = .ok (.aload_n 0, 1) := by decide +kernel
theorem dX10_settle_259 : decode cX10_settle 259 = .ok (.getfield 90, 3) := by decide +kernel
theorem dX10_settle_262 : decode cX10_settle 262 = .ok (.if_icmp .ge 48, 3) := by decide +kernel
theorem dX10_settle_265 : decode cX10_settle 265 = .ok (.aload_n 0, 1) := by decide +kernel
theorem dX10_settle_266 : decode cX10_settle 266 = .ok (.getfield 39, 3) := by decide +kernel
theorem dX10_settle_269 : decode cX10_settle 269 = .ok (.iload 4, 2) := by decide +kernel
theorem dX10_settle_271 : decode cX10_settle 271 = .ok (.iaload, 1) := by decide +kernel
theorem dX10_settle_272 : decode cX10_settle 272 = .ok (.iload_n 2, 1) := by decide +kernel
theorem dX10_settle_273 : decode cX10_settle 273 = .ok (.if_icmp .ne 31, 3) := by decide +kernel
theorem dX10_settle_276 : decode cX10_settle 276 = .ok (.aload_n 0, 1) := by decide +kernel
theorem dX10_settle_277 : decode cX10_settle 277 = .ok (.iload 4, 2) := by decide +kernel
theorem dX10_settle_279 : decode cX10_settle 279 = .ok (.bipush 22, 2) := by decide +kernel
theorem dX10_settle_281 : decode cX10_settle 281 = .ok (.invokevirtual 239, 3) := by decide +kernel
theorem dX10_settle_284 : decode cX10_settle 284 = .ok (.aload_n 0, 1) := by decide +kernel
theorem dX10_settle_285 : decode cX10_settle 285 = .ok (.bipush 21, 2) := by decide +kernel
theorem dX10_settle_287 : decode cX10_settle 287 = .ok (.bipush 22, 2) := by decide +kernel
theorem dX10_settle_289 : decode cX10_settle 289 = .ok (.bipush 23, 2) := by decide +kernel
theorem dX10_settle_291 : decode cX10_settle 291 = .ok (.invokevirtual 189, 3) := by decide +kernel
theorem dX10_settle_294 : decode cX10_settle 294 = .ok (.aload_n 0, 1) := by decide +kernel
theorem dX10_settle_295 : decode cX10_settle 295 = .ok (.bipush 23, 2) := by decide +kernel
theorem dX10_settle_297 : decode cX10_settle 297 = .ok (.bipush 21, 2) := by decide +kernel
theorem dX10_settle_299 : decode cX10_settle 299 = .ok (.invokevirtual 167, 3) := by decide +kernel
theorem dX10_settle_302 : decode cX10_settle 302 = .ok (.iconst 1, 1) := by decide +kernel
theorem dX10_settle_303 : decode cX10_settle 303 = .ok (.istore_n 3, 1) := by decide +kernel
theorem dX10_settle_304 : decode cX10_settle 304 = .ok (.iinc 4 1, 3) := by decide +kernel
theorem dX10_settle_307 : decode cX10_settle 307 = .ok (.goto (-51), 3) := by decide +kernel
theorem dX10_settle_310 : decode cX10_settle 310 = .ok (.iload_n 3, 1) := by decide +kernel
theorem dX10_settle_311 : decode cX10_settle 311 = .ok (.ifCond .eq 81, 3) := by decide +kernel
theorem dX10_settle_314 : decode cX10_settle 314 = .ok (.aload_n 0, 1) := by decide +kernel
theorem dX10_settle_315 : decode cX10_settle 315 = .ok (.getfield 45, 3) := by decide +kernel
theorem dX10_settle_318 : decode cX10_settle 318 = .ok (.aload_n 0, 1) := by decide +kernel
theorem dX10_settle_319 : decode cX10_settle 319 = .ok (.getfield 93, 3) := by decide +kernel
theorem dX10_settle_322 : decode cX10_settle 322 = .ok (.iload_n 2, 1) := by decide +kernel
theorem dX10_settle_323 : decode cX10_settle 323 = .ok (.iastore, 1) := by decide +kernel
theorem dX10_settle_324 : decode cX10_settle 324 = .ok (.aload_n 0, 1) := by decide +kernel
theorem dX10_settle_325 : decode cX10_settle 325 = .ok (.getfield 48, 3) := by decide +kernel
theorem dX10_settle_328 : decode cX10_settle 328 = .ok (.aload_n 0, 1) := by decide +kernel
theorem dX10_settle_329 : decode cX10_settle 329 = .ok (.getfield 93, 3) := by decide +kernel
theorem dX10_settle_332 : decode cX10_settle 332 = .ok (.aload_n 0, 1) := by decide +kernel
theorem dX10_settle_333 : decode cX10_settle 333 = .ok (.getfield 26, 3) := by decide +kernel
theorem dX10_settle_336 : decode cX10_settle 336 = .ok (.bipush 21, 2) := by decide +kernel
theorem dX10_settle_338 : decode cX10_settle 338 = .ok (.iaload, 1) := by decide +kernel
theorem dX10_settle_339 : decode cX10_settle 339 = .ok (.iastore, 1) := by decide +kernel
theorem dX10_settle_340 : decode cX10_settle 340 = .ok (.iconst 0, 1) := by decide +kernel
theorem dX10_settle_341 : decode cX10_settle 341 = .ok (.istore 4, 2) := by decide +kernel
theorem dX10_settle_343 : decode cX10_settle 343 = .ok (.iload 4, 2) := by decide +kernel
theorem dX10_settle_345 : decode cX10_settle 345 = .ok (.bipush 40, 2) := by decide +kernel
theorem dX10_settle_347 : decode cX10_settle 347 = .ok (.if_icmp .gt 35, 3) := by decide +kernel
theorem dX10_settle_350 : decode cX10_settle 350 = .ok (.aload_n 0, 1) := by decide +kernel
theorem dX10_settle_351 : decode cX10_settle 351 = .ok (.getfield 51, 3) := by decide +kernel
theorem dX10_settle_354 : decode cX10_settle 354 = .ok (.bipush 41, 2) := by decide +kernel
theorem dX10_settle_356 : decode cX10_settle 356 = .ok (.aload_n 0, 1) := by decide +kernel
theorem dX10_settle_357 : decode cX10_settle 357 = .ok (.getfield 93, 3) := by decide +kernel
theorem dX10_settle_360 : decode cX10_settle 360 = .ok (.imul, 1) := by decide +kernel
theorem dX10_settle_361 : decode cX10_settle 361 = .ok (.iload 4, 2) := by decide +kernel
theorem dX10_settle_363 : decode cX10_settle 363 = .ok (.iadd, 1) := by decide +kernel
theorem dX10_settle_364 : decode cX10_settle 364 = .ok (.aload_n 0, 1) := by decide +kernel
theorem dX10_settle_365 : decode cX10_settle 365 = .ok (.getfield 23, 3) := by decide +kernel
theorem dX10_settle_368 : decode cX10_settle 368 = .ok (.sipush 4200, 3) := by decide +kernel
theorem dX10_settle_371 : decode cX10_settle 371 = .ok (.iload 4, 2) := by decide +kernel
theorem dX10_settle_373 : decode cX10_settle 373 = .ok (.iadd, 1) := by decide +kernel
theorem dX10_settle_374 : decode cX10_settle 374 = .ok (.iaload, 1) := by decide +kernel
theorem dX10_settle_375 : decode cX10_settle 375 = .ok (.iastore, 1) := by decide +kernel
theorem dX10_settle_376 : decode cX10_settle 376 = .ok (.iinc 4 1, 3) := by decide +kernel
theorem dX10_settle_379 : decode cX10_settle 379 = .ok (.goto (-36), 3) := by decide +kernel
theorem dX10_settle_382 : decode cX10_settle 382 = .ok (.aload_n 0, 1) := by decide +kernel
theorem dX10_settle_383 : decode cX10_settle 383 = .ok (.dup, 1) := by decide +kernel
theorem dX10_settle_384 : decode cX10_settle 384 = .ok (.getfield 93, 3) := by decide +kernel
theorem dX10_settle_387 : decode cX10_settle 387 = .ok (.iconst 1, 1) := by decide +kernel
theorem dX10_settle_388 : decode cX10_settle 388 = .ok (.iadd, 1) := by decide +kernel
theorem dX10_settle_389 : decode cX10_settle 389 = .ok (.putfield 93, 3) := by decide +kernel
theorem dX10_settle_392 : decode cX10_settle 392 = .ok (.iinc 2 1, 3) := by decide +kernel
theorem dX10_settle_395 : decode cX10_settle 395 = .ok (.goto (-156), 3) := by decide +kernel
theorem dX10_settle_398 : decode cX10_settle 398 = .ok (.return_, 1) := by decide +kernel
