theorem dX10_part_44 : decode cX10_part 44 = .ok (.iconst 1, 1) := by decide +kernel
theorem dX10_part_45 : decode cX10_part 45 = .ok (.isub, 1) := by decide +kernel
theorem dX10_part_46 : decode cX10_part 46 = .ok (.iload_n 2, 1) := by decide +kernel
theorem dX10_part_47 : decode cX10_part 47 = .ok (.i2l, 1) := by decide +kernel
theorem dX10_part_48 : decode cX10_part 48 = .ok (.aload_n 0, 1) := by decide +kernel
theorem dX10_part_49 : decode cX10_part 49 = .ok (.getfield 23, 3) := by decide +kernel
theorem dX10_part_52 : decode cX10_part 52 = .ok (.sipush 200, 3) := by decide +kernel
theorem dX10_part_55 : decode cX10_part 55 = .ok (.iload_n 1, 1) := by decide +kernel
theorem dX10_part_56 : decode cX10_part 56 = .ok (.imul, 1) := by decide +kernel
theorem dX10_part_57 : decode cX10_part 57 = .ok (.iload_n 2, 1) := by decide +kernel
theorem dX10_part_58 : decode cX10_part 58 = .ok (.iadd, 1) := by decide +kernel
theorem dX10_part_59 : decode cX10_part 59 = .ok (.iaload, 1) := by decide +kernel
theorem dX10_part_60 : decode cX10_part 60 = .ok (.i2l, 1) := by decide +kernel
theorem dX10_part_61 : decode cX10_part 61 = .ok (.lmul, 1) := by decide +kernel
theorem dX10_part_62 : decode cX10_part 62 = .ok (.aload_n 0, 1) := by decide +kernel
theorem dX10_part_63 : decode cX10_part 63 = .ok (.getfield 78, 3) := by decide +kernel
theorem dX10_part_66 : decode cX10_part 66 = .ok (.i2l, 1) := by decide +kernel
theorem dX10_part_67 : decode cX10_part 67 = .ok (.lrem, 1) := by decide +kernel
theorem dX10_part_68 : decode cX10_part 68 = .ok (.l2i, 1) := by decide +kernel
theorem dX10_part_69 : decode cX10_part 69 = .ok (.iastore, 1) := by decide +kernel
theorem dX10_part_70 : decode cX10_part 70 = .ok (.iinc 2 1, 3) := by decide +kernel
theorem dX10_part_73 : decode cX10_part 73 = .ok (.goto (-48), 3) := by decide +kernel
theorem dX10_part_76 : decode cX10_part 76 = .ok (.aload_n 0, 1) := by decide +kernel
theorem dX10_part_77 : decode cX10_part 77 = .ok (.bipush 12, 2) := by decide +kernel
theorem dX10_part_79 : decode cX10_part 79 = .ok (.invokevirtual 164, 3) := by decide +kernel
theorem dX10_part_82 : decode cX10_part 82 = .ok (.aload_n 0, 1) := by decide +kernel
theorem dX10_part_83 : decode cX10_part 83 = .ok (.getfield 26, 3) := by decide +kernel
theorem dX10_part_86 : decode cX10_part 86 = .ok (.bipush 12, 2) := by decide +kernel
theorem dX10_part_88 : decode cX10_part 88 = .ok (.iaload, 1) := by decide +kernel
theorem dX10_part_89 : decode cX10_part 89 = .ok (.ifCond .ge 72, 3) := by decide +kernel
theorem dX10_part_92 : decode cX10_part 92 = .ok (.aload_n 0, 1) := by decide +kernel
theorem dX10_part_93 : decode cX10_part 93 = .ok (.bipush 13, 2) := by decide +kernel
theorem dX10_part_95 : decode cX10_part 95 = .ok (.iconst 0, 1) := by decide +kernel
theorem dX10_part_96 : decode cX10_part 96 = .ok (.invokevirtual 170, 3) := by decide +kernel
theorem dX10_part_99 : decode cX10_part 99 = .ok (.iconst 0, 1) := by decide +kernel
theorem dX10_part_100 : decode cX10_part 100 = .ok (.istore_n 2, 1) := by decide +kernel
theorem dX10_part_101 : decode cX10_part 101 = .ok (.iload_n 2, 1) := by decide +kernel
theorem dX10_part_102 : decode cX10_part 102 = .ok (.aload_n 0, 1) := by decide +kernel
theorem dX10_part_103 : decode cX10_part 103 = .ok (.getfield 26, 3) := by decide +kernel
theorem dX10_part_106 : decode cX10_part 106 = .ok (.iload_n 1, 1) := by decide +kernel
theorem dX10_part_107 : decode cX10_part 107 = .ok (.iaload, 1) := by decide +kernel
theorem dX10_part_108 : decode cX10_part 108 = .ok (.if_icmp .gt 40, 3) := by decide +kernel
theorem dX10_part_111 : decode cX10_part 111 = .ok (.aload_n 0, 1) := by decide +kernel
theorem dX10_part_112 : decode cX10_part 112 = .ok (.getfield 23, 3) := by decide +kernel
theorem dX10_part_115 : decode cX10_part 115 = .ok (.sipush 2600, 3) := by decide +kernel
theorem dX10_part_118 : decode cX10_part 118 = .ok (.iload_n 2, 1) := by decide +kernel
theorem dX10_part_119 : decode cX10_part 119 = .ok (.aload_n 0, 1) := by decide +kernel
theorem dX10_part_120 : decode cX10_part 120 = .ok (.getfield 78, 3) := by decide +kernel
theorem dX10_part_123 : decode cX10_part 123 = .ok (.idiv, 1) := by decide +kernel
theorem dX10_part_124 : decode cX10_part 124 = .ok (.iadd, 1) := by decide +kernel
theorem dX10_part_125 : decode cX10_part 125 = .ok (.aload_n 0, 1) := by decide +kernel
theorem dX10_part_126 : decode cX10_part 126 = .ok (.getfield 23, 3) := by decide +kernel
theorem dX10_part_129 : decode cX10_part 129 = .ok (.sipush 200, 3) := by decide +kernel
theorem dX10_part_132 : decode cX10_part 132 = .ok (.iload_n 1, 1) := by decide +kernel
theorem dX10_part_133 : decode cX10_part 133 = .ok (.imul, 1) := by decide +kernel
theorem dX10_part_134 : decode cX10_part 134 = .ok (.iload_n 2, 1) := by decide +kernel
theorem dX10_part_135 : decode cX10_part 135 = .ok (.iadd, 1) := by decide +kernel
theorem dX10_part_136 : decode cX10_part 136 = .ok (.iaload, 1) := by decide +kernel
theorem dX10_part_137 : decode cX10_part 137 = .ok (.iastore, 1) := by decide +kernel
theorem dX10_part_138 : decode cX10_part 138 = .ok (.iload_n 2, 1) := by decide +kernel
theorem dX10_part_139 : decode cX10_part 139 = .ok (.aload_n 0, 1) := by decide +kernel
theorem dX10_part_140 : decode cX10_part 140 = .ok (.getfield 78, 3) := by decide +kernel
theorem dX10_part_143 : decode cX10_part 143 = .ok (.iadd, 1) := by decide +kernel
theorem dX10_part_144 : decode cX10_part 144 = .ok (.istore_n 2, 1) := by decide +kernel
theorem dX10_part_145 : decode cX10_part 145 = .ok (.goto (-44), 3) := by decide +kernel
theorem dX10_part_148 : decode cX10_part 148 = .ok (.aload_n 0, 1) := by decide +kernel
theorem dX10_part_149 : decode cX10_part 149 = .ok (.bipush 13, 2) := by decide +kernel
theorem dX10_part_151 : decode cX10_part 151 = .ok (.invokevirtual 164, 3) := by decide +kernel
theorem dX10_part_154 : decode cX10_part 154 = .ok (.aload_n 0, 1) := by decide +kernel
theorem dX10_part_155 : decode cX10_part 155 = .ok (.bipush 13, 2) := by decide +kernel
theorem dX10_part_157 : decode cX10_part 157 = .ok (.invokevirtual 211, 3) := by decide +kernel
theorem dX10_part_160 : decode cX10_part 160 = .ok (.return_, 1) := by decide +kernel
theorem dX10_part_161 : decode cX10_part 161 = .ok (.aload_n 0, 1) := by decide +kernel
theorem dX10_part_162 : decode cX10_part 162 = .ok (.iload_n 1, 1) := by decide +kernel
theorem dX10_part_163 : decode cX10_part 163 = .ok (.bipush 12, 2) := by decide +kernel
theorem dX10_part_165 : decode cX10_part 165 = .ok (.bipush 13, 2) := by decide +kernel
theorem dX10_part_167 : decode cX10_part 167 = .ok (.invokevirtual 185, 3) := by decide +kernel
theorem dX10_part_170 : decode cX10_part 170 = .ok (.aload_n 0, 1) := by decide +kernel
theorem dX10_part_171 : decode cX10_part 171 = .ok (.getfield 26, 3) := by decide +kernel
theorem dX10_part_174 : decode cX10_part 174 = .ok (.bipush 13, 2) := by decide +kernel
theorem dX10_part_176 : decode cX10_part 176 = .ok (.iaload, 1) := by decide +kernel
theorem dX10_part_177 : decode cX10_part 177 = .ok (.ifCond .le 27, 3) := by decide +kernel
theorem dX10_part_180 : decode cX10_part 180 = .ok (.aload_n 0, 1) := by decide +kernel
theorem dX10_part_181 : decode cX10_part 181 = .ok (.iload_n 1, 1) := by decide +kernel
theorem dX10_part_182 : decode cX10_part 182 = .ok (.bipush 13, 2) := by decide +kernel
theorem dX10_part_184 : decode cX10_part 184 = .ok (.bipush 14, 2) := by decide +kernel
theorem dX10_part_186 : decode cX10_part 186 = .ok (.bipush 15, 2) := by decide +kernel
theorem dX10_part_188 : decode cX10_part 188 = .ok (.invokevirtual 176, 3) := by decide +kernel
theorem dX10_part_191 : decode cX10_part 191 = .ok (.aload_n 0, 1) := by decide +kernel
theorem dX10_part_192 : decode cX10_part 192 = .ok (.bipush 13, 2) := by decide +kernel
theorem dX10_part_194 : decode cX10_part 194 = .ok (.invokevirtual 211, 3) := by decide +kernel
theorem dX10_part_197 : decode cX10_part 197 = .ok (.aload_n 0, 1) := by decide +kernel
theorem dX10_part_198 : decode cX10_part 198 = .ok (.bipush 14, 2) := by decide +kernel
theorem dX10_part_200 : decode cX10_part 200 = .ok (.invokevirtual 211, 3) := by decide +kernel
theorem dX10_part_203 : decode cX10_part 203 = .ok (.return_, 1) := by decide +kernel
theorem dX10_part_204 : decode cX10_part 204 = .ok (.aload_n 0, 1) := by decide +kernel
theorem dX10_part_205 : decode cX10_part 205 = .ok (.iload_n 1, 1) := by decide +kernel
theorem dX10_part_206 : decode cX10_part 206 = .ok (.invokevirtual 226, 3) := by decide +kernel
theorem dX10_part_209 : decode cX10_part 209 = .ok (.return_, 1) := by decide +kernel
theorem dX10_plus_0 : decode cX10_plus 0 = .ok (.aload_n 0, 1) := by decide +kernel
theorem dX10_plus_1 : decode cX10_plus 1 = .ok (.iload_n 1, 1) := by decide +kernel
theorem dX10_plus_2 : decode cX10_plus 2 = .ok (.invokevirtual 118, 3) := by decide +kernel
theorem dX10_plus_5 : decode cX10_plus 5 = .ok (.ifCond .ne 5, 3) := by decide +kernel
theorem dX10_plus_8 : decode cX10_plus 8 = .ok (.iconst (-1), 1) := by decide +kernel
theorem dX10_plus_9 : decode cX10_plus 9 = .ok (.ireturn, 1) := by decide +kernel
theorem dX10_plus_10 : decode cX10_plus 10 = .ok (.iload 4, 2) := by decide +kernel
theorem dX10_plus_12 : decode cX10_plus 12 = .ok (.ifCond .lt 22, 3) := by decide +kernel
theorem dX10_plus_15 : decode cX10_plus 15 = .ok (.iload 4, 2) := by decide +kernel
theorem dX10_plus_17 : decode cX10_plus 17 = .ok (.bipush 40, 2) := by decide +kernel
theorem dX10_plus_19 : decode cX10_plus 19 = .ok (.if_icmp .gt 15, 3) := by decide +kernel
theorem dX10_plus_22 : decode cX10_plus 22 = .ok (.iload 5, 2) := by decide +kernel
theorem dX10_plus_24 : decode cX10_plus 24 = .ok (.ifCond .lt 10, 3) := by decide +kernel
theorem dX10_plus_27 : decode cX10_plus 27 = .ok (.iload 5, 2) := by decide +kernel
theorem dX10_plus_29 : decode cX10_plus 29 = .ok (.bipush 6, 2) := by decide +kernel
theorem dX10_plus_31 : decode cX10_plus 31 = .ok (.if_icmp .le 6, 3) := by decide +kernel
theorem dX10_plus_34 : decode cX10_plus 34 = .ok (.bipush (-4), 2) := by decide +kernel
theorem dX10_plus_36 : decode cX10_plus 36 = .ok (.ireturn, 1) := by decide +kernel
theorem dX10_plus_37 : decode cX10_plus 37 = .ok (.aload_n 0, 1) := by decide +kernel
theorem dX10_plus_38 : decode cX10_plus 38 = .ok (.iload_n 1, 1) := by decide +kernel
theorem dX10_plus_39 : decode cX10_plus 39 = .ok (.invokevirtual 122, 3) := by decide +kernel
theorem dX10_plus_42 : decode cX10_plus 42 = .ok (.aload_n 0, 1) := by decide +kernel
theorem dX10_plus_43 : decode cX10_plus 43 = .ok (.getfield 17, 3) := by decide +kernel
theorem dX10_plus_46 : decode cX10_plus 46 = .ok (.bipush 7, 2) := by decide +kernel
theorem dX10_plus_48 : decode cX10_plus 48 = .ok (.iload 4, 2) := by decide +kernel
theorem dX10_plus_50 : decode cX10_plus 50 = .ok (.imul, 1) := by decide +kernel
theorem dX10_plus_51 : decode cX10_plus 51 = .ok (.iload 5, 2) := by decide +kernel
theorem dX10_plus_53 : decode cX10_plus 53 = .ok (.iadd, 1) := by decide +kernel
theorem dX10_plus_54 : decode cX10_plus 54 = .ok (.aload_n 0, 1) := by decide +kernel
theorem dX10_plus_55 : decode cX10_plus 55 = .ok (.getfield 17, 3) := by decide +kernel
theorem dX10_plus_58 : decode cX10_plus 58 = .ok (.bipush 7, 2) := by decide +kernel
theorem dX10_plus_60 : decode cX10_plus 60 = .ok (.iload 4, 2) := by decide +kernel
theorem dX10_plus_62 : decode cX10_plus 62 = .ok (.imul, 1) := by decide +kernel
theorem dX10_plus_63 : decode cX10_plus 63 = .ok (.iload 5, 2) := by decide +kernel
theorem dX10_plus_65 : decode cX10_plus 65 = .ok (.iadd, 1) := by decide +kernel
theorem dX10_plus_66 : decode cX10_plus 66 = .ok (.iaload, 1) := by decide +kernel
theorem dX10_plus_67 : decode cX10_plus 67 = .ok (.aload_n 0, 1) := by decide +kernel
theorem dX10_plus_68 : decode cX10_plus 68 = .ok (.lload_n 2, 1) := by decide +kernel
theorem dX10_plus_69 : decode cX10_plus 69 = .ok (.invokevirtual 110, 3) := by decide +kernel
theorem dX10_plus_72 : decode cX10_plus 72 = .ok (.iadd, 1) := by decide +kernel
theorem dX10_plus_73 : decode cX10_plus 73 = .ok (.aload_n 0, 1) := by decide +kernel
theorem dX10_plus_74 : decode cX10_plus 74 = .ok (.getfield 78, 3) := by decide +kernel
theorem dX10_plus_77 : decode cX10_plus 77 = .ok (.irem, 1) := by decide +kernel
theorem dX10_plus_78 : decode cX10_plus 78 = .ok (.iastore, 1) := by decide +kernel
theorem dX10_plus_79 : decode cX10_plus 79 = .ok (.aload_n 0, 1) := by decide +kernel
theorem dX10_plus_80 : decode cX10_plus 80 = .ok (.invokevirtual 114, 3) := by decide +kernel
theorem dX10_plus_83 : decode cX10_plus 83 = .ok (.ireturn, 1) := by decide +kernel
theorem dX10_point_0 : decode cX10_point 0 = .ok (.aload_n 0, 1) := by decide +kernel
theorem dX10_point_1 : decode cX10_point 1 = .ok (.lload_n 1, 1) := by decide +kernel
theorem dX10_point_2 : decode cX10_point 2 = .ok (.invokevirtual 110, 3) := by decide +kernel
theorem dX10_point_5 : decode cX10_point 5 = .ok (.istore 5, 2) := by decide +kernel
theorem dX10_point_7 : decode cX10_point 7 = .ok (.aload_n 0, 1) := by decide +kernel
theorem dX10_point_8 : decode cX10_point 8 = .ok (.getfield 83, 3) := by decide +kernel
theorem dX10_point_11 : decode cX10_point 11 = .ok (.bipush 41, 2) := by decide +kernel
theorem dX10_point_13 : decode cX10_point 13 = .ok (.if_icmp .ne 5, 3) := by decide +kernel
theorem dX10_point_16 : decode cX10_point 16 = .ok (.iconst (-1), 1) := by decide +kernel
theorem dX10_point_17 : decode cX10_point 17 = .ok (.ireturn, 1) := by decide +kernel
theorem dX10_point_18 : decode cX10_point 18 = .ok (.iconst 0, 1) := by decide +kernel
theorem dX10_point_19 : decode cX10_point 19 = .ok (.istore 6, 2) := by decide +kernel
theorem dX10_point_21 : decode cX10_point 21 = .ok (.iload 6, 2) := by decide +kernel
theorem dX10_point_23 : decode cX10_point 23 = .ok (.aload_n 0, 1) := by decide +kernel
theorem dX10_point_24 : decode cX10_point 24 = .ok (.getfield 83, 3) := by decide +kernel
theorem dX10_point_27 : decode cX10_point 27 = .ok (.if_icmp .ge 23, 3) := by decide +kernel
theorem dX10_point_30 : decode cX10_point 30 = .ok (.aload_n 0, 1) := by decide +kernel
theorem dX10_point_31 : decode cX10_point 31 = .ok (.getfield 72, 3) := by decide +kernel
theorem dX10_point_34 : decode cX10_point 34 = .ok (.iload 6, 2) := by decide +kernel
theorem dX10_point_36 : decode cX10_point 36 = .ok (.iaload, 1) := by decide +kernel
theorem dX10_point_37 : decode cX10_point 37 = .ok (.iload 5, 2) := by decide +kernel
theorem dX10_point_39 : decode cX10_point 39 = .ok (.if_icmp .ne 5, 3) := by decide +kernel
theorem dX10_point_42 : decode cX10_point 42 = .ok (.iconst (-1), 1) := by decide +kernel
theorem dX10_point_43 : decode cX10_point 43 = .ok (.ireturn, 1) := by decide +kernel
theorem dX10_point_44 : decode cX10_point 44 = .ok (.iinc 6 1, 3) := by decide +kernel
theorem dX10_point_47 : decode cX10_point 47 = .ok (.goto (-26), 3) := by decide +kernel
theorem dX10_point_50 : decode cX10_point 50 = .ok (.aload_n 0, 1) := by decide +kernel
theorem dX10_point_51 : decode cX10_point 51 = .ok (.getfield 72, 3) := by decide +kernel
theorem dX10_point_54 : decode cX10_point 54 = .ok (.aload_n 0, 1) := by decide +kernel
theorem dX10_point_55 : decode cX10_point 55 = .ok (.getfield 83, 3) := by decide +kernel
theorem dX10_point_58 : decode cX10_point 58 = .ok (.iload 5, 2) := by decide +kernel
theorem dX10_point_60 : decode cX10_point 60 = .ok (.iastore, 1) := by decide +kernel
theorem dX10_point_61 : decode cX10_point 61 = .ok (.aload_n 0, 1) := by decide +kernel
theorem dX10_point_62 : decode cX10_point 62 = .ok (.getfield 75, 3) := by decide +kernel
theorem dX10_point_65 : decode cX10_point 65 = .ok (.aload_n 0, 1) := by decide +kernel
theorem dX10_point_66 : decode cX10_point 66 = .ok (.getfield 83, 3) := by decide +kernel
theorem dX10_point_69 : decode cX10_point 69 = .ok (.aload_n 0, 1) := by decide +kernel
theorem dX10_point_70 : decode cX10_point 70 = .ok (.lload_n 3, 1) := by decide +kernel
theorem dX10_point_71 : decode cX10_point 71 = .ok (.invokevirtual 110, 3) := by decide +kernel
theorem dX10_point_74 : decode cX10_point 74 = .ok (.iastore, 1) := by decide +kernel
theorem dX10_point_75 : decode cX10_point 75 = .ok (.aload_n 0, 1) := by decide +kernel
theorem dX10_point_76 : decode cX10_point 76 = .ok (.dup, 1) := by decide +kernel
theorem dX10_point_77 : decode cX10_point 77 = .ok (.getfield 83, 3) := by decide +kernel
theorem dX10_point_80 : decode cX10_point 80 = .ok (.iconst 1, 1) := by decide +kernel
theorem dX10_point_81 : decode cX10_point 81 = .ok (.iadd, 1) := by decide +kernel
theorem dX10_point_82 : decode cX10_point 82 = .ok (.putfield 83, 3) := by decide +kernel
theorem dX10_point_85 : decode cX10_point 85 = .ok (.aload_n 0, 1) := by decide +kernel
theorem dX10_point_86 : decode cX10_point 86 = .ok (.getfield 83, 3) := by decide +kernel
theorem dX10_point_89 : decode cX10_point 89 = .ok (.ireturn, 1) := by decide +kernel
theorem dX10_power_0 : decode cX10_power 0 = .ok (.aload_n 0, 1) := by decide +kernel
theorem dX10_power_1 : decode cX10_power 1 = .ok (.iload_n 1, 1) := by decide +kernel
theorem dX10_power_2 : decode cX10_power 2 = .ok (.invokevirtual 118, 3) := by decide +kernel
theorem dX10_power_5 : decode cX10_power 5 = .ok (.ifCond .eq 12, 3) := by decide +kernel
theorem dX10_power_8 : decode cX10_power 8 = .ok (.aload_n 0, 1) := by decide +kernel
theorem dX10_power_9 : decode cX10_power 9 = .ok (.iload 4, 2) := by decide +kernel
theorem dX10_power_11 : decode cX10_power 11 = .ok (.invokevirtual 118, 3) := by decide +kernel
theorem dX10_power_14 : decode cX10_power 14 = .ok (.ifCond .ne 5, 3) := by decide +kernel
theorem dX10_power_17 : decode cX10_power 17 = .ok (.iconst (-1), 1) := by decide +kernel
theorem dX10_power_18 : decode cX10_power 18 = .ok (.ireturn, 1) := by decide +kernel
theorem dX10_power_19 : decode cX10_power 19 = .ok (.aload_n 0, 1) := by decide +kernel
theorem dX10_power_20 : decode cX10_power 20 = .ok (.iload_n 1, 1) := by decide +kernel
theorem dX10_power_21 : decode cX10_power 21 = .ok (.invokevirtual 126, 3) := by decide +kernel
theorem dX10_power_24 : decode cX10_power 24 = .ok (.ifCond .eq 18, 3) := by decide +kernel
theorem dX10_power_27 : decode cX10_power 27 = .ok (.aload_n 0, 1) := by decide +kernel
theorem dX10_power_28 : decode cX10_power 28 = .ok (.iload 4, 2) := by decide +kernel
theorem dX10_power_30 : decode cX10_power 30 = .ok (.invokevirtual 126, 3) := by decide +kernel
theorem dX10_power_33 : decode cX10_power 33 = .ok (.ifCond .eq 9, 3) := by decide +kernel
theorem dX10_power_36 : decode cX10_power 36 = .ok (.lload_n 2, 1) := by decide +kernel
theorem dX10_power_37 : decode cX10_power 37 = .ok (.lconst 0, 1) := by decide +kernel
theorem dX10_power_38 : decode cX10_power 38 = .ok (.lcmp, 1) := by decide +kernel
theorem dX10_power_39 : decode cX10_power 39 = .ok (.ifCond .ge 6, 3) := by decide +kernel
theorem dX10_power_42 : decode cX10_power 42 = .ok (.bipush (-2), 2) := by decide +kernel
theorem dX10_power_44 : decode cX10_power 44 = .ok (.ireturn, 1) := by decide +kernel
theorem dX10_power_45 : decode cX10_power 45 = .ok (.aload_n 0, 1) := by decide +kernel
theorem dX10_power_46 : decode cX10_power 46 = .ok (.iload_n 1, 1) := by decide +kernel
theorem dX10_power_47 : decode cX10_power 47 = .ok (.iconst 0, 1) := by decide +kernel
theorem dX10_power_48 : decode cX10_power 48 = .ok (.invokevirtual 144, 3) := by decide +kernel
theorem dX10_power_51 : decode cX10_power 51 = .ok (.aload_n 0, 1) := by decide +kernel
theorem dX10_power_52 : decode cX10_power 52 = .ok (.iload 4, 2) := by decide +kernel
theorem dX10_power_54 : decode cX10_power 54 = .ok (.iconst 1, 1) := by decide +kernel
theorem dX10_power_55 : decode cX10_power 55 = .ok (.invokevirtual 144, 3) := by decide +kernel
theorem dX10_power_58 : decode cX10_power 58 = .ok (.aload_n 0, 1) := by decide +kernel
theorem dX10_power_59 : decode cX10_power 59 = .ok (.getfield 26, 3) := by decide +kernel
theorem dX10_power_62 : decode cX10_power 62 = .ok (.iconst 1, 1) := by decide +kernel
theorem dX10_power_63 : decode cX10_power 63 = .ok (.iaload, 1) := by decide +kernel
theorem dX10_power_64 : decode cX10_power 64 = .ok (.iconst 1, 1) := by decide +kernel
theorem dX10_power_65 : decode cX10_power 65 = .ok (.if_icmp .ge 6, 3) := by decide +kernel
theorem dX10_power_68 : decode cX10_power 68 = .ok (.bipush (-3), 2) := by decide +kernel
theorem dX10_power_70 : decode cX10_power 70 = .ok (.ireturn, 1) := by decide +kernel
theorem dX10_power_71 : decode cX10_power 71 = .ok (.aload_n 0, 1) := by decide +kernel
theorem dX10_power_72 : decode cX10_power 72 = .ok (.iconst 0, 1) := by decide +kernel
theorem dX10_power_73 : decode cX10_power 73 = .ok (.lload_n 2, 1) := by decide +kernel
theorem dX10_power_74 : decode cX10_power 74 = .ok (.iconst 1, 1) := by decide +kernel
theorem dX10_power_75 : decode cX10_power 75 = .ok (.iconst 2, 1) := by decide +kernel
theorem dX10_power_76 : decode cX10_power 76 = .ok (.invokevirtual 195, 3) := by decide +kernel
theorem dX10_power_79 : decode cX10_power 79 = .ok (.aload_n 0, 1) := by decide +kernel
theorem dX10_power_80 : decode cX10_power 80 = .ok (.iconst 2, 1) := by decide +kernel
theorem dX10_power_81 : decode cX10_power 81 = .ok (.invokevirtual 182, 3) := by decide +kernel
theorem dX10_power_84 : decode cX10_power 84 = .ok (.ireturn, 1) := by decide +kernel
theorem dX10_prime_0 : decode cX10_prime 0 = .ok (.iload_n 1, 1) := by decide +kernel
theorem dX10_prime_1 : decode cX10_prime 1 = .ok (.iconst 2, 1) := by decide +kernel
theorem dX10_prime_2 : decode cX10_prime 2 = .ok (.if_icmp .lt 13, 3) := by decide +kernel
theorem dX10_prime_5 : decode cX10_prime 5 = .ok (.iload_n 1, 1) := by decide +kernel
theorem dX10_prime_6 : decode cX10_prime 6 = .ok (.ldc 82, 2) := by decide +kernel
theorem dX10_prime_8 : decode cX10_prime 8 = .ok (.if_icmp .gt 7, 3) := by decide +kernel
theorem dX10_prime_11 : decode cX10_prime 11 = .ok (.iconst 1, 1) := by decide +kernel
theorem dX10_prime_12 : decode cX10_prime 12 = .ok (.goto 4, 3) := by decide +kernel
theorem dX10_prime_15 : decode cX10_prime 15 = .ok (.iconst 0, 1) := by decide +kernel
theorem dX10_prime_16 : decode cX10_prime 16 = .ok (.istore_n 2, 1) := by decide +kernel
theorem dX10_prime_17 : decode cX10_prime 17 = .ok (.iconst 2, 1) := by decide +kernel
theorem dX10_prime_18 : decode cX10_prime 18 = .ok (.istore_n 3, 1) := by decide +kernel
theorem dX10_prime_19 : decode cX10_prime 19 = .ok (.iload_n 2, 1) := by decide +kernel
theorem dX10_prime_20 : decode cX10_prime 20 = .ok (.ifCond .eq 28, 3) := by decide +kernel
theorem dX10_prime_23 : decode cX10_prime 23 = .ok (.iload_n 3, 1) := by decide +kernel
theorem dX10_prime_24 : decode cX10_prime 24 = .ok (.iload_n 3, 1) := by decide +kernel
theorem dX10_prime_25 : decode cX10_prime 25 = .ok (.imul, 1) := by decide +kernel
theorem dX10_prime_26 : decode cX10_prime 26 = .ok (.iload_n 1, 1) := by decide +kernel
theorem dX10_prime_27 : decode cX10_prime 27 = .ok (.if_icmp .gt 21, 3) := by decide +kernel
theorem dX10_prime_30 : decode cX10_prime 30 = .ok (.iload_n 1, 1) := by decide +kernel
theorem dX10_prime_31 : decode cX10_prime 31 = .ok (.iload_n 3, 1) := by decide +kernel
theorem dX10_prime_32 : decode cX10_prime 32 = .ok (.irem, 1) := by decide +kernel
theorem dX10_prime_33 : decode cX10_prime 33 = .ok (.ifCond .eq 7, 3) := by decide +kernel
theorem dX10_prime_36 : decode cX10_prime 36 = .ok (.iconst 1, 1) := by decide +kernel
theorem dX10_prime_37 : decode cX10_prime 37 = .ok (.goto 4, 3) := by decide +kernel
theorem dX10_prime_40 : decode cX10_prime 40 = .ok (.iconst 0, 1) := by decide +kernel
theorem dX10_prime_41 : decode cX10_prime 41 = .ok (.istore_n 2, 1) := by decide +kernel
theorem dX10_prime_42 : decode cX10_prime 42 = .ok (.iinc 3 1, 3) := by decide +kernel
theorem dX10_prime_45 : decode cX10_prime 45 = .ok (.goto (-26), 3) := by decide +kernel
theorem dX10_prime_48 : decode cX10_prime 48 = .ok (.iload_n 2, 1) := by decide +kernel
theorem dX10_prime_49 : decode cX10_prime 49 = .ok (.ifCond .ne 5, 3) := by decide +kernel
theorem dX10_prime_52 : decode cX10_prime 52 = .ok (.iconst 0, 1) := by decide +kernel
theorem dX10_prime_53 : decode cX10_prime 53 = .ok (.ireturn, 1) := by decide +kernel
theorem dX10_prime_54 : decode cX10_prime 54 = .ok (.aload_n 0, 1) := by decide +kernel
theorem dX10_prime_55 : decode cX10_prime 55 = .ok (.iload_n 1, 1) := by decide +kernel
theorem dX10_prime_56 : decode cX10_prime 56 = .ok (.putfield 78, 3) := by decide +kernel
theorem dX10_prime_59 : decode cX10_prime 59 = .ok (.iconst 0, 1) := by decide +kernel
theorem dX10_prime_60 : decode cX10_prime 60 = .ok (.istore_n 3, 1) := by decide +kernel
theorem dX10_prime_61 : decode cX10_prime 61 = .ok (.iload_n 3, 1) := by decide +kernel
theorem dX10_prime_62 : decode cX10_prime 62 = .ok (.bipush 100, 2) := by decide +kernel
theorem dX10_prime_64 : decode cX10_prime 64 = .ok (.if_icmp .ge 16, 3) := by decide +kernel
theorem dX10_prime_67 : decode cX10_prime 67 = .ok (.aload_n 0, 1) := by decide +kernel
theorem dX10_prime_68 : decode cX10_prime 68 = .ok (.getfield 7, 3) := by decide +kernel
theorem dX10_prime_71 : decode cX10_prime 71 = .ok (.iload_n 3, 1) := by decide +kernel
theorem dX10_prime_72 : decode cX10_prime 72 = .ok (.iconst 0, 1) := by decide +kernel
theorem dX10_prime_73 : decode cX10_prime 73 = .ok (.bastore, 1) := by decide +kernel
theorem dX10_prime_74 : decode cX10_prime 74 = .ok (.iinc 3 1, 3) := by decide +kernel
theorem dX10_prime_77 : decode cX10_prime 77 = .ok (.goto (-16), 3) := by decide +kernel
theorem dX10_prime_80 : decode cX10_prime 80 = .ok (.aload_n 0, 1) := by decide +kernel
theorem dX10_prime_81 : decode cX10_prime 81 = .ok (.iconst 0, 1) := by decide +kernel
theorem dX10_prime_82 : decode cX10_prime 82 = .ok (.putfield 83, 3) := by decide +kernel
theorem dX10_prime_85 : decode cX10_prime 85 = .ok (.aload_n 0, 1) := by decide +kernel
theorem dX10_prime_86 : decode cX10_prime 86 = .ok (.iconst 0, 1) := by decide +kernel
theorem dX10_prime_87 : decode cX10_prime 87 = .ok (.putfield 86, 3) := by decide +kernel
theorem dX10_prime_90 : decode cX10_prime 90 = .ok (.aload_n 0, 1) := by decide +kernel
theorem dX10_prime_91 : decode cX10_prime 91 = .ok (.iconst 0, 1) := by decide +kernel
theorem dX10_prime_92 : decode cX10_prime 92 = .ok (.putfield 90, 3) := by decide +kernel
theorem dX10_prime_95 : decode cX10_prime 95 = .ok (.aload_n 0, 1) := by decide +kernel
theorem dX10_prime_96 : decode cX10_prime 96 = .ok (.iconst 0, 1) := by decide +kernel
theorem dX10_prime_97 : decode cX10_prime 97 = .ok (.putfield 93, 3) := by decide +kernel
theorem dX10_prime_100 : decode cX10_prime 100 = .ok (.aload_n 0, 1) := by decide +kernel
theorem dX10_prime_101 : decode cX10_prime 101 = .ok (.iconst 0, 1) := by decide +kernel
theorem dX10_prime_102 : decode cX10_prime 102 = .ok (.putfield 96, 3) := by decide +kernel
theorem dX10_prime_105 : decode cX10_prime 105 = .ok (.iconst 1, 1) := by decide +kernel
theorem dX10_prime_106 : decode cX10_prime 106 = .ok (.ireturn, 1) := by decide +kernel
theorem dX10_root_0 : decode cX10_root 0 = .ok (.iload_n 1, 1) := by decide +kernel
theorem dX10_root_1 : decode cX10_root 1 = .ok (.ifCond .lt 11, 3) := by decide +kernel
theorem dX10_root_4 : decode cX10_root 4 = .ok (.iload_n 1, 1) := by decide +kernel
theorem dX10_root_5 : decode cX10_root 5 = .ok (.aload_n 0, 1) := by decide +kernel
theorem dX10_root_6 : decode cX10_root 6 = .ok (.getfield 96, 3) := by decide +kernel
theorem dX10_root_9 : decode cX10_root 9 = .ok (.if_icmp .lt 7, 3) := by decide +kernel
theorem dX10_root_12 : decode cX10_root 12 = .ok (.iconst (-1), 1) := by decide +kernel
theorem dX10_root_13 : decode cX10_root 13 = .ok (.goto 9, 3) := by decide +kernel
theorem dX10_root_16 : decode cX10_root 16 = .ok (.aload_n 0, 1) := by decide +kernel
theorem dX10_root_17 : decode cX10_root 17 = .ok (.getfield 54, 3) := by decide +kernel
theorem dX10_root_20 : decode cX10_root 20 = .ok (.iload_n 1, 1) := by decide +kernel
theorem dX10_root_21 : decode cX10_root 21 = .ok (.iaload, 1) := by decide +kernel
theorem dX10_root_22 : decode cX10_root 22 = .ok (.ireturn, 1) := by decide +kernel
theorem dX10_same_0 : decode cX10_same 0 = .ok (.aload_n 0, 1) := by decide +kernel
theorem dX10_same_1 : decode cX10_same 1 = .ok (.iload_n 1, 1) := by decide +kernel
theorem dX10_same_2 : decode cX10_same 2 = .ok (.invokevirtual 118, 3) := by decide +kernel
theorem dX10_same_5 : decode cX10_same 5 = .ok (.ifCond .eq 11, 3) := by decide +kernel
theorem dX10_same_8 : decode cX10_same 8 = .ok (.aload_n 0, 1) := by decide +kernel
theorem dX10_same_9 : decode cX10_same 9 = .ok (.iload_n 2, 1) := by decide +kernel
theorem dX10_same_10 : decode cX10_same 10 = .ok (.invokevirtual 118, 3) := by decide +kernel
theorem dX10_same_13 : decode cX10_same 13 = .ok (.ifCond .ne 5, 3) := by decide +kernel
theorem dX10_same_16 : decode cX10_same 16 = .ok (.iconst 0, 1) := by decide +kernel
theorem dX10_same_17 : decode cX10_same 17 = .ok (.ireturn, 1) := by decide +kernel
theorem dX10_same_18 : decode cX10_same 18 = .ok (.iconst 0, 1) := by decide +kernel
theorem dX10_same_19 : decode cX10_same 19 = .ok (.istore_n 3, 1) := by decide +kernel
theorem dX10_same_20 : decode cX10_same 20 = .ok (.iload_n 3, 1) := by decide +kernel
theorem dX10_same_21 : decode cX10_same 21 = .ok (.sipush 287, 3) := by decide +kernel
theorem dX10_same_24 : decode cX10_same 24 = .ok (.if_icmp .ge 38, 3) := by decide +kernel
theorem dX10_same_27 : decode cX10_same 27 = .ok (.aload_n 0, 1) := by decide +kernel
theorem dX10_same_28 : decode cX10_same 28 = .ok (.getfield 13, 3) := by decide +kernel
theorem dX10_same_31 : decode cX10_same 31 = .ok (.sipush 287, 3) := by decide +kernel
theorem dX10_same_34 : decode cX10_same 34 = .ok (.iload_n 1, 1) := by decide +kernel
theorem dX10_same_35 : decode cX10_same 35 = .ok (.imul, 1) := by decide +kernel
theorem dX10_same_36 : decode cX10_same 36 = .ok (.iload_n 3, 1) := by decide +kernel
theorem dX10_same_37 : decode cX10_same 37 = .ok (.iadd, 1) := by decide +kernel
theorem dX10_same_38 : decode cX10_same 38 = .ok (.iaload, 1) := by decide +kernel
theorem dX10_same_39 : decode cX10_same 39 = .ok (.aload_n 0, 1) := by decide +kernel
theorem dX10_same_40 : decode cX10_same 40 = .ok (.getfield 13, 3) := by decide +kernel
theorem dX10_same_43 : decode cX10_same 43 = .ok (.sipush 287, 3) := by decide +kernel
theorem dX10_same_46 : decode cX10_same 46 = .ok (.iload_n 2, 1) := by decide +kernel
theorem dX10_same_47 : decode cX10_same 47 = .ok (.imul, 1) := by decide +kernel
theorem dX10_same_48 : decode cX10_same 48 = .ok (.iload_n 3, 1) := by decide +kernel
theorem dX10_same_49 : decode cX10_same 49 = .ok (.iadd, 1) := by decide +kernel
theorem dX10_same_50 : decode cX10_same 50 = .ok (.iaload, 1) := by decide +kernel
theorem dX10_same_51 : decode cX10_same 51 = .ok (.if_icmp .eq 5, 3) := by decide +kernel
theorem dX10_same_54 : decode cX10_same 54 = .ok (.iconst 0, 1) := by decide +kernel
theorem dX10_same_55 : decode cX10_same 55 = .ok (.ireturn, 1) := by decide +kernel
theorem dX10_same_56 : decode cX10_same 56 = .ok (.iinc 3 1, 3) := by decide +kernel
theorem dX10_same_59 : decode cX10_same 59 = .ok (.goto (-39), 3) := by decide +kernel
theorem dX10_same_62 : decode cX10_same 62 = .ok (.iconst 1, 1) := by decide +kernel
theorem dX10_same_63 : decode cX10_same 63 = .ok (.ireturn, 1) := by decide +kernel
theorem dX10_take_0 : decode cX10_take 0 = .ok (.iload_n 1, 1) := by decide +kernel
theorem dX10_take_1 : decode cX10_take 1 = .ok (.ifCond .lt 11, 3) := by decide +kernel
theorem dX10_take_4 : decode cX10_take 4 = .ok (.iload_n 1, 1) := by decide +kernel
theorem dX10_take_5 : decode cX10_take 5 = .ok (.aload_n 0, 1) := by decide +kernel
theorem dX10_take_6 : decode cX10_take 6 = .ok (.getfield 90, 3) := by decide +kernel
theorem dX10_take_9 : decode cX10_take 9 = .ok (.if_icmp .lt 5, 3) := by decide +kernel
theorem dX10_take_12 : decode cX10_take 12 = .ok (.iconst (-1), 1) := by decide +kernel
theorem dX10_take_13 : decode cX10_take 13 = .ok (.ireturn, 1) := by decide +kernel
theorem dX10_take_14 : decode cX10_take 14 = .ok (.aload_n 0, 1) := by decide +kernel
theorem dX10_take_15 : decode cX10_take 15 = .ok (.iload_n 1, 1) := by decide +kernel
theorem dX10_take_16 : decode cX10_take 16 = .ok (.iconst 0, 1) := by decide +kernel
theorem dX10_take_17 : decode cX10_take 17 = .ok (.invokevirtual 239, 3) := by decide +kernel
theorem dX10_take_20 : decode cX10_take 20 = .ok (.aload_n 0, 1) := by decide +kernel
theorem dX10_take_21 : decode cX10_take 21 = .ok (.iconst 0, 1) := by decide +kernel
theorem dX10_take_22 : decode cX10_take 22 = .ok (.invokevirtual 182, 3) := by decide +kernel
theorem dX10_take_25 : decode cX10_take 25 = .ok (.ireturn, 1) := by decide +kernel
theorem dX10_told_0 : decode cX10_told 0 = .ok (.aload_n 0, 1) := by decide +kernel
theorem dX10_told_1 : decode cX10_told 1 = .ok (.getfield 86, 3) := by decide +kernel
theorem dX10_told_4 : decode cX10_told 4 = .ok (.ifCond .eq 12, 3) := by decide +kernel
theorem dX10_told_7 : decode cX10_told 7 = .ok (.iload_n 1, 1) := by decide +kernel
theorem dX10_told_8 : decode cX10_told 8 = .ok (.ifCond .lt 8, 3) := by decide +kernel
theorem dX10_told_11 : decode cX10_told 11 = .ok (.iload_n 1, 1) := by decide +kernel
theorem dX10_told_12 : decode cX10_told 12 = .ok (.iconst 3, 1) := by decide +kernel
theorem dX10_told_13 : decode cX10_told 13 = .ok (.if_icmp .le 5, 3) := by decide +kernel
theorem dX10_told_16 : decode cX10_told 16 = .ok (.iconst (-1), 1) := by decide +kernel
theorem dX10_told_17 : decode cX10_told 17 = .ok (.ireturn, 1) := by decide +kernel
theorem dX10_told_18 : decode cX10_told 18 = .ok (.iload_n 1, 1) := by decide +kernel
theorem dX10_told_19 : decode cX10_told 19 = .ok (.iconst 3, 1) := by decide +kernel
theorem dX10_told_20 : decode cX10_told 20 = .ok (.if_icmp .ne 32, 3) := by decide +kernel
theorem dX10_told_23 : decode cX10_told 23 = .ok (.iconst 0, 1) := by decide +kernel
theorem dX10_told_24 : decode cX10_told 24 = .ok (.istore_n 2, 1) := by decide +kernel
theorem dX10_told_25 : decode cX10_told 25 = .ok (.iconst 0, 1) := by decide +kernel
theorem dX10_told_26 : decode cX10_told 26 = .ok (.istore_n 3, 1) := by decide +kernel
theorem dX10_told_27 : decode cX10_told 27 = .ok (.iload_n 3, 1) := by decide +kernel
theorem dX10_told_28 : decode cX10_told 28 = .ok (.aload_n 0, 1) := by decide +kernel
theorem dX10_told_29 : decode cX10_told 29 = .ok (.getfield 90, 3) := by decide +kernel
theorem dX10_told_32 : decode cX10_told 32 = .ok (.if_icmp .ge 18, 3) := by decide +kernel
theorem dX10_told_35 : decode cX10_told 35 = .ok (.iload_n 2, 1) := by decide +kernel
theorem dX10_told_36 : decode cX10_told 36 = .ok (.aload_n 0, 1) := by decide +kernel
theorem dX10_told_37 : decode cX10_told 37 = .ok (.getfield 39, 3) := by decide +kernel
theorem dX10_told_40 : decode cX10_told 40 = .ok (.iload_n 3, 1) := by decide +kernel
theorem dX10_told_41 : decode cX10_told 41 = .ok (.iaload, 1) := by decide +kernel
theorem dX10_told_42 : decode cX10_told 42 = .ok (.iadd, 1) := by decide +kernel
theorem dX10_told_43 : decode cX10_told 43 = .ok (.istore_n 2, 1) := by decide +kernel
theorem dX10_told_44 : decode cX10_told 44 = .ok (.iinc 3 1, 3) := by decide +kernel
theorem dX10_told_47 : decode cX10_told 47 = .ok (.goto (-20), 3) := by decide +kernel
theorem dX10_told_50 : decode cX10_told 50 = .ok (.iload_n 2, 1) := by decide +kernel
theorem dX10_told_51 : decode cX10_told 51 = .ok (.ireturn, 1) := by decide +kernel
theorem dX10_told_52 : decode cX10_told 52 = .ok (.iload_n 1, 1) := by decide +kernel
theorem dX10_told_53 : decode cX10_told 53 = .ok (.ifCond .ne 10, 3) := by decide +kernel
theorem dX10_told_56 : decode cX10_told 56 = .ok (.aload_n 0, 1) := by decide +kernel
theorem dX10_told_57 : decode cX10_told 57 = .ok (.getfield 208, 3) := by decide +kernel
theorem dX10_told_60 : decode cX10_told 60 = .ok (.goto 19, 3) := by decide +kernel
theorem dX10_told_63 : decode cX10_told 63 = .ok (.iload_n 1, 1) := by decide +kernel
theorem dX10_told_64 : decode cX10_told 64 = .ok (.iconst 1, 1) := by decide +kernel
theorem dX10_told_65 : decode cX10_told 65 = .ok (.if_icmp .ne 10, 3) := by decide +kernel
theorem dX10_told_68 : decode cX10_told 68 = .ok (.aload_n 0, 1) := by decide +kernel
theorem dX10_told_69 : decode cX10_told 69 = .ok (.getfield 93, 3) := by decide +kernel
theorem dX10_told_72 : decode cX10_told 72 = .ok (.goto 7, 3) := by decide +kernel
theorem dX10_told_75 : decode cX10_told 75 = .ok (.aload_n 0, 1) := by decide +kernel
theorem dX10_told_76 : decode cX10_told 76 = .ok (.getfield 96, 3) := by decide +kernel
theorem dX10_told_79 : decode cX10_told 79 = .ok (.ireturn, 1) := by decide +kernel
theorem dX10_value_0 : decode cX10_value 0 = .ok (.aload_n 0, 1) := by decide +kernel
theorem dX10_value_1 : decode cX10_value 1 = .ok (.iload_n 1, 1) := by decide +kernel
theorem dX10_value_2 : decode cX10_value 2 = .ok (.invokevirtual 118, 3) := by decide +kernel
theorem dX10_value_5 : decode cX10_value 5 = .ok (.ifCond .ne 5, 3) := by decide +kernel
theorem dX10_value_8 : decode cX10_value 8 = .ok (.iconst (-1), 1) := by decide +kernel
theorem dX10_value_9 : decode cX10_value 9 = .ok (.ireturn, 1) := by decide +kernel
theorem dX10_value_10 : decode cX10_value 10 = .ok (.aload_n 0, 1) := by decide +kernel
theorem dX10_value_11 : decode cX10_value 11 = .ok (.lload_n 2, 1) := by decide +kernel
theorem dX10_value_12 : decode cX10_value 12 = .ok (.invokevirtual 110, 3) := by decide +kernel
theorem dX10_value_15 : decode cX10_value 15 = .ok (.i2l, 1) := by decide +kernel
theorem dX10_value_16 : decode cX10_value 16 = .ok (.lstore 6, 2) := by decide +kernel
theorem dX10_value_18 : decode cX10_value 18 = .ok (.aload_n 0, 1) := by decide +kernel
theorem dX10_value_19 : decode cX10_value 19 = .ok (.lload 4, 2) := by decide +kernel
theorem dX10_value_21 : decode cX10_value 21 = .ok (.invokevirtual 110, 3) := by decide +kernel
theorem dX10_value_24 : decode cX10_value 24 = .ok (.i2l, 1) := by decide +kernel
theorem dX10_value_25 : decode cX10_value 25 = .ok (.lstore 8, 2) := by decide +kernel
theorem dX10_value_27 : decode cX10_value 27 = .ok (.lconst 0, 1) := by decide +kernel
theorem dX10_value_28 : decode cX10_value 28 = .ok (.lstore 10, 2) := by decide +kernel
theorem dX10_value_30 : decode cX10_value 30 = .ok (.bipush 40, 2) := by decide +kernel
theorem dX10_value_32 : decode cX10_value 32 = .ok (.istore 12, 2) := by decide +kernel
theorem dX10_value_34 : decode cX10_value 34 = .ok (.iload 12, 2) := by decide +kernel
theorem dX10_value_36 : decode cX10_value 36 = .ok (.ifCond .lt 71, 3) := by decide +kernel
theorem dX10_value_39 : decode cX10_value 39 = .ok (.lconst 0, 1) := by decide +kernel
theorem dX10_value_40 : decode cX10_value 40 = .ok (.lstore 13, 2) := by decide +kernel
theorem dX10_value_42 : decode cX10_value 42 = .ok (.bipush 6, 2) := by decide +kernel
theorem dX10_value_44 : decode cX10_value 44 = .ok (.istore 15, 2) := by decide +kernel
theorem dX10_value_46 : decode cX10_value 46 = .ok (.iload 15, 2) := by decide +kernel
theorem dX10_value_48 : decode cX10_value 48 = .ok (.ifCond .lt 37, 3) := by decide +kernel
theorem dX10_value_51 : decode cX10_value 51 = .ok (.lload 13, 2) := by decide +kernel
theorem dX10_value_53 : decode cX10_value 53 = .ok (.lload 8, 2) := by decide +kernel
theorem dX10_value_55 : decode cX10_value 55 = .ok (.lmul, 1) := by decide +kernel
theorem dX10_value_56 : decode cX10_value 56 = .ok (.aload_n 0, 1) := by decide +kernel
theorem dX10_value_57 : decode cX10_value 57 = .ok (.getfield 13, 3) := by decide +kernel
theorem dX10_value_60 : decode cX10_value 60 = .ok (.iload_n 1, 1) := by decide +kernel
theorem dX10_value_61 : decode cX10_value 61 = .ok (.iload 12, 2) := by decide +kernel
theorem dX10_value_63 : decode cX10_value 63 = .ok (.iload 15, 2) := by decide +kernel
theorem dX10_value_65 : decode cX10_value 65 = .ok (.invokestatic 99, 3) := by decide +kernel
theorem dX10_value_68 : decode cX10_value 68 = .ok (.iaload, 1) := by decide +kernel
theorem dX10_value_69 : decode cX10_value 69 = .ok (.i2l, 1) := by decide +kernel
theorem dX10_value_70 : decode cX10_value 70 = .ok (.ladd, 1) := by decide +kernel
theorem dX10_value_71 : decode cX10_value 71 = .ok (.aload_n 0, 1) := by decide +kernel
theorem dX10_value_72 : decode cX10_value 72 = .ok (.getfield 78, 3) := by decide +kernel
theorem dX10_value_75 : decode cX10_value 75 = .ok (.i2l, 1) := by decide +kernel
theorem dX10_value_76 : decode cX10_value 76 = .ok (.lrem, 1) := by decide +kernel
theorem dX10_value_77 : decode cX10_value 77 = .ok (.lstore 13, 2) := by decide +kernel
theorem dX10_value_79 : decode cX10_value 79 = .ok (.iinc 15 (-1), 3) := by decide +kernel
theorem dX10_value_82 : decode cX10_value 82 = .ok (.goto (-36), 3) := by decide +kernel
theorem dX10_value_85 : decode cX10_value 85 = .ok (.lload 10, 2) := by decide +kernel
theorem dX10_value_87 : decode cX10_value 87 = .ok (.lload 6, 2) := by decide +kernel
theorem dX10_value_89 : decode cX10_value 89 = .ok (.lmul, 1) := by decide +kernel
theorem dX10_value_90 : decode cX10_value 90 = .ok (.lload 13, 2) := by decide +kernel
theorem dX10_value_92 : decode cX10_value 92 = .ok (.ladd, 1) := by decide +kernel
theorem dX10_value_93 : decode cX10_value 93 = .ok (.aload_n 0, 1) := by decide +kernel
theorem dX10_value_94 : decode cX10_value 94 = .ok (.getfield 78, 3) := by decide +kernel
theorem dX10_value_97 : decode cX10_value 97 = .ok (.i2l, 1) := by decide +kernel
theorem dX10_value_98 : decode cX10_value 98 = .ok (.lrem, 1) := by decide +kernel
theorem dX10_value_99 : decode cX10_value 99 = .ok (.lstore 10, 2) := by decide +kernel
theorem dX10_value_101 : decode cX10_value 101 = .ok (.iinc 12 (-1), 3) := by decide +kernel
theorem dX10_value_104 : decode cX10_value 104 = .ok (.goto (-70), 3) := by decide +kernel
theorem dX10_value_107 : decode cX10_value 107 = .ok (.lload 10, 2) := by decide +kernel
theorem dX10_value_109 : decode cX10_value 109 = .ok (.l2i, 1) := by decide +kernel
theorem dX10_value_110 : decode cX10_value 110 = .ok (.ireturn, 1) := by decide +kernel
theorem dX10_variable_0 : decode cX10_variable 0 = .ok (.iload_n 1, 1) := by decide +kernel
theorem dX10_variable_1 : decode cX10_variable 1 = .ok (.ifCond .eq 11, 3) := by decide +kernel
theorem dX10_variable_4 : decode cX10_variable 4 = .ok (.iload_n 1, 1) := by decide +kernel
theorem dX10_variable_5 : decode cX10_variable 5 = .ok (.iconst 1, 1) := by decide +kernel
theorem dX10_variable_6 : decode cX10_variable 6 = .ok (.if_icmp .eq 6, 3) := by decide +kernel
theorem dX10_variable_9 : decode cX10_variable 9 = .ok (.bipush (-2), 2) := by decide +kernel
theorem dX10_variable_11 : decode cX10_variable 11 = .ok (.ireturn, 1) := by decide +kernel
theorem dX10_variable_12 : decode cX10_variable 12 = .ok (.aload_n 0, 1) := by decide +kernel
theorem dX10_variable_13 : decode cX10_variable 13 = .ok (.invokevirtual 107, 3) := by decide +kernel
theorem dX10_variable_16 : decode cX10_variable 16 = .ok (.aload_n 0, 1) := by decide +kernel
theorem dX10_variable_17 : decode cX10_variable 17 = .ok (.getfield 17, 3) := by decide +kernel
theorem dX10_variable_20 : decode cX10_variable 20 = .ok (.iload_n 1, 1) := by decide +kernel
theorem dX10_variable_21 : decode cX10_variable 21 = .ok (.ifCond .ne 8, 3) := by decide +kernel
theorem dX10_variable_24 : decode cX10_variable 24 = .ok (.bipush 7, 2) := by decide +kernel
theorem dX10_variable_26 : decode cX10_variable 26 = .ok (.goto 4, 3) := by decide +kernel
theorem dX10_variable_29 : decode cX10_variable 29 = .ok (.iconst 1, 1) := by decide +kernel
theorem dX10_variable_30 : decode cX10_variable 30 = .ok (.iconst 1, 1) := by decide +kernel
theorem dX10_variable_31 : decode cX10_variable 31 = .ok (.iastore, 1) := by decide +kernel
theorem dX10_variable_32 : decode cX10_variable 32 = .ok (.aload_n 0, 1) := by decide +kernel
theorem dX10_variable_33 : decode cX10_variable 33 = .ok (.invokevirtual 114, 3) := by decide +kernel
theorem dX10_variable_36 : decode cX10_variable 36 = .ok (.ireturn, 1) := by decide +kernel
theorem dX1_become_0 : decode cX1_become 0 = .ok (.aload_n 0, 1) := by decide +kernel
theorem dX1_become_1 : decode cX1_become 1 = .ok (.iconst 2, 1) := by decide +kernel
theorem dX1_become_2 : decode cX1_become 2 = .ok (.iload_n 1, 1) := by decide +kernel
theorem dX1_become_3 : decode cX1_become 3 = .ok (.invokestatic 15, 3) := by decide +kernel
theorem dX1_become_6 : decode cX1_become 6 = .ok (.putfield 9, 3) := by decide +kernel
theorem dX1_become_9 : decode cX1_become 9 = .ok (.return_, 1) := by decide +kernel
theorem dX1_init_0 : decode cX1_init 0 = .ok (.aload_n 0, 1) := by decide +kernel
theorem dX1_init_1 : decode cX1_init 1 = .ok (.invokespecial 3, 3) := by decide +kernel
theorem dX1_init_4 : decode cX1_init 4 = .ok (.aload_n 0, 1) := by decide +kernel
theorem dX1_init_5 : decode cX1_init 5 = .ok (.iconst 2, 1) := by decide +kernel
theorem dX1_init_6 : decode cX1_init 6 = .ok (.putfield 9, 3) := by decide +kernel
theorem dX1_init_9 : decode cX1_init 9 = .ok (.return_, 1) := by decide +kernel
theorem dX1_isPrime_0 : decode cX1_isPrime 0 = .ok (.iload_n 0, 1) := by decide +kernel
theorem dX1_isPrime_1 : decode cX1_isPrime 1 = .ok (.iconst 2, 1) := by decide +kernel
theorem dX1_isPrime_2 : decode cX1_isPrime 2 = .ok (.if_icmp .lt 9, 3) := by decide +kernel
theorem dX1_isPrime_5 : decode cX1_isPrime 5 = .ok (.iload_n 0, 1) := by decide +kernel
theorem dX1_isPrime_6 : decode cX1_isPrime 6 = .ok (.ldc 21, 2) := by decide +kernel
theorem dX1_isPrime_8 : decode cX1_isPrime 8 = .ok (.if_icmp .le 5, 3) := by decide +kernel
theorem dX1_isPrime_11 : decode cX1_isPrime 11 = .ok (.iconst 0, 1) := by decide +kernel
theorem dX1_isPrime_12 : decode cX1_isPrime 12 = .ok (.ireturn, 1) := by decide +kernel
theorem dX1_isPrime_13 : decode cX1_isPrime 13 = .ok (.iconst 2, 1) := by decide +kernel
theorem dX1_isPrime_14 : decode cX1_isPrime 14 = .ok (.istore_n 1, 1) := by decide +kernel
theorem dX1_isPrime_15 : decode cX1_isPrime 15 = .ok (.iload_n 1, 1) := by decide +kernel
theorem dX1_isPrime_16 : decode cX1_isPrime 16 = .ok (.iload_n 1, 1) := by decide +kernel
theorem dX1_isPrime_17 : decode cX1_isPrime 17 = .ok (.imul, 1) := by decide +kernel
theorem dX1_isPrime_18 : decode cX1_isPrime 18 = .ok (.iload_n 0, 1) := by decide +kernel
theorem dX1_isPrime_19 : decode cX1_isPrime 19 = .ok (.if_icmp .gt 17, 3) := by decide +kernel
theorem dX1_isPrime_22 : decode cX1_isPrime 22 = .ok (.iload_n 0, 1) := by decide +kernel
theorem dX1_isPrime_23 : decode cX1_isPrime 23 = .ok (.iload_n 1, 1) := by decide +kernel
theorem dX1_isPrime_24 : decode cX1_isPrime 24 = .ok (.irem, 1) := by decide +kernel
theorem dX1_isPrime_25 : decode cX1_isPrime 25 = .ok (.ifCond .ne 5, 3) := by decide +kernel
theorem dX1_isPrime_28 : decode cX1_isPrime 28 = .ok (.iconst 0, 1) := by decide +kernel
theorem dX1_isPrime_29 : decode cX1_isPrime 29 = .ok (.ireturn, 1) := by decide +kernel
theorem dX1_isPrime_30 : decode cX1_isPrime 30 = .ok (.iinc 1 1, 3) := by decide +kernel
theorem dX1_isPrime_33 : decode cX1_isPrime 33 = .ok (.goto (-18), 3) := by decide +kernel
theorem dX1_isPrime_36 : decode cX1_isPrime 36 = .ok (.iconst 1, 1) := by decide +kernel
theorem dX1_isPrime_37 : decode cX1_isPrime 37 = .ok (.ireturn, 1) := by decide +kernel
theorem dX1_mod_0 : decode cX1_mod 0 = .ok (.lload_n 1, 1) := by decide +kernel
theorem dX1_mod_1 : decode cX1_mod 1 = .ok (.aload_n 0, 1) := by decide +kernel
theorem dX1_mod_2 : decode cX1_mod 2 = .ok (.getfield 9, 3) := by decide +kernel
theorem dX1_mod_5 : decode cX1_mod 5 = .ok (.i2l, 1) := by decide +kernel
theorem dX1_mod_6 : decode cX1_mod 6 = .ok (.lrem, 1) := by decide +kernel
theorem dX1_mod_7 : decode cX1_mod 7 = .ok (.lstore_n 3, 1) := by decide +kernel
theorem dX1_mod_8 : decode cX1_mod 8 = .ok (.lload_n 3, 1) := by decide +kernel
theorem dX1_mod_9 : decode cX1_mod 9 = .ok (.lconst 0, 1) := by decide +kernel
theorem dX1_mod_10 : decode cX1_mod 10 = .ok (.lcmp, 1) := by decide +kernel
theorem dX1_mod_11 : decode cX1_mod 11 = .ok (.ifCond .ge 13, 3) := by decide +kernel
theorem dX1_mod_14 : decode cX1_mod 14 = .ok (.lload_n 3, 1) := by decide +kernel
theorem dX1_mod_15 : decode cX1_mod 15 = .ok (.aload_n 0, 1) := by decide +kernel
theorem dX1_mod_16 : decode cX1_mod 16 = .ok (.getfield 9, 3) := by decide +kernel
theorem dX1_mod_19 : decode cX1_mod 19 = .ok (.i2l, 1) := by decide +kernel
theorem dX1_mod_20 : decode cX1_mod 20 = .ok (.ladd, 1) := by decide +kernel
theorem dX1_mod_21 : decode cX1_mod 21 = .ok (.goto 4, 3) := by decide +kernel
theorem dX1_mod_24 : decode cX1_mod 24 = .ok (.lload_n 3, 1) := by decide +kernel
theorem dX1_mod_25 : decode cX1_mod 25 = .ok (.lreturn, 1) := by decide +kernel
theorem dX2_init_0 : decode cX2_init 0 = .ok (.aload_n 0, 1) := by decide +kernel
theorem dX2_init_1 : decode cX2_init 1 = .ok (.invokespecial 3, 3) := by decide +kernel
theorem dX2_init_4 : decode cX2_init 4 = .ok (.aload_n 0, 1) := by decide +kernel
theorem dX2_init_5 : decode cX2_init 5 = .ok (.new 9, 3) := by decide +kernel
theorem dX2_init_8 : decode cX2_init 8 = .ok (.dup, 1) := by decide +kernel
theorem dX2_init_9 : decode cX2_init 9 = .ok (.bipush 84, 2) := by decide +kernel
theorem dX2_init_11 : decode cX2_init 11 = .ok (.invokespecial 11, 3) := by decide +kernel
theorem dX2_init_14 : decode cX2_init 14 = .ok (.putfield 14, 3) := by decide +kernel
theorem dX2_init_17 : decode cX2_init 17 = .ok (.aload_n 0, 1) := by decide +kernel
theorem dX2_init_18 : decode cX2_init 18 = .ok (.new 9, 3) := by decide +kernel
theorem dX2_init_21 : decode cX2_init 21 = .ok (.dup, 1) := by decide +kernel
theorem dX2_init_22 : decode cX2_init 22 = .ok (.bipush 84, 2) := by decide +kernel
theorem dX2_init_24 : decode cX2_init 24 = .ok (.invokespecial 11, 3) := by decide +kernel
theorem dX2_init_27 : decode cX2_init 27 = .ok (.putfield 20, 3) := by decide +kernel
theorem dX2_init_30 : decode cX2_init 30 = .ok (.aload_n 0, 1) := by decide +kernel
theorem dX2_init_31 : decode cX2_init 31 = .ok (.new 9, 3) := by decide +kernel
theorem dX2_init_34 : decode cX2_init 34 = .ok (.dup, 1) := by decide +kernel
theorem dX2_init_35 : decode cX2_init 35 = .ok (.bipush 84, 2) := by decide +kernel
theorem dX2_init_37 : decode cX2_init 37 = .ok (.invokespecial 11, 3) := by decide +kernel
theorem dX2_init_40 : decode cX2_init 40 = .ok (.putfield 23, 3) := by decide +kernel
theorem dX2_init_43 : decode cX2_init 43 = .ok (.aload_n 0, 1) := by decide +kernel
theorem dX2_init_44 : decode cX2_init 44 = .ok (.new 9, 3) := by decide +kernel
theorem dX2_init_47 : decode cX2_init 47 = .ok (.dup, 1) := by decide +kernel
theorem dX2_init_48 : decode cX2_init 48 = .ok (.bipush 84, 2) := by decide +kernel
theorem dX2_init_50 : decode cX2_init 50 = .ok (.invokespecial 11, 3) := by decide +kernel
theorem dX2_init_53 : decode cX2_init 53 = .ok (.putfield 26, 3) := by decide +kernel
theorem dX2_init_56 : decode cX2_init 56 = .ok (.aload_n 0, 1) := by decide +kernel
theorem dX2_init_57 : decode cX2_init 57 = .ok (.new 9, 3) := by decide +kernel
theorem dX2_init_60 : decode cX2_init 60 = .ok (.dup, 1) := by decide +kernel
theorem dX2_init_61 : decode cX2_init 61 = .ok (.bipush 84, 2) := by decide +kernel
theorem dX2_init_63 : decode cX2_init 63 = .ok (.invokespecial 11, 3) := by decide +kernel
theorem dX2_init_66 : decode cX2_init 66 = .ok (.putfield 29, 3) := by decide +kernel
theorem dX2_init_69 : decode cX2_init 69 = .ok (.aload_n 0, 1) := by decide +kernel
theorem dX2_init_70 : decode cX2_init 70 = .ok (.new 9, 3) := by decide +kernel
theorem dX2_init_73 : decode cX2_init 73 = .ok (.dup, 1) := by decide +kernel
theorem dX2_init_74 : decode cX2_init 74 = .ok (.bipush 84, 2) := by decide +kernel
theorem dX2_init_76 : decode cX2_init 76 = .ok (.invokespecial 11, 3) := by decide +kernel
theorem dX2_init_79 : decode cX2_init 79 = .ok (.putfield 32, 3) := by decide +kernel
theorem dX2_init_82 : decode cX2_init 82 = .ok (.aload_n 0, 1) := by decide +kernel
theorem dX2_init_83 : decode cX2_init 83 = .ok (.new 9, 3) := by decide +kernel
theorem dX2_init_86 : decode cX2_init 86 = .ok (.dup, 1) := by decide +kernel
theorem dX2_init_87 : decode cX2_init 87 = .ok (.bipush 84, 2) := by decide +kernel
theorem dX2_init_89 : decode cX2_init 89 = .ok (.invokespecial 11, 3) := by decide +kernel
theorem dX2_init_92 : decode cX2_init 92 = .ok (.putfield 35, 3) := by decide +kernel
theorem dX2_init_95 : decode cX2_init 95 = .ok (.aload_n 0, 1) := by decide +kernel
theorem dX2_init_96 : decode cX2_init 96 = .ok (.new 9, 3) := by decide +kernel
theorem dX2_init_99 : decode cX2_init 99 = .ok (.dup, 1) := by decide +kernel
theorem dX2_init_100 : decode cX2_init 100 = .ok (.bipush 84, 2) := by decide +kernel
theorem dX2_init_102 : decode cX2_init 102 = .ok (.invokespecial 11, 3) := by decide +kernel
theorem dX2_init_105 : decode cX2_init 105 = .ok (.putfield 38, 3) := by decide +kernel
theorem dX2_init_108 : decode cX2_init 108 = .ok (.aload_n 0, 1) := by decide +kernel
theorem dX2_init_109 : decode cX2_init 109 = .ok (.aload_n 1, 1) := by decide +kernel
theorem dX2_init_110 : decode cX2_init 110 = .ok (.putfield 41, 3) := by decide +kernel
theorem dX2_init_113 : decode cX2_init 113 = .ok (.return_, 1) := by decide +kernel
theorem dX3_init_0 : decode cX3_init 0 = .ok (.aload_n 0, 1) := by decide +kernel
theorem dX3_init_1 : decode cX3_init 1 = .ok (.invokespecial 3, 3) := by decide +kernel
theorem dX3_init_4 : decode cX3_init 4 = .ok (.aload_n 0, 1) := by decide +kernel
theorem dX3_init_5 : decode cX3_init 5 = .ok (.bipush 41, 2) := by decide +kernel
theorem dX3_init_7 : decode cX3_init 7 = .ok (.newarray .long, 2) := by decide +kernel
theorem dX3_init_9 : decode cX3_init 9 = .ok (.putfield 9, 3) := by decide +kernel
theorem dX3_init_12 : decode cX3_init 12 = .ok (.aload_n 0, 1) := by decide +kernel
theorem dX3_init_13 : decode cX3_init 13 = .ok (.bipush 41, 2) := by decide +kernel
theorem dX3_init_15 : decode cX3_init 15 = .ok (.newarray .long, 2) := by decide +kernel
theorem dX3_init_17 : decode cX3_init 17 = .ok (.putfield 15, 3) := by decide +kernel
theorem dX3_init_20 : decode cX3_init 20 = .ok (.aload_n 0, 1) := by decide +kernel
theorem dX3_init_21 : decode cX3_init 21 = .ok (.aload_n 1, 1) := by decide +kernel
theorem dX3_init_22 : decode cX3_init 22 = .ok (.putfield 18, 3) := by decide +kernel
theorem dX3_init_25 : decode cX3_init 25 = .ok (.return_, 1) := by decide +kernel
theorem dX3_meet_0 : decode cX3_meet 0 = .ok (.aload_n 1, 1) := by decide +kernel
theorem dX3_meet_1 : decode cX3_meet 1 = .ok (.lconst 0, 1) := by decide +kernel
theorem dX3_meet_2 : decode cX3_meet 2 = .ok (.invokevirtual 26, 3) := by decide +kernel
theorem dX3_meet_5 : decode cX3_meet 5 = .ok (.aload_n 2, 1) := by decide +kernel
theorem dX3_meet_6 : decode cX3_meet 6 = .ok (.lconst 1, 1) := by decide +kernel
theorem dX3_meet_7 : decode cX3_meet 7 = .ok (.invokevirtual 26, 3) := by decide +kernel
theorem dX3_meet_10 : decode cX3_meet 10 = .ok (.iconst 0, 1) := by decide +kernel
theorem dX3_meet_11 : decode cX3_meet 11 = .ok (.istore_n 3, 1) := by decide +kernel
theorem dX3_meet_12 : decode cX3_meet 12 = .ok (.iload_n 3, 1) := by decide +kernel
theorem dX3_meet_13 : decode cX3_meet 13 = .ok (.aload_n 0, 1) := by decide +kernel
theorem dX3_meet_14 : decode cX3_meet 14 = .ok (.getfield 22, 3) := by decide +kernel
theorem dX3_meet_17 : decode cX3_meet 17 = .ok (.if_icmp .ge 134, 3) := by decide +kernel
theorem dX3_meet_20 : decode cX3_meet 20 = .ok (.aload_n 0, 1) := by decide +kernel
theorem dX3_meet_21 : decode cX3_meet 21 = .ok (.getfield 18, 3) := by decide +kernel
theorem dX3_meet_24 : decode cX3_meet 24 = .ok (.aload_n 0, 1) := by decide +kernel
theorem dX3_meet_25 : decode cX3_meet 25 = .ok (.getfield 15, 3) := by decide +kernel
theorem dX3_meet_28 : decode cX3_meet 28 = .ok (.iload_n 3, 1) := by decide +kernel
theorem dX3_meet_29 : decode cX3_meet 29 = .ok (.laload, 1) := by decide +kernel
theorem dX3_meet_30 : decode cX3_meet 30 = .ok (.aload_n 0, 1) := by decide +kernel
theorem dX3_meet_31 : decode cX3_meet 31 = .ok (.aload_n 1, 1) := by decide +kernel
theorem dX3_meet_32 : decode cX3_meet 32 = .ok (.aload_n 0, 1) := by decide +kernel
theorem dX3_meet_33 : decode cX3_meet 33 = .ok (.getfield 9, 3) := by decide +kernel
theorem dX3_meet_36 : decode cX3_meet 36 = .ok (.iload_n 3, 1) := by decide +kernel
theorem dX3_meet_37 : decode cX3_meet 37 = .ok (.laload, 1) := by decide +kernel
theorem dX3_meet_38 : decode cX3_meet 38 = .ok (.invokevirtual 32, 3) := by decide +kernel
theorem dX3_meet_41 : decode cX3_meet 41 = .ok (.lsub, 1) := by decide +kernel
theorem dX3_meet_42 : decode cX3_meet 42 = .ok (.invokevirtual 36, 3) := by decide +kernel
theorem dX3_meet_45 : decode cX3_meet 45 = .ok (.lstore 4, 2) := by decide +kernel
theorem dX3_meet_47 : decode cX3_meet 47 = .ok (.aload_n 0, 1) := by decide +kernel
theorem dX3_meet_48 : decode cX3_meet 48 = .ok (.getfield 18, 3) := by decide +kernel
theorem dX3_meet_51 : decode cX3_meet 51 = .ok (.lload 4, 2) := by decide +kernel
theorem dX3_meet_53 : decode cX3_meet 53 = .ok (.aload_n 0, 1) := by decide +kernel
theorem dX3_meet_54 : decode cX3_meet 54 = .ok (.getfield 18, 3) := by decide +kernel
theorem dX3_meet_57 : decode cX3_meet 57 = .ok (.aload_n 0, 1) := by decide +kernel
theorem dX3_meet_58 : decode cX3_meet 58 = .ok (.aload_n 2, 1) := by decide +kernel
theorem dX3_meet_59 : decode cX3_meet 59 = .ok (.aload_n 0, 1) := by decide +kernel
theorem dX3_meet_60 : decode cX3_meet 60 = .ok (.getfield 9, 3) := by decide +kernel
theorem dX3_meet_63 : decode cX3_meet 63 = .ok (.iload_n 3, 1) := by decide +kernel
theorem dX3_meet_64 : decode cX3_meet 64 = .ok (.laload, 1) := by decide +kernel
theorem dX3_meet_65 : decode cX3_meet 65 = .ok (.invokevirtual 32, 3) := by decide +kernel
theorem dX3_meet_68 : decode cX3_meet 68 = .ok (.invokevirtual 42, 3) := by decide +kernel
theorem dX3_meet_71 : decode cX3_meet 71 = .ok (.lmul, 1) := by decide +kernel
theorem dX3_meet_72 : decode cX3_meet 72 = .ok (.invokevirtual 36, 3) := by decide +kernel
theorem dX3_meet_75 : decode cX3_meet 75 = .ok (.lstore 6, 2) := by decide +kernel
theorem dX3_meet_77 : decode cX3_meet 77 = .ok (.iconst 0, 1) := by decide +kernel
theorem dX3_meet_78 : decode cX3_meet 78 = .ok (.istore 8, 2) := by decide +kernel
theorem dX3_meet_80 : decode cX3_meet 80 = .ok (.iload 8, 2) := by decide +kernel
theorem dX3_meet_82 : decode cX3_meet 82 = .ok (.aload_n 2, 1) := by decide +kernel
theorem dX3_meet_83 : decode cX3_meet 83 = .ok (.getfield 45, 3) := by decide +kernel
theorem dX3_meet_86 : decode cX3_meet 86 = .ok (.if_icmp .gt 40, 3) := by decide +kernel
theorem dX3_meet_89 : decode cX3_meet 89 = .ok (.aload_n 1, 1) := by decide +kernel
theorem dX3_meet_90 : decode cX3_meet 90 = .ok (.getfield 48, 3) := by decide +kernel
theorem dX3_meet_93 : decode cX3_meet 93 = .ok (.iload 8, 2) := by decide +kernel
theorem dX3_meet_95 : decode cX3_meet 95 = .ok (.aload_n 0, 1) := by decide +kernel
theorem dX3_meet_96 : decode cX3_meet 96 = .ok (.getfield 18, 3) := by decide +kernel
theorem dX3_meet_99 : decode cX3_meet 99 = .ok (.aload_n 1, 1) := by decide +kernel
theorem dX3_meet_100 : decode cX3_meet 100 = .ok (.iload 8, 2) := by decide +kernel
theorem dX3_meet_102 : decode cX3_meet 102 = .ok (.invokevirtual 51, 3) := by decide +kernel
theorem dX3_meet_105 : decode cX3_meet 105 = .ok (.lload 6, 2) := by decide +kernel
theorem dX3_meet_107 : decode cX3_meet 107 = .ok (.aload_n 2, 1) := by decide +kernel
theorem dX3_meet_108 : decode cX3_meet 108 = .ok (.getfield 48, 3) := by decide +kernel
theorem dX3_meet_111 : decode cX3_meet 111 = .ok (.iload 8, 2) := by decide +kernel
theorem dX3_meet_113 : decode cX3_meet 113 = .ok (.laload, 1) := by decide +kernel
theorem dX3_meet_114 : decode cX3_meet 114 = .ok (.lmul, 1) := by decide +kernel
theorem dX3_meet_115 : decode cX3_meet 115 = .ok (.ladd, 1) := by decide +kernel
theorem dX3_meet_116 : decode cX3_meet 116 = .ok (.invokevirtual 36, 3) := by decide +kernel
theorem dX3_meet_119 : decode cX3_meet 119 = .ok (.lastore, 1) := by decide +kernel
theorem dX3_meet_120 : decode cX3_meet 120 = .ok (.iinc 8 1, 3) := by decide +kernel
theorem dX3_meet_123 : decode cX3_meet 123 = .ok (.goto (-43), 3) := by decide +kernel
theorem dX3_meet_126 : decode cX3_meet 126 = .ok (.aload_n 1, 1) := by decide +kernel
theorem dX3_meet_127 : decode cX3_meet 127 = .ok (.aload_n 2, 1) := by decide +kernel
theorem dX3_meet_128 : decode cX3_meet 128 = .ok (.getfield 45, 3) := by decide +kernel
theorem dX3_meet_131 : decode cX3_meet 131 = .ok (.invokevirtual 55, 3) := by decide +kernel
theorem dX3_meet_134 : decode cX3_meet 134 = .ok (.aload_n 0, 1) := by decide +kernel
theorem dX3_meet_135 : decode cX3_meet 135 = .ok (.aload_n 2, 1) := by decide +kernel
theorem dX3_meet_136 : decode cX3_meet 136 = .ok (.aload_n 0, 1) := by decide +kernel
theorem dX3_meet_137 : decode cX3_meet 137 = .ok (.getfield 9, 3) := by decide +kernel
theorem dX3_meet_140 : decode cX3_meet 140 = .ok (.iload_n 3, 1) := by decide +kernel
theorem dX3_meet_141 : decode cX3_meet 141 = .ok (.laload, 1) := by decide +kernel
theorem dX3_meet_142 : decode cX3_meet 142 = .ok (.invokevirtual 59, 3) := by decide +kernel
theorem dX3_meet_145 : decode cX3_meet 145 = .ok (.iinc 3 1, 3) := by decide +kernel
theorem dX3_meet_148 : decode cX3_meet 148 = .ok (.goto (-136), 3) := by decide +kernel
theorem dX3_meet_151 : decode cX3_meet 151 = .ok (.return_, 1) := by decide +kernel
theorem dX3_put_0 : decode cX3_put 0 = .ok (.aload_n 0, 1) := by decide +kernel
theorem dX3_put_1 : decode cX3_put 1 = .ok (.getfield 22, 3) := by decide +kernel
theorem dX3_put_4 : decode cX3_put 4 = .ok (.bipush 41, 2) := by decide +kernel
theorem dX3_put_6 : decode cX3_put 6 = .ok (.if_icmp .lt 5, 3) := by decide +kernel
theorem dX3_put_9 : decode cX3_put 9 = .ok (.iconst 0, 1) := by decide +kernel
theorem dX3_put_10 : decode cX3_put 10 = .ok (.ireturn, 1) := by decide +kernel
theorem dX3_put_11 : decode cX3_put 11 = .ok (.iconst 0, 1) := by decide +kernel
theorem dX3_put_12 : decode cX3_put 12 = .ok (.istore 5, 2) := by decide +kernel
theorem dX3_put_14 : decode cX3_put 14 = .ok (.iload 5, 2) := by decide +kernel
theorem dX3_put_16 : decode cX3_put 16 = .ok (.aload_n 0, 1) := by decide +kernel
theorem dX3_put_17 : decode cX3_put 17 = .ok (.getfield 22, 3) := by decide +kernel
theorem dX3_put_20 : decode cX3_put 20 = .ok (.if_icmp .ge 23, 3) := by decide +kernel
theorem dX3_put_23 : decode cX3_put 23 = .ok (.aload_n 0, 1) := by decide +kernel
theorem dX3_put_24 : decode cX3_put 24 = .ok (.getfield 9, 3) := by decide +kernel
theorem dX3_put_27 : decode cX3_put 27 = .ok (.iload 5, 2) := by decide +kernel
theorem dX3_put_29 : decode cX3_put 29 = .ok (.laload, 1) := by decide +kernel
theorem dX3_put_30 : decode cX3_put 30 = .ok (.lload_n 1, 1) := by decide +kernel
theorem dX3_put_31 : decode cX3_put 31 = .ok (.lcmp, 1) := by decide +kernel
theorem dX3_put_32 : decode cX3_put 32 = .ok (.ifCond .ne 5, 3) := by decide +kernel
theorem dX3_put_35 : decode cX3_put 35 = .ok (.iconst 0, 1) := by decide +kernel
theorem dX3_put_36 : decode cX3_put 36 = .ok (.ireturn, 1) := by decide +kernel
theorem dX3_put_37 : decode cX3_put 37 = .ok (.iinc 5 1, 3) := by decide +kernel
theorem dX3_put_40 : decode cX3_put 40 = .ok (.goto (-26), 3) := by decide +kernel
theorem dX3_put_43 : decode cX3_put 43 = .ok (.aload_n 0, 1) := by decide +kernel
theorem dX3_put_44 : decode cX3_put 44 = .ok (.getfield 9, 3) := by decide +kernel
theorem dX3_put_47 : decode cX3_put 47 = .ok (.aload_n 0, 1) := by decide +kernel
theorem dX3_put_48 : decode cX3_put 48 = .ok (.getfield 22, 3) := by decide +kernel
theorem dX3_put_51 : decode cX3_put 51 = .ok (.lload_n 1, 1) := by decide +kernel
theorem dX3_put_52 : decode cX3_put 52 = .ok (.lastore, 1) := by decide +kernel
theorem dX3_put_53 : decode cX3_put 53 = .ok (.aload_n 0, 1) := by decide +kernel
theorem dX3_put_54 : decode cX3_put 54 = .ok (.getfield 15, 3) := by decide +kernel
theorem dX3_put_57 : decode cX3_put 57 = .ok (.aload_n 0, 1) := by decide +kernel
theorem dX3_put_58 : decode cX3_put 58 = .ok (.getfield 22, 3) := by decide +kernel
theorem dX3_put_61 : decode cX3_put 61 = .ok (.lload_n 3, 1) := by decide +kernel
theorem dX3_put_62 : decode cX3_put 62 = .ok (.lastore, 1) := by decide +kernel
theorem dX3_put_63 : decode cX3_put 63 = .ok (.aload_n 0, 1) := by decide +kernel
theorem dX3_put_64 : decode cX3_put 64 = .ok (.dup, 1) := by decide +kernel
theorem dX3_put_65 : decode cX3_put 65 = .ok (.getfield 22, 3) := by decide +kernel
theorem dX3_put_68 : decode cX3_put 68 = .ok (.iconst 1, 1) := by decide +kernel
theorem dX3_put_69 : decode cX3_put 69 = .ok (.iadd, 1) := by decide +kernel
theorem dX3_put_70 : decode cX3_put 70 = .ok (.putfield 22, 3) := by decide +kernel
theorem dX3_put_73 : decode cX3_put 73 = .ok (.iconst 1, 1) := by decide +kernel
theorem dX3_put_74 : decode cX3_put 74 = .ok (.ireturn, 1) := by decide +kernel
theorem dX4_clear_0 : decode cX4_clear 0 = .ok (.iconst 0, 1) := by decide +kernel
theorem dX4_clear_1 : decode cX4_clear 1 = .ok (.istore_n 1, 1) := by decide +kernel
theorem dX4_clear_2 : decode cX4_clear 2 = .ok (.iload_n 1, 1) := by decide +kernel
theorem dX4_clear_3 : decode cX4_clear 3 = .ok (.sipush 287, 3) := by decide +kernel
theorem dX4_clear_6 : decode cX4_clear 6 = .ok (.if_icmp .ge 16, 3) := by decide +kernel
theorem dX4_clear_9 : decode cX4_clear 9 = .ok (.aload_n 0, 1) := by decide +kernel
theorem dX4_clear_10 : decode cX4_clear 10 = .ok (.getfield 9, 3) := by decide +kernel
theorem dX4_clear_13 : decode cX4_clear 13 = .ok (.iload_n 1, 1) := by decide +kernel
theorem dX4_clear_14 : decode cX4_clear 14 = .ok (.lconst 0, 1) := by decide +kernel
theorem dX4_clear_15 : decode cX4_clear 15 = .ok (.lastore, 1) := by decide +kernel
theorem dX4_clear_16 : decode cX4_clear 16 = .ok (.iinc 1 1, 3) := by decide +kernel
theorem dX4_clear_19 : decode cX4_clear 19 = .ok (.goto (-17), 3) := by decide +kernel
theorem dX4_clear_22 : decode cX4_clear 22 = .ok (.aload_n 0, 1) := by decide +kernel
theorem dX4_clear_23 : decode cX4_clear 23 = .ok (.iconst (-1), 1) := by decide +kernel
theorem dX4_clear_24 : decode cX4_clear 24 = .ok (.putfield 15, 3) := by decide +kernel
theorem dX4_clear_27 : decode cX4_clear 27 = .ok (.aload_n 0, 1) := by decide +kernel
theorem dX4_clear_28 : decode cX4_clear 28 = .ok (.iconst (-1), 1) := by decide +kernel
theorem dX4_clear_29 : decode cX4_clear 29 = .ok (.putfield 19, 3) := by decide +kernel
theorem dX4_clear_32 : decode cX4_clear 32 = .ok (.return_, 1) := by decide +kernel
theorem dX4_copy_0 : decode cX4_copy 0 = .ok (.aload_n 1, 1) := by decide +kernel
theorem dX4_copy_1 : decode cX4_copy 1 = .ok (.getfield 9, 3) := by decide +kernel
theorem dX4_copy_4 : decode cX4_copy 4 = .ok (.iconst 0, 1) := by decide +kernel
theorem dX4_copy_5 : decode cX4_copy 5 = .ok (.aload_n 0, 1) := by decide +kernel
theorem dX4_copy_6 : decode cX4_copy 6 = .ok (.getfield 9, 3) := by decide +kernel
theorem dX4_copy_9 : decode cX4_copy 9 = .ok (.iconst 0, 1) := by decide +kernel
theorem dX4_copy_10 : decode cX4_copy 10 = .ok (.sipush 287, 3) := by decide +kernel
theorem dX4_copy_13 : decode cX4_copy 13 = .ok (.invokestatic 22, 3) := by decide +kernel
theorem dX4_copy_16 : decode cX4_copy 16 = .ok (.aload_n 0, 1) := by decide +kernel
theorem dX4_copy_17 : decode cX4_copy 17 = .ok (.aload_n 1, 1) := by decide +kernel
theorem dX4_copy_18 : decode cX4_copy 18 = .ok (.getfield 15, 3) := by decide +kernel
theorem dX4_copy_21 : decode cX4_copy 21 = .ok (.putfield 15, 3) := by decide +kernel
theorem dX4_copy_24 : decode cX4_copy 24 = .ok (.aload_n 0, 1) := by decide +kernel
theorem dX4_copy_25 : decode cX4_copy 25 = .ok (.aload_n 1, 1) := by decide +kernel
theorem dX4_copy_26 : decode cX4_copy 26 = .ok (.getfield 19, 3) := by decide +kernel
theorem dX4_copy_29 : decode cX4_copy 29 = .ok (.putfield 19, 3) := by decide +kernel
theorem dX4_copy_32 : decode cX4_copy 32 = .ok (.return_, 1) := by decide +kernel
theorem dX4_fromRow_0 : decode cX4_fromRow 0 = .ok (.aload_n 0, 1) := by decide +kernel
theorem dX4_fromRow_1 : decode cX4_fromRow 1 = .ok (.invokevirtual 45, 3) := by decide +kernel
theorem dX4_fromRow_4 : decode cX4_fromRow 4 = .ok (.aload_n 1, 1) := by decide +kernel
theorem dX4_fromRow_5 : decode cX4_fromRow 5 = .ok (.getfield 48, 3) := by decide +kernel
theorem dX4_fromRow_8 : decode cX4_fromRow 8 = .ok (.bipush 40, 2) := by decide +kernel
theorem dX4_fromRow_10 : decode cX4_fromRow 10 = .ok (.invokestatic 51, 3) := by decide +kernel
theorem dX4_fromRow_13 : decode cX4_fromRow 13 = .ok (.istore_n 2, 1) := by decide +kernel
theorem dX4_fromRow_14 : decode cX4_fromRow 14 = .ok (.iconst 0, 1) := by decide +kernel
theorem dX4_fromRow_15 : decode cX4_fromRow 15 = .ok (.istore_n 3, 1) := by decide +kernel
theorem dX4_fromRow_16 : decode cX4_fromRow 16 = .ok (.iload_n 3, 1) := by decide +kernel
theorem dX4_fromRow_17 : decode cX4_fromRow 17 = .ok (.iload_n 2, 1) := by decide +kernel
theorem dX4_fromRow_18 : decode cX4_fromRow 18 = .ok (.if_icmp .gt 21, 3) := by decide +kernel
theorem dX4_fromRow_21 : decode cX4_fromRow 21 = .ok (.aload_n 0, 1) := by decide +kernel
theorem dX4_fromRow_22 : decode cX4_fromRow 22 = .ok (.getfield 9, 3) := by decide +kernel
theorem dX4_fromRow_25 : decode cX4_fromRow 25 = .ok (.iload_n 3, 1) := by decide +kernel
theorem dX4_fromRow_26 : decode cX4_fromRow 26 = .ok (.aload_n 1, 1) := by decide +kernel
theorem dX4_fromRow_27 : decode cX4_fromRow 27 = .ok (.getfield 38, 3) := by decide +kernel
theorem dX4_fromRow_30 : decode cX4_fromRow 30 = .ok (.iload_n 3, 1) := by decide +kernel
theorem dX4_fromRow_31 : decode cX4_fromRow 31 = .ok (.laload, 1) := by decide +kernel
theorem dX4_fromRow_32 : decode cX4_fromRow 32 = .ok (.lastore, 1) := by decide +kernel
theorem dX4_fromRow_33 : decode cX4_fromRow 33 = .ok (.iinc 3 1, 3) := by decide +kernel
theorem dX4_fromRow_36 : decode cX4_fromRow 36 = .ok (.goto (-20), 3) := by decide +kernel
theorem dX4_fromRow_39 : decode cX4_fromRow 39 = .ok (.aload_n 0, 1) := by decide +kernel
theorem dX4_fromRow_40 : decode cX4_fromRow 40 = .ok (.iload_n 2, 1) := by decide +kernel
theorem dX4_fromRow_41 : decode cX4_fromRow 41 = .ok (.putfield 15, 3) := by decide +kernel
theorem dX4_fromRow_44 : decode cX4_fromRow 44 = .ok (.aload_n 0, 1) := by decide +kernel
theorem dX4_fromRow_45 : decode cX4_fromRow 45 = .ok (.iload_n 2, 1) := by decide +kernel
theorem dX4_fromRow_46 : decode cX4_fromRow 46 = .ok (.ifCond .ge 7, 3) := by decide +kernel
theorem dX4_fromRow_49 : decode cX4_fromRow 49 = .ok (.iconst (-1), 1) := by decide +kernel
theorem dX4_fromRow_50 : decode cX4_fromRow 50 = .ok (.goto 4, 3) := by decide +kernel
theorem dX4_fromRow_53 : decode cX4_fromRow 53 = .ok (.iconst 0, 1) := by decide +kernel
theorem dX4_fromRow_54 : decode cX4_fromRow 54 = .ok (.putfield 19, 3) := by decide +kernel
theorem dX4_fromRow_57 : decode cX4_fromRow 57 = .ok (.return_, 1) := by decide +kernel
theorem dX4_init_0 : decode cX4_init 0 = .ok (.aload_n 0, 1) := by decide +kernel
theorem dX4_init_1 : decode cX4_init 1 = .ok (.invokespecial 3, 3) := by decide +kernel
theorem dX4_init_4 : decode cX4_init 4 = .ok (.aload_n 0, 1) := by decide +kernel
theorem dX4_init_5 : decode cX4_init 5 = .ok (.sipush 287, 3) := by decide +kernel
theorem dX4_init_8 : decode cX4_init 8 = .ok (.newarray .long, 2) := by decide +kernel
theorem dX4_init_10 : decode cX4_init 10 = .ok (.putfield 9, 3) := by decide +kernel
theorem dX4_init_13 : decode cX4_init 13 = .ok (.aload_n 0, 1) := by decide +kernel
theorem dX4_init_14 : decode cX4_init 14 = .ok (.iconst (-1), 1) := by decide +kernel
theorem dX4_init_15 : decode cX4_init 15 = .ok (.putfield 15, 3) := by decide +kernel
theorem dX4_init_18 : decode cX4_init 18 = .ok (.aload_n 0, 1) := by decide +kernel
theorem dX4_init_19 : decode cX4_init 19 = .ok (.iconst (-1), 1) := by decide +kernel
theorem dX4_init_20 : decode cX4_init 20 = .ok (.putfield 19, 3) := by decide +kernel
theorem dX4_init_23 : decode cX4_init 23 = .ok (.return_, 1) := by decide +kernel
theorem dX4_measure_0 : decode cX4_measure 0 = .ok (.aload_n 0, 1) := by decide +kernel
theorem dX4_measure_1 : decode cX4_measure 1 = .ok (.iconst (-1), 1) := by decide +kernel
theorem dX4_measure_2 : decode cX4_measure 2 = .ok (.putfield 15, 3) := by decide +kernel
theorem dX4_measure_5 : decode cX4_measure 5 = .ok (.aload_n 0, 1) := by decide +kernel
theorem dX4_measure_6 : decode cX4_measure 6 = .ok (.iconst (-1), 1) := by decide +kernel
theorem dX4_measure_7 : decode cX4_measure 7 = .ok (.putfield 19, 3) := by decide +kernel
theorem dX4_measure_10 : decode cX4_measure 10 = .ok (.iconst 0, 1) := by decide +kernel
theorem dX4_measure_11 : decode cX4_measure 11 = .ok (.istore_n 1, 1) := by decide +kernel
theorem dX4_measure_12 : decode cX4_measure 12 = .ok (.iload_n 1, 1) := by decide +kernel
theorem dX4_measure_13 : decode cX4_measure 13 = .ok (.bipush 6, 2) := by decide +kernel
theorem dX4_measure_15 : decode cX4_measure 15 = .ok (.if_icmp .gt 56, 3) := by decide +kernel
theorem dX4_measure_18 : decode cX4_measure 18 = .ok (.iconst 0, 1) := by decide +kernel
theorem dX4_measure_19 : decode cX4_measure 19 = .ok (.istore_n 2, 1) := by decide +kernel
theorem dX4_measure_20 : decode cX4_measure 20 = .ok (.iload_n 2, 1) := by decide +kernel
theorem dX4_measure_21 : decode cX4_measure 21 = .ok (.bipush 40, 2) := by decide +kernel
theorem dX4_measure_23 : decode cX4_measure 23 = .ok (.if_icmp .gt 42, 3) := by decide +kernel
theorem dX4_measure_26 : decode cX4_measure 26 = .ok (.aload_n 0, 1) := by decide +kernel
theorem dX4_measure_27 : decode cX4_measure 27 = .ok (.getfield 9, 3) := by decide +kernel
theorem dX4_measure_30 : decode cX4_measure 30 = .ok (.iload_n 1, 1) := by decide +kernel
theorem dX4_measure_31 : decode cX4_measure 31 = .ok (.bipush 41, 2) := by decide +kernel
theorem dX4_measure_33 : decode cX4_measure 33 = .ok (.imul, 1) := by decide +kernel
theorem dX4_measure_34 : decode cX4_measure 34 = .ok (.iload_n 2, 1) := by decide +kernel
theorem dX4_measure_35 : decode cX4_measure 35 = .ok (.iadd, 1) := by decide +kernel
theorem dX4_measure_36 : decode cX4_measure 36 = .ok (.laload, 1) := by decide +kernel
theorem dX4_measure_37 : decode cX4_measure 37 = .ok (.lconst 0, 1) := by decide +kernel
theorem dX4_measure_38 : decode cX4_measure 38 = .ok (.lcmp, 1) := by decide +kernel
theorem dX4_measure_39 : decode cX4_measure 39 = .ok (.ifCond .eq 20, 3) := by decide +kernel
theorem dX4_measure_42 : decode cX4_measure 42 = .ok (.aload_n 0, 1) := by decide +kernel
theorem dX4_measure_43 : decode cX4_measure 43 = .ok (.aload_n 0, 1) := by decide +kernel
theorem dX4_measure_44 : decode cX4_measure 44 = .ok (.getfield 15, 3) := by decide +kernel
theorem dX4_measure_47 : decode cX4_measure 47 = .ok (.iload_n 2, 1) := by decide +kernel
theorem dX4_measure_48 : decode cX4_measure 48 = .ok (.invokestatic 28, 3) := by decide +kernel
theorem dX4_measure_51 : decode cX4_measure 51 = .ok (.putfield 15, 3) := by decide +kernel
theorem dX4_measure_54 : decode cX4_measure 54 = .ok (.aload_n 0, 1) := by decide +kernel
theorem dX4_measure_55 : decode cX4_measure 55 = .ok (.iload_n 1, 1) := by decide +kernel
theorem dX4_measure_56 : decode cX4_measure 56 = .ok (.putfield 19, 3) := by decide +kernel
theorem dX4_measure_59 : decode cX4_measure 59 = .ok (.iinc 2 1, 3) := by decide +kernel
theorem dX4_measure_62 : decode cX4_measure 62 = .ok (.goto (-42), 3) := by decide +kernel
theorem dX4_measure_65 : decode cX4_measure 65 = .ok (.iinc 1 1, 3) := by decide +kernel
theorem dX4_measure_68 : decode cX4_measure 68 = .ok (.goto (-56), 3) := by decide +kernel
theorem dX4_measure_71 : decode cX4_measure 71 = .ok (.return_, 1) := by decide +kernel
theorem dX5_become_0 : decode cX5_become 0 = .ok (.aload_n 0, 1) := by decide +kernel
theorem dX5_become_1 : decode cX5_become 1 = .ok (.getfield 15, 3) := by decide +kernel
theorem dX5_become_4 : decode cX5_become 4 = .ok (.iconst 0, 1) := by decide +kernel
theorem dX5_become_5 : decode cX5_become 5 = .ok (.lload_n 1, 1) := by decide +kernel
theorem dX5_become_6 : decode cX5_become 6 = .ok (.lastore, 1) := by decide +kernel
theorem dX5_become_7 : decode cX5_become 7 = .ok (.aload_n 0, 1) := by decide +kernel
theorem dX5_become_8 : decode cX5_become 8 = .ok (.lload_n 1, 1) := by decide +kernel
theorem dX5_become_9 : decode cX5_become 9 = .ok (.lconst 0, 1) := by decide +kernel
theorem dX5_become_10 : decode cX5_become 10 = .ok (.lcmp, 1) := by decide +kernel
theorem dX5_become_11 : decode cX5_become 11 = .ok (.ifCond .ne 7, 3) := by decide +kernel
theorem dX5_become_14 : decode cX5_become 14 = .ok (.iconst (-1), 1) := by decide +kernel
theorem dX5_become_15 : decode cX5_become 15 = .ok (.goto 4, 3) := by decide +kernel
theorem dX5_become_18 : decode cX5_become 18 = .ok (.iconst 0, 1) := by decide +kernel
theorem dX5_become_19 : decode cX5_become 19 = .ok (.putfield 9, 3) := by decide +kernel
theorem dX5_become_22 : decode cX5_become 22 = .ok (.return_, 1) := by decide +kernel
theorem dX5_init_0 : decode cX5_init 0 = .ok (.aload_n 0, 1) := by decide +kernel
theorem dX5_init_1 : decode cX5_init 1 = .ok (.invokespecial 3, 3) := by decide +kernel
theorem dX5_init_4 : decode cX5_init 4 = .ok (.aload_n 0, 1) := by decide +kernel
theorem dX5_init_5 : decode cX5_init 5 = .ok (.iconst (-1), 1) := by decide +kernel
theorem dX5_init_6 : decode cX5_init 6 = .ok (.putfield 9, 3) := by decide +kernel
theorem dX5_init_9 : decode cX5_init 9 = .ok (.aload_n 0, 1) := by decide +kernel
theorem dX5_init_10 : decode cX5_init 10 = .ok (.iload_n 1, 1) := by decide +kernel
theorem dX5_init_11 : decode cX5_init 11 = .ok (.iconst 1, 1) := by decide +kernel
theorem dX5_init_12 : decode cX5_init 12 = .ok (.if_icmp .ge 7, 3) := by decide +kernel
theorem dX5_init_15 : decode cX5_init 15 = .ok (.iconst 1, 1) := by decide +kernel
theorem dX5_init_16 : decode cX5_init 16 = .ok (.goto 4, 3) := by decide +kernel
theorem dX5_init_19 : decode cX5_init 19 = .ok (.iload_n 1, 1) := by decide +kernel
theorem dX5_init_20 : decode cX5_init 20 = .ok (.newarray .long, 2) := by decide +kernel
theorem dX5_init_22 : decode cX5_init 22 = .ok (.putfield 15, 3) := by decide +kernel
theorem dX5_init_25 : decode cX5_init 25 = .ok (.return_, 1) := by decide +kernel
theorem dX8_init_0 : decode cX8_init 0 = .ok (.aload_n 0, 1) := by decide +kernel
theorem dX8_init_1 : decode cX8_init 1 = .ok (.invokespecial 3, 3) := by decide +kernel
theorem dX8_init_4 : decode cX8_init 4 = .ok (.aload_n 0, 1) := by decide +kernel
theorem dX8_init_5 : decode cX8_init 5 = .ok (.new 9, 3) := by decide +kernel
theorem dX8_init_8 : decode cX8_init 8 = .ok (.dup, 1) := by decide +kernel
theorem dX8_init_9 : decode cX8_init 9 = .ok (.invokespecial 11, 3) := by decide +kernel
theorem dX8_init_12 : decode cX8_init 12 = .ok (.putfield 12, 3) := by decide +kernel
theorem dX8_init_15 : decode cX8_init 15 = .ok (.aload_n 0, 1) := by decide +kernel
theorem dX8_init_16 : decode cX8_init 16 = .ok (.aload_n 1, 1) := by decide +kernel
theorem dX8_init_17 : decode cX8_init 17 = .ok (.putfield 18, 3) := by decide +kernel
theorem dX8_init_20 : decode cX8_init 20 = .ok (.return_, 1) := by decide +kernel
theorem dX9_apply_0 : decode cX9_apply 0 = .ok (.iload_n 1, 1) := by decide +kernel
theorem dX9_apply_1 : decode cX9_apply 1 = .ok (.ifCond .lt 9, 3) := by decide +kernel
theorem dX9_apply_4 : decode cX9_apply 4 = .ok (.iload_n 1, 1) := by decide +kernel
theorem dX9_apply_5 : decode cX9_apply 5 = .ok (.bipush 13, 2) := by decide +kernel
theorem dX9_apply_7 : decode cX9_apply 7 = .ok (.if_icmp .le 6, 3) := by decide +kernel
theorem dX9_apply_10 : decode cX9_apply 10 = .ok (.bipush (-2), 2) := by decide +kernel
theorem dX9_apply_12 : decode cX9_apply 12 = .ok (.ireturn, 1) := by decide +kernel
theorem dX9_apply_13 : decode cX9_apply 13 = .ok (.iload_n 1, 1) := by decide +kernel
theorem dX9_apply_14 : decode cX9_apply 14 = .ok (.iconst 3, 1) := by decide +kernel
theorem dX9_apply_15 : decode cX9_apply 15 = .ok (.if_icmp .eq 15, 3) := by decide +kernel
theorem dX9_apply_18 : decode cX9_apply 18 = .ok (.iload_n 1, 1) := by decide +kernel
theorem dX9_apply_19 : decode cX9_apply 19 = .ok (.bipush 6, 2) := by decide +kernel
theorem dX9_apply_21 : decode cX9_apply 21 = .ok (.if_icmp .eq 9, 3) := by decide +kernel
theorem dX9_apply_24 : decode cX9_apply 24 = .ok (.iload_n 1, 1) := by decide +kernel
theorem dX9_apply_25 : decode cX9_apply 25 = .ok (.bipush 7, 2) := by decide +kernel
theorem dX9_apply_27 : decode cX9_apply 27 = .ok (.if_icmp .ne 7, 3) := by decide +kernel
theorem dX9_apply_30 : decode cX9_apply 30 = .ok (.iconst 1, 1) := by decide +kernel
theorem dX9_apply_31 : decode cX9_apply 31 = .ok (.goto 4, 3) := by decide +kernel
theorem dX9_apply_34 : decode cX9_apply 34 = .ok (.iconst 0, 1) := by decide +kernel
theorem dX9_apply_35 : decode cX9_apply 35 = .ok (.istore 4, 2) := by decide +kernel
theorem dX9_apply_37 : decode cX9_apply 37 = .ok (.aload_n 0, 1) := by decide +kernel
theorem dX9_apply_38 : decode cX9_apply 38 = .ok (.iload_n 2, 1) := by decide +kernel
theorem dX9_apply_39 : decode cX9_apply 39 = .ok (.invokevirtual 107, 3) := by decide +kernel
theorem dX9_apply_42 : decode cX9_apply 42 = .ok (.astore 5, 2) := by decide +kernel
theorem dX9_apply_44 : decode cX9_apply 44 = .ok (.iload 4, 2) := by decide +kernel
theorem dX9_apply_46 : decode cX9_apply 46 = .ok (.ifCond .eq 8, 3) := by decide +kernel
theorem dX9_apply_49 : decode cX9_apply 49 = .ok (.aload 5, 2) := by decide +kernel
theorem dX9_apply_51 : decode cX9_apply 51 = .ok (.goto 8, 3) := by decide +kernel
theorem dX9_apply_54 : decode cX9_apply 54 = .ok (.aload_n 0, 1) := by decide +kernel
theorem dX9_apply_55 : decode cX9_apply 55 = .ok (.iload_n 3, 1) := by decide +kernel
theorem dX9_apply_56 : decode cX9_apply 56 = .ok (.invokevirtual 107, 3) := by decide +kernel
theorem dX9_apply_59 : decode cX9_apply 59 = .ok (.astore 6, 2) := by decide +kernel
theorem dX9_apply_61 : decode cX9_apply 61 = .ok (.aload 5, 2) := by decide +kernel
theorem dX9_apply_63 : decode cX9_apply 63 = .ok (.ifnull 8, 3) := by decide +kernel
theorem dX9_apply_66 : decode cX9_apply 66 = .ok (.aload 6, 2) := by decide +kernel
theorem dX9_apply_68 : decode cX9_apply 68 = .ok (.ifnonnull 5, 3) := by decide +kernel
theorem dX9_apply_71 : decode cX9_apply 71 = .ok (.iconst (-1), 1) := by decide +kernel
theorem dX9_apply_72 : decode cX9_apply 72 = .ok (.ireturn, 1) := by decide +kernel
theorem dX9_apply_73 : decode cX9_apply 73 = .ok (.iload_n 1, 1) := by decide +kernel
theorem dX9_apply_74 : decode cX9_apply 74 = .ok (.bipush 8, 2) := by decide +kernel
theorem dX9_apply_76 : decode cX9_apply 76 = .ok (.if_icmp .ge 26, 3) := by decide +kernel
theorem dX9_apply_79 : decode cX9_apply 79 = .ok (.aload_n 0, 1) := by decide +kernel
theorem dX9_apply_80 : decode cX9_apply 80 = .ok (.iload_n 1, 1) := by decide +kernel
theorem dX9_apply_81 : decode cX9_apply 81 = .ok (.aload 5, 2) := by decide +kernel
theorem dX9_apply_83 : decode cX9_apply 83 = .ok (.aload 6, 2) := by decide +kernel
theorem dX9_apply_85 : decode cX9_apply 85 = .ok (.invokevirtual 111, 3) := by decide +kernel
theorem dX9_apply_88 : decode cX9_apply 88 = .ok (.ifCond .eq 7, 3) := by decide +kernel
theorem dX9_apply_91 : decode cX9_apply 91 = .ok (.iconst 0, 1) := by decide +kernel
theorem dX9_apply_92 : decode cX9_apply 92 = .ok (.goto 5, 3) := by decide +kernel
theorem dX9_apply_95 : decode cX9_apply 95 = .ok (.bipush (-4), 2) := by decide +kernel
theorem dX9_apply_97 : decode cX9_apply 97 = .ok (.istore 7, 2) := by decide +kernel
theorem dX9_apply_99 : decode cX9_apply 99 = .ok (.goto 33, 3) := by decide +kernel
theorem dX9_apply_102 : decode cX9_apply 102 = .ok (.iload_n 1, 1) := by decide +kernel
theorem dX9_apply_103 : decode cX9_apply 103 = .ok (.bipush 12, 2) := by decide +kernel
theorem dX9_apply_105 : decode cX9_apply 105 = .ok (.if_icmp .ne 16, 3) := by decide +kernel
theorem dX9_apply_108 : decode cX9_apply 108 = .ok (.aload_n 0, 1) := by decide +kernel
theorem dX9_apply_109 : decode cX9_apply 109 = .ok (.aload 5, 2) := by decide +kernel
theorem dX9_apply_111 : decode cX9_apply 111 = .ok (.aload 6, 2) := by decide +kernel
theorem dX9_apply_113 : decode cX9_apply 113 = .ok (.invokevirtual 115, 3) := by decide +kernel
theorem dX9_apply_116 : decode cX9_apply 116 = .ok (.istore 7, 2) := by decide +kernel
theorem dX9_apply_118 : decode cX9_apply 118 = .ok (.goto 14, 3) := by decide +kernel
theorem dX9_apply_121 : decode cX9_apply 121 = .ok (.aload_n 0, 1) := by decide +kernel
theorem dX9_apply_122 : decode cX9_apply 122 = .ok (.iload_n 1, 1) := by decide +kernel
theorem dX9_apply_123 : decode cX9_apply 123 = .ok (.aload 5, 2) := by decide +kernel
theorem dX9_apply_125 : decode cX9_apply 125 = .ok (.aload 6, 2) := by decide +kernel
theorem dX9_apply_127 : decode cX9_apply 127 = .ok (.invokevirtual 119, 3) := by decide +kernel
theorem dX9_apply_130 : decode cX9_apply 130 = .ok (.istore 7, 2) := by decide +kernel
theorem dX9_apply_132 : decode cX9_apply 132 = .ok (.iload 7, 2) := by decide +kernel
theorem dX9_apply_134 : decode cX9_apply 134 = .ok (.ifCond .ge 8, 3) := by decide +kernel
theorem dX9_apply_137 : decode cX9_apply 137 = .ok (.iload 7, 2) := by decide +kernel
theorem dX9_apply_139 : decode cX9_apply 139 = .ok (.goto 11, 3) := by decide +kernel
theorem dX9_apply_142 : decode cX9_apply 142 = .ok (.aload_n 0, 1) := by decide +kernel
theorem dX9_apply_143 : decode cX9_apply 143 = .ok (.aload_n 0, 1) := by decide +kernel
theorem dX9_apply_144 : decode cX9_apply 144 = .ok (.getfield 50, 3) := by decide +kernel
theorem dX9_apply_147 : decode cX9_apply 147 = .ok (.invokevirtual 103, 3) := by decide +kernel
theorem dX9_apply_150 : decode cX9_apply 150 = .ok (.ireturn, 1) := by decide +kernel
theorem dX9_at_0 : decode cX9_at 0 = .ok (.aload_n 0, 1) := by decide +kernel
theorem dX9_at_1 : decode cX9_at 1 = .ok (.iload_n 1, 1) := by decide +kernel
theorem dX9_at_2 : decode cX9_at 2 = .ok (.invokevirtual 107, 3) := by decide +kernel
theorem dX9_at_5 : decode cX9_at 5 = .ok (.astore 4, 2) := by decide +kernel
theorem dX9_at_7 : decode cX9_at 7 = .ok (.aload 4, 2) := by decide +kernel
theorem dX9_at_9 : decode cX9_at 9 = .ok (.ifnull 11, 3) := by decide +kernel
theorem dX9_at_12 : decode cX9_at 12 = .ok (.iload_n 2, 1) := by decide +kernel
theorem dX9_at_13 : decode cX9_at 13 = .ok (.iload_n 3, 1) := by decide +kernel
theorem dX9_at_14 : decode cX9_at 14 = .ok (.invokestatic 123, 3) := by decide +kernel
theorem dX9_at_17 : decode cX9_at 17 = .ok (.ifCond .ne 5, 3) := by decide +kernel
theorem dX9_at_20 : decode cX9_at 20 = .ok (.iconst (-1), 1) := by decide +kernel
theorem dX9_at_21 : decode cX9_at 21 = .ok (.ireturn, 1) := by decide +kernel
theorem dX9_at_22 : decode cX9_at 22 = .ok (.aload 4, 2) := by decide +kernel
theorem dX9_at_24 : decode cX9_at 24 = .ok (.getfield 92, 3) := by decide +kernel
theorem dX9_at_27 : decode cX9_at 27 = .ok (.iload_n 3, 1) := by decide +kernel
theorem dX9_at_28 : decode cX9_at 28 = .ok (.bipush 41, 2) := by decide +kernel
theorem dX9_at_30 : decode cX9_at 30 = .ok (.imul, 1) := by decide +kernel
theorem dX9_at_31 : decode cX9_at 31 = .ok (.iload_n 2, 1) := by decide +kernel
theorem dX9_at_32 : decode cX9_at 32 = .ok (.iadd, 1) := by decide +kernel
theorem dX9_at_33 : decode cX9_at 33 = .ok (.laload, 1) := by decide +kernel
theorem dX9_at_34 : decode cX9_at 34 = .ok (.l2i, 1) := by decide +kernel
theorem dX9_at_35 : decode cX9_at 35 = .ok (.ireturn, 1) := by decide +kernel
theorem dX9_constant_0 : decode cX9_constant 0 = .ok (.aload_n 0, 1) := by decide +kernel
theorem dX9_constant_1 : decode cX9_constant 1 = .ok (.getfield 50, 3) := by decide +kernel
theorem dX9_constant_4 : decode cX9_constant 4 = .ok (.invokevirtual 89, 3) := by decide +kernel
theorem dX9_constant_7 : decode cX9_constant 7 = .ok (.aload_n 0, 1) := by decide +kernel
theorem dX9_constant_8 : decode cX9_constant 8 = .ok (.getfield 50, 3) := by decide +kernel
theorem dX9_constant_11 : decode cX9_constant 11 = .ok (.getfield 92, 3) := by decide +kernel
theorem dX9_constant_14 : decode cX9_constant 14 = .ok (.iconst 0, 1) := by decide +kernel
theorem dX9_constant_15 : decode cX9_constant 15 = .ok (.aload_n 0, 1) := by decide +kernel
theorem dX9_constant_16 : decode cX9_constant 16 = .ok (.getfield 10, 3) := by decide +kernel
theorem dX9_constant_19 : decode cX9_constant 19 = .ok (.lload_n 1, 1) := by decide +kernel
theorem dX9_constant_20 : decode cX9_constant 20 = .ok (.invokevirtual 96, 3) := by decide +kernel
theorem dX9_constant_23 : decode cX9_constant 23 = .ok (.lastore, 1) := by decide +kernel
theorem dX9_constant_24 : decode cX9_constant 24 = .ok (.aload_n 0, 1) := by decide +kernel
theorem dX9_constant_25 : decode cX9_constant 25 = .ok (.getfield 50, 3) := by decide +kernel
theorem dX9_constant_28 : decode cX9_constant 28 = .ok (.invokevirtual 100, 3) := by decide +kernel
theorem dX9_constant_31 : decode cX9_constant 31 = .ok (.aload_n 0, 1) := by decide +kernel
theorem dX9_constant_32 : decode cX9_constant 32 = .ok (.aload_n 0, 1) := by decide +kernel
theorem dX9_constant_33 : decode cX9_constant 33 = .ok (.getfield 50, 3) := by decide +kernel
theorem dX9_constant_36 : decode cX9_constant 36 = .ok (.invokevirtual 103, 3) := by decide +kernel
theorem dX9_constant_39 : decode cX9_constant 39 = .ok (.ireturn, 1) := by decide +kernel
theorem dX9_degree_0 : decode cX9_degree 0 = .ok (.aload_n 0, 1) := by decide +kernel
theorem dX9_degree_1 : decode cX9_degree 1 = .ok (.iload_n 1, 1) := by decide +kernel
theorem dX9_degree_2 : decode cX9_degree 2 = .ok (.invokevirtual 107, 3) := by decide +kernel
theorem dX9_degree_5 : decode cX9_degree 5 = .ok (.astore_n 3, 1) := by decide +kernel
theorem dX9_degree_6 : decode cX9_degree 6 = .ok (.aload_n 3, 1) := by decide +kernel
theorem dX9_degree_7 : decode cX9_degree 7 = .ok (.ifnull 12, 3) := by decide +kernel
theorem dX9_degree_10 : decode cX9_degree 10 = .ok (.iload_n 2, 1) := by decide +kernel
theorem dX9_degree_11 : decode cX9_degree 11 = .ok (.ifCond .eq 11, 3) := by decide +kernel
theorem dX9_degree_14 : decode cX9_degree 14 = .ok (.iload_n 2, 1) := by decide +kernel
theorem dX9_degree_15 : decode cX9_degree 15 = .ok (.iconst 1, 1) := by decide +kernel
theorem dX9_degree_16 : decode cX9_degree 16 = .ok (.if_icmp .eq 6, 3) := by decide +kernel
theorem dX9_degree_19 : decode cX9_degree 19 = .ok (.bipush (-2), 2) := by decide +kernel
theorem dX9_degree_21 : decode cX9_degree 21 = .ok (.ireturn, 1) := by decide +kernel
theorem dX9_degree_22 : decode cX9_degree 22 = .ok (.iload_n 2, 1) := by decide +kernel
theorem dX9_degree_23 : decode cX9_degree 23 = .ok (.ifCond .ne 10, 3) := by decide +kernel
theorem dX9_degree_26 : decode cX9_degree 26 = .ok (.aload_n 3, 1) := by decide +kernel
theorem dX9_degree_27 : decode cX9_degree 27 = .ok (.getfield 135, 3) := by decide +kernel
theorem dX9_degree_30 : decode cX9_degree 30 = .ok (.goto 7, 3) := by decide +kernel
theorem dX9_degree_33 : decode cX9_degree 33 = .ok (.aload_n 3, 1) := by decide +kernel
theorem dX9_degree_34 : decode cX9_degree 34 = .ok (.getfield 149, 3) := by decide +kernel
theorem dX9_degree_37 : decode cX9_degree 37 = .ok (.ireturn, 1) := by decide +kernel
theorem dX9_drop_0 : decode cX9_drop 0 = .ok (.aload_n 0, 1) := by decide +kernel
theorem dX9_drop_1 : decode cX9_drop 1 = .ok (.iload_n 1, 1) := by decide +kernel
theorem dX9_drop_2 : decode cX9_drop 2 = .ok (.invokevirtual 107, 3) := by decide +kernel
theorem dX9_drop_5 : decode cX9_drop 5 = .ok (.ifnonnull 5, 3) := by decide +kernel
theorem dX9_drop_8 : decode cX9_drop 8 = .ok (.iconst 0, 1) := by decide +kernel
theorem dX9_drop_9 : decode cX9_drop 9 = .ok (.ireturn, 1) := by decide +kernel
theorem dX9_drop_10 : decode cX9_drop 10 = .ok (.aload_n 0, 1) := by decide +kernel
theorem dX9_drop_11 : decode cX9_drop 11 = .ok (.getfield 22, 3) := by decide +kernel
theorem dX9_drop_14 : decode cX9_drop 14 = .ok (.iload_n 1, 1) := by decide +kernel
theorem dX9_drop_15 : decode cX9_drop 15 = .ok (.iconst 0, 1) := by decide +kernel
theorem dX9_drop_16 : decode cX9_drop 16 = .ok (.bastore, 1) := by decide +kernel
theorem dX9_drop_17 : decode cX9_drop 17 = .ok (.iconst 1, 1) := by decide +kernel
theorem dX9_drop_18 : decode cX9_drop 18 = .ok (.ireturn, 1) := by decide +kernel
theorem dX9_factor_0 : decode cX9_factor 0 = .ok (.aload_n 0, 1) := by decide +kernel
theorem dX9_factor_1 : decode cX9_factor 1 = .ok (.iload_n 1, 1) := by decide +kernel
theorem dX9_factor_2 : decode cX9_factor 2 = .ok (.invokevirtual 107, 3) := by decide +kernel
theorem dX9_factor_5 : decode cX9_factor 5 = .ok (.astore_n 2, 1) := by decide +kernel
theorem dX9_factor_6 : decode cX9_factor 6 = .ok (.aload_n 2, 1) := by decide +kernel
theorem dX9_factor_7 : decode cX9_factor 7 = .ok (.ifnonnull 5, 3) := by decide +kernel
theorem dX9_factor_10 : decode cX9_factor 10 = .ok (.iconst (-1), 1) := by decide +kernel
theorem dX9_factor_11 : decode cX9_factor 11 = .ok (.ireturn, 1) := by decide +kernel
theorem dX9_factor_12 : decode cX9_factor 12 = .ok (.aload_n 2, 1) := by decide +kernel
theorem dX9_factor_13 : decode cX9_factor 13 = .ok (.invokevirtual 131, 3) := by decide +kernel
theorem dX9_factor_16 : decode cX9_factor 16 = .ok (.ifCond .ne 6, 3) := by decide +kernel
theorem dX9_factor_19 : decode cX9_factor 19 = .ok (.bipush (-2), 2) := by decide +kernel
theorem dX9_factor_21 : decode cX9_factor 21 = .ok (.ireturn, 1) := by decide +kernel
theorem dX9_factor_22 : decode cX9_factor 22 = .ok (.aload_n 2, 1) := by decide +kernel
theorem dX9_factor_23 : decode cX9_factor 23 = .ok (.getfield 135, 3) := by decide +kernel
theorem dX9_factor_26 : decode cX9_factor 26 = .ok (.iconst 1, 1) := by decide +kernel
theorem dX9_factor_27 : decode cX9_factor 27 = .ok (.if_icmp .ge 6, 3) := by decide +kernel
theorem dX9_factor_30 : decode cX9_factor 30 = .ok (.bipush (-3), 2) := by decide +kernel
theorem dX9_factor_32 : decode cX9_factor 32 = .ok (.ireturn, 1) := by decide +kernel
theorem dX9_factor_33 : decode cX9_factor 33 = .ok (.aload_n 0, 1) := by decide +kernel
theorem dX9_factor_34 : decode cX9_factor 34 = .ok (.getfield 80, 3) := by decide +kernel
theorem dX9_factor_37 : decode cX9_factor 37 = .ok (.ifnonnull 22, 3) := by decide +kernel
theorem dX9_factor_40 : decode cX9_factor 40 = .ok (.aload_n 0, 1) := by decide +kernel
theorem dX9_factor_41 : decode cX9_factor 41 = .ok (.new 85, 3) := by decide +kernel
theorem dX9_factor_44 : decode cX9_factor 44 = .ok (.dup, 1) := by decide +kernel
theorem dX9_factor_45 : decode cX9_factor 45 = .ok (.aload_n 0, 1) := by decide +kernel
theorem dX9_factor_46 : decode cX9_factor 46 = .ok (.getfield 10, 3) := by decide +kernel
theorem dX9_factor_49 : decode cX9_factor 49 = .ok (.aload_n 0, 1) := by decide +kernel
theorem dX9_factor_50 : decode cX9_factor 50 = .ok (.getfield 38, 3) := by decide +kernel
theorem dX9_factor_53 : decode cX9_factor 53 = .ok (.invokespecial 160, 3) := by decide +kernel
theorem dX9_factor_56 : decode cX9_factor 56 = .ok (.putfield 80, 3) := by decide +kernel
theorem dX9_factor_59 : decode cX9_factor 59 = .ok (.aload_n 2, 1) := by decide +kernel
theorem dX9_factor_60 : decode cX9_factor 60 = .ok (.aload_n 0, 1) := by decide +kernel
theorem dX9_factor_61 : decode cX9_factor 61 = .ok (.getfield 59, 3) := by decide +kernel
theorem dX9_factor_64 : decode cX9_factor 64 = .ok (.invokevirtual 138, 3) := by decide +kernel
theorem dX9_factor_67 : decode cX9_factor 67 = .ok (.aload_n 0, 1) := by decide +kernel
theorem dX9_factor_68 : decode cX9_factor 68 = .ok (.getfield 80, 3) := by decide +kernel
theorem dX9_factor_71 : decode cX9_factor 71 = .ok (.aload_n 0, 1) := by decide +kernel
theorem dX9_factor_72 : decode cX9_factor 72 = .ok (.getfield 59, 3) := by decide +kernel
theorem dX9_factor_75 : decode cX9_factor 75 = .ok (.invokevirtual 163, 3) := by decide +kernel
theorem dX9_factor_78 : decode cX9_factor 78 = .ok (.aload_n 0, 1) := by decide +kernel
theorem dX9_factor_79 : decode cX9_factor 79 = .ok (.getfield 80, 3) := by decide +kernel
theorem dX9_factor_82 : decode cX9_factor 82 = .ok (.getfield 166, 3) := by decide +kernel
theorem dX9_factor_85 : decode cX9_factor 85 = .ok (.ireturn, 1) := by decide +kernel
theorem dX9_factorAt_0 : decode cX9_factorAt 0 = .ok (.aload_n 0, 1) := by decide +kernel
theorem dX9_factorAt_1 : decode cX9_factorAt 1 = .ok (.iload_n 1, 1) := by decide +kernel
theorem dX9_factorAt_2 : decode cX9_factorAt 2 = .ok (.invokevirtual 167, 3) := by decide +kernel
theorem dX9_factorAt_5 : decode cX9_factorAt 5 = .ok (.astore_n 3, 1) := by decide +kernel
theorem dX9_factorAt_6 : decode cX9_factorAt 6 = .ok (.aload_n 3, 1) := by decide +kernel
theorem dX9_factorAt_7 : decode cX9_factorAt 7 = .ok (.ifnull 13, 3) := by decide +kernel
theorem dX9_factorAt_10 : decode cX9_factorAt 10 = .ok (.iload_n 2, 1) := by decide +kernel
theorem dX9_factorAt_11 : decode cX9_factorAt 11 = .ok (.ifCond .lt 9, 3) := by decide +kernel
theorem dX9_factorAt_14 : decode cX9_factorAt 14 = .ok (.iload_n 2, 1) := by decide +kernel
theorem dX9_factorAt_15 : decode cX9_factorAt 15 = .ok (.bipush 40, 2) := by decide +kernel
theorem dX9_factorAt_17 : decode cX9_factorAt 17 = .ok (.if_icmp .le 5, 3) := by decide +kernel
theorem dX9_factorAt_20 : decode cX9_factorAt 20 = .ok (.iconst (-1), 1) := by decide +kernel
theorem dX9_factorAt_21 : decode cX9_factorAt 21 = .ok (.ireturn, 1) := by decide +kernel
theorem dX9_factorAt_22 : decode cX9_factorAt 22 = .ok (.aload_n 3, 1) := by decide +kernel
theorem dX9_factorAt_23 : decode cX9_factorAt 23 = .ok (.iload_n 2, 1) := by decide +kernel
theorem dX9_factorAt_24 : decode cX9_factorAt 24 = .ok (.invokevirtual 178, 3) := by decide +kernel
theorem dX9_factorAt_27 : decode cX9_factorAt 27 = .ok (.l2i, 1) := by decide +kernel
theorem dX9_factorAt_28 : decode cX9_factorAt 28 = .ok (.ireturn, 1) := by decide +kernel
theorem dX9_factorOf_0 : decode cX9_factorOf 0 = .ok (.aload_n 0, 1) := by decide +kernel
theorem dX9_factorOf_1 : decode cX9_factorOf 1 = .ok (.iload_n 1, 1) := by decide +kernel
theorem dX9_factorOf_2 : decode cX9_factorOf 2 = .ok (.invokevirtual 167, 3) := by decide +kernel
theorem dX9_factorOf_5 : decode cX9_factorOf 5 = .ok (.astore_n 3, 1) := by decide +kernel
theorem dX9_factorOf_6 : decode cX9_factorOf 6 = .ok (.aload_n 3, 1) := by decide +kernel
theorem dX9_factorOf_7 : decode cX9_factorOf 7 = .ok (.ifnull 12, 3) := by decide +kernel
theorem dX9_factorOf_10 : decode cX9_factorOf 10 = .ok (.iload_n 2, 1) := by decide +kernel
theorem dX9_factorOf_11 : decode cX9_factorOf 11 = .ok (.ifCond .eq 10, 3) := by decide +kernel
theorem dX9_factorOf_14 : decode cX9_factorOf 14 = .ok (.iload_n 2, 1) := by decide +kernel
theorem dX9_factorOf_15 : decode cX9_factorOf 15 = .ok (.iconst 1, 1) := by decide +kernel
theorem dX9_factorOf_16 : decode cX9_factorOf 16 = .ok (.if_icmp .eq 5, 3) := by decide +kernel
theorem dX9_factorOf_19 : decode cX9_factorOf 19 = .ok (.iconst (-1), 1) := by decide +kernel
theorem dX9_factorOf_20 : decode cX9_factorOf 20 = .ok (.ireturn, 1) := by decide +kernel
theorem dX9_factorOf_21 : decode cX9_factorOf 21 = .ok (.iload_n 2, 1) := by decide +kernel
theorem dX9_factorOf_22 : decode cX9_factorOf 22 = .ok (.ifCond .ne 15, 3) := by decide +kernel
theorem dX9_factorOf_25 : decode cX9_factorOf 25 = .ok (.aload_n 0, 1) := by decide +kernel
theorem dX9_factorOf_26 : decode cX9_factorOf 26 = .ok (.getfield 80, 3) := by decide +kernel
theorem dX9_factorOf_29 : decode cX9_factorOf 29 = .ok (.getfield 171, 3) := by decide +kernel
theorem dX9_factorOf_32 : decode cX9_factorOf 32 = .ok (.iload_n 1, 1) := by decide +kernel
theorem dX9_factorOf_33 : decode cX9_factorOf 33 = .ok (.iaload, 1) := by decide +kernel
theorem dX9_factorOf_34 : decode cX9_factorOf 34 = .ok (.goto 7, 3) := by decide +kernel
theorem dX9_factorOf_37 : decode cX9_factorOf 37 = .ok (.aload_n 3, 1) := by decide +kernel
theorem dX9_factorOf_38 : decode cX9_factorOf 38 = .ok (.getfield 175, 3) := by decide +kernel
theorem dX9_factorOf_41 : decode cX9_factorOf 41 = .ok (.ireturn, 1) := by decide +kernel
theorem dX9_find_0 : decode cX9_find 0 = .ok (.iload_n 1, 1) := by decide +kernel
theorem dX9_find_1 : decode cX9_find 1 = .ok (.ifCond .lt 27, 3) := by decide +kernel
theorem dX9_find_4 : decode cX9_find 4 = .ok (.iload_n 1, 1) := by decide +kernel
theorem dX9_find_5 : decode cX9_find 5 = .ok (.bipush 100, 2) := by decide +kernel
theorem dX9_find_7 : decode cX9_find 7 = .ok (.if_icmp .ge 21, 3) := by decide +kernel
theorem dX9_find_10 : decode cX9_find 10 = .ok (.aload_n 0, 1) := by decide +kernel
theorem dX9_find_11 : decode cX9_find 11 = .ok (.getfield 22, 3) := by decide +kernel
theorem dX9_find_14 : decode cX9_find 14 = .ok (.iload_n 1, 1) := by decide +kernel
theorem dX9_find_15 : decode cX9_find 15 = .ok (.baload, 1) := by decide +kernel
theorem dX9_find_16 : decode cX9_find 16 = .ok (.ifCond .eq 12, 3) := by decide +kernel
theorem dX9_find_19 : decode cX9_find 19 = .ok (.aload_n 0, 1) := by decide +kernel
theorem dX9_find_20 : decode cX9_find 20 = .ok (.getfield 18, 3) := by decide +kernel
theorem dX9_find_23 : decode cX9_find 23 = .ok (.iload_n 1, 1) := by decide +kernel
theorem dX9_find_24 : decode cX9_find 24 = .ok (.aaload, 1) := by decide +kernel
theorem dX9_find_25 : decode cX9_find 25 = .ok (.goto 4, 3) := by decide +kernel
theorem dX9_find_28 : decode cX9_find 28 = .ok (.aconst_null, 1) := by decide +kernel
theorem dX9_find_29 : decode cX9_find 29 = .ok (.areturn, 1) := by decide +kernel
theorem dX9_init_0 : decode cX9_init 0 = .ok (.aload_n 0, 1) := by decide +kernel
theorem dX9_init_1 : decode cX9_init 1 = .ok (.invokespecial 1, 3) := by decide +kernel
theorem dX9_init_4 : decode cX9_init 4 = .ok (.aload_n 0, 1) := by decide +kernel
theorem dX9_init_5 : decode cX9_init 5 = .ok (.new 7, 3) := by decide +kernel
theorem dX9_init_8 : decode cX9_init 8 = .ok (.dup, 1) := by decide +kernel
theorem dX9_init_9 : decode cX9_init 9 = .ok (.invokespecial 9, 3) := by decide +kernel
theorem dX9_init_12 : decode cX9_init 12 = .ok (.putfield 10, 3) := by decide +kernel
theorem dX9_init_15 : decode cX9_init 15 = .ok (.aload_n 0, 1) := by decide +kernel
theorem dX9_init_16 : decode cX9_init 16 = .ok (.bipush 100, 2) := by decide +kernel
theorem dX9_init_18 : decode cX9_init 18 = .ok (.anewarray 16, 3) := by decide +kernel
theorem dX9_init_21 : decode cX9_init 21 = .ok (.putfield 18, 3) := by decide +kernel
theorem dX9_init_24 : decode cX9_init 24 = .ok (.aload_n 0, 1) := by decide +kernel
theorem dX9_init_25 : decode cX9_init 25 = .ok (.bipush 100, 2) := by decide +kernel
theorem dX9_init_27 : decode cX9_init 27 = .ok (.newarray .boolean, 2) := by decide +kernel
theorem dX9_init_29 : decode cX9_init 29 = .ok (.putfield 22, 3) := by decide +kernel
theorem dX9_init_32 : decode cX9_init 32 = .ok (.aload_n 0, 1) := by decide +kernel
theorem dX9_init_33 : decode cX9_init 33 = .ok (.new 26, 3) := by decide +kernel
theorem dX9_init_36 : decode cX9_init 36 = .ok (.dup, 1) := by decide +kernel
theorem dX9_init_37 : decode cX9_init 37 = .ok (.aload_n 0, 1) := by decide +kernel
theorem dX9_init_38 : decode cX9_init 38 = .ok (.getfield 10, 3) := by decide +kernel
theorem dX9_init_41 : decode cX9_init 41 = .ok (.invokespecial 28, 3) := by decide +kernel
theorem dX9_init_44 : decode cX9_init 44 = .ok (.putfield 31, 3) := by decide +kernel
theorem dX9_init_47 : decode cX9_init 47 = .ok (.aload_n 0, 1) := by decide +kernel
theorem dX9_init_48 : decode cX9_init 48 = .ok (.new 35, 3) := by decide +kernel
theorem dX9_init_51 : decode cX9_init 51 = .ok (.dup, 1) := by decide +kernel
theorem dX9_init_52 : decode cX9_init 52 = .ok (.aload_n 0, 1) := by decide +kernel
theorem dX9_init_53 : decode cX9_init 53 = .ok (.getfield 10, 3) := by decide +kernel
theorem dX9_init_56 : decode cX9_init 56 = .ok (.invokespecial 37, 3) := by decide +kernel
theorem dX9_init_59 : decode cX9_init 59 = .ok (.putfield 38, 3) := by decide +kernel
theorem dX9_init_62 : decode cX9_init 62 = .ok (.aload_n 0, 1) := by decide +kernel
theorem dX9_init_63 : decode cX9_init 63 = .ok (.new 42, 3) := by decide +kernel
theorem dX9_init_66 : decode cX9_init 66 = .ok (.dup, 1) := by decide +kernel
theorem dX9_init_67 : decode cX9_init 67 = .ok (.aload_n 0, 1) := by decide +kernel
theorem dX9_init_68 : decode cX9_init 68 = .ok (.getfield 10, 3) := by decide +kernel
theorem dX9_init_71 : decode cX9_init 71 = .ok (.invokespecial 44, 3) := by decide +kernel
theorem dX9_init_74 : decode cX9_init 74 = .ok (.putfield 45, 3) := by decide +kernel
theorem dX9_init_77 : decode cX9_init 77 = .ok (.aload_n 0, 1) := by decide +kernel
theorem dX9_init_78 : decode cX9_init 78 = .ok (.new 16, 3) := by decide +kernel
theorem dX9_init_81 : decode cX9_init 81 = .ok (.dup, 1) := by decide +kernel
theorem dX9_init_82 : decode cX9_init 82 = .ok (.invokespecial 49, 3) := by decide +kernel
theorem dX9_init_85 : decode cX9_init 85 = .ok (.putfield 50, 3) := by decide +kernel
theorem dX9_init_88 : decode cX9_init 88 = .ok (.aload_n 0, 1) := by decide +kernel
theorem dX9_init_89 : decode cX9_init 89 = .ok (.new 54, 3) := by decide +kernel
theorem dX9_init_92 : decode cX9_init 92 = .ok (.dup, 1) := by decide +kernel
theorem dX9_init_93 : decode cX9_init 93 = .ok (.bipush 84, 2) := by decide +kernel
theorem dX9_init_95 : decode cX9_init 95 = .ok (.invokespecial 56, 3) := by decide +kernel
theorem dX9_init_98 : decode cX9_init 98 = .ok (.putfield 59, 3) := by decide +kernel
theorem dX9_init_101 : decode cX9_init 101 = .ok (.aload_n 0, 1) := by decide +kernel
theorem dX9_init_102 : decode cX9_init 102 = .ok (.new 54, 3) := by decide +kernel
theorem dX9_init_105 : decode cX9_init 105 = .ok (.dup, 1) := by decide +kernel
theorem dX9_init_106 : decode cX9_init 106 = .ok (.bipush 84, 2) := by decide +kernel
theorem dX9_init_108 : decode cX9_init 108 = .ok (.invokespecial 56, 3) := by decide +kernel
theorem dX9_init_111 : decode cX9_init 111 = .ok (.putfield 63, 3) := by decide +kernel
theorem dX9_init_114 : decode cX9_init 114 = .ok (.aload_n 0, 1) := by decide +kernel
theorem dX9_init_115 : decode cX9_init 115 = .ok (.new 54, 3) := by decide +kernel
theorem dX9_init_118 : decode cX9_init 118 = .ok (.dup, 1) := by decide +kernel
theorem dX9_init_119 : decode cX9_init 119 = .ok (.bipush 84, 2) := by decide +kernel
theorem dX9_init_121 : decode cX9_init 121 = .ok (.invokespecial 56, 3) := by decide +kernel
theorem dX9_init_124 : decode cX9_init 124 = .ok (.putfield 66, 3) := by decide +kernel
theorem dX9_init_127 : decode cX9_init 127 = .ok (.return_, 1) := by decide +kernel
theorem dX9_interpolate_0 : decode cX9_interpolate 0 = .ok (.aload_n 0, 1) := by decide +kernel
theorem dX9_interpolate_1 : decode cX9_interpolate 1 = .ok (.getfield 45, 3) := by decide +kernel
theorem dX9_interpolate_4 : decode cX9_interpolate 4 = .ok (.aload_n 0, 1) := by decide +kernel
theorem dX9_interpolate_5 : decode cX9_interpolate 5 = .ok (.getfield 66, 3) := by decide +kernel
theorem dX9_interpolate_8 : decode cX9_interpolate 8 = .ok (.aload_n 0, 1) := by decide +kernel
theorem dX9_interpolate_9 : decode cX9_interpolate 9 = .ok (.getfield 59, 3) := by decide +kernel
theorem dX9_interpolate_12 : decode cX9_interpolate 12 = .ok (.invokevirtual 213, 3) := by decide +kernel
theorem dX9_interpolate_15 : decode cX9_interpolate 15 = .ok (.aload_n 0, 1) := by decide +kernel
theorem dX9_interpolate_16 : decode cX9_interpolate 16 = .ok (.getfield 45, 3) := by decide +kernel
theorem dX9_interpolate_19 : decode cX9_interpolate 19 = .ok (.iconst 0, 1) := by decide +kernel
theorem dX9_interpolate_20 : decode cX9_interpolate 20 = .ok (.putfield 76, 3) := by decide +kernel
theorem dX9_interpolate_23 : decode cX9_interpolate 23 = .ok (.aload_n 0, 1) := by decide +kernel
theorem dX9_interpolate_24 : decode cX9_interpolate 24 = .ok (.getfield 50, 3) := by decide +kernel
theorem dX9_interpolate_27 : decode cX9_interpolate 27 = .ok (.aload_n 0, 1) := by decide +kernel
theorem dX9_interpolate_28 : decode cX9_interpolate 28 = .ok (.getfield 66, 3) := by decide +kernel
theorem dX9_interpolate_31 : decode cX9_interpolate 31 = .ok (.invokevirtual 146, 3) := by decide +kernel
theorem dX9_interpolate_34 : decode cX9_interpolate 34 = .ok (.aload_n 0, 1) := by decide +kernel
theorem dX9_interpolate_35 : decode cX9_interpolate 35 = .ok (.aload_n 0, 1) := by decide +kernel
theorem dX9_interpolate_36 : decode cX9_interpolate 36 = .ok (.getfield 50, 3) := by decide +kernel
theorem dX9_interpolate_39 : decode cX9_interpolate 39 = .ok (.invokevirtual 103, 3) := by decide +kernel
theorem dX9_interpolate_42 : decode cX9_interpolate 42 = .ok (.ireturn, 1) := by decide +kernel
theorem dX9_keep_0 : decode cX9_keep 0 = .ok (.iconst 0, 1) := by decide +kernel
theorem dX9_keep_1 : decode cX9_keep 1 = .ok (.istore_n 2, 1) := by decide +kernel
theorem dX9_keep_2 : decode cX9_keep 2 = .ok (.iload_n 2, 1) := by decide +kernel
theorem dX9_keep_3 : decode cX9_keep 3 = .ok (.bipush 100, 2) := by decide +kernel
theorem dX9_keep_5 : decode cX9_keep 5 = .ok (.if_icmp .ge 59, 3) := by decide +kernel
theorem dX9_keep_8 : decode cX9_keep 8 = .ok (.aload_n 0, 1) := by decide +kernel
theorem dX9_keep_9 : decode cX9_keep 9 = .ok (.getfield 22, 3) := by decide +kernel
theorem dX9_keep_12 : decode cX9_keep 12 = .ok (.iload_n 2, 1) := by decide +kernel
theorem dX9_keep_13 : decode cX9_keep 13 = .ok (.baload, 1) := by decide +kernel
theorem dX9_keep_14 : decode cX9_keep 14 = .ok (.ifCond .ne 44, 3) := by decide +kernel
theorem dX9_keep_17 : decode cX9_keep 17 = .ok (.aload_n 0, 1) := by decide +kernel
theorem dX9_keep_18 : decode cX9_keep 18 = .ok (.getfield 18, 3) := by decide +kernel
theorem dX9_keep_21 : decode cX9_keep 21 = .ok (.iload_n 2, 1) := by decide +kernel
theorem dX9_keep_22 : decode cX9_keep 22 = .ok (.aaload, 1) := by decide +kernel
theorem dX9_keep_23 : decode cX9_keep 23 = .ok (.ifnonnull 16, 3) := by decide +kernel
theorem dX9_keep_26 : decode cX9_keep 26 = .ok (.aload_n 0, 1) := by decide +kernel
theorem dX9_keep_27 : decode cX9_keep 27 = .ok (.getfield 18, 3) := by decide +kernel
theorem dX9_keep_30 : decode cX9_keep 30 = .ok (.iload_n 2, 1) := by decide +kernel
theorem dX9_keep_31 : decode cX9_keep 31 = .ok (.new 16, 3) := by decide +kernel
theorem dX9_keep_34 : decode cX9_keep 34 = .ok (.dup, 1) := by decide +kernel
theorem dX9_keep_35 : decode cX9_keep 35 = .ok (.invokespecial 49, 3) := by decide +kernel
theorem dX9_keep_38 : decode cX9_keep 38 = .ok (.aastore, 1) := by decide +kernel
theorem dX9_keep_39 : decode cX9_keep 39 = .ok (.aload_n 0, 1) := by decide +kernel
theorem dX9_keep_40 : decode cX9_keep 40 = .ok (.getfield 18, 3) := by decide +kernel
theorem dX9_keep_43 : decode cX9_keep 43 = .ok (.iload_n 2, 1) := by decide +kernel
theorem dX9_keep_44 : decode cX9_keep 44 = .ok (.aaload, 1) := by decide +kernel
theorem dX9_keep_45 : decode cX9_keep 45 = .ok (.aload_n 1, 1) := by decide +kernel
theorem dX9_keep_46 : decode cX9_keep 46 = .ok (.invokevirtual 127, 3) := by decide +kernel
theorem dX9_keep_49 : decode cX9_keep 49 = .ok (.aload_n 0, 1) := by decide +kernel
theorem dX9_keep_50 : decode cX9_keep 50 = .ok (.getfield 22, 3) := by decide +kernel
theorem dX9_keep_53 : decode cX9_keep 53 = .ok (.iload_n 2, 1) := by decide +kernel
theorem dX9_keep_54 : decode cX9_keep 54 = .ok (.iconst 1, 1) := by decide +kernel
theorem dX9_keep_55 : decode cX9_keep 55 = .ok (.bastore, 1) := by decide +kernel
theorem dX9_keep_56 : decode cX9_keep 56 = .ok (.iload_n 2, 1) := by decide +kernel
theorem dX9_keep_57 : decode cX9_keep 57 = .ok (.ireturn, 1) := by decide +kernel
theorem dX9_keep_58 : decode cX9_keep 58 = .ok (.iinc 2 1, 3) := by decide +kernel
theorem dX9_keep_61 : decode cX9_keep 61 = .ok (.goto (-59), 3) := by decide +kernel
theorem dX9_keep_64 : decode cX9_keep 64 = .ok (.bipush (-5), 2) := by decide +kernel
theorem dX9_keep_66 : decode cX9_keep 66 = .ok (.ireturn, 1) := by decide +kernel
theorem dX9_part_0 : decode cX9_part 0 = .ok (.aload_n 0, 1) := by decide +kernel
theorem dX9_part_1 : decode cX9_part 1 = .ok (.getfield 80, 3) := by decide +kernel
theorem dX9_part_4 : decode cX9_part 4 = .ok (.ifnull 28, 3) := by decide +kernel
theorem dX9_part_7 : decode cX9_part 7 = .ok (.iload_n 1, 1) := by decide +kernel
theorem dX9_part_8 : decode cX9_part 8 = .ok (.ifCond .lt 24, 3) := by decide +kernel
theorem dX9_part_11 : decode cX9_part 11 = .ok (.iload_n 1, 1) := by decide +kernel
theorem dX9_part_12 : decode cX9_part 12 = .ok (.aload_n 0, 1) := by decide +kernel
theorem dX9_part_13 : decode cX9_part 13 = .ok (.getfield 80, 3) := by decide +kernel
theorem dX9_part_16 : decode cX9_part 16 = .ok (.getfield 186, 3) := by decide +kernel
theorem dX9_part_19 : decode cX9_part 19 = .ok (.if_icmp .ge 13, 3) := by decide +kernel
theorem dX9_part_22 : decode cX9_part 22 = .ok (.iload_n 2, 1) := by decide +kernel
theorem dX9_part_23 : decode cX9_part 23 = .ok (.ifCond .lt 9, 3) := by decide +kernel
theorem dX9_part_26 : decode cX9_part 26 = .ok (.iload_n 2, 1) := by decide +kernel
theorem dX9_part_27 : decode cX9_part 27 = .ok (.bipush 42, 2) := by decide +kernel
theorem dX9_part_29 : decode cX9_part 29 = .ok (.if_icmp .le 5, 3) := by decide +kernel
theorem dX9_part_32 : decode cX9_part 32 = .ok (.iconst (-1), 1) := by decide +kernel
theorem dX9_part_33 : decode cX9_part 33 = .ok (.ireturn, 1) := by decide +kernel
theorem dX9_part_34 : decode cX9_part 34 = .ok (.iload_n 2, 1) := by decide +kernel
theorem dX9_part_35 : decode cX9_part 35 = .ok (.ifCond .ne 13, 3) := by decide +kernel
theorem dX9_part_38 : decode cX9_part 38 = .ok (.aload_n 0, 1) := by decide +kernel
theorem dX9_part_39 : decode cX9_part 39 = .ok (.getfield 80, 3) := by decide +kernel
theorem dX9_part_42 : decode cX9_part 42 = .ok (.getfield 195, 3) := by decide +kernel
theorem dX9_part_45 : decode cX9_part 45 = .ok (.iload_n 1, 1) := by decide +kernel
theorem dX9_part_46 : decode cX9_part 46 = .ok (.iaload, 1) := by decide +kernel
theorem dX9_part_47 : decode cX9_part 47 = .ok (.ireturn, 1) := by decide +kernel
theorem dX9_part_48 : decode cX9_part 48 = .ok (.aload_n 0, 1) := by decide +kernel
theorem dX9_part_49 : decode cX9_part 49 = .ok (.getfield 80, 3) := by decide +kernel
theorem dX9_part_52 : decode cX9_part 52 = .ok (.getfield 198, 3) := by decide +kernel
theorem dX9_part_55 : decode cX9_part 55 = .ok (.iload_n 1, 1) := by decide +kernel
theorem dX9_part_56 : decode cX9_part 56 = .ok (.invokestatic 202, 3) := by decide +kernel
theorem dX9_part_59 : decode cX9_part 59 = .ok (.astore_n 3, 1) := by decide +kernel
theorem dX9_part_60 : decode cX9_part 60 = .ok (.iload_n 2, 1) := by decide +kernel
theorem dX9_part_61 : decode cX9_part 61 = .ok (.iconst 1, 1) := by decide +kernel
theorem dX9_part_62 : decode cX9_part 62 = .ok (.if_icmp .ne 10, 3) := by decide +kernel
theorem dX9_part_65 : decode cX9_part 65 = .ok (.aload_n 3, 1) := by decide +kernel
theorem dX9_part_66 : decode cX9_part 66 = .ok (.getfield 175, 3) := by decide +kernel
theorem dX9_part_69 : decode cX9_part 69 = .ok (.goto 11, 3) := by decide +kernel
theorem dX9_part_72 : decode cX9_part 72 = .ok (.aload_n 3, 1) := by decide +kernel
theorem dX9_part_73 : decode cX9_part 73 = .ok (.iload_n 2, 1) := by decide +kernel
theorem dX9_part_74 : decode cX9_part 74 = .ok (.iconst 2, 1) := by decide +kernel
theorem dX9_part_75 : decode cX9_part 75 = .ok (.isub, 1) := by decide +kernel
theorem dX9_part_76 : decode cX9_part 76 = .ok (.invokevirtual 178, 3) := by decide +kernel
theorem dX9_part_79 : decode cX9_part 79 = .ok (.l2i, 1) := by decide +kernel
theorem dX9_part_80 : decode cX9_part 80 = .ok (.ireturn, 1) := by decide +kernel
theorem dX9_plus_0 : decode cX9_plus 0 = .ok (.aload_n 0, 1) := by decide +kernel
theorem dX9_plus_1 : decode cX9_plus 1 = .ok (.iload_n 1, 1) := by decide +kernel
theorem dX9_plus_2 : decode cX9_plus 2 = .ok (.invokevirtual 107, 3) := by decide +kernel
theorem dX9_plus_5 : decode cX9_plus 5 = .ok (.astore 6, 2) := by decide +kernel
theorem dX9_plus_7 : decode cX9_plus 7 = .ok (.aload 6, 2) := by decide +kernel
theorem dX9_plus_9 : decode cX9_plus 9 = .ok (.ifnonnull 5, 3) := by decide +kernel
theorem dX9_plus_12 : decode cX9_plus 12 = .ok (.iconst (-1), 1) := by decide +kernel
theorem dX9_plus_13 : decode cX9_plus 13 = .ok (.ireturn, 1) := by decide +kernel
theorem dX9_plus_14 : decode cX9_plus 14 = .ok (.iload 4, 2) := by decide +kernel
theorem dX9_plus_16 : decode cX9_plus 16 = .ok (.iload 5, 2) := by decide +kernel
theorem dX9_plus_18 : decode cX9_plus 18 = .ok (.invokestatic 123, 3) := by decide +kernel
theorem dX9_plus_21 : decode cX9_plus 21 = .ok (.ifCond .ne 6, 3) := by decide +kernel
theorem dX9_plus_24 : decode cX9_plus 24 = .ok (.bipush (-4), 2) := by decide +kernel
theorem dX9_plus_26 : decode cX9_plus 26 = .ok (.ireturn, 1) := by decide +kernel
theorem dX9_plus_27 : decode cX9_plus 27 = .ok (.iload 5, 2) := by decide +kernel
theorem dX9_plus_29 : decode cX9_plus 29 = .ok (.bipush 41, 2) := by decide +kernel
theorem dX9_plus_31 : decode cX9_plus 31 = .ok (.imul, 1) := by decide +kernel
theorem dX9_plus_32 : decode cX9_plus 32 = .ok (.iload 4, 2) := by decide +kernel
theorem dX9_plus_34 : decode cX9_plus 34 = .ok (.iadd, 1) := by decide +kernel
theorem dX9_plus_35 : decode cX9_plus 35 = .ok (.istore 7, 2) := by decide +kernel
theorem dX9_plus_37 : decode cX9_plus 37 = .ok (.aload_n 0, 1) := by decide +kernel
theorem dX9_plus_38 : decode cX9_plus 38 = .ok (.getfield 50, 3) := by decide +kernel
theorem dX9_plus_41 : decode cX9_plus 41 = .ok (.aload 6, 2) := by decide +kernel
theorem dX9_plus_43 : decode cX9_plus 43 = .ok (.invokevirtual 127, 3) := by decide +kernel
theorem dX9_plus_46 : decode cX9_plus 46 = .ok (.aload_n 0, 1) := by decide +kernel
theorem dX9_plus_47 : decode cX9_plus 47 = .ok (.getfield 50, 3) := by decide +kernel
theorem dX9_plus_50 : decode cX9_plus 50 = .ok (.getfield 92, 3) := by decide +kernel
theorem dX9_plus_53 : decode cX9_plus 53 = .ok (.iload 7, 2) := by decide +kernel
theorem dX9_plus_55 : decode cX9_plus 55 = .ok (.aload_n 0, 1) := by decide +kernel
theorem dX9_plus_56 : decode cX9_plus 56 = .ok (.getfield 10, 3) := by decide +kernel
theorem dX9_plus_59 : decode cX9_plus 59 = .ok (.aload_n 0, 1) := by decide +kernel
theorem dX9_plus_60 : decode cX9_plus 60 = .ok (.getfield 50, 3) := by decide +kernel
theorem dX9_plus_63 : decode cX9_plus 63 = .ok (.getfield 92, 3) := by decide +kernel
theorem dX9_plus_66 : decode cX9_plus 66 = .ok (.iload 7, 2) := by decide +kernel
theorem dX9_plus_68 : decode cX9_plus 68 = .ok (.laload, 1) := by decide +kernel
theorem dX9_plus_69 : decode cX9_plus 69 = .ok (.aload_n 0, 1) := by decide +kernel
theorem dX9_plus_70 : decode cX9_plus 70 = .ok (.getfield 10, 3) := by decide +kernel
theorem dX9_plus_73 : decode cX9_plus 73 = .ok (.lload_n 2, 1) := by decide +kernel
theorem dX9_plus_74 : decode cX9_plus 74 = .ok (.invokevirtual 96, 3) := by decide +kernel
theorem dX9_plus_77 : decode cX9_plus 77 = .ok (.ladd, 1) := by decide +kernel
theorem dX9_plus_78 : decode cX9_plus 78 = .ok (.invokevirtual 96, 3) := by decide +kernel
theorem dX9_plus_81 : decode cX9_plus 81 = .ok (.lastore, 1) := by decide +kernel
theorem dX9_plus_82 : decode cX9_plus 82 = .ok (.aload_n 0, 1) := by decide +kernel
theorem dX9_plus_83 : decode cX9_plus 83 = .ok (.getfield 50, 3) := by decide +kernel
theorem dX9_plus_86 : decode cX9_plus 86 = .ok (.invokevirtual 100, 3) := by decide +kernel
theorem dX9_plus_89 : decode cX9_plus 89 = .ok (.aload_n 0, 1) := by decide +kernel
theorem dX9_plus_90 : decode cX9_plus 90 = .ok (.aload_n 0, 1) := by decide +kernel
theorem dX9_plus_91 : decode cX9_plus 91 = .ok (.getfield 50, 3) := by decide +kernel
theorem dX9_plus_94 : decode cX9_plus 94 = .ok (.invokevirtual 103, 3) := by decide +kernel
theorem dX9_plus_97 : decode cX9_plus 97 = .ok (.ireturn, 1) := by decide +kernel
theorem dX9_point_0 : decode cX9_point 0 = .ok (.aload_n 0, 1) := by decide +kernel
theorem dX9_point_1 : decode cX9_point 1 = .ok (.getfield 45, 3) := by decide +kernel
theorem dX9_point_4 : decode cX9_point 4 = .ok (.aload_n 0, 1) := by decide +kernel
theorem dX9_point_5 : decode cX9_point 5 = .ok (.getfield 10, 3) := by decide +kernel
theorem dX9_point_8 : decode cX9_point 8 = .ok (.lload_n 1, 1) := by decide +kernel
theorem dX9_point_9 : decode cX9_point 9 = .ok (.invokevirtual 96, 3) := by decide +kernel
theorem dX9_point_12 : decode cX9_point 12 = .ok (.aload_n 0, 1) := by decide +kernel
theorem dX9_point_13 : decode cX9_point 13 = .ok (.getfield 10, 3) := by decide +kernel
theorem dX9_point_16 : decode cX9_point 16 = .ok (.lload_n 3, 1) := by decide +kernel
theorem dX9_point_17 : decode cX9_point 17 = .ok (.invokevirtual 96, 3) := by decide +kernel
theorem dX9_point_20 : decode cX9_point 20 = .ok (.invokevirtual 209, 3) := by decide +kernel
theorem dX9_point_23 : decode cX9_point 23 = .ok (.ifCond .eq 13, 3) := by decide +kernel
theorem dX9_point_26 : decode cX9_point 26 = .ok (.aload_n 0, 1) := by decide +kernel
theorem dX9_point_27 : decode cX9_point 27 = .ok (.getfield 45, 3) := by decide +kernel
theorem dX9_point_30 : decode cX9_point 30 = .ok (.getfield 76, 3) := by decide +kernel
theorem dX9_point_33 : decode cX9_point 33 = .ok (.goto 4, 3) := by decide +kernel
theorem dX9_point_36 : decode cX9_point 36 = .ok (.iconst (-1), 1) := by decide +kernel
theorem dX9_point_37 : decode cX9_point 37 = .ok (.ireturn, 1) := by decide +kernel
theorem dX9_power_0 : decode cX9_power 0 = .ok (.aload_n 0, 1) := by decide +kernel
theorem dX9_power_1 : decode cX9_power 1 = .ok (.iload_n 1, 1) := by decide +kernel
theorem dX9_power_2 : decode cX9_power 2 = .ok (.invokevirtual 107, 3) := by decide +kernel
theorem dX9_power_5 : decode cX9_power 5 = .ok (.astore 5, 2) := by decide +kernel
theorem dX9_power_7 : decode cX9_power 7 = .ok (.aload_n 0, 1) := by decide +kernel
theorem dX9_power_8 : decode cX9_power 8 = .ok (.iload 4, 2) := by decide +kernel
theorem dX9_power_10 : decode cX9_power 10 = .ok (.invokevirtual 107, 3) := by decide +kernel
theorem dX9_power_13 : decode cX9_power 13 = .ok (.astore 6, 2) := by decide +kernel
theorem dX9_power_15 : decode cX9_power 15 = .ok (.aload 5, 2) := by decide +kernel
theorem dX9_power_17 : decode cX9_power 17 = .ok (.ifnull 8, 3) := by decide +kernel
theorem dX9_power_20 : decode cX9_power 20 = .ok (.aload 6, 2) := by decide +kernel
theorem dX9_power_22 : decode cX9_power 22 = .ok (.ifnonnull 5, 3) := by decide +kernel
theorem dX9_power_25 : decode cX9_power 25 = .ok (.iconst (-1), 1) := by decide +kernel
theorem dX9_power_26 : decode cX9_power 26 = .ok (.ireturn, 1) := by decide +kernel
theorem dX9_power_27 : decode cX9_power 27 = .ok (.aload 5, 2) := by decide +kernel
theorem dX9_power_29 : decode cX9_power 29 = .ok (.invokevirtual 131, 3) := by decide +kernel
theorem dX9_power_32 : decode cX9_power 32 = .ok (.ifCond .eq 17, 3) := by decide +kernel
theorem dX9_power_35 : decode cX9_power 35 = .ok (.aload 6, 2) := by decide +kernel
theorem dX9_power_37 : decode cX9_power 37 = .ok (.invokevirtual 131, 3) := by decide +kernel
theorem dX9_power_40 : decode cX9_power 40 = .ok (.ifCond .eq 9, 3) := by decide +kernel
theorem dX9_power_43 : decode cX9_power 43 = .ok (.lload_n 2, 1) := by decide +kernel
theorem dX9_power_44 : decode cX9_power 44 = .ok (.lconst 0, 1) := by decide +kernel
theorem dX9_power_45 : decode cX9_power 45 = .ok (.lcmp, 1) := by decide +kernel
theorem dX9_power_46 : decode cX9_power 46 = .ok (.ifCond .ge 6, 3) := by decide +kernel
theorem dX9_power_49 : decode cX9_power 49 = .ok (.bipush (-2), 2) := by decide +kernel
theorem dX9_power_51 : decode cX9_power 51 = .ok (.ireturn, 1) := by decide +kernel
theorem dX9_power_52 : decode cX9_power 52 = .ok (.aload 6, 2) := by decide +kernel
theorem dX9_power_54 : decode cX9_power 54 = .ok (.getfield 135, 3) := by decide +kernel
theorem dX9_power_57 : decode cX9_power 57 = .ok (.iconst 1, 1) := by decide +kernel
theorem dX9_power_58 : decode cX9_power 58 = .ok (.if_icmp .ge 6, 3) := by decide +kernel
theorem dX9_power_61 : decode cX9_power 61 = .ok (.bipush (-3), 2) := by decide +kernel
theorem dX9_power_63 : decode cX9_power 63 = .ok (.ireturn, 1) := by decide +kernel
theorem dX9_power_64 : decode cX9_power 64 = .ok (.aload 5, 2) := by decide +kernel
theorem dX9_power_66 : decode cX9_power 66 = .ok (.aload_n 0, 1) := by decide +kernel
theorem dX9_power_67 : decode cX9_power 67 = .ok (.getfield 59, 3) := by decide +kernel
theorem dX9_power_70 : decode cX9_power 70 = .ok (.invokevirtual 138, 3) := by decide +kernel
theorem dX9_power_73 : decode cX9_power 73 = .ok (.aload 6, 2) := by decide +kernel
theorem dX9_power_75 : decode cX9_power 75 = .ok (.aload_n 0, 1) := by decide +kernel
theorem dX9_power_76 : decode cX9_power 76 = .ok (.getfield 63, 3) := by decide +kernel
theorem dX9_power_79 : decode cX9_power 79 = .ok (.invokevirtual 138, 3) := by decide +kernel
theorem dX9_power_82 : decode cX9_power 82 = .ok (.aload_n 0, 1) := by decide +kernel
theorem dX9_power_83 : decode cX9_power 83 = .ok (.getfield 38, 3) := by decide +kernel
theorem dX9_power_86 : decode cX9_power 86 = .ok (.aload_n 0, 1) := by decide +kernel
theorem dX9_power_87 : decode cX9_power 87 = .ok (.getfield 59, 3) := by decide +kernel
theorem dX9_power_90 : decode cX9_power 90 = .ok (.lload_n 2, 1) := by decide +kernel
theorem dX9_power_91 : decode cX9_power 91 = .ok (.aload_n 0, 1) := by decide +kernel
theorem dX9_power_92 : decode cX9_power 92 = .ok (.getfield 63, 3) := by decide +kernel
theorem dX9_power_95 : decode cX9_power 95 = .ok (.aload_n 0, 1) := by decide +kernel
theorem dX9_power_96 : decode cX9_power 96 = .ok (.getfield 66, 3) := by decide +kernel
theorem dX9_power_99 : decode cX9_power 99 = .ok (.invokevirtual 142, 3) := by decide +kernel
theorem dX9_power_102 : decode cX9_power 102 = .ok (.aload_n 0, 1) := by decide +kernel
theorem dX9_power_103 : decode cX9_power 103 = .ok (.getfield 50, 3) := by decide +kernel
theorem dX9_power_106 : decode cX9_power 106 = .ok (.aload_n 0, 1) := by decide +kernel
theorem dX9_power_107 : decode cX9_power 107 = .ok (.getfield 66, 3) := by decide +kernel
theorem dX9_power_110 : decode cX9_power 110 = .ok (.invokevirtual 146, 3) := by decide +kernel
theorem dX9_power_113 : decode cX9_power 113 = .ok (.aload_n 0, 1) := by decide +kernel
theorem dX9_power_114 : decode cX9_power 114 = .ok (.aload_n 0, 1) := by decide +kernel
theorem dX9_power_115 : decode cX9_power 115 = .ok (.getfield 50, 3) := by decide +kernel
theorem dX9_power_118 : decode cX9_power 118 = .ok (.invokevirtual 103, 3) := by decide +kernel
theorem dX9_power_121 : decode cX9_power 121 = .ok (.ireturn, 1) := by decide +kernel
theorem dX9_prime_0 : decode cX9_prime 0 = .ok (.iload_n 1, 1) := by decide +kernel
theorem dX9_prime_1 : decode cX9_prime 1 = .ok (.invokestatic 69, 3) := by decide +kernel
theorem dX9_prime_4 : decode cX9_prime 4 = .ok (.ifCond .ne 5, 3) := by decide +kernel
theorem dX9_prime_7 : decode cX9_prime 7 = .ok (.iconst 0, 1) := by decide +kernel
theorem dX9_prime_8 : decode cX9_prime 8 = .ok (.ireturn, 1) := by decide +kernel
theorem dX9_prime_9 : decode cX9_prime 9 = .ok (.aload_n 0, 1) := by decide +kernel
theorem dX9_prime_10 : decode cX9_prime 10 = .ok (.getfield 10, 3) := by decide +kernel
theorem dX9_prime_13 : decode cX9_prime 13 = .ok (.iload_n 1, 1) := by decide +kernel
theorem dX9_prime_14 : decode cX9_prime 14 = .ok (.invokevirtual 73, 3) := by decide +kernel
theorem dX9_prime_17 : decode cX9_prime 17 = .ok (.iconst 0, 1) := by decide +kernel
theorem dX9_prime_18 : decode cX9_prime 18 = .ok (.istore_n 2, 1) := by decide +kernel
theorem dX9_prime_19 : decode cX9_prime 19 = .ok (.iload_n 2, 1) := by decide +kernel
theorem dX9_prime_20 : decode cX9_prime 20 = .ok (.bipush 100, 2) := by decide +kernel
theorem dX9_prime_22 : decode cX9_prime 22 = .ok (.if_icmp .ge 16, 3) := by decide +kernel
theorem dX9_prime_25 : decode cX9_prime 25 = .ok (.aload_n 0, 1) := by decide +kernel
theorem dX9_prime_26 : decode cX9_prime 26 = .ok (.getfield 22, 3) := by decide +kernel
theorem dX9_prime_29 : decode cX9_prime 29 = .ok (.iload_n 2, 1) := by decide +kernel
theorem dX9_prime_30 : decode cX9_prime 30 = .ok (.iconst 0, 1) := by decide +kernel
theorem dX9_prime_31 : decode cX9_prime 31 = .ok (.bastore, 1) := by decide +kernel
theorem dX9_prime_32 : decode cX9_prime 32 = .ok (.iinc 2 1, 3) := by decide +kernel
theorem dX9_prime_35 : decode cX9_prime 35 = .ok (.goto (-16), 3) := by decide +kernel
theorem dX9_prime_38 : decode cX9_prime 38 = .ok (.aload_n 0, 1) := by decide +kernel
theorem dX9_prime_39 : decode cX9_prime 39 = .ok (.getfield 45, 3) := by decide +kernel
theorem dX9_prime_42 : decode cX9_prime 42 = .ok (.iconst 0, 1) := by decide +kernel
theorem dX9_prime_43 : decode cX9_prime 43 = .ok (.putfield 76, 3) := by decide +kernel
theorem dX9_prime_46 : decode cX9_prime 46 = .ok (.aload_n 0, 1) := by decide +kernel
theorem dX9_prime_47 : decode cX9_prime 47 = .ok (.getfield 80, 3) := by decide +kernel
theorem dX9_prime_50 : decode cX9_prime 50 = .ok (.ifnull 10, 3) := by decide +kernel
theorem dX9_prime_53 : decode cX9_prime 53 = .ok (.aload_n 0, 1) := by decide +kernel
theorem dX9_prime_54 : decode cX9_prime 54 = .ok (.getfield 80, 3) := by decide +kernel
theorem dX9_prime_57 : decode cX9_prime 57 = .ok (.invokevirtual 84, 3) := by decide +kernel
theorem dX9_prime_60 : decode cX9_prime 60 = .ok (.iconst 1, 1) := by decide +kernel
theorem dX9_prime_61 : decode cX9_prime 61 = .ok (.ireturn, 1) := by decide +kernel
theorem dX9_root_0 : decode cX9_root 0 = .ok (.aload_n 0, 1) := by decide +kernel
