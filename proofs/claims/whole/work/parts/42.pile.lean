theorem dX2_pile_0 : decode cX2_pile 0 = .ok (.aload_n 1, 1) := by decide +kernel
theorem dX2_pile_1 : decode cX2_pile 1 = .ok (.getfield 45, 3) := by decide +kernel
theorem dX2_pile_4 : decode cX2_pile 4 = .ok (.ifCond .lt 10, 3) := by decide +kernel
theorem dX2_pile_7 : decode cX2_pile 7 = .ok (.aload_n 2, 1) := by decide +kernel
theorem dX2_pile_8 : decode cX2_pile 8 = .ok (.getfield 45, 3) := by decide +kernel
theorem dX2_pile_11 : decode cX2_pile 11 = .ok (.ifCond .ge 7, 3) := by decide +kernel
theorem dX2_pile_14 : decode cX2_pile 14 = .ok (.iconst (-1), 1) := by decide +kernel
theorem dX2_pile_15 : decode cX2_pile 15 = .ok (.goto 12, 3) := by decide +kernel
theorem dX2_pile_18 : decode cX2_pile 18 = .ok (.aload_n 1, 1) := by decide +kernel
theorem dX2_pile_19 : decode cX2_pile 19 = .ok (.getfield 45, 3) := by decide +kernel
theorem dX2_pile_22 : decode cX2_pile 22 = .ok (.aload_n 2, 1) := by decide +kernel
theorem dX2_pile_23 : decode cX2_pile 23 = .ok (.getfield 45, 3) := by decide +kernel
theorem dX2_pile_26 : decode cX2_pile 26 = .ok (.iadd, 1) := by decide +kernel
theorem dX2_pile_27 : decode cX2_pile 27 = .ok (.istore 4, 2) := by decide +kernel
theorem dX2_pile_29 : decode cX2_pile 29 = .ok (.aload_n 2, 1) := by decide +kernel
theorem dX2_pile_30 : decode cX2_pile 30 = .ok (.getfield 45, 3) := by decide +kernel
theorem dX2_pile_33 : decode cX2_pile 33 = .ok (.istore 5, 2) := by decide +kernel
theorem dX2_pile_35 : decode cX2_pile 35 = .ok (.aload_n 2, 1) := by decide +kernel
theorem dX2_pile_36 : decode cX2_pile 36 = .ok (.getfield 49, 3) := by decide +kernel
theorem dX2_pile_39 : decode cX2_pile 39 = .ok (.astore 6, 2) := by decide +kernel
theorem dX2_pile_41 : decode cX2_pile 41 = .ok (.aload_n 3, 1) := by decide +kernel
theorem dX2_pile_42 : decode cX2_pile 42 = .ok (.getfield 49, 3) := by decide +kernel
theorem dX2_pile_45 : decode cX2_pile 45 = .ok (.astore 7, 2) := by decide +kernel
theorem dX2_pile_47 : decode cX2_pile 47 = .ok (.iconst 0, 1) := by decide +kernel
theorem dX2_pile_48 : decode cX2_pile 48 = .ok (.istore 8, 2) := by decide +kernel
theorem dX2_pile_50 : decode cX2_pile 50 = .ok (.iload 8, 2) := by decide +kernel
theorem dX2_pile_52 : decode cX2_pile 52 = .ok (.iload 4, 2) := by decide +kernel
theorem dX2_pile_54 : decode cX2_pile 54 = .ok (.if_icmp .gt 15, 3) := by decide +kernel
theorem dX2_pile_57 : decode cX2_pile 57 = .ok (.aload 7, 2) := by decide +kernel
theorem dX2_pile_59 : decode cX2_pile 59 = .ok (.iload 8, 2) := by decide +kernel
theorem dX2_pile_61 : decode cX2_pile 61 = .ok (.lconst 0, 1) := by decide +kernel
theorem dX2_pile_62 : decode cX2_pile 62 = .ok (.lastore, 1) := by decide +kernel
theorem dX2_pile_63 : decode cX2_pile 63 = .ok (.iinc 8 1, 3) := by decide +kernel
theorem dX2_pile_66 : decode cX2_pile 66 = .ok (.goto (-16), 3) := by decide +kernel
theorem dX2_pile_69 : decode cX2_pile 69 = .ok (.iconst 0, 1) := by decide +kernel
theorem dX2_pile_70 : decode cX2_pile 70 = .ok (.istore 8, 2) := by decide +kernel
theorem dX2_pile_72 : decode cX2_pile 72 = .ok (.iload 8, 2) := by decide +kernel
theorem dX2_pile_74 : decode cX2_pile 74 = .ok (.aload_n 1, 1) := by decide +kernel
theorem dX2_pile_75 : decode cX2_pile 75 = .ok (.getfield 45, 3) := by decide +kernel
theorem dX2_pile_78 : decode cX2_pile 78 = .ok (.if_icmp .gt 60, 3) := by decide +kernel
theorem dX2_pile_81 : decode cX2_pile 81 = .ok (.aload_n 1, 1) := by decide +kernel
theorem dX2_pile_82 : decode cX2_pile 82 = .ok (.getfield 49, 3) := by decide +kernel
theorem dX2_pile_85 : decode cX2_pile 85 = .ok (.iload 8, 2) := by decide +kernel
theorem dX2_pile_87 : decode cX2_pile 87 = .ok (.laload, 1) := by decide +kernel
theorem dX2_pile_88 : decode cX2_pile 88 = .ok (.lstore 9, 2) := by decide +kernel
theorem dX2_pile_90 : decode cX2_pile 90 = .ok (.lload 9, 2) := by decide +kernel
theorem dX2_pile_92 : decode cX2_pile 92 = .ok (.lconst 0, 1) := by decide +kernel
theorem dX2_pile_93 : decode cX2_pile 93 = .ok (.lcmp, 1) := by decide +kernel
theorem dX2_pile_94 : decode cX2_pile 94 = .ok (.ifCond .eq 38, 3) := by decide +kernel
theorem dX2_pile_97 : decode cX2_pile 97 = .ok (.iconst 0, 1) := by decide +kernel
theorem dX2_pile_98 : decode cX2_pile 98 = .ok (.istore 11, 2) := by decide +kernel
theorem dX2_pile_100 : decode cX2_pile 100 = .ok (.iload 11, 2) := by decide +kernel
theorem dX2_pile_102 : decode cX2_pile 102 = .ok (.iload 5, 2) := by decide +kernel
theorem dX2_pile_104 : decode cX2_pile 104 = .ok (.if_icmp .gt 28, 3) := by decide +kernel
theorem dX2_pile_107 : decode cX2_pile 107 = .ok (.aload 7, 2) := by decide +kernel
theorem dX2_pile_109 : decode cX2_pile 109 = .ok (.iload 8, 2) := by decide +kernel
theorem dX2_pile_111 : decode cX2_pile 111 = .ok (.iload 11, 2) := by decide +kernel
theorem dX2_pile_113 : decode cX2_pile 113 = .ok (.iadd, 1) := by decide +kernel
theorem dX2_pile_114 : decode cX2_pile 114 = .ok (.dup2, 1) := by decide +kernel
theorem dX2_pile_115 : decode cX2_pile 115 = .ok (.laload, 1) := by decide +kernel
theorem dX2_pile_116 : decode cX2_pile 116 = .ok (.lload 9, 2) := by decide +kernel
theorem dX2_pile_118 : decode cX2_pile 118 = .ok (.aload 6, 2) := by decide +kernel
theorem dX2_pile_120 : decode cX2_pile 120 = .ok (.iload 11, 2) := by decide +kernel
theorem dX2_pile_122 : decode cX2_pile 122 = .ok (.laload, 1) := by decide +kernel
theorem dX2_pile_123 : decode cX2_pile 123 = .ok (.lmul, 1) := by decide +kernel
theorem dX2_pile_124 : decode cX2_pile 124 = .ok (.ladd, 1) := by decide +kernel
theorem dX2_pile_125 : decode cX2_pile 125 = .ok (.lastore, 1) := by decide +kernel
theorem dX2_pile_126 : decode cX2_pile 126 = .ok (.iinc 11 1, 3) := by decide +kernel
theorem dX2_pile_129 : decode cX2_pile 129 = .ok (.goto (-29), 3) := by decide +kernel
theorem dX2_pile_132 : decode cX2_pile 132 = .ok (.iinc 8 1, 3) := by decide +kernel
theorem dX2_pile_135 : decode cX2_pile 135 = .ok (.goto (-63), 3) := by decide +kernel
theorem dX2_pile_138 : decode cX2_pile 138 = .ok (.aload_n 3, 1) := by decide +kernel
theorem dX2_pile_139 : decode cX2_pile 139 = .ok (.iload 4, 2) := by decide +kernel
theorem dX2_pile_141 : decode cX2_pile 141 = .ok (.putfield 45, 3) := by decide +kernel
theorem dX2_pile_144 : decode cX2_pile 144 = .ok (.return_, 1) := by decide +kernel
theorem dX2_multiply_0 : decode cX2_multiply 0 = .ok (.aload_n 0, 1) := by decide +kernel
theorem dX2_multiply_1 : decode cX2_multiply 1 = .ok (.aload_n 1, 1) := by decide +kernel
theorem dX2_multiply_2 : decode cX2_multiply 2 = .ok (.aload_n 2, 1) := by decide +kernel
theorem dX2_multiply_3 : decode cX2_multiply 3 = .ok (.aload_n 0, 1) := by decide +kernel
theorem dX2_multiply_4 : decode cX2_multiply 4 = .ok (.getfield 14, 3) := by decide +kernel
theorem dX2_multiply_7 : decode cX2_multiply 7 = .ok (.invokevirtual 53, 3) := by decide +kernel
theorem dX2_multiply_10 : decode cX2_multiply 10 = .ok (.iconst 0, 1) := by decide +kernel
theorem dX2_multiply_11 : decode cX2_multiply 11 = .ok (.istore 4, 2) := by decide +kernel
theorem dX2_multiply_13 : decode cX2_multiply 13 = .ok (.iload 4, 2) := by decide +kernel
theorem dX2_multiply_15 : decode cX2_multiply 15 = .ok (.aload_n 0, 1) := by decide +kernel
theorem dX2_multiply_16 : decode cX2_multiply 16 = .ok (.getfield 14, 3) := by decide +kernel
theorem dX2_multiply_19 : decode cX2_multiply 19 = .ok (.getfield 45, 3) := by decide +kernel
theorem dX2_multiply_22 : decode cX2_multiply 22 = .ok (.if_icmp .gt 30, 3) := by decide +kernel
theorem dX2_multiply_25 : decode cX2_multiply 25 = .ok (.aload_n 0, 1) := by decide +kernel
theorem dX2_multiply_26 : decode cX2_multiply 26 = .ok (.getfield 14, 3) := by decide +kernel
theorem dX2_multiply_29 : decode cX2_multiply 29 = .ok (.getfield 49, 3) := by decide +kernel
theorem dX2_multiply_32 : decode cX2_multiply 32 = .ok (.iload 4, 2) := by decide +kernel
theorem dX2_multiply_34 : decode cX2_multiply 34 = .ok (.dup2, 1) := by decide +kernel
theorem dX2_multiply_35 : decode cX2_multiply 35 = .ok (.laload, 1) := by decide +kernel
theorem dX2_multiply_36 : decode cX2_multiply 36 = .ok (.aload_n 0, 1) := by decide +kernel
theorem dX2_multiply_37 : decode cX2_multiply 37 = .ok (.getfield 41, 3) := by decide +kernel
theorem dX2_multiply_40 : decode cX2_multiply 40 = .ok (.getfield 57, 3) := by decide +kernel
theorem dX2_multiply_43 : decode cX2_multiply 43 = .ok (.i2l, 1) := by decide +kernel
theorem dX2_multiply_44 : decode cX2_multiply 44 = .ok (.lrem, 1) := by decide +kernel
theorem dX2_multiply_45 : decode cX2_multiply 45 = .ok (.lastore, 1) := by decide +kernel
theorem dX2_multiply_46 : decode cX2_multiply 46 = .ok (.iinc 4 1, 3) := by decide +kernel
theorem dX2_multiply_49 : decode cX2_multiply 49 = .ok (.goto (-36), 3) := by decide +kernel
theorem dX2_multiply_52 : decode cX2_multiply 52 = .ok (.aload_n 3, 1) := by decide +kernel
theorem dX2_multiply_53 : decode cX2_multiply 53 = .ok (.aload_n 0, 1) := by decide +kernel
theorem dX2_multiply_54 : decode cX2_multiply 54 = .ok (.getfield 14, 3) := by decide +kernel
theorem dX2_multiply_57 : decode cX2_multiply 57 = .ok (.invokevirtual 62, 3) := by decide +kernel
theorem dX2_multiply_60 : decode cX2_multiply 60 = .ok (.return_, 1) := by decide +kernel
theorem dX2_reduce_0 : decode cX2_reduce 0 = .ok (.aload_n 2, 1) := by decide +kernel
theorem dX2_reduce_1 : decode cX2_reduce 1 = .ok (.getfield 45, 3) := by decide +kernel
theorem dX2_reduce_4 : decode cX2_reduce 4 = .ok (.istore 4, 2) := by decide +kernel
theorem dX2_reduce_6 : decode cX2_reduce 6 = .ok (.aload_n 1, 1) := by decide +kernel
theorem dX2_reduce_7 : decode cX2_reduce 7 = .ok (.getfield 45, 3) := by decide +kernel
theorem dX2_reduce_10 : decode cX2_reduce 10 = .ok (.istore 5, 2) := by decide +kernel
theorem dX2_reduce_12 : decode cX2_reduce 12 = .ok (.aload_n 3, 1) := by decide +kernel
theorem dX2_reduce_13 : decode cX2_reduce 13 = .ok (.iconst (-1), 1) := by decide +kernel
theorem dX2_reduce_14 : decode cX2_reduce 14 = .ok (.putfield 45, 3) := by decide +kernel
theorem dX2_reduce_17 : decode cX2_reduce 17 = .ok (.iload 4, 2) := by decide +kernel
theorem dX2_reduce_19 : decode cX2_reduce 19 = .ok (.ifCond .ge 4, 3) := by decide +kernel
theorem dX2_reduce_22 : decode cX2_reduce 22 = .ok (.return_, 1) := by decide +kernel
theorem dX2_reduce_23 : decode cX2_reduce 23 = .ok (.aload_n 0, 1) := by decide +kernel
theorem dX2_reduce_24 : decode cX2_reduce 24 = .ok (.getfield 41, 3) := by decide +kernel
theorem dX2_reduce_27 : decode cX2_reduce 27 = .ok (.getfield 57, 3) := by decide +kernel
theorem dX2_reduce_30 : decode cX2_reduce 30 = .ok (.i2l, 1) := by decide +kernel
theorem dX2_reduce_31 : decode cX2_reduce 31 = .ok (.lstore 6, 2) := by decide +kernel
theorem dX2_reduce_33 : decode cX2_reduce 33 = .ok (.aload_n 2, 1) := by decide +kernel
theorem dX2_reduce_34 : decode cX2_reduce 34 = .ok (.getfield 49, 3) := by decide +kernel
theorem dX2_reduce_37 : decode cX2_reduce 37 = .ok (.astore 8, 2) := by decide +kernel
theorem dX2_reduce_39 : decode cX2_reduce 39 = .ok (.aload_n 1, 1) := by decide +kernel
theorem dX2_reduce_40 : decode cX2_reduce 40 = .ok (.getfield 49, 3) := by decide +kernel
theorem dX2_reduce_43 : decode cX2_reduce 43 = .ok (.astore 9, 2) := by decide +kernel
theorem dX2_reduce_45 : decode cX2_reduce 45 = .ok (.aload 8, 2) := by decide +kernel
theorem dX2_reduce_47 : decode cX2_reduce 47 = .ok (.iload 4, 2) := by decide +kernel
theorem dX2_reduce_49 : decode cX2_reduce 49 = .ok (.laload, 1) := by decide +kernel
theorem dX2_reduce_50 : decode cX2_reduce 50 = .ok (.lconst 1, 1) := by decide +kernel
theorem dX2_reduce_51 : decode cX2_reduce 51 = .ok (.lcmp, 1) := by decide +kernel
theorem dX2_reduce_52 : decode cX2_reduce 52 = .ok (.ifCond .ne 7, 3) := by decide +kernel
theorem dX2_reduce_55 : decode cX2_reduce 55 = .ok (.lconst 1, 1) := by decide +kernel
theorem dX2_reduce_56 : decode cX2_reduce 56 = .ok (.goto 24, 3) := by decide +kernel
theorem dX2_reduce_59 : decode cX2_reduce 59 = .ok (.aload_n 0, 1) := by decide +kernel
theorem dX2_reduce_60 : decode cX2_reduce 60 = .ok (.getfield 41, 3) := by decide +kernel
theorem dX2_reduce_63 : decode cX2_reduce 63 = .ok (.aload 8, 2) := by decide +kernel
theorem dX2_reduce_65 : decode cX2_reduce 65 = .ok (.iload 4, 2) := by decide +kernel
theorem dX2_reduce_67 : decode cX2_reduce 67 = .ok (.laload, 1) := by decide +kernel
theorem dX2_reduce_68 : decode cX2_reduce 68 = .ok (.aload_n 0, 1) := by decide +kernel
theorem dX2_reduce_69 : decode cX2_reduce 69 = .ok (.getfield 41, 3) := by decide +kernel
theorem dX2_reduce_72 : decode cX2_reduce 72 = .ok (.getfield 57, 3) := by decide +kernel
theorem dX2_reduce_75 : decode cX2_reduce 75 = .ok (.iconst 2, 1) := by decide +kernel
theorem dX2_reduce_76 : decode cX2_reduce 76 = .ok (.isub, 1) := by decide +kernel
theorem dX2_reduce_77 : decode cX2_reduce 77 = .ok (.invokevirtual 66, 3) := by decide +kernel
theorem dX2_reduce_80 : decode cX2_reduce 80 = .ok (.lstore 10, 2) := by decide +kernel
theorem dX2_reduce_82 : decode cX2_reduce 82 = .ok (.iload 5, 2) := by decide +kernel
theorem dX2_reduce_84 : decode cX2_reduce 84 = .ok (.istore 12, 2) := by decide +kernel
theorem dX2_reduce_86 : decode cX2_reduce 86 = .ok (.iload 12, 2) := by decide +kernel
theorem dX2_reduce_88 : decode cX2_reduce 88 = .ok (.iload 4, 2) := by decide +kernel
theorem dX2_reduce_90 : decode cX2_reduce 90 = .ok (.if_icmp .lt 90, 3) := by decide +kernel
theorem dX2_reduce_93 : decode cX2_reduce 93 = .ok (.aload 9, 2) := by decide +kernel
theorem dX2_reduce_95 : decode cX2_reduce 95 = .ok (.iload 12, 2) := by decide +kernel
theorem dX2_reduce_97 : decode cX2_reduce 97 = .ok (.laload, 1) := by decide +kernel
theorem dX2_reduce_98 : decode cX2_reduce 98 = .ok (.lload 6, 2) := by decide +kernel
theorem dX2_reduce_100 : decode cX2_reduce 100 = .ok (.lrem, 1) := by decide +kernel
theorem dX2_reduce_101 : decode cX2_reduce 101 = .ok (.lload 10, 2) := by decide +kernel
theorem dX2_reduce_103 : decode cX2_reduce 103 = .ok (.lmul, 1) := by decide +kernel
theorem dX2_reduce_104 : decode cX2_reduce 104 = .ok (.lload 6, 2) := by decide +kernel
theorem dX2_reduce_106 : decode cX2_reduce 106 = .ok (.lrem, 1) := by decide +kernel
theorem dX2_reduce_107 : decode cX2_reduce 107 = .ok (.lstore 13, 2) := by decide +kernel
theorem dX2_reduce_109 : decode cX2_reduce 109 = .ok (.iload 12, 2) := by decide +kernel
theorem dX2_reduce_111 : decode cX2_reduce 111 = .ok (.iload 4, 2) := by decide +kernel
theorem dX2_reduce_113 : decode cX2_reduce 113 = .ok (.isub, 1) := by decide +kernel
theorem dX2_reduce_114 : decode cX2_reduce 114 = .ok (.istore 15, 2) := by decide +kernel
theorem dX2_reduce_116 : decode cX2_reduce 116 = .ok (.aload_n 3, 1) := by decide +kernel
theorem dX2_reduce_117 : decode cX2_reduce 117 = .ok (.getfield 49, 3) := by decide +kernel
theorem dX2_reduce_120 : decode cX2_reduce 120 = .ok (.iload 15, 2) := by decide +kernel
theorem dX2_reduce_122 : decode cX2_reduce 122 = .ok (.lload 13, 2) := by decide +kernel
theorem dX2_reduce_124 : decode cX2_reduce 124 = .ok (.lastore, 1) := by decide +kernel
theorem dX2_reduce_125 : decode cX2_reduce 125 = .ok (.lload 13, 2) := by decide +kernel
theorem dX2_reduce_127 : decode cX2_reduce 127 = .ok (.lconst 0, 1) := by decide +kernel
theorem dX2_reduce_128 : decode cX2_reduce 128 = .ok (.lcmp, 1) := by decide +kernel
theorem dX2_reduce_129 : decode cX2_reduce 129 = .ok (.ifCond .eq 45, 3) := by decide +kernel
theorem dX2_reduce_132 : decode cX2_reduce 132 = .ok (.lload 6, 2) := by decide +kernel
theorem dX2_reduce_134 : decode cX2_reduce 134 = .ok (.lload 13, 2) := by decide +kernel
theorem dX2_reduce_136 : decode cX2_reduce 136 = .ok (.lsub, 1) := by decide +kernel
theorem dX2_reduce_137 : decode cX2_reduce 137 = .ok (.lstore 16, 2) := by decide +kernel
theorem dX2_reduce_139 : decode cX2_reduce 139 = .ok (.iconst 0, 1) := by decide +kernel
theorem dX2_reduce_140 : decode cX2_reduce 140 = .ok (.istore 18, 2) := by decide +kernel
theorem dX2_reduce_142 : decode cX2_reduce 142 = .ok (.iload 18, 2) := by decide +kernel
theorem dX2_reduce_144 : decode cX2_reduce 144 = .ok (.iload 4, 2) := by decide +kernel
theorem dX2_reduce_146 : decode cX2_reduce 146 = .ok (.if_icmp .ge 28, 3) := by decide +kernel
theorem dX2_reduce_149 : decode cX2_reduce 149 = .ok (.aload 9, 2) := by decide +kernel
theorem dX2_reduce_151 : decode cX2_reduce 151 = .ok (.iload 15, 2) := by decide +kernel
theorem dX2_reduce_153 : decode cX2_reduce 153 = .ok (.iload 18, 2) := by decide +kernel
theorem dX2_reduce_155 : decode cX2_reduce 155 = .ok (.iadd, 1) := by decide +kernel
theorem dX2_reduce_156 : decode cX2_reduce 156 = .ok (.dup2, 1) := by decide +kernel
theorem dX2_reduce_157 : decode cX2_reduce 157 = .ok (.laload, 1) := by decide +kernel
theorem dX2_reduce_158 : decode cX2_reduce 158 = .ok (.lload 16, 2) := by decide +kernel
theorem dX2_reduce_160 : decode cX2_reduce 160 = .ok (.aload 8, 2) := by decide +kernel
theorem dX2_reduce_162 : decode cX2_reduce 162 = .ok (.iload 18, 2) := by decide +kernel
theorem dX2_reduce_164 : decode cX2_reduce 164 = .ok (.laload, 1) := by decide +kernel
theorem dX2_reduce_165 : decode cX2_reduce 165 = .ok (.lmul, 1) := by decide +kernel
theorem dX2_reduce_166 : decode cX2_reduce 166 = .ok (.ladd, 1) := by decide +kernel
theorem dX2_reduce_167 : decode cX2_reduce 167 = .ok (.lastore, 1) := by decide +kernel
theorem dX2_reduce_168 : decode cX2_reduce 168 = .ok (.iinc 18 1, 3) := by decide +kernel
theorem dX2_reduce_171 : decode cX2_reduce 171 = .ok (.goto (-29), 3) := by decide +kernel
theorem dX2_reduce_174 : decode cX2_reduce 174 = .ok (.iinc 12 (-1), 3) := by decide +kernel
theorem dX2_reduce_177 : decode cX2_reduce 177 = .ok (.goto (-91), 3) := by decide +kernel
theorem dX2_reduce_180 : decode cX2_reduce 180 = .ok (.aload_n 3, 1) := by decide +kernel
theorem dX2_reduce_181 : decode cX2_reduce 181 = .ok (.iload 5, 2) := by decide +kernel
theorem dX2_reduce_183 : decode cX2_reduce 183 = .ok (.iload 4, 2) := by decide +kernel
theorem dX2_reduce_185 : decode cX2_reduce 185 = .ok (.isub, 1) := by decide +kernel
theorem dX2_reduce_186 : decode cX2_reduce 186 = .ok (.invokevirtual 70, 3) := by decide +kernel
theorem dX2_reduce_189 : decode cX2_reduce 189 = .ok (.iconst 0, 1) := by decide +kernel
theorem dX2_reduce_190 : decode cX2_reduce 190 = .ok (.istore 12, 2) := by decide +kernel
theorem dX2_reduce_192 : decode cX2_reduce 192 = .ok (.iload 12, 2) := by decide +kernel
theorem dX2_reduce_194 : decode cX2_reduce 194 = .ok (.iload 4, 2) := by decide +kernel
theorem dX2_reduce_196 : decode cX2_reduce 196 = .ok (.if_icmp .ge 26, 3) := by decide +kernel
theorem dX2_reduce_199 : decode cX2_reduce 199 = .ok (.iload 12, 2) := by decide +kernel
theorem dX2_reduce_201 : decode cX2_reduce 201 = .ok (.iload 5, 2) := by decide +kernel
theorem dX2_reduce_203 : decode cX2_reduce 203 = .ok (.if_icmp .gt 19, 3) := by decide +kernel
theorem dX2_reduce_206 : decode cX2_reduce 206 = .ok (.aload 9, 2) := by decide +kernel
theorem dX2_reduce_208 : decode cX2_reduce 208 = .ok (.iload 12, 2) := by decide +kernel
theorem dX2_reduce_210 : decode cX2_reduce 210 = .ok (.dup2, 1) := by decide +kernel
theorem dX2_reduce_211 : decode cX2_reduce 211 = .ok (.laload, 1) := by decide +kernel
theorem dX2_reduce_212 : decode cX2_reduce 212 = .ok (.lload 6, 2) := by decide +kernel
theorem dX2_reduce_214 : decode cX2_reduce 214 = .ok (.lrem, 1) := by decide +kernel
theorem dX2_reduce_215 : decode cX2_reduce 215 = .ok (.lastore, 1) := by decide +kernel
theorem dX2_reduce_216 : decode cX2_reduce 216 = .ok (.iinc 12 1, 3) := by decide +kernel
theorem dX2_reduce_219 : decode cX2_reduce 219 = .ok (.goto (-27), 3) := by decide +kernel
theorem dX2_reduce_222 : decode cX2_reduce 222 = .ok (.aload_n 1, 1) := by decide +kernel
theorem dX2_reduce_223 : decode cX2_reduce 223 = .ok (.iload 4, 2) := by decide +kernel
theorem dX2_reduce_225 : decode cX2_reduce 225 = .ok (.iconst 1, 1) := by decide +kernel
theorem dX2_reduce_226 : decode cX2_reduce 226 = .ok (.isub, 1) := by decide +kernel
theorem dX2_reduce_227 : decode cX2_reduce 227 = .ok (.iload 5, 2) := by decide +kernel
theorem dX2_reduce_229 : decode cX2_reduce 229 = .ok (.invokestatic 73, 3) := by decide +kernel
theorem dX2_reduce_232 : decode cX2_reduce 232 = .ok (.invokevirtual 70, 3) := by decide +kernel
theorem dX2_reduce_235 : decode cX2_reduce 235 = .ok (.return_, 1) := by decide +kernel
theorem dX2_makeMonic_0 : decode cX2_makeMonic 0 = .ok (.aload_n 1, 1) := by decide +kernel
theorem dX2_makeMonic_1 : decode cX2_makeMonic 1 = .ok (.getfield 45, 3) := by decide +kernel
theorem dX2_makeMonic_4 : decode cX2_makeMonic 4 = .ok (.ifCond .ge 4, 3) := by decide +kernel
theorem dX2_makeMonic_7 : decode cX2_makeMonic 7 = .ok (.return_, 1) := by decide +kernel
theorem dX2_makeMonic_8 : decode cX2_makeMonic 8 = .ok (.aload_n 0, 1) := by decide +kernel
theorem dX2_makeMonic_9 : decode cX2_makeMonic 9 = .ok (.getfield 41, 3) := by decide +kernel
theorem dX2_makeMonic_12 : decode cX2_makeMonic 12 = .ok (.aload_n 1, 1) := by decide +kernel
theorem dX2_makeMonic_13 : decode cX2_makeMonic 13 = .ok (.invokevirtual 79, 3) := by decide +kernel
theorem dX2_makeMonic_16 : decode cX2_makeMonic 16 = .ok (.invokevirtual 83, 3) := by decide +kernel
theorem dX2_makeMonic_19 : decode cX2_makeMonic 19 = .ok (.lstore_n 2, 1) := by decide +kernel
theorem dX2_makeMonic_20 : decode cX2_makeMonic 20 = .ok (.iconst 0, 1) := by decide +kernel
theorem dX2_makeMonic_21 : decode cX2_makeMonic 21 = .ok (.istore 4, 2) := by decide +kernel
theorem dX2_makeMonic_23 : decode cX2_makeMonic 23 = .ok (.iload 4, 2) := by decide +kernel
theorem dX2_makeMonic_25 : decode cX2_makeMonic 25 = .ok (.aload_n 1, 1) := by decide +kernel
theorem dX2_makeMonic_26 : decode cX2_makeMonic 26 = .ok (.getfield 45, 3) := by decide +kernel
theorem dX2_makeMonic_29 : decode cX2_makeMonic 29 = .ok (.if_icmp .gt 34, 3) := by decide +kernel
theorem dX2_makeMonic_32 : decode cX2_makeMonic 32 = .ok (.aload_n 1, 1) := by decide +kernel
theorem dX2_makeMonic_33 : decode cX2_makeMonic 33 = .ok (.getfield 49, 3) := by decide +kernel
theorem dX2_makeMonic_36 : decode cX2_makeMonic 36 = .ok (.iload 4, 2) := by decide +kernel
theorem dX2_makeMonic_38 : decode cX2_makeMonic 38 = .ok (.aload_n 1, 1) := by decide +kernel
theorem dX2_makeMonic_39 : decode cX2_makeMonic 39 = .ok (.getfield 49, 3) := by decide +kernel
theorem dX2_makeMonic_42 : decode cX2_makeMonic 42 = .ok (.iload 4, 2) := by decide +kernel
theorem dX2_makeMonic_44 : decode cX2_makeMonic 44 = .ok (.laload, 1) := by decide +kernel
theorem dX2_makeMonic_45 : decode cX2_makeMonic 45 = .ok (.lload_n 2, 1) := by decide +kernel
theorem dX2_makeMonic_46 : decode cX2_makeMonic 46 = .ok (.lmul, 1) := by decide +kernel
theorem dX2_makeMonic_47 : decode cX2_makeMonic 47 = .ok (.aload_n 0, 1) := by decide +kernel
theorem dX2_makeMonic_48 : decode cX2_makeMonic 48 = .ok (.getfield 41, 3) := by decide +kernel
theorem dX2_makeMonic_51 : decode cX2_makeMonic 51 = .ok (.getfield 57, 3) := by decide +kernel
theorem dX2_makeMonic_54 : decode cX2_makeMonic 54 = .ok (.i2l, 1) := by decide +kernel
theorem dX2_makeMonic_55 : decode cX2_makeMonic 55 = .ok (.lrem, 1) := by decide +kernel
theorem dX2_makeMonic_56 : decode cX2_makeMonic 56 = .ok (.lastore, 1) := by decide +kernel
theorem dX2_makeMonic_57 : decode cX2_makeMonic 57 = .ok (.iinc 4 1, 3) := by decide +kernel
theorem dX2_makeMonic_60 : decode cX2_makeMonic 60 = .ok (.goto (-37), 3) := by decide +kernel
theorem dX2_makeMonic_63 : decode cX2_makeMonic 63 = .ok (.return_, 1) := by decide +kernel
/-- sums of integers -/
def zs : Nat → (Nat → Int) → Int
  | 0, _ => 0
  | n + 1, f => zs n f + f n
/-- the number at k of the product of the first N numbers of ga with gb's 0 .. e -/
def cvp (ga gb : Int → Int) (e : Int) (N : Nat) (k : Int) : Int := zs N (fun i => if (i : Int) ≤ k ∧ k - i ≤ e then ga i * gb (k - i) else 0)
theorem cvp_0 (ga gb : Int → Int) (e k : Int) : cvp ga gb e 0 k = 0 := rfl
theorem cvp_s (ga gb : Int → Int) (e : Int) (N : Nat) (k : Int) : cvp ga gb e (N + 1) k = cvp ga gb e N k + (if (N : Int) ≤ k ∧ k - N ≤ e then ga N * gb (k - N) else 0) := rfl
/-- what pile leaves: the product at 0 .. t, what was there elsewhere -/
def pil (ga gb gc : Int → Int) (e t : Int) (N : Nat) : Int → Int := fun k => if 0 ≤ k ∧ k ≤ t then cvp ga gb e N k else gc k
def pil2 (ga gb gc : Int → Int) (e t i j : Int) : Int → Int := fun k => if 0 ≤ k ∧ k ≤ t then cvp ga gb e i.toNat k + (if i ≤ k ∧ k - i < j then ga i * gb (k - i) else 0) else gc k
theorem pil2_0 (ga gb gc : Int → Int) (e t i : Int) : pil2 ga gb gc e t i 0 = pil ga gb gc e t i.toNat := funext fun k => by
  unfold pil2 pil
  by_cases z : 0 ≤ k ∧ k ≤ t
  · rw [if_pos z, if_pos z, if_neg (by omega), Int.add_zero]
  · rw [if_neg z, if_neg z]
theorem pil2_s (ga gb gc : Int → Int) {e t i j : Int} (hi : 0 ≤ i) (hj : 0 ≤ j) (ht : i + j ≤ t) : gup (pil2 ga gb gc e t i j) (i + j) (pil2 ga gb gc e t i j (i + j) + ga i * gb j) = pil2 ga gb gc e t i (j + 1) := funext fun k => by
  unfold gup
  by_cases z : k = i + j
  · subst z
    rw [if_pos rfl]
    have hk : 0 ≤ i + j ∧ i + j ≤ t := by omega
    have e1 : pil2 ga gb gc e t i j (i + j) = cvp ga gb e i.toNat (i + j) + 0 := by unfold pil2; rw [if_pos hk, if_neg (by omega)]
    have e2 : pil2 ga gb gc e t i (j + 1) (i + j) = cvp ga gb e i.toNat (i + j) + ga i * gb (i + j - i) := by unfold pil2; rw [if_pos hk, if_pos (by omega)]
    rw [e1, e2, Int.add_zero, show i + j - i = j by omega]
  · rw [if_neg z]
    unfold pil2
    by_cases w : 0 ≤ k ∧ k ≤ t
    · rw [if_pos w, if_pos w]
      by_cases y : i ≤ k ∧ k - i < j
      · rw [if_pos y, if_pos (by omega)]
      · rw [if_neg y, if_neg (by omega)]
    · rw [if_neg w, if_neg w]
theorem pil2_e (ga gb gc : Int → Int) {e t i : Int} (hi : 0 ≤ i) : pil2 ga gb gc e t i (e + 1) = pil ga gb gc e t (i + 1).toNat := funext fun k => by
  unfold pil2 pil
  by_cases z : 0 ≤ k ∧ k ≤ t
  · rw [if_pos z, if_pos z, show (i + 1).toNat = i.toNat + 1 by omega, cvp_s, show ((i.toNat : Nat) : Int) = i by omega]
    congr 1
    by_cases y : i ≤ k ∧ k - i ≤ e
    · rw [if_pos (by omega), if_pos y]
    · rw [if_neg (by omega), if_neg y]
  · rw [if_neg z, if_neg z]
theorem pil_z (ga gb gc : Int → Int) {e t i : Int} (hi : 0 ≤ i) (hz : ga i = 0) : pil ga gb gc e t i.toNat = pil ga gb gc e t (i + 1).toNat := funext fun k => by
  unfold pil
  by_cases z : 0 ≤ k ∧ k ≤ t
  · rw [if_pos z, if_pos z, show (i + 1).toNat = i.toNat + 1 by omega, cvp_s, show ((i.toNat : Nat) : Int) = i by omega, hz]
    split <;> simp
  · rw [if_neg z, if_neg z]
theorem gF_pil (ga gb gc : Int → Int) {e t : Int} : gF gc (fun _ => 0) (t + 1) = pil ga gb gc e t 0 := funext fun k => by
  unfold gF pil
  by_cases z : 0 ≤ k ∧ k ≤ t
  · rw [if_pos (by omega), if_pos z]; rfl
  · rw [if_neg (by omega), if_neg z]
set_option maxHeartbeats 4000000 in
set_option maxRecDepth 100000 in
theorem sX2_pile (N : GN) (h : GH) (th r1 na r2 nb r3 nc n m l : Nat) (d e dc : Int) (ga gb gc : Int → Int) (hn2 : n ≤ 1000) (hm2 : m ≤ 1000) (hl2 : l ≤ 1000) (hd1 : -1 ≤ d) (hd2 : d < n) (he1 : -1 ≤ e) (he2 : e < m) (hde : d + e < l) (hga : ∀ j, gX (ga j)) (x1 : nc ≠ r1) (x2 : nc ≠ na) (x3 : nc ≠ r2) (x4 : nc ≠ nb) (x5 : nc ≠ r3) (y1 : r3 ≠ r1) (y2 : r3 ≠ na) (y3 : r3 ≠ r2) (y4 : r3 ≠ nb) (hr1 : h.2 r1 = some (oB 5 [.ref (na), .int (gI (d))])) (hna : h.2 na = some (aJ n (ga))) (hr2 : h.2 r2 = some (oB 5 [.ref (nb), .int (gI (e))])) (hnb : h.2 nb = some (aJ m (gb))) (hr3 : h.2 r3 = some (oB 5 [.ref (nc), .int (gI (dc))])) (hnc : h.2 nc = some (aJ l (gc))) : Sp N yX2_pile mX2_pile 0 0 [.ref (th), .ref (r1), .ref (r2), .ref (r3)] h (fun v h1 => v = none ∧ h1 = hset (hset h nc (aJ l (pil ga gb gc e (if d < 0 ∨ e < 0 then -1 else d + e) (d + 1).toNat))) r3 (oB 5 [.ref nc, .int (gI (if d < 0 ∨ e < 0 then -1 else d + e))])) := by
  refine Sp.of (by decide) rfl rfl (Nat.le_of_ble_eq_true rfl) ?_
  show Go N mX2_pile _ 0 0 h 0 [(0, .ref (th)), (1, .ref (r1)), (2, .ref (r2)), (3, .ref (r3))] []
  have rest : ∀ t : Int, t = (if d < 0 ∨ e < 0 then -1 else d + e) → Go N mX2_pile (fun v h1 => v = none ∧ h1 = hset (hset h nc (aJ l (pil ga gb gc e (if d < 0 ∨ e < 0 then -1 else d + e) (d + 1).toNat))) r3 (oB 5 [.ref nc, .int (gI (if d < 0 ∨ e < 0 then -1 else d + e))])) 0 0 h 47 [(7, .ref (nc)), (6, .ref (nb)), (5, .int (gI (e))), (4, .int (gI (t))), (0, .ref (th)), (1, .ref (r1)), (2, .ref (r2)), (3, .ref (r3))] [] := by
    intro t ht
    have ht2 : (t = -1 ∧ (d < 0 ∨ e < 0)) ∨ (t = d + e ∧ 0 ≤ d ∧ 0 ≤ e) := by rw [ht]; split <;> omega
    rw [← ht]
    have lB : ∀ x : Int × GH, (0 ≤ x.1 ∧ x.1 ≤ d + 1 ∧ x.2 = hset h nc (aJ l (pil ga gb gc e t x.1.toNat))) → Go N mX2_pile (fun v h1 => v = none ∧ h1 = hset (hset h nc (aJ l (pil ga gb gc e t (d + 1).toNat))) r3 (oB 5 [.ref nc, .int (gI t)])) 0 0 x.2 72 [(8, .int (gI (x.1))), (7, .ref (nc)), (6, .ref (nb)), (5, .int (gI (e))), (4, .int (gI (t))), (0, .ref (th)), (1, .ref (r1)), (2, .ref (r2)), (3, .ref (r3))] [] := by
      refine Go.loop _ (fun x : Int × GH => Go N mX2_pile _ 0 0 x.2 72 [(8, .int (gI (x.1))), (7, .ref (nc)), (6, .ref (nb)), (5, .int (gI (e))), (4, .int (gI (t))), (0, .ref (th)), (1, .ref (r1)), (2, .ref (r2)), (3, .ref (r3))] []) (fun x => (d + 2 - x.1).toNat) (fun x hx ih => ?_)
      obtain ⟨i, hh⟩ := x
      obtain ⟨hi0, hi1, he⟩ := hx
      dsimp only at hi0 hi1 he
      show Go N mX2_pile _ 0 0 hh 72 [(8, .int (gI (i))), (7, .ref (nc)), (6, .ref (nb)), (5, .int (gI (e))), (4, .int (gI (t))), (0, .ref (th)), (1, .ref (r1)), (2, .ref (r2)), (3, .ref (r3))] []
      have p0 : hh.2 (r1) = some (oB 5 [.ref (na), .int (gI (d))]) := by rw [he, hset_n _ _ (by omega)]; exact hr1
      have p1 : hh.2 (na) = some (aJ n (ga)) := by rw [he, hset_n _ _ (by omega)]; exact hna
      have p2 : hh.2 (r2) = some (oB 5 [.ref (nb), .int (gI (e))]) := by rw [he, hset_n _ _ (by omega)]; exact hr2
      have p3 : hh.2 (nb) = some (aJ m (gb)) := by rw [he, hset_n _ _ (by omega)]; exact hnb
      have p4 : hh.2 (r3) = some (oB 5 [.ref (nc), .int (gI (dc))]) := by rw [he, hset_n _ _ (by omega)]; exact hr3
      have p5 : hh.2 (nc) = some (aJ l (pil ga gb gc e t i.toNat)) := by rw [he]; exact hset_s _ _ _
      have lC : i ≤ d → ∀ y : Int × GH, (0 ≤ y.1 ∧ y.1 ≤ e + 1 ∧ y.2 = hset h nc (aJ l (pil2 ga gb gc e t i y.1))) → Go N mX2_pile (fun v h1 => v = none ∧ h1 = hset (hset h nc (aJ l (pil ga gb gc e t (d + 1).toNat))) r3 (oB 5 [.ref nc, .int (gI t)])) 0 0 y.2 100 [(11, .int (gI (y.1))), (9, .long (gJ (ga (i)))), (8, .int (gI (i))), (7, .ref (nc)), (6, .ref (nb)), (5, .int (gI (e))), (4, .int (gI (t))), (0, .ref (th)), (1, .ref (r1)), (2, .ref (r2)), (3, .ref (r3))] [] := by
        intro hid
        refine Go.loop _ (fun y : Int × GH => Go N mX2_pile _ 0 0 y.2 100 [(11, .int (gI (y.1))), (9, .long (gJ (ga (i)))), (8, .int (gI (i))), (7, .ref (nc)), (6, .ref (nb)), (5, .int (gI (e))), (4, .int (gI (t))), (0, .ref (th)), (1, .ref (r1)), (2, .ref (r2)), (3, .ref (r3))] []) (fun y => (e + 2 - y.1).toNat) (fun y hy ih2 => ?_)
        obtain ⟨j, hh⟩ := y
        obtain ⟨hj0, hj1, he⟩ := hy
        dsimp only at hj0 hj1 he
        show Go N mX2_pile _ 0 0 hh 100 [(11, .int (gI (j))), (9, .long (gJ (ga (i)))), (8, .int (gI (i))), (7, .ref (nc)), (6, .ref (nb)), (5, .int (gI (e))), (4, .int (gI (t))), (0, .ref (th)), (1, .ref (r1)), (2, .ref (r2)), (3, .ref (r3))] []
        have q0 : hh.2 (r1) = some (oB 5 [.ref (na), .int (gI (d))]) := by rw [he, hset_n _ _ (by omega)]; exact hr1
        have q1 : hh.2 (na) = some (aJ n (ga)) := by rw [he, hset_n _ _ (by omega)]; exact hna
        have q2 : hh.2 (r2) = some (oB 5 [.ref (nb), .int (gI (e))]) := by rw [he, hset_n _ _ (by omega)]; exact hr2
        have q3 : hh.2 (nb) = some (aJ m (gb)) := by rw [he, hset_n _ _ (by omega)]; exact hnb
        have q4 : hh.2 (r3) = some (oB 5 [.ref (nc), .int (gI (dc))]) := by rw [he, hset_n _ _ (by omega)]; exact hr3
        have q5 : hh.2 (nc) = some (aJ l (pil2 ga gb gc e t i j)) := by rw [he]; exact hset_s _ _ _
        refine g_iload 0 dX2_pile_100 rfl ?_
        refine g_iload 5 dX2_pile_102 rfl ?_
        refine g_icmp_gt (tgt := 132) dX2_pile_104 rfl (by unfold gW at *; omega) (by unfold gW at *; omega) (fun c301 => ?_) (fun c301 => ?_)
        · skip
          have hje : j = e + 1 := by omega
          subst hje
          rw [pil2_e ga gb gc hi0] at he
          refine Go.sub [2, 3, 4, 5, 6, 7, 8, 9, 10] rfl ?_
          refine g_iinc 0 (ls2 := [(8, .int (gI (i + 1))), (7, .ref (nc)), (6, .ref (nb)), (5, .int (gI (e))), (4, .int (gI (t))), (0, .ref (th)), (1, .ref (r1)), (2, .ref (r2)), (3, .ref (r3))]) dX2_pile_132 rfl (by decide) rfl ?_
          refine g_goto (tgt := 72) dX2_pile_135 rfl ?_
          exact ih (i + 1, hh) ⟨by dsimp only; omega, by dsimp only; omega, he⟩ (by dsimp only; omega)
        · skip
          refine g_aload 3 dX2_pile_107 rfl ?_
          refine g_iload 2 dX2_pile_109 rfl ?_
          refine g_iload 0 dX2_pile_111 rfl ?_
          refine g_iadd dX2_pile_113 ?_
          refine g_dup2 dX2_pile_114 rfl rfl ?_
          refine g_laload dX2_pile_115 q5 (by omega) (by omega) (by omega) ?_
          refine g_lload 1 dX2_pile_116 rfl ?_
          refine g_aload 4 dX2_pile_118 rfl ?_
          refine g_iload 0 dX2_pile_120 rfl ?_
          refine g_laload dX2_pile_122 q3 (by omega) (by omega) (by omega) ?_
          refine g_lmul dX2_pile_123 ?_
          refine g_ladd dX2_pile_124 ?_
          refine g_lastore dX2_pile_125 q5 (by omega) (by omega) (by omega) ?_
          obtain ⟨hh302, eh302⟩ : ∃ z : GH, z = hset hh (nc) (aJ l (gup (pil2 ga gb gc e t i j) ((i) + (j)) (((pil2 ga gb gc e t i j) ((i) + (j))) + ((ga (i)) * ((gb) (j)))))) := ⟨_, rfl⟩
          refine Go.hp eh302.symm ?_
          have fh302_0 : hh302.2 (r1) = some (oB 5 [.ref (na), .int (gI (d))]) := by rw [eh302, hset_n _ _ (by omega)]; exact q0
          have fh302_1 : hh302.2 (na) = some (aJ n (ga)) := by rw [eh302, hset_n _ _ (by omega)]; exact q1
          have fh302_2 : hh302.2 (r2) = some (oB 5 [.ref (nb), .int (gI (e))]) := by rw [eh302, hset_n _ _ (by omega)]; exact q2
          have fh302_3 : hh302.2 (nb) = some (aJ m (gb)) := by rw [eh302, hset_n _ _ (by omega)]; exact q3
          have fh302_4 : hh302.2 (r3) = some (oB 5 [.ref (nc), .int (gI (dc))]) := by rw [eh302, hset_n _ _ (by omega)]; exact q4
          have fh302_5 : hh302.2 (nc) = some (aJ l (gup (pil2 ga gb gc e t i j) ((i) + (j)) (((pil2 ga gb gc e t i j) ((i) + (j))) + ((ga (i)) * ((gb) (j)))))) := by rw [eh302]; exact hset_s _ _ _
          refine g_iinc 0 (ls2 := [(11, .int (gI (j + 1))), (9, .long (gJ (ga (i)))), (8, .int (gI (i))), (7, .ref (nc)), (6, .ref (nb)), (5, .int (gI (e))), (4, .int (gI (t))), (0, .ref (th)), (1, .ref (r1)), (2, .ref (r2)), (3, .ref (r3))]) dX2_pile_126 rfl (by decide) rfl ?_
          refine g_goto (tgt := 100) dX2_pile_129 rfl ?_
          exact ih2 (j + 1, hh302) ⟨by dsimp only; omega, by dsimp only; omega, by dsimp only; rw [eh302, he, hset_hset, pil2_s ga gb gc hi0 hj0 (by omega)]⟩ (by dsimp only; omega)
      refine g_iload 0 dX2_pile_72 rfl ?_
      refine g_aload_n 6 dX2_pile_74 rfl ?_
      refine g_getf 1 dX2_pile_75 kX5 (by decide) fX2_45 p0 rfl ?_
      refine g_icmp_gt (tgt := 138) dX2_pile_78 rfl (by unfold gW at *; omega) (by unfold gW at *; omega) (fun c101 => ?_) (fun c101 => ?_)
      · skip
        refine g_aload_n 8 dX2_pile_138 rfl ?_
        refine g_iload 4 dX2_pile_139 rfl ?_
        refine g_putf 1 dX2_pile_141 kX5 (by decide) fX2_45 rfl p4 (Nat.le_of_ble_eq_true rfl) rfl rfl ?_
        obtain ⟨hh102, eh102⟩ : ∃ z : GH, z = hset hh (r3) (oB 5 [.ref (nc), .int (gI (t))]) := ⟨_, rfl⟩
        refine Go.hp eh102.symm ?_
        have fh102_0 : hh102.2 (r1) = some (oB 5 [.ref (na), .int (gI (d))]) := by rw [eh102, hset_n _ _ (by omega)]; exact p0
        have fh102_1 : hh102.2 (na) = some (aJ n (ga)) := by rw [eh102, hset_n _ _ (by omega)]; exact p1
        have fh102_2 : hh102.2 (r2) = some (oB 5 [.ref (nb), .int (gI (e))]) := by rw [eh102, hset_n _ _ (by omega)]; exact p2
        have fh102_3 : hh102.2 (nb) = some (aJ m (gb)) := by rw [eh102, hset_n _ _ (by omega)]; exact p3
        have fh102_4 : hh102.2 (r3) = some (oB 5 [.ref (nc), .int (gI (t))]) := by rw [eh102]; exact hset_s _ _ _
        have fh102_5 : hh102.2 (nc) = some (aJ l (pil ga gb gc e t i.toNat)) := by rw [eh102, hset_n _ _ (by omega)]; exact p5
        exact g_vret dX2_pile_144 rfl ⟨rfl, by rw [eh102, he, show i = d + 1 by omega]⟩
      · skip
        refine g_aload_n 6 dX2_pile_81 rfl ?_
        refine g_getf 0 dX2_pile_82 kX5 (by decide) fX2_49 p0 rfl ?_
        refine g_iload 0 dX2_pile_85 rfl ?_
        refine g_laload dX2_pile_87 p1 (by omega) (by omega) (by omega) ?_
        refine g_lstore (ls2 := [(9, .long (gJ ((ga) (i)))), (8, .int (gI (i))), (7, .ref (nc)), (6, .ref (nb)), (5, .int (gI (e))), (4, .int (gI (t))), (0, .ref (th)), (1, .ref (r1)), (2, .ref (r2)), (3, .ref (r3))]) dX2_pile_88 (by decide) rfl ?_
        refine g_lload 0 dX2_pile_90 rfl ?_
        refine g_lconst0 dX2_pile_92 ?_
        refine g_lcmp dX2_pile_93 (hga _) (by unfold gX at *; omega) ?_
        refine g_if_eq (tgt := 132) dX2_pile_94 rfl (gW_cmp _ _) (fun c103 => ?_) (fun c103 => ?_)
        · skip
          have hz := gcmp_eq.mp c103
          refine Go.sub [1, 2, 3, 4, 5, 6, 7, 8, 9] rfl ?_
          refine g_iinc 0 (ls2 := [(8, .int (gI (i + 1))), (7, .ref (nc)), (6, .ref (nb)), (5, .int (gI (e))), (4, .int (gI (t))), (0, .ref (th)), (1, .ref (r1)), (2, .ref (r2)), (3, .ref (r3))]) dX2_pile_132 rfl (by decide) rfl ?_
          refine g_goto (tgt := 72) dX2_pile_135 rfl ?_
          exact ih (i + 1, hh) ⟨by dsimp only; omega, by dsimp only; omega, by dsimp only; rw [← pil_z ga gb gc hi0 hz]; exact he⟩ (by dsimp only; omega)
        · skip
          refine g_iconst dX2_pile_97 ?_
          refine g_istore (ls2 := [(11, .int (gI (0))), (9, .long (gJ ((ga) (i)))), (8, .int (gI (i))), (7, .ref (nc)), (6, .ref (nb)), (5, .int (gI (e))), (4, .int (gI (t))), (0, .ref (th)), (1, .ref (r1)), (2, .ref (r2)), (3, .ref (r3))]) dX2_pile_98 (by decide) rfl ?_
          exact lC (by omega) (0, hh) ⟨by dsimp only; omega, by dsimp only; omega, by dsimp only; rw [pil2_0]; exact he⟩
    have lA : ∀ x : Int × GH, (0 ≤ x.1 ∧ x.1 ≤ t + 1 ∧ x.2 = hset h nc (aJ l (gF gc (fun _ => 0) x.1))) → Go N mX2_pile (fun v h1 => v = none ∧ h1 = hset (hset h nc (aJ l (pil ga gb gc e t (d + 1).toNat))) r3 (oB 5 [.ref nc, .int (gI t)])) 0 0 x.2 50 [(8, .int (gI (x.1))), (7, .ref (nc)), (6, .ref (nb)), (5, .int (gI (e))), (4, .int (gI (t))), (0, .ref (th)), (1, .ref (r1)), (2, .ref (r2)), (3, .ref (r3))] [] := by
      refine Go.loop _ (fun x : Int × GH => Go N mX2_pile _ 0 0 x.2 50 [(8, .int (gI (x.1))), (7, .ref (nc)), (6, .ref (nb)), (5, .int (gI (e))), (4, .int (gI (t))), (0, .ref (th)), (1, .ref (r1)), (2, .ref (r2)), (3, .ref (r3))] []) (fun x => (t + 2 - x.1).toNat) (fun x hx ih => ?_)
      obtain ⟨i, hh⟩ := x
      obtain ⟨hi0, hi1, he⟩ := hx
      dsimp only at hi0 hi1 he
      show Go N mX2_pile _ 0 0 hh 50 [(8, .int (gI (i))), (7, .ref (nc)), (6, .ref (nb)), (5, .int (gI (e))), (4, .int (gI (t))), (0, .ref (th)), (1, .ref (r1)), (2, .ref (r2)), (3, .ref (r3))] []
      have p0 : hh.2 (r1) = some (oB 5 [.ref (na), .int (gI (d))]) := by rw [he, hset_n _ _ (by omega)]; exact hr1
      have p1 : hh.2 (na) = some (aJ n (ga)) := by rw [he, hset_n _ _ (by omega)]; exact hna
      have p2 : hh.2 (r2) = some (oB 5 [.ref (nb), .int (gI (e))]) := by rw [he, hset_n _ _ (by omega)]; exact hr2
      have p3 : hh.2 (nb) = some (aJ m (gb)) := by rw [he, hset_n _ _ (by omega)]; exact hnb
      have p4 : hh.2 (r3) = some (oB 5 [.ref (nc), .int (gI (dc))]) := by rw [he, hset_n _ _ (by omega)]; exact hr3
      have p5 : hh.2 (nc) = some (aJ l (gF gc (fun _ => 0) i)) := by rw [he]; exact hset_s _ _ _
      refine g_iload 0 dX2_pile_50 rfl ?_
      refine g_iload 4 dX2_pile_52 rfl ?_
      refine g_icmp_gt (tgt := 69) dX2_pile_54 rfl (by unfold gW at *; omega) (by unfold gW at *; omega) (fun c401 => ?_) (fun c401 => ?_)
      · skip
        refine g_iconst dX2_pile_69 ?_
        refine g_istore (ls2 := [(8, .int (gI (0))), (7, .ref (nc)), (6, .ref (nb)), (5, .int (gI (e))), (4, .int (gI (t))), (0, .ref (th)), (1, .ref (r1)), (2, .ref (r2)), (3, .ref (r3))]) dX2_pile_70 (by decide) rfl ?_
        refine lB (0, hh) ⟨by dsimp only; omega, by dsimp only; omega, ?_⟩
        dsimp only
        rw [he, show i = t + 1 by omega, gF_pil ga gb gc (e := e)]
        rfl
      · skip
        refine g_aload 1 dX2_pile_57 rfl ?_
        refine g_iload 0 dX2_pile_59 rfl ?_
        refine g_lconst0 dX2_pile_61 ?_
        refine g_lastore dX2_pile_62 p5 (by omega) (by omega) (by omega) ?_
        obtain ⟨hh402, eh402⟩ : ∃ z : GH, z = hset hh (nc) (aJ l (gup (gF gc (fun _ => 0) i) (i) (0))) := ⟨_, rfl⟩
        refine Go.hp eh402.symm ?_
        have fh402_0 : hh402.2 (r1) = some (oB 5 [.ref (na), .int (gI (d))]) := by rw [eh402, hset_n _ _ (by omega)]; exact p0
        have fh402_1 : hh402.2 (na) = some (aJ n (ga)) := by rw [eh402, hset_n _ _ (by omega)]; exact p1
        have fh402_2 : hh402.2 (r2) = some (oB 5 [.ref (nb), .int (gI (e))]) := by rw [eh402, hset_n _ _ (by omega)]; exact p2
        have fh402_3 : hh402.2 (nb) = some (aJ m (gb)) := by rw [eh402, hset_n _ _ (by omega)]; exact p3
        have fh402_4 : hh402.2 (r3) = some (oB 5 [.ref (nc), .int (gI (dc))]) := by rw [eh402, hset_n _ _ (by omega)]; exact p4
        have fh402_5 : hh402.2 (nc) = some (aJ l (gup (gF gc (fun _ => 0) i) (i) (0))) := by rw [eh402]; exact hset_s _ _ _
        refine g_iinc 0 (ls2 := [(8, .int (gI (i + 1))), (7, .ref (nc)), (6, .ref (nb)), (5, .int (gI (e))), (4, .int (gI (t))), (0, .ref (th)), (1, .ref (r1)), (2, .ref (r2)), (3, .ref (r3))]) dX2_pile_63 rfl (by decide) rfl ?_
        refine g_goto (tgt := 50) dX2_pile_66 rfl ?_
        exact ih (i + 1, hh402) ⟨by dsimp only; omega, by dsimp only; omega, by dsimp only; rw [eh402, he, hset_hset, gF_s _ _ hi0]⟩ (by dsimp only; omega)
    refine g_iconst dX2_pile_47 ?_
    refine g_istore (ls2 := [(8, .int (gI (0))), (7, .ref (nc)), (6, .ref (nb)), (5, .int (gI (e))), (4, .int (gI (t))), (0, .ref (th)), (1, .ref (r1)), (2, .ref (r2)), (3, .ref (r3))]) dX2_pile_48 (by decide) rfl ?_
    exact lA (0, h) ⟨by dsimp only; omega, by dsimp only; omega, by dsimp only; rw [gF_0]; exact (hset_id hnc).symm⟩
  refine g_aload_n 1 dX2_pile_0 rfl ?_
  refine g_getf 1 dX2_pile_1 kX5 (by decide) fX2_45 hr1 rfl ?_
  refine g_if_lt (tgt := 14) dX2_pile_4 rfl (by unfold gW at *; omega) (fun c701 => ?_) (fun c701 => ?_)
  · skip
    refine g_iconst dX2_pile_14 ?_
    refine g_goto (tgt := 27) dX2_pile_15 rfl ?_
    refine g_istore (ls2 := [(4, .int (gI (-1))), (0, .ref (th)), (1, .ref (r1)), (2, .ref (r2)), (3, .ref (r3))]) dX2_pile_27 (by decide) rfl ?_
    refine g_aload_n 3 dX2_pile_29 rfl ?_
    refine g_getf 1 dX2_pile_30 kX5 (by decide) fX2_45 hr2 rfl ?_
    refine g_istore (ls2 := [(5, .int (gI (e))), (4, .int (gI (-1))), (0, .ref (th)), (1, .ref (r1)), (2, .ref (r2)), (3, .ref (r3))]) dX2_pile_33 (by decide) rfl ?_
    refine g_aload_n 4 dX2_pile_35 rfl ?_
    refine g_getf 0 dX2_pile_36 kX5 (by decide) fX2_49 hr2 rfl ?_
    refine g_astore (ls2 := [(6, .ref (nb)), (5, .int (gI (e))), (4, .int (gI (-1))), (0, .ref (th)), (1, .ref (r1)), (2, .ref (r2)), (3, .ref (r3))]) dX2_pile_39 (by decide) rfl ?_
    refine g_aload_n 6 dX2_pile_41 rfl ?_
    refine g_getf 0 dX2_pile_42 kX5 (by decide) fX2_49 hr3 rfl ?_
    refine g_astore (ls2 := [(7, .ref (nc)), (6, .ref (nb)), (5, .int (gI (e))), (4, .int (gI (-1))), (0, .ref (th)), (1, .ref (r1)), (2, .ref (r2)), (3, .ref (r3))]) dX2_pile_45 (by decide) rfl ?_
    exact rest (-1) (by rw [if_pos (by omega)])
  · skip
    refine g_aload_n 2 dX2_pile_7 rfl ?_
    refine g_getf 1 dX2_pile_8 kX5 (by decide) fX2_45 hr2 rfl ?_
    refine g_if_ge (tgt := 18) dX2_pile_11 rfl (by unfold gW at *; omega) (fun c702 => ?_) (fun c702 => ?_)
    · skip
      refine g_aload_n 1 dX2_pile_18 rfl ?_
      refine g_getf 1 dX2_pile_19 kX5 (by decide) fX2_45 hr1 rfl ?_
      refine g_aload_n 2 dX2_pile_22 rfl ?_
      refine g_getf 1 dX2_pile_23 kX5 (by decide) fX2_45 hr2 rfl ?_
      refine g_iadd dX2_pile_26 ?_
      refine g_istore (ls2 := [(4, .int (gI ((d) + (e)))), (0, .ref (th)), (1, .ref (r1)), (2, .ref (r2)), (3, .ref (r3))]) dX2_pile_27 (by decide) rfl ?_
      refine g_aload_n 3 dX2_pile_29 rfl ?_
      refine g_getf 1 dX2_pile_30 kX5 (by decide) fX2_45 hr2 rfl ?_
      refine g_istore (ls2 := [(5, .int (gI (e))), (4, .int (gI ((d) + (e)))), (0, .ref (th)), (1, .ref (r1)), (2, .ref (r2)), (3, .ref (r3))]) dX2_pile_33 (by decide) rfl ?_
      refine g_aload_n 4 dX2_pile_35 rfl ?_
      refine g_getf 0 dX2_pile_36 kX5 (by decide) fX2_49 hr2 rfl ?_
      refine g_astore (ls2 := [(6, .ref (nb)), (5, .int (gI (e))), (4, .int (gI ((d) + (e)))), (0, .ref (th)), (1, .ref (r1)), (2, .ref (r2)), (3, .ref (r3))]) dX2_pile_39 (by decide) rfl ?_
      refine g_aload_n 6 dX2_pile_41 rfl ?_
      refine g_getf 0 dX2_pile_42 kX5 (by decide) fX2_49 hr3 rfl ?_
      refine g_astore (ls2 := [(7, .ref (nc)), (6, .ref (nb)), (5, .int (gI (e))), (4, .int (gI ((d) + (e)))), (0, .ref (th)), (1, .ref (r1)), (2, .ref (r2)), (3, .ref (r3))]) dX2_pile_45 (by decide) rfl ?_
      exact rest ((d) + (e)) (by rw [if_neg (by omega)])
    · skip
      refine g_iconst dX2_pile_14 ?_
      refine g_goto (tgt := 27) dX2_pile_15 rfl ?_
      refine g_istore (ls2 := [(4, .int (gI (-1))), (0, .ref (th)), (1, .ref (r1)), (2, .ref (r2)), (3, .ref (r3))]) dX2_pile_27 (by decide) rfl ?_
      refine g_aload_n 3 dX2_pile_29 rfl ?_
      refine g_getf 1 dX2_pile_30 kX5 (by decide) fX2_45 hr2 rfl ?_
      refine g_istore (ls2 := [(5, .int (gI (e))), (4, .int (gI (-1))), (0, .ref (th)), (1, .ref (r1)), (2, .ref (r2)), (3, .ref (r3))]) dX2_pile_33 (by decide) rfl ?_
      refine g_aload_n 4 dX2_pile_35 rfl ?_
      refine g_getf 0 dX2_pile_36 kX5 (by decide) fX2_49 hr2 rfl ?_
      refine g_astore (ls2 := [(6, .ref (nb)), (5, .int (gI (e))), (4, .int (gI (-1))), (0, .ref (th)), (1, .ref (r1)), (2, .ref (r2)), (3, .ref (r3))]) dX2_pile_39 (by decide) rfl ?_
      refine g_aload_n 6 dX2_pile_41 rfl ?_
      refine g_getf 0 dX2_pile_42 kX5 (by decide) fX2_49 hr3 rfl ?_
      refine g_astore (ls2 := [(7, .ref (nc)), (6, .ref (nb)), (5, .int (gI (e))), (4, .int (gI (-1))), (0, .ref (th)), (1, .ref (r1)), (2, .ref (r2)), (3, .ref (r3))]) dX2_pile_45 (by decide) rfl ?_
      exact rest (-1) (by rw [if_pos (by omega)])
