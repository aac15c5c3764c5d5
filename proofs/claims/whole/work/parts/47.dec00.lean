theorem dX0_init_0 : decode cX0_init 0 = .ok (.aload_n 0, 1) := by decide +kernel
theorem dX0_init_1 : decode cX0_init 1 = .ok (.invokespecial 3, 3) := by decide +kernel
theorem dX0_init_4 : decode cX0_init 4 = .ok (.aload_n 0, 1) := by decide +kernel
theorem dX0_init_5 : decode cX0_init 5 = .ok (.bipush 40, 2) := by decide +kernel
theorem dX0_init_7 : decode cX0_init 7 = .ok (.anewarray 9, 3) := by decide +kernel
theorem dX0_init_10 : decode cX0_init 10 = .ok (.putfield 11, 3) := by decide +kernel
theorem dX0_init_13 : decode cX0_init 13 = .ok (.aload_n 0, 1) := by decide +kernel
theorem dX0_init_14 : decode cX0_init 14 = .ok (.bipush 40, 2) := by decide +kernel
theorem dX0_init_16 : decode cX0_init 16 = .ok (.newarray .int, 2) := by decide +kernel
theorem dX0_init_18 : decode cX0_init 18 = .ok (.putfield 17, 3) := by decide +kernel
theorem dX0_init_21 : decode cX0_init 21 = .ok (.aload_n 0, 1) := by decide +kernel
theorem dX0_init_22 : decode cX0_init 22 = .ok (.bipush 8, 2) := by decide +kernel
theorem dX0_init_24 : decode cX0_init 24 = .ok (.anewarray 9, 3) := by decide +kernel
theorem dX0_init_27 : decode cX0_init 27 = .ok (.putfield 21, 3) := by decide +kernel
theorem dX0_init_30 : decode cX0_init 30 = .ok (.aload_n 0, 1) := by decide +kernel
theorem dX0_init_31 : decode cX0_init 31 = .ok (.bipush 8, 2) := by decide +kernel
theorem dX0_init_33 : decode cX0_init 33 = .ok (.newarray .int, 2) := by decide +kernel
theorem dX0_init_35 : decode cX0_init 35 = .ok (.putfield 24, 3) := by decide +kernel
theorem dX0_init_38 : decode cX0_init 38 = .ok (.aload_n 0, 1) := by decide +kernel
theorem dX0_init_39 : decode cX0_init 39 = .ok (.bipush 40, 2) := by decide +kernel
theorem dX0_init_41 : decode cX0_init 41 = .ok (.newarray .long, 2) := by decide +kernel
theorem dX0_init_43 : decode cX0_init 43 = .ok (.putfield 27, 3) := by decide +kernel
theorem dX0_init_46 : decode cX0_init 46 = .ok (.aload_n 0, 1) := by decide +kernel
theorem dX0_init_47 : decode cX0_init 47 = .ok (.new 9, 3) := by decide +kernel
theorem dX0_init_50 : decode cX0_init 50 = .ok (.dup, 1) := by decide +kernel
theorem dX0_init_51 : decode cX0_init 51 = .ok (.bipush 84, 2) := by decide +kernel
theorem dX0_init_53 : decode cX0_init 53 = .ok (.invokespecial 31, 3) := by decide +kernel
theorem dX0_init_56 : decode cX0_init 56 = .ok (.putfield 34, 3) := by decide +kernel
theorem dX0_init_59 : decode cX0_init 59 = .ok (.aload_n 0, 1) := by decide +kernel
theorem dX0_init_60 : decode cX0_init 60 = .ok (.new 9, 3) := by decide +kernel
theorem dX0_init_63 : decode cX0_init 63 = .ok (.dup, 1) := by decide +kernel
theorem dX0_init_64 : decode cX0_init 64 = .ok (.bipush 84, 2) := by decide +kernel
theorem dX0_init_66 : decode cX0_init 66 = .ok (.invokespecial 31, 3) := by decide +kernel
theorem dX0_init_69 : decode cX0_init 69 = .ok (.putfield 38, 3) := by decide +kernel
theorem dX0_init_72 : decode cX0_init 72 = .ok (.aload_n 0, 1) := by decide +kernel
theorem dX0_init_73 : decode cX0_init 73 = .ok (.new 9, 3) := by decide +kernel
theorem dX0_init_76 : decode cX0_init 76 = .ok (.dup, 1) := by decide +kernel
theorem dX0_init_77 : decode cX0_init 77 = .ok (.bipush 84, 2) := by decide +kernel
theorem dX0_init_79 : decode cX0_init 79 = .ok (.invokespecial 31, 3) := by decide +kernel
theorem dX0_init_82 : decode cX0_init 82 = .ok (.putfield 41, 3) := by decide +kernel
theorem dX0_init_85 : decode cX0_init 85 = .ok (.aload_n 0, 1) := by decide +kernel
theorem dX0_init_86 : decode cX0_init 86 = .ok (.aload_n 1, 1) := by decide +kernel
theorem dX0_init_87 : decode cX0_init 87 = .ok (.putfield 44, 3) := by decide +kernel
theorem dX0_init_90 : decode cX0_init 90 = .ok (.aload_n 0, 1) := by decide +kernel
theorem dX0_init_91 : decode cX0_init 91 = .ok (.aload_n 2, 1) := by decide +kernel
theorem dX0_init_92 : decode cX0_init 92 = .ok (.putfield 48, 3) := by decide +kernel
theorem dX0_init_95 : decode cX0_init 95 = .ok (.aload_n 0, 1) := by decide +kernel
theorem dX0_init_96 : decode cX0_init 96 = .ok (.new 52, 3) := by decide +kernel
theorem dX0_init_99 : decode cX0_init 99 = .ok (.dup, 1) := by decide +kernel
theorem dX0_init_100 : decode cX0_init 100 = .ok (.aload_n 1, 1) := by decide +kernel
theorem dX0_init_101 : decode cX0_init 101 = .ok (.aload_n 2, 1) := by decide +kernel
theorem dX0_init_102 : decode cX0_init 102 = .ok (.invokespecial 54, 3) := by decide +kernel
theorem dX0_init_105 : decode cX0_init 105 = .ok (.putfield 57, 3) := by decide +kernel
theorem dX0_init_108 : decode cX0_init 108 = .ok (.return_, 1) := by decide +kernel
theorem dX0_forget_0 : decode cX0_forget 0 = .ok (.aload_n 0, 1) := by decide +kernel
theorem dX0_forget_1 : decode cX0_forget 1 = .ok (.iconst 0, 1) := by decide +kernel
theorem dX0_forget_2 : decode cX0_forget 2 = .ok (.putfield 61, 3) := by decide +kernel
theorem dX0_forget_5 : decode cX0_forget 5 = .ok (.aload_n 0, 1) := by decide +kernel
theorem dX0_forget_6 : decode cX0_forget 6 = .ok (.iconst 0, 1) := by decide +kernel
theorem dX0_forget_7 : decode cX0_forget 7 = .ok (.putfield 65, 3) := by decide +kernel
theorem dX0_forget_10 : decode cX0_forget 10 = .ok (.aload_n 0, 1) := by decide +kernel
theorem dX0_forget_11 : decode cX0_forget 11 = .ok (.iconst 0, 1) := by decide +kernel
theorem dX0_forget_12 : decode cX0_forget 12 = .ok (.putfield 68, 3) := by decide +kernel
theorem dX0_forget_15 : decode cX0_forget 15 = .ok (.aload_n 0, 1) := by decide +kernel
theorem dX0_forget_16 : decode cX0_forget 16 = .ok (.iconst 0, 1) := by decide +kernel
theorem dX0_forget_17 : decode cX0_forget 17 = .ok (.putfield 71, 3) := by decide +kernel
theorem dX0_forget_20 : decode cX0_forget 20 = .ok (.aload_n 0, 1) := by decide +kernel
theorem dX0_forget_21 : decode cX0_forget 21 = .ok (.lconst 0, 1) := by decide +kernel
theorem dX0_forget_22 : decode cX0_forget 22 = .ok (.putfield 74, 3) := by decide +kernel
theorem dX0_forget_25 : decode cX0_forget 25 = .ok (.return_, 1) := by decide +kernel
theorem dX0_search_0 : decode cX0_search 0 = .ok (.aload_n 0, 1) := by decide +kernel
theorem dX0_search_1 : decode cX0_search 1 = .ok (.invokevirtual 78, 3) := by decide +kernel
theorem dX0_search_4 : decode cX0_search 4 = .ok (.aload_n 0, 1) := by decide +kernel
theorem dX0_search_5 : decode cX0_search 5 = .ok (.aload_n 1, 1) := by decide +kernel
theorem dX0_search_6 : decode cX0_search 6 = .ok (.invokevirtual 81, 3) := by decide +kernel
theorem dX0_search_9 : decode cX0_search 9 = .ok (.putfield 74, 3) := by decide +kernel
theorem dX0_search_12 : decode cX0_search 12 = .ok (.aload_n 0, 1) := by decide +kernel
theorem dX0_search_13 : decode cX0_search 13 = .ok (.getfield 34, 3) := by decide +kernel
theorem dX0_search_16 : decode cX0_search 16 = .ok (.aload_n 1, 1) := by decide +kernel
theorem dX0_search_17 : decode cX0_search 17 = .ok (.invokevirtual 84, 3) := by decide +kernel
theorem dX0_search_20 : decode cX0_search 20 = .ok (.aload_n 0, 1) := by decide +kernel
theorem dX0_search_21 : decode cX0_search 21 = .ok (.getfield 48, 3) := by decide +kernel
theorem dX0_search_24 : decode cX0_search 24 = .ok (.aload_n 0, 1) := by decide +kernel
theorem dX0_search_25 : decode cX0_search 25 = .ok (.getfield 34, 3) := by decide +kernel
theorem dX0_search_28 : decode cX0_search 28 = .ok (.invokevirtual 88, 3) := by decide +kernel
theorem dX0_search_31 : decode cX0_search 31 = .ok (.iconst 1, 1) := by decide +kernel
theorem dX0_search_32 : decode cX0_search 32 = .ok (.istore_n 2, 1) := by decide +kernel
theorem dX0_search_33 : decode cX0_search 33 = .ok (.iconst 0, 1) := by decide +kernel
theorem dX0_search_34 : decode cX0_search 34 = .ok (.istore_n 3, 1) := by decide +kernel
theorem dX0_search_35 : decode cX0_search 35 = .ok (.iload_n 3, 1) := by decide +kernel
theorem dX0_search_36 : decode cX0_search 36 = .ok (.bipush 40, 2) := by decide +kernel
theorem dX0_search_38 : decode cX0_search 38 = .ok (.if_icmp .gt 211, 3) := by decide +kernel
theorem dX0_search_41 : decode cX0_search 41 = .ok (.aload_n 0, 1) := by decide +kernel
theorem dX0_search_42 : decode cX0_search 42 = .ok (.getfield 34, 3) := by decide +kernel
theorem dX0_search_45 : decode cX0_search 45 = .ok (.getfield 93, 3) := by decide +kernel
theorem dX0_search_48 : decode cX0_search 48 = .ok (.ifCond .le 201, 3) := by decide +kernel
theorem dX0_search_51 : decode cX0_search 51 = .ok (.aload_n 0, 1) := by decide +kernel
theorem dX0_search_52 : decode cX0_search 52 = .ok (.getfield 48, 3) := by decide +kernel
theorem dX0_search_55 : decode cX0_search 55 = .ok (.aload_n 0, 1) := by decide +kernel
theorem dX0_search_56 : decode cX0_search 56 = .ok (.getfield 34, 3) := by decide +kernel
theorem dX0_search_59 : decode cX0_search 59 = .ok (.aload_n 0, 1) := by decide +kernel
theorem dX0_search_60 : decode cX0_search 60 = .ok (.getfield 38, 3) := by decide +kernel
theorem dX0_search_63 : decode cX0_search 63 = .ok (.invokevirtual 96, 3) := by decide +kernel
theorem dX0_search_66 : decode cX0_search 66 = .ok (.aload_n 0, 1) := by decide +kernel
theorem dX0_search_67 : decode cX0_search 67 = .ok (.getfield 38, 3) := by decide +kernel
theorem dX0_search_70 : decode cX0_search 70 = .ok (.getfield 93, 3) := by decide +kernel
theorem dX0_search_73 : decode cX0_search 73 = .ok (.ifCond .ge 20, 3) := by decide +kernel
theorem dX0_search_76 : decode cX0_search 76 = .ok (.aload_n 0, 1) := by decide +kernel
theorem dX0_search_77 : decode cX0_search 77 = .ok (.invokevirtual 100, 3) := by decide +kernel
theorem dX0_search_80 : decode cX0_search 80 = .ok (.iload_n 2, 1) := by decide +kernel
theorem dX0_search_81 : decode cX0_search 81 = .ok (.aload_n 0, 1) := by decide +kernel
theorem dX0_search_82 : decode cX0_search 82 = .ok (.getfield 44, 3) := by decide +kernel
theorem dX0_search_85 : decode cX0_search 85 = .ok (.getfield 103, 3) := by decide +kernel
theorem dX0_search_88 : decode cX0_search 88 = .ok (.imul, 1) := by decide +kernel
theorem dX0_search_89 : decode cX0_search 89 = .ok (.istore_n 2, 1) := by decide +kernel
theorem dX0_search_90 : decode cX0_search 90 = .ok (.goto 153, 3) := by decide +kernel
theorem dX0_search_93 : decode cX0_search 93 = .ok (.aload_n 0, 1) := by decide +kernel
theorem dX0_search_94 : decode cX0_search 94 = .ok (.getfield 48, 3) := by decide +kernel
theorem dX0_search_97 : decode cX0_search 97 = .ok (.aload_n 0, 1) := by decide +kernel
theorem dX0_search_98 : decode cX0_search 98 = .ok (.getfield 34, 3) := by decide +kernel
theorem dX0_search_101 : decode cX0_search 101 = .ok (.aload_n 0, 1) := by decide +kernel
theorem dX0_search_102 : decode cX0_search 102 = .ok (.getfield 38, 3) := by decide +kernel
theorem dX0_search_105 : decode cX0_search 105 = .ok (.aload_n 0, 1) := by decide +kernel
theorem dX0_search_106 : decode cX0_search 106 = .ok (.getfield 38, 3) := by decide +kernel
theorem dX0_search_109 : decode cX0_search 109 = .ok (.invokevirtual 108, 3) := by decide +kernel
theorem dX0_search_112 : decode cX0_search 112 = .ok (.aload_n 0, 1) := by decide +kernel
theorem dX0_search_113 : decode cX0_search 113 = .ok (.getfield 41, 3) := by decide +kernel
theorem dX0_search_116 : decode cX0_search 116 = .ok (.aload_n 0, 1) := by decide +kernel
theorem dX0_search_117 : decode cX0_search 117 = .ok (.getfield 34, 3) := by decide +kernel
theorem dX0_search_120 : decode cX0_search 120 = .ok (.invokevirtual 84, 3) := by decide +kernel
theorem dX0_search_123 : decode cX0_search 123 = .ok (.aload_n 0, 1) := by decide +kernel
theorem dX0_search_124 : decode cX0_search 124 = .ok (.getfield 48, 3) := by decide +kernel
theorem dX0_search_127 : decode cX0_search 127 = .ok (.aload_n 0, 1) := by decide +kernel
theorem dX0_search_128 : decode cX0_search 128 = .ok (.getfield 41, 3) := by decide +kernel
theorem dX0_search_131 : decode cX0_search 131 = .ok (.aload_n 0, 1) := by decide +kernel
theorem dX0_search_132 : decode cX0_search 132 = .ok (.getfield 38, 3) := by decide +kernel
theorem dX0_search_135 : decode cX0_search 135 = .ok (.aload_n 0, 1) := by decide +kernel
theorem dX0_search_136 : decode cX0_search 136 = .ok (.getfield 48, 3) := by decide +kernel
theorem dX0_search_139 : decode cX0_search 139 = .ok (.getfield 112, 3) := by decide +kernel
theorem dX0_search_142 : decode cX0_search 142 = .ok (.invokevirtual 115, 3) := by decide +kernel
theorem dX0_search_145 : decode cX0_search 145 = .ok (.aload_n 0, 1) := by decide +kernel
theorem dX0_search_146 : decode cX0_search 146 = .ok (.getfield 41, 3) := by decide +kernel
theorem dX0_search_149 : decode cX0_search 149 = .ok (.aload_n 0, 1) := by decide +kernel
theorem dX0_search_150 : decode cX0_search 150 = .ok (.getfield 48, 3) := by decide +kernel
theorem dX0_search_153 : decode cX0_search 153 = .ok (.getfield 112, 3) := by decide +kernel
theorem dX0_search_156 : decode cX0_search 156 = .ok (.invokevirtual 84, 3) := by decide +kernel
theorem dX0_search_159 : decode cX0_search 159 = .ok (.aload_n 0, 1) := by decide +kernel
theorem dX0_search_160 : decode cX0_search 160 = .ok (.getfield 61, 3) := by decide +kernel
theorem dX0_search_163 : decode cX0_search 163 = .ok (.istore 4, 2) := by decide +kernel
theorem dX0_search_165 : decode cX0_search 165 = .ok (.aload_n 0, 1) := by decide +kernel
theorem dX0_search_166 : decode cX0_search 166 = .ok (.aload_n 0, 1) := by decide +kernel
theorem dX0_search_167 : decode cX0_search 167 = .ok (.getfield 57, 3) := by decide +kernel
theorem dX0_search_170 : decode cX0_search 170 = .ok (.aload_n 0, 1) := by decide +kernel
theorem dX0_search_171 : decode cX0_search 171 = .ok (.getfield 41, 3) := by decide +kernel
theorem dX0_search_174 : decode cX0_search 174 = .ok (.aload_n 0, 1) := by decide +kernel
theorem dX0_search_175 : decode cX0_search 175 = .ok (.getfield 11, 3) := by decide +kernel
theorem dX0_search_178 : decode cX0_search 178 = .ok (.iload 4, 2) := by decide +kernel
theorem dX0_search_180 : decode cX0_search 180 = .ok (.invokevirtual 118, 3) := by decide +kernel
theorem dX0_search_183 : decode cX0_search 183 = .ok (.putfield 61, 3) := by decide +kernel
theorem dX0_search_186 : decode cX0_search 186 = .ok (.iload 4, 2) := by decide +kernel
theorem dX0_search_188 : decode cX0_search 188 = .ok (.istore 5, 2) := by decide +kernel
theorem dX0_search_190 : decode cX0_search 190 = .ok (.iload 5, 2) := by decide +kernel
theorem dX0_search_192 : decode cX0_search 192 = .ok (.aload_n 0, 1) := by decide +kernel
theorem dX0_search_193 : decode cX0_search 193 = .ok (.getfield 61, 3) := by decide +kernel
theorem dX0_search_196 : decode cX0_search 196 = .ok (.if_icmp .ge 47, 3) := by decide +kernel
theorem dX0_search_199 : decode cX0_search 199 = .ok (.aload_n 0, 1) := by decide +kernel
theorem dX0_search_200 : decode cX0_search 200 = .ok (.getfield 17, 3) := by decide +kernel
theorem dX0_search_203 : decode cX0_search 203 = .ok (.iload 5, 2) := by decide +kernel
theorem dX0_search_205 : decode cX0_search 205 = .ok (.iload_n 2, 1) := by decide +kernel
theorem dX0_search_206 : decode cX0_search 206 = .ok (.aload_n 0, 1) := by decide +kernel
theorem dX0_search_207 : decode cX0_search 207 = .ok (.aload_n 0, 1) := by decide +kernel
theorem dX0_search_208 : decode cX0_search 208 = .ok (.getfield 11, 3) := by decide +kernel
theorem dX0_search_211 : decode cX0_search 211 = .ok (.iload 5, 2) := by decide +kernel
theorem dX0_search_213 : decode cX0_search 213 = .ok (.invokestatic 122, 3) := by decide +kernel
theorem dX0_search_216 : decode cX0_search 216 = .ok (.invokevirtual 126, 3) := by decide +kernel
theorem dX0_search_219 : decode cX0_search 219 = .ok (.imul, 1) := by decide +kernel
theorem dX0_search_220 : decode cX0_search 220 = .ok (.iastore, 1) := by decide +kernel
theorem dX0_search_221 : decode cX0_search 221 = .ok (.aload_n 0, 1) := by decide +kernel
theorem dX0_search_222 : decode cX0_search 222 = .ok (.dup, 1) := by decide +kernel
theorem dX0_search_223 : decode cX0_search 223 = .ok (.getfield 71, 3) := by decide +kernel
theorem dX0_search_226 : decode cX0_search 226 = .ok (.aload_n 0, 1) := by decide +kernel
theorem dX0_search_227 : decode cX0_search 227 = .ok (.getfield 17, 3) := by decide +kernel
theorem dX0_search_230 : decode cX0_search 230 = .ok (.iload 5, 2) := by decide +kernel
theorem dX0_search_232 : decode cX0_search 232 = .ok (.iaload, 1) := by decide +kernel
theorem dX0_search_233 : decode cX0_search 233 = .ok (.iadd, 1) := by decide +kernel
theorem dX0_search_234 : decode cX0_search 234 = .ok (.putfield 71, 3) := by decide +kernel
theorem dX0_search_237 : decode cX0_search 237 = .ok (.iinc 5 1, 3) := by decide +kernel
theorem dX0_search_240 : decode cX0_search 240 = .ok (.goto (-50), 3) := by decide +kernel
theorem dX0_search_243 : decode cX0_search 243 = .ok (.iinc 3 1, 3) := by decide +kernel
theorem dX0_search_246 : decode cX0_search 246 = .ok (.goto (-211), 3) := by decide +kernel
theorem dX0_search_249 : decode cX0_search 249 = .ok (.aload_n 0, 1) := by decide +kernel
theorem dX0_search_250 : decode cX0_search 250 = .ok (.invokevirtual 130, 3) := by decide +kernel
theorem dX0_search_253 : decode cX0_search 253 = .ok (.aload_n 0, 1) := by decide +kernel
theorem dX0_search_254 : decode cX0_search 254 = .ok (.invokevirtual 133, 3) := by decide +kernel
theorem dX0_search_257 : decode cX0_search 257 = .ok (.aload_n 0, 1) := by decide +kernel
theorem dX0_search_258 : decode cX0_search 258 = .ok (.invokevirtual 136, 3) := by decide +kernel
theorem dX0_search_261 : decode cX0_search 261 = .ok (.return_, 1) := by decide +kernel
theorem dX0_takeRoot_0 : decode cX0_takeRoot 0 = .ok (.aload_n 0, 1) := by decide +kernel
theorem dX0_takeRoot_1 : decode cX0_takeRoot 1 = .ok (.getfield 34, 3) := by decide +kernel
theorem dX0_takeRoot_4 : decode cX0_takeRoot 4 = .ok (.getfield 93, 3) := by decide +kernel
theorem dX0_takeRoot_7 : decode cX0_takeRoot 7 = .ok (.aload_n 0, 1) := by decide +kernel
theorem dX0_takeRoot_8 : decode cX0_takeRoot 8 = .ok (.getfield 44, 3) := by decide +kernel
theorem dX0_takeRoot_11 : decode cX0_takeRoot 11 = .ok (.getfield 103, 3) := by decide +kernel
theorem dX0_takeRoot_14 : decode cX0_takeRoot 14 = .ok (.idiv, 1) := by decide +kernel
theorem dX0_takeRoot_15 : decode cX0_takeRoot 15 = .ok (.istore_n 1, 1) := by decide +kernel
theorem dX0_takeRoot_16 : decode cX0_takeRoot 16 = .ok (.iconst 0, 1) := by decide +kernel
theorem dX0_takeRoot_17 : decode cX0_takeRoot 17 = .ok (.istore_n 2, 1) := by decide +kernel
theorem dX0_takeRoot_18 : decode cX0_takeRoot 18 = .ok (.iload_n 2, 1) := by decide +kernel
theorem dX0_takeRoot_19 : decode cX0_takeRoot 19 = .ok (.iload_n 1, 1) := by decide +kernel
theorem dX0_takeRoot_20 : decode cX0_takeRoot 20 = .ok (.if_icmp .gt 35, 3) := by decide +kernel
theorem dX0_takeRoot_23 : decode cX0_takeRoot 23 = .ok (.aload_n 0, 1) := by decide +kernel
theorem dX0_takeRoot_24 : decode cX0_takeRoot 24 = .ok (.getfield 34, 3) := by decide +kernel
theorem dX0_takeRoot_27 : decode cX0_takeRoot 27 = .ok (.getfield 139, 3) := by decide +kernel
theorem dX0_takeRoot_30 : decode cX0_takeRoot 30 = .ok (.iload_n 2, 1) := by decide +kernel
theorem dX0_takeRoot_31 : decode cX0_takeRoot 31 = .ok (.aload_n 0, 1) := by decide +kernel
theorem dX0_takeRoot_32 : decode cX0_takeRoot 32 = .ok (.getfield 34, 3) := by decide +kernel
theorem dX0_takeRoot_35 : decode cX0_takeRoot 35 = .ok (.getfield 139, 3) := by decide +kernel
theorem dX0_takeRoot_38 : decode cX0_takeRoot 38 = .ok (.iload_n 2, 1) := by decide +kernel
theorem dX0_takeRoot_39 : decode cX0_takeRoot 39 = .ok (.aload_n 0, 1) := by decide +kernel
theorem dX0_takeRoot_40 : decode cX0_takeRoot 40 = .ok (.getfield 44, 3) := by decide +kernel
theorem dX0_takeRoot_43 : decode cX0_takeRoot 43 = .ok (.getfield 103, 3) := by decide +kernel
theorem dX0_takeRoot_46 : decode cX0_takeRoot 46 = .ok (.imul, 1) := by decide +kernel
theorem dX0_takeRoot_47 : decode cX0_takeRoot 47 = .ok (.laload, 1) := by decide +kernel
theorem dX0_takeRoot_48 : decode cX0_takeRoot 48 = .ok (.lastore, 1) := by decide +kernel
theorem dX0_takeRoot_49 : decode cX0_takeRoot 49 = .ok (.iinc 2 1, 3) := by decide +kernel
theorem dX0_takeRoot_52 : decode cX0_takeRoot 52 = .ok (.goto (-34), 3) := by decide +kernel
theorem dX0_takeRoot_55 : decode cX0_takeRoot 55 = .ok (.aload_n 0, 1) := by decide +kernel
theorem dX0_takeRoot_56 : decode cX0_takeRoot 56 = .ok (.getfield 34, 3) := by decide +kernel
theorem dX0_takeRoot_59 : decode cX0_takeRoot 59 = .ok (.iload_n 1, 1) := by decide +kernel
theorem dX0_takeRoot_60 : decode cX0_takeRoot 60 = .ok (.invokevirtual 142, 3) := by decide +kernel
theorem dX0_takeRoot_63 : decode cX0_takeRoot 63 = .ok (.return_, 1) := by decide +kernel
theorem dX0_divideOut_0 : decode cX0_divideOut 0 = .ok (.iconst 0, 1) := by decide +kernel
theorem dX0_divideOut_1 : decode cX0_divideOut 1 = .ok (.istore_n 2, 1) := by decide +kernel
theorem dX0_divideOut_2 : decode cX0_divideOut 2 = .ok (.iconst 0, 1) := by decide +kernel
theorem dX0_divideOut_3 : decode cX0_divideOut 3 = .ok (.istore_n 3, 1) := by decide +kernel
theorem dX0_divideOut_4 : decode cX0_divideOut 4 = .ok (.iload_n 3, 1) := by decide +kernel
theorem dX0_divideOut_5 : decode cX0_divideOut 5 = .ok (.bipush 40, 2) := by decide +kernel
theorem dX0_divideOut_7 : decode cX0_divideOut 7 = .ok (.if_icmp .gt 76, 3) := by decide +kernel
theorem dX0_divideOut_10 : decode cX0_divideOut 10 = .ok (.aload_n 0, 1) := by decide +kernel
theorem dX0_divideOut_11 : decode cX0_divideOut 11 = .ok (.getfield 34, 3) := by decide +kernel
theorem dX0_divideOut_14 : decode cX0_divideOut 14 = .ok (.getfield 93, 3) := by decide +kernel
theorem dX0_divideOut_17 : decode cX0_divideOut 17 = .ok (.aload_n 1, 1) := by decide +kernel
theorem dX0_divideOut_18 : decode cX0_divideOut 18 = .ok (.getfield 93, 3) := by decide +kernel
theorem dX0_divideOut_21 : decode cX0_divideOut 21 = .ok (.if_icmp .lt 62, 3) := by decide +kernel
theorem dX0_divideOut_24 : decode cX0_divideOut 24 = .ok (.aload_n 0, 1) := by decide +kernel
theorem dX0_divideOut_25 : decode cX0_divideOut 25 = .ok (.getfield 38, 3) := by decide +kernel
theorem dX0_divideOut_28 : decode cX0_divideOut 28 = .ok (.aload_n 0, 1) := by decide +kernel
theorem dX0_divideOut_29 : decode cX0_divideOut 29 = .ok (.getfield 34, 3) := by decide +kernel
theorem dX0_divideOut_32 : decode cX0_divideOut 32 = .ok (.invokevirtual 84, 3) := by decide +kernel
theorem dX0_divideOut_35 : decode cX0_divideOut 35 = .ok (.aload_n 0, 1) := by decide +kernel
theorem dX0_divideOut_36 : decode cX0_divideOut 36 = .ok (.getfield 48, 3) := by decide +kernel
theorem dX0_divideOut_39 : decode cX0_divideOut 39 = .ok (.aload_n 0, 1) := by decide +kernel
theorem dX0_divideOut_40 : decode cX0_divideOut 40 = .ok (.getfield 38, 3) := by decide +kernel
theorem dX0_divideOut_43 : decode cX0_divideOut 43 = .ok (.aload_n 1, 1) := by decide +kernel
theorem dX0_divideOut_44 : decode cX0_divideOut 44 = .ok (.aload_n 0, 1) := by decide +kernel
theorem dX0_divideOut_45 : decode cX0_divideOut 45 = .ok (.getfield 41, 3) := by decide +kernel
theorem dX0_divideOut_48 : decode cX0_divideOut 48 = .ok (.invokevirtual 115, 3) := by decide +kernel
theorem dX0_divideOut_51 : decode cX0_divideOut 51 = .ok (.aload_n 0, 1) := by decide +kernel
theorem dX0_divideOut_52 : decode cX0_divideOut 52 = .ok (.getfield 38, 3) := by decide +kernel
theorem dX0_divideOut_55 : decode cX0_divideOut 55 = .ok (.getfield 93, 3) := by decide +kernel
theorem dX0_divideOut_58 : decode cX0_divideOut 58 = .ok (.ifCond .lt 5, 3) := by decide +kernel
theorem dX0_divideOut_61 : decode cX0_divideOut 61 = .ok (.iload_n 2, 1) := by decide +kernel
theorem dX0_divideOut_62 : decode cX0_divideOut 62 = .ok (.ireturn, 1) := by decide +kernel
theorem dX0_divideOut_63 : decode cX0_divideOut 63 = .ok (.aload_n 0, 1) := by decide +kernel
theorem dX0_divideOut_64 : decode cX0_divideOut 64 = .ok (.getfield 34, 3) := by decide +kernel
theorem dX0_divideOut_67 : decode cX0_divideOut 67 = .ok (.aload_n 0, 1) := by decide +kernel
theorem dX0_divideOut_68 : decode cX0_divideOut 68 = .ok (.getfield 41, 3) := by decide +kernel
theorem dX0_divideOut_71 : decode cX0_divideOut 71 = .ok (.invokevirtual 84, 3) := by decide +kernel
theorem dX0_divideOut_74 : decode cX0_divideOut 74 = .ok (.iinc 2 1, 3) := by decide +kernel
theorem dX0_divideOut_77 : decode cX0_divideOut 77 = .ok (.iinc 3 1, 3) := by decide +kernel
theorem dX0_divideOut_80 : decode cX0_divideOut 80 = .ok (.goto (-76), 3) := by decide +kernel
theorem dX0_divideOut_83 : decode cX0_divideOut 83 = .ok (.iload_n 2, 1) := by decide +kernel
theorem dX0_divideOut_84 : decode cX0_divideOut 84 = .ok (.ireturn, 1) := by decide +kernel
theorem dX0_sort_0 : decode cX0_sort 0 = .ok (.iconst 1, 1) := by decide +kernel
theorem dX0_sort_1 : decode cX0_sort 1 = .ok (.istore_n 1, 1) := by decide +kernel
theorem dX0_sort_2 : decode cX0_sort 2 = .ok (.iload_n 1, 1) := by decide +kernel
theorem dX0_sort_3 : decode cX0_sort 3 = .ok (.aload_n 0, 1) := by decide +kernel
theorem dX0_sort_4 : decode cX0_sort 4 = .ok (.getfield 61, 3) := by decide +kernel
theorem dX0_sort_7 : decode cX0_sort 7 = .ok (.if_icmp .ge 107, 3) := by decide +kernel
theorem dX0_sort_10 : decode cX0_sort 10 = .ok (.iload_n 1, 1) := by decide +kernel
theorem dX0_sort_11 : decode cX0_sort 11 = .ok (.istore_n 2, 1) := by decide +kernel
theorem dX0_sort_12 : decode cX0_sort 12 = .ok (.iload_n 2, 1) := by decide +kernel
theorem dX0_sort_13 : decode cX0_sort 13 = .ok (.ifCond .le 95, 3) := by decide +kernel
theorem dX0_sort_16 : decode cX0_sort 16 = .ok (.aload_n 0, 1) := by decide +kernel
theorem dX0_sort_17 : decode cX0_sort 17 = .ok (.getfield 11, 3) := by decide +kernel
theorem dX0_sort_20 : decode cX0_sort 20 = .ok (.iload_n 2, 1) := by decide +kernel
theorem dX0_sort_21 : decode cX0_sort 21 = .ok (.invokestatic 122, 3) := by decide +kernel
theorem dX0_sort_24 : decode cX0_sort 24 = .ok (.aload_n 0, 1) := by decide +kernel
theorem dX0_sort_25 : decode cX0_sort 25 = .ok (.getfield 11, 3) := by decide +kernel
theorem dX0_sort_28 : decode cX0_sort 28 = .ok (.iload_n 2, 1) := by decide +kernel
theorem dX0_sort_29 : decode cX0_sort 29 = .ok (.iconst 1, 1) := by decide +kernel
theorem dX0_sort_30 : decode cX0_sort 30 = .ok (.isub, 1) := by decide +kernel
theorem dX0_sort_31 : decode cX0_sort 31 = .ok (.invokestatic 122, 3) := by decide +kernel
theorem dX0_sort_34 : decode cX0_sort 34 = .ok (.invokestatic 145, 3) := by decide +kernel
theorem dX0_sort_37 : decode cX0_sort 37 = .ok (.ifCond .eq 71, 3) := by decide +kernel
theorem dX0_sort_40 : decode cX0_sort 40 = .ok (.aload_n 0, 1) := by decide +kernel
theorem dX0_sort_41 : decode cX0_sort 41 = .ok (.getfield 11, 3) := by decide +kernel
theorem dX0_sort_44 : decode cX0_sort 44 = .ok (.iload_n 2, 1) := by decide +kernel
theorem dX0_sort_45 : decode cX0_sort 45 = .ok (.aaload, 1) := by decide +kernel
theorem dX0_sort_46 : decode cX0_sort 46 = .ok (.astore_n 3, 1) := by decide +kernel
theorem dX0_sort_47 : decode cX0_sort 47 = .ok (.aload_n 0, 1) := by decide +kernel
theorem dX0_sort_48 : decode cX0_sort 48 = .ok (.getfield 11, 3) := by decide +kernel
theorem dX0_sort_51 : decode cX0_sort 51 = .ok (.iload_n 2, 1) := by decide +kernel
theorem dX0_sort_52 : decode cX0_sort 52 = .ok (.aload_n 0, 1) := by decide +kernel
theorem dX0_sort_53 : decode cX0_sort 53 = .ok (.getfield 11, 3) := by decide +kernel
theorem dX0_sort_56 : decode cX0_sort 56 = .ok (.iload_n 2, 1) := by decide +kernel
theorem dX0_sort_57 : decode cX0_sort 57 = .ok (.iconst 1, 1) := by decide +kernel
theorem dX0_sort_58 : decode cX0_sort 58 = .ok (.isub, 1) := by decide +kernel
theorem dX0_sort_59 : decode cX0_sort 59 = .ok (.aaload, 1) := by decide +kernel
theorem dX0_sort_60 : decode cX0_sort 60 = .ok (.aastore, 1) := by decide +kernel
theorem dX0_sort_61 : decode cX0_sort 61 = .ok (.aload_n 0, 1) := by decide +kernel
theorem dX0_sort_62 : decode cX0_sort 62 = .ok (.getfield 11, 3) := by decide +kernel
theorem dX0_sort_65 : decode cX0_sort 65 = .ok (.iload_n 2, 1) := by decide +kernel
theorem dX0_sort_66 : decode cX0_sort 66 = .ok (.iconst 1, 1) := by decide +kernel
theorem dX0_sort_67 : decode cX0_sort 67 = .ok (.isub, 1) := by decide +kernel
theorem dX0_sort_68 : decode cX0_sort 68 = .ok (.aload_n 3, 1) := by decide +kernel
theorem dX0_sort_69 : decode cX0_sort 69 = .ok (.aastore, 1) := by decide +kernel
theorem dX0_sort_70 : decode cX0_sort 70 = .ok (.aload_n 0, 1) := by decide +kernel
theorem dX0_sort_71 : decode cX0_sort 71 = .ok (.getfield 17, 3) := by decide +kernel
theorem dX0_sort_74 : decode cX0_sort 74 = .ok (.iload_n 2, 1) := by decide +kernel
theorem dX0_sort_75 : decode cX0_sort 75 = .ok (.iaload, 1) := by decide +kernel
theorem dX0_sort_76 : decode cX0_sort 76 = .ok (.istore 4, 2) := by decide +kernel
theorem dX0_sort_78 : decode cX0_sort 78 = .ok (.aload_n 0, 1) := by decide +kernel
theorem dX0_sort_79 : decode cX0_sort 79 = .ok (.getfield 17, 3) := by decide +kernel
theorem dX0_sort_82 : decode cX0_sort 82 = .ok (.iload_n 2, 1) := by decide +kernel
theorem dX0_sort_83 : decode cX0_sort 83 = .ok (.aload_n 0, 1) := by decide +kernel
theorem dX0_sort_84 : decode cX0_sort 84 = .ok (.getfield 17, 3) := by decide +kernel
theorem dX0_sort_87 : decode cX0_sort 87 = .ok (.iload_n 2, 1) := by decide +kernel
theorem dX0_sort_88 : decode cX0_sort 88 = .ok (.iconst 1, 1) := by decide +kernel
theorem dX0_sort_89 : decode cX0_sort 89 = .ok (.isub, 1) := by decide +kernel
theorem dX0_sort_90 : decode cX0_sort 90 = .ok (.iaload, 1) := by decide +kernel
theorem dX0_sort_91 : decode cX0_sort 91 = .ok (.iastore, 1) := by decide +kernel
theorem dX0_sort_92 : decode cX0_sort 92 = .ok (.aload_n 0, 1) := by decide +kernel
theorem dX0_sort_93 : decode cX0_sort 93 = .ok (.getfield 17, 3) := by decide +kernel
theorem dX0_sort_96 : decode cX0_sort 96 = .ok (.iload_n 2, 1) := by decide +kernel
theorem dX0_sort_97 : decode cX0_sort 97 = .ok (.iconst 1, 1) := by decide +kernel
theorem dX0_sort_98 : decode cX0_sort 98 = .ok (.isub, 1) := by decide +kernel
theorem dX0_sort_99 : decode cX0_sort 99 = .ok (.iload 4, 2) := by decide +kernel
theorem dX0_sort_101 : decode cX0_sort 101 = .ok (.iastore, 1) := by decide +kernel
theorem dX0_sort_102 : decode cX0_sort 102 = .ok (.iinc 2 (-1), 3) := by decide +kernel
theorem dX0_sort_105 : decode cX0_sort 105 = .ok (.goto (-93), 3) := by decide +kernel
theorem dX0_sort_108 : decode cX0_sort 108 = .ok (.iinc 1 1, 3) := by decide +kernel
theorem dX0_sort_111 : decode cX0_sort 111 = .ok (.goto (-109), 3) := by decide +kernel
theorem dX0_sort_114 : decode cX0_sort 114 = .ok (.return_, 1) := by decide +kernel
theorem dX0_isBefore_0 : decode cX0_isBefore 0 = .ok (.aload_n 0, 1) := by decide +kernel
theorem dX0_isBefore_1 : decode cX0_isBefore 1 = .ok (.getfield 93, 3) := by decide +kernel
theorem dX0_isBefore_4 : decode cX0_isBefore 4 = .ok (.aload_n 1, 1) := by decide +kernel
theorem dX0_isBefore_5 : decode cX0_isBefore 5 = .ok (.getfield 93, 3) := by decide +kernel
theorem dX0_isBefore_8 : decode cX0_isBefore 8 = .ok (.if_icmp .eq 20, 3) := by decide +kernel
theorem dX0_isBefore_11 : decode cX0_isBefore 11 = .ok (.aload_n 0, 1) := by decide +kernel
theorem dX0_isBefore_12 : decode cX0_isBefore 12 = .ok (.getfield 93, 3) := by decide +kernel
theorem dX0_isBefore_15 : decode cX0_isBefore 15 = .ok (.aload_n 1, 1) := by decide +kernel
theorem dX0_isBefore_16 : decode cX0_isBefore 16 = .ok (.getfield 93, 3) := by decide +kernel
theorem dX0_isBefore_19 : decode cX0_isBefore 19 = .ok (.if_icmp .ge 7, 3) := by decide +kernel
theorem dX0_isBefore_22 : decode cX0_isBefore 22 = .ok (.iconst 1, 1) := by decide +kernel
theorem dX0_isBefore_23 : decode cX0_isBefore 23 = .ok (.goto 4, 3) := by decide +kernel
theorem dX0_isBefore_26 : decode cX0_isBefore 26 = .ok (.iconst 0, 1) := by decide +kernel
theorem dX0_isBefore_27 : decode cX0_isBefore 27 = .ok (.ireturn, 1) := by decide +kernel
theorem dX0_isBefore_28 : decode cX0_isBefore 28 = .ok (.aload_n 0, 1) := by decide +kernel
theorem dX0_isBefore_29 : decode cX0_isBefore 29 = .ok (.getfield 93, 3) := by decide +kernel
theorem dX0_isBefore_32 : decode cX0_isBefore 32 = .ok (.istore_n 2, 1) := by decide +kernel
theorem dX0_isBefore_33 : decode cX0_isBefore 33 = .ok (.iload_n 2, 1) := by decide +kernel
theorem dX0_isBefore_34 : decode cX0_isBefore 34 = .ok (.ifCond .lt 47, 3) := by decide +kernel
theorem dX0_isBefore_37 : decode cX0_isBefore 37 = .ok (.aload_n 0, 1) := by decide +kernel
theorem dX0_isBefore_38 : decode cX0_isBefore 38 = .ok (.getfield 139, 3) := by decide +kernel
theorem dX0_isBefore_41 : decode cX0_isBefore 41 = .ok (.iload_n 2, 1) := by decide +kernel
theorem dX0_isBefore_42 : decode cX0_isBefore 42 = .ok (.laload, 1) := by decide +kernel
theorem dX0_isBefore_43 : decode cX0_isBefore 43 = .ok (.aload_n 1, 1) := by decide +kernel
theorem dX0_isBefore_44 : decode cX0_isBefore 44 = .ok (.getfield 139, 3) := by decide +kernel
theorem dX0_isBefore_47 : decode cX0_isBefore 47 = .ok (.iload_n 2, 1) := by decide +kernel
theorem dX0_isBefore_48 : decode cX0_isBefore 48 = .ok (.laload, 1) := by decide +kernel
theorem dX0_isBefore_49 : decode cX0_isBefore 49 = .ok (.lcmp, 1) := by decide +kernel
theorem dX0_isBefore_50 : decode cX0_isBefore 50 = .ok (.ifCond .eq 25, 3) := by decide +kernel
theorem dX0_isBefore_53 : decode cX0_isBefore 53 = .ok (.aload_n 0, 1) := by decide +kernel
theorem dX0_isBefore_54 : decode cX0_isBefore 54 = .ok (.getfield 139, 3) := by decide +kernel
theorem dX0_isBefore_57 : decode cX0_isBefore 57 = .ok (.iload_n 2, 1) := by decide +kernel
theorem dX0_isBefore_58 : decode cX0_isBefore 58 = .ok (.laload, 1) := by decide +kernel
theorem dX0_isBefore_59 : decode cX0_isBefore 59 = .ok (.aload_n 1, 1) := by decide +kernel
theorem dX0_isBefore_60 : decode cX0_isBefore 60 = .ok (.getfield 139, 3) := by decide +kernel
theorem dX0_isBefore_63 : decode cX0_isBefore 63 = .ok (.iload_n 2, 1) := by decide +kernel
theorem dX0_isBefore_64 : decode cX0_isBefore 64 = .ok (.laload, 1) := by decide +kernel
theorem dX0_isBefore_65 : decode cX0_isBefore 65 = .ok (.lcmp, 1) := by decide +kernel
theorem dX0_isBefore_66 : decode cX0_isBefore 66 = .ok (.ifCond .ge 7, 3) := by decide +kernel
theorem dX0_isBefore_69 : decode cX0_isBefore 69 = .ok (.iconst 1, 1) := by decide +kernel
theorem dX0_isBefore_70 : decode cX0_isBefore 70 = .ok (.goto 4, 3) := by decide +kernel
theorem dX0_isBefore_73 : decode cX0_isBefore 73 = .ok (.iconst 0, 1) := by decide +kernel
theorem dX0_isBefore_74 : decode cX0_isBefore 74 = .ok (.ireturn, 1) := by decide +kernel
theorem dX0_isBefore_75 : decode cX0_isBefore 75 = .ok (.iinc 2 (-1), 3) := by decide +kernel
theorem dX0_isBefore_78 : decode cX0_isBefore 78 = .ok (.goto (-45), 3) := by decide +kernel
theorem dX0_isBefore_81 : decode cX0_isBefore 81 = .ok (.iconst 0, 1) := by decide +kernel
theorem dX0_isBefore_82 : decode cX0_isBefore 82 = .ok (.ireturn, 1) := by decide +kernel
theorem dX0_gatherParts_0 : decode cX0_gatherParts 0 = .ok (.iconst 1, 1) := by decide +kernel
theorem dX0_gatherParts_1 : decode cX0_gatherParts 1 = .ok (.istore_n 1, 1) := by decide +kernel
theorem dX0_gatherParts_2 : decode cX0_gatherParts 2 = .ok (.iload_n 1, 1) := by decide +kernel
theorem dX0_gatherParts_3 : decode cX0_gatherParts 3 = .ok (.bipush 40, 2) := by decide +kernel
theorem dX0_gatherParts_5 : decode cX0_gatherParts 5 = .ok (.if_icmp .gt 123, 3) := by decide +kernel
theorem dX0_gatherParts_8 : decode cX0_gatherParts 8 = .ok (.aload_n 0, 1) := by decide +kernel
theorem dX0_gatherParts_9 : decode cX0_gatherParts 9 = .ok (.getfield 65, 3) := by decide +kernel
theorem dX0_gatherParts_12 : decode cX0_gatherParts 12 = .ok (.bipush 8, 2) := by decide +kernel
theorem dX0_gatherParts_14 : decode cX0_gatherParts 14 = .ok (.if_icmp .ge 114, 3) := by decide +kernel
theorem dX0_gatherParts_17 : decode cX0_gatherParts 17 = .ok (.aload_n 0, 1) := by decide +kernel
theorem dX0_gatherParts_18 : decode cX0_gatherParts 18 = .ok (.getfield 38, 3) := by decide +kernel
theorem dX0_gatherParts_21 : decode cX0_gatherParts 21 = .ok (.lconst 1, 1) := by decide +kernel
theorem dX0_gatherParts_22 : decode cX0_gatherParts 22 = .ok (.invokevirtual 149, 3) := by decide +kernel
theorem dX0_gatherParts_25 : decode cX0_gatherParts 25 = .ok (.iconst 0, 1) := by decide +kernel
theorem dX0_gatherParts_26 : decode cX0_gatherParts 26 = .ok (.istore_n 2, 1) := by decide +kernel
theorem dX0_gatherParts_27 : decode cX0_gatherParts 27 = .ok (.iload_n 2, 1) := by decide +kernel
theorem dX0_gatherParts_28 : decode cX0_gatherParts 28 = .ok (.aload_n 0, 1) := by decide +kernel
theorem dX0_gatherParts_29 : decode cX0_gatherParts 29 = .ok (.getfield 61, 3) := by decide +kernel
theorem dX0_gatherParts_32 : decode cX0_gatherParts 32 = .ok (.if_icmp .ge 42, 3) := by decide +kernel
theorem dX0_gatherParts_35 : decode cX0_gatherParts 35 = .ok (.aload_n 0, 1) := by decide +kernel
theorem dX0_gatherParts_36 : decode cX0_gatherParts 36 = .ok (.getfield 17, 3) := by decide +kernel
theorem dX0_gatherParts_39 : decode cX0_gatherParts 39 = .ok (.iload_n 2, 1) := by decide +kernel
theorem dX0_gatherParts_40 : decode cX0_gatherParts 40 = .ok (.iaload, 1) := by decide +kernel
theorem dX0_gatherParts_41 : decode cX0_gatherParts 41 = .ok (.iload_n 1, 1) := by decide +kernel
theorem dX0_gatherParts_42 : decode cX0_gatherParts 42 = .ok (.if_icmp .ne 26, 3) := by decide +kernel
theorem dX0_gatherParts_45 : decode cX0_gatherParts 45 = .ok (.aload_n 0, 1) := by decide +kernel
theorem dX0_gatherParts_46 : decode cX0_gatherParts 46 = .ok (.getfield 48, 3) := by decide +kernel
theorem dX0_gatherParts_49 : decode cX0_gatherParts 49 = .ok (.aload_n 0, 1) := by decide +kernel
theorem dX0_gatherParts_50 : decode cX0_gatherParts 50 = .ok (.getfield 38, 3) := by decide +kernel
theorem dX0_gatherParts_53 : decode cX0_gatherParts 53 = .ok (.aload_n 0, 1) := by decide +kernel
theorem dX0_gatherParts_54 : decode cX0_gatherParts 54 = .ok (.getfield 11, 3) := by decide +kernel
theorem dX0_gatherParts_57 : decode cX0_gatherParts 57 = .ok (.iload_n 2, 1) := by decide +kernel
theorem dX0_gatherParts_58 : decode cX0_gatherParts 58 = .ok (.invokestatic 122, 3) := by decide +kernel
theorem dX0_gatherParts_61 : decode cX0_gatherParts 61 = .ok (.aload_n 0, 1) := by decide +kernel
theorem dX0_gatherParts_62 : decode cX0_gatherParts 62 = .ok (.getfield 38, 3) := by decide +kernel
theorem dX0_gatherParts_65 : decode cX0_gatherParts 65 = .ok (.invokevirtual 153, 3) := by decide +kernel
theorem dX0_gatherParts_68 : decode cX0_gatherParts 68 = .ok (.iinc 2 1, 3) := by decide +kernel
theorem dX0_gatherParts_71 : decode cX0_gatherParts 71 = .ok (.goto (-44), 3) := by decide +kernel
theorem dX0_gatherParts_74 : decode cX0_gatherParts 74 = .ok (.aload_n 0, 1) := by decide +kernel
theorem dX0_gatherParts_75 : decode cX0_gatherParts 75 = .ok (.getfield 38, 3) := by decide +kernel
theorem dX0_gatherParts_78 : decode cX0_gatherParts 78 = .ok (.getfield 93, 3) := by decide +kernel
theorem dX0_gatherParts_81 : decode cX0_gatherParts 81 = .ok (.ifCond .le 41, 3) := by decide +kernel
theorem dX0_gatherParts_84 : decode cX0_gatherParts 84 = .ok (.aload_n 0, 1) := by decide +kernel
theorem dX0_gatherParts_85 : decode cX0_gatherParts 85 = .ok (.getfield 21, 3) := by decide +kernel
theorem dX0_gatherParts_88 : decode cX0_gatherParts 88 = .ok (.aload_n 0, 1) := by decide +kernel
theorem dX0_gatherParts_89 : decode cX0_gatherParts 89 = .ok (.getfield 65, 3) := by decide +kernel
theorem dX0_gatherParts_92 : decode cX0_gatherParts 92 = .ok (.invokestatic 122, 3) := by decide +kernel
theorem dX0_gatherParts_95 : decode cX0_gatherParts 95 = .ok (.aload_n 0, 1) := by decide +kernel
theorem dX0_gatherParts_96 : decode cX0_gatherParts 96 = .ok (.getfield 38, 3) := by decide +kernel
theorem dX0_gatherParts_99 : decode cX0_gatherParts 99 = .ok (.invokevirtual 84, 3) := by decide +kernel
theorem dX0_gatherParts_102 : decode cX0_gatherParts 102 = .ok (.aload_n 0, 1) := by decide +kernel
theorem dX0_gatherParts_103 : decode cX0_gatherParts 103 = .ok (.getfield 24, 3) := by decide +kernel
theorem dX0_gatherParts_106 : decode cX0_gatherParts 106 = .ok (.aload_n 0, 1) := by decide +kernel
theorem dX0_gatherParts_107 : decode cX0_gatherParts 107 = .ok (.getfield 65, 3) := by decide +kernel
theorem dX0_gatherParts_110 : decode cX0_gatherParts 110 = .ok (.iload_n 1, 1) := by decide +kernel
theorem dX0_gatherParts_111 : decode cX0_gatherParts 111 = .ok (.iastore, 1) := by decide +kernel
theorem dX0_gatherParts_112 : decode cX0_gatherParts 112 = .ok (.aload_n 0, 1) := by decide +kernel
theorem dX0_gatherParts_113 : decode cX0_gatherParts 113 = .ok (.dup, 1) := by decide +kernel
theorem dX0_gatherParts_114 : decode cX0_gatherParts 114 = .ok (.getfield 65, 3) := by decide +kernel
theorem dX0_gatherParts_117 : decode cX0_gatherParts 117 = .ok (.iconst 1, 1) := by decide +kernel
theorem dX0_gatherParts_118 : decode cX0_gatherParts 118 = .ok (.iadd, 1) := by decide +kernel
theorem dX0_gatherParts_119 : decode cX0_gatherParts 119 = .ok (.putfield 65, 3) := by decide +kernel
theorem dX0_gatherParts_122 : decode cX0_gatherParts 122 = .ok (.iinc 1 1, 3) := by decide +kernel
theorem dX0_gatherParts_125 : decode cX0_gatherParts 125 = .ok (.goto (-123), 3) := by decide +kernel
theorem dX0_gatherParts_128 : decode cX0_gatherParts 128 = .ok (.return_, 1) := by decide +kernel
theorem dX0_gatherRoots_0 : decode cX0_gatherRoots 0 = .ok (.iconst 0, 1) := by decide +kernel
theorem dX0_gatherRoots_1 : decode cX0_gatherRoots 1 = .ok (.istore_n 1, 1) := by decide +kernel
theorem dX0_gatherRoots_2 : decode cX0_gatherRoots 2 = .ok (.iload_n 1, 1) := by decide +kernel
theorem dX0_gatherRoots_3 : decode cX0_gatherRoots 3 = .ok (.aload_n 0, 1) := by decide +kernel
theorem dX0_gatherRoots_4 : decode cX0_gatherRoots 4 = .ok (.getfield 61, 3) := by decide +kernel
theorem dX0_gatherRoots_7 : decode cX0_gatherRoots 7 = .ok (.if_icmp .ge 24, 3) := by decide +kernel
theorem dX0_gatherRoots_10 : decode cX0_gatherRoots 10 = .ok (.aload_n 0, 1) := by decide +kernel
theorem dX0_gatherRoots_11 : decode cX0_gatherRoots 11 = .ok (.getfield 11, 3) := by decide +kernel
theorem dX0_gatherRoots_14 : decode cX0_gatherRoots 14 = .ok (.iload_n 1, 1) := by decide +kernel
theorem dX0_gatherRoots_15 : decode cX0_gatherRoots 15 = .ok (.invokestatic 122, 3) := by decide +kernel
theorem dX0_gatherRoots_18 : decode cX0_gatherRoots 18 = .ok (.getfield 93, 3) := by decide +kernel
theorem dX0_gatherRoots_21 : decode cX0_gatherRoots 21 = .ok (.iconst 1, 1) := by decide +kernel
theorem dX0_gatherRoots_22 : decode cX0_gatherRoots 22 = .ok (.if_icmp .ne 9, 3) := by decide +kernel
theorem dX0_gatherRoots_25 : decode cX0_gatherRoots 25 = .ok (.iinc 1 1, 3) := by decide +kernel
theorem dX0_gatherRoots_28 : decode cX0_gatherRoots 28 = .ok (.goto (-26), 3) := by decide +kernel
theorem dX0_gatherRoots_31 : decode cX0_gatherRoots 31 = .ok (.iconst 0, 1) := by decide +kernel
theorem dX0_gatherRoots_32 : decode cX0_gatherRoots 32 = .ok (.istore_n 2, 1) := by decide +kernel
theorem dX0_gatherRoots_33 : decode cX0_gatherRoots 33 = .ok (.iload_n 1, 1) := by decide +kernel
theorem dX0_gatherRoots_34 : decode cX0_gatherRoots 34 = .ok (.ifCond .le 39, 3) := by decide +kernel
theorem dX0_gatherRoots_37 : decode cX0_gatherRoots 37 = .ok (.aload_n 0, 1) := by decide +kernel
theorem dX0_gatherRoots_38 : decode cX0_gatherRoots 38 = .ok (.getfield 11, 3) := by decide +kernel
theorem dX0_gatherRoots_41 : decode cX0_gatherRoots 41 = .ok (.iconst 0, 1) := by decide +kernel
theorem dX0_gatherRoots_42 : decode cX0_gatherRoots 42 = .ok (.invokestatic 122, 3) := by decide +kernel
theorem dX0_gatherRoots_45 : decode cX0_gatherRoots 45 = .ok (.iconst 0, 1) := by decide +kernel
theorem dX0_gatherRoots_46 : decode cX0_gatherRoots 46 = .ok (.invokevirtual 156, 3) := by decide +kernel
theorem dX0_gatherRoots_49 : decode cX0_gatherRoots 49 = .ok (.lconst 0, 1) := by decide +kernel
theorem dX0_gatherRoots_50 : decode cX0_gatherRoots 50 = .ok (.lcmp, 1) := by decide +kernel
theorem dX0_gatherRoots_51 : decode cX0_gatherRoots 51 = .ok (.ifCond .ne 22, 3) := by decide +kernel
theorem dX0_gatherRoots_54 : decode cX0_gatherRoots 54 = .ok (.aload_n 0, 1) := by decide +kernel
theorem dX0_gatherRoots_55 : decode cX0_gatherRoots 55 = .ok (.getfield 27, 3) := by decide +kernel
theorem dX0_gatherRoots_58 : decode cX0_gatherRoots 58 = .ok (.aload_n 0, 1) := by decide +kernel
theorem dX0_gatherRoots_59 : decode cX0_gatherRoots 59 = .ok (.dup, 1) := by decide +kernel
theorem dX0_gatherRoots_60 : decode cX0_gatherRoots 60 = .ok (.getfield 68, 3) := by decide +kernel
theorem dX0_gatherRoots_63 : decode cX0_gatherRoots 63 = .ok (.dup_x1, 1) := by decide +kernel
theorem dX0_gatherRoots_64 : decode cX0_gatherRoots 64 = .ok (.iconst 1, 1) := by decide +kernel
theorem dX0_gatherRoots_65 : decode cX0_gatherRoots 65 = .ok (.iadd, 1) := by decide +kernel
theorem dX0_gatherRoots_66 : decode cX0_gatherRoots 66 = .ok (.putfield 68, 3) := by decide +kernel
theorem dX0_gatherRoots_69 : decode cX0_gatherRoots 69 = .ok (.lconst 0, 1) := by decide +kernel
theorem dX0_gatherRoots_70 : decode cX0_gatherRoots 70 = .ok (.lastore, 1) := by decide +kernel
theorem dX0_gatherRoots_71 : decode cX0_gatherRoots 71 = .ok (.iconst 1, 1) := by decide +kernel
theorem dX0_gatherRoots_72 : decode cX0_gatherRoots 72 = .ok (.istore_n 2, 1) := by decide +kernel
theorem dX0_gatherRoots_73 : decode cX0_gatherRoots 73 = .ok (.iload_n 1, 1) := by decide +kernel
theorem dX0_gatherRoots_74 : decode cX0_gatherRoots 74 = .ok (.iconst 1, 1) := by decide +kernel
theorem dX0_gatherRoots_75 : decode cX0_gatherRoots 75 = .ok (.isub, 1) := by decide +kernel
theorem dX0_gatherRoots_76 : decode cX0_gatherRoots 76 = .ok (.istore_n 3, 1) := by decide +kernel
theorem dX0_gatherRoots_77 : decode cX0_gatherRoots 77 = .ok (.iload_n 3, 1) := by decide +kernel
theorem dX0_gatherRoots_78 : decode cX0_gatherRoots 78 = .ok (.iload_n 2, 1) := by decide +kernel
theorem dX0_gatherRoots_79 : decode cX0_gatherRoots 79 = .ok (.if_icmp .lt 46, 3) := by decide +kernel
theorem dX0_gatherRoots_82 : decode cX0_gatherRoots 82 = .ok (.aload_n 0, 1) := by decide +kernel
theorem dX0_gatherRoots_83 : decode cX0_gatherRoots 83 = .ok (.getfield 27, 3) := by decide +kernel
theorem dX0_gatherRoots_86 : decode cX0_gatherRoots 86 = .ok (.aload_n 0, 1) := by decide +kernel
theorem dX0_gatherRoots_87 : decode cX0_gatherRoots 87 = .ok (.dup, 1) := by decide +kernel
theorem dX0_gatherRoots_88 : decode cX0_gatherRoots 88 = .ok (.getfield 68, 3) := by decide +kernel
theorem dX0_gatherRoots_91 : decode cX0_gatherRoots 91 = .ok (.dup_x1, 1) := by decide +kernel
theorem dX0_gatherRoots_92 : decode cX0_gatherRoots 92 = .ok (.iconst 1, 1) := by decide +kernel
theorem dX0_gatherRoots_93 : decode cX0_gatherRoots 93 = .ok (.iadd, 1) := by decide +kernel
theorem dX0_gatherRoots_94 : decode cX0_gatherRoots 94 = .ok (.putfield 68, 3) := by decide +kernel
theorem dX0_gatherRoots_97 : decode cX0_gatherRoots 97 = .ok (.aload_n 0, 1) := by decide +kernel
theorem dX0_gatherRoots_98 : decode cX0_gatherRoots 98 = .ok (.getfield 44, 3) := by decide +kernel
theorem dX0_gatherRoots_101 : decode cX0_gatherRoots 101 = .ok (.getfield 103, 3) := by decide +kernel
theorem dX0_gatherRoots_104 : decode cX0_gatherRoots 104 = .ok (.i2l, 1) := by decide +kernel
theorem dX0_gatherRoots_105 : decode cX0_gatherRoots 105 = .ok (.aload_n 0, 1) := by decide +kernel
theorem dX0_gatherRoots_106 : decode cX0_gatherRoots 106 = .ok (.getfield 11, 3) := by decide +kernel
theorem dX0_gatherRoots_109 : decode cX0_gatherRoots 109 = .ok (.iload_n 3, 1) := by decide +kernel
theorem dX0_gatherRoots_110 : decode cX0_gatherRoots 110 = .ok (.invokestatic 122, 3) := by decide +kernel
theorem dX0_gatherRoots_113 : decode cX0_gatherRoots 113 = .ok (.iconst 0, 1) := by decide +kernel
theorem dX0_gatherRoots_114 : decode cX0_gatherRoots 114 = .ok (.invokevirtual 156, 3) := by decide +kernel
theorem dX0_gatherRoots_117 : decode cX0_gatherRoots 117 = .ok (.lsub, 1) := by decide +kernel
theorem dX0_gatherRoots_118 : decode cX0_gatherRoots 118 = .ok (.lastore, 1) := by decide +kernel
theorem dX0_gatherRoots_119 : decode cX0_gatherRoots 119 = .ok (.iinc 3 (-1), 3) := by decide +kernel
theorem dX0_gatherRoots_122 : decode cX0_gatherRoots 122 = .ok (.goto (-45), 3) := by decide +kernel
theorem dX0_gatherRoots_125 : decode cX0_gatherRoots 125 = .ok (.return_, 1) := by decide +kernel
theorem dX2_commonDivisor_0 : decode cX2_commonDivisor 0 = .ok (.aload_n 0, 1) := by decide +kernel
theorem dX2_commonDivisor_1 : decode cX2_commonDivisor 1 = .ok (.getfield 23, 3) := by decide +kernel
theorem dX2_commonDivisor_4 : decode cX2_commonDivisor 4 = .ok (.astore 4, 2) := by decide +kernel
theorem dX2_commonDivisor_6 : decode cX2_commonDivisor 6 = .ok (.aload_n 0, 1) := by decide +kernel
theorem dX2_commonDivisor_7 : decode cX2_commonDivisor 7 = .ok (.getfield 26, 3) := by decide +kernel
theorem dX2_commonDivisor_10 : decode cX2_commonDivisor 10 = .ok (.astore 5, 2) := by decide +kernel
theorem dX2_commonDivisor_12 : decode cX2_commonDivisor 12 = .ok (.aload 4, 2) := by decide +kernel
theorem dX2_commonDivisor_14 : decode cX2_commonDivisor 14 = .ok (.aload_n 1, 1) := by decide +kernel
theorem dX2_commonDivisor_15 : decode cX2_commonDivisor 15 = .ok (.invokevirtual 62, 3) := by decide +kernel
theorem dX2_commonDivisor_18 : decode cX2_commonDivisor 18 = .ok (.aload 5, 2) := by decide +kernel
theorem dX2_commonDivisor_20 : decode cX2_commonDivisor 20 = .ok (.aload_n 2, 1) := by decide +kernel
theorem dX2_commonDivisor_21 : decode cX2_commonDivisor 21 = .ok (.invokevirtual 62, 3) := by decide +kernel
theorem dX2_commonDivisor_24 : decode cX2_commonDivisor 24 = .ok (.iconst 0, 1) := by decide +kernel
theorem dX2_commonDivisor_25 : decode cX2_commonDivisor 25 = .ok (.istore 6, 2) := by decide +kernel
theorem dX2_commonDivisor_27 : decode cX2_commonDivisor 27 = .ok (.iload 6, 2) := by decide +kernel
theorem dX2_commonDivisor_29 : decode cX2_commonDivisor 29 = .ok (.bipush 84, 2) := by decide +kernel
theorem dX2_commonDivisor_31 : decode cX2_commonDivisor 31 = .ok (.if_icmp .gt 41, 3) := by decide +kernel
theorem dX2_commonDivisor_34 : decode cX2_commonDivisor 34 = .ok (.aload 5, 2) := by decide +kernel
theorem dX2_commonDivisor_36 : decode cX2_commonDivisor 36 = .ok (.getfield 45, 3) := by decide +kernel
theorem dX2_commonDivisor_39 : decode cX2_commonDivisor 39 = .ok (.ifCond .lt 33, 3) := by decide +kernel
theorem dX2_commonDivisor_42 : decode cX2_commonDivisor 42 = .ok (.aload_n 0, 1) := by decide +kernel
theorem dX2_commonDivisor_43 : decode cX2_commonDivisor 43 = .ok (.aload 4, 2) := by decide +kernel
theorem dX2_commonDivisor_45 : decode cX2_commonDivisor 45 = .ok (.aload 5, 2) := by decide +kernel
theorem dX2_commonDivisor_47 : decode cX2_commonDivisor 47 = .ok (.aload_n 0, 1) := by decide +kernel
theorem dX2_commonDivisor_48 : decode cX2_commonDivisor 48 = .ok (.getfield 20, 3) := by decide +kernel
theorem dX2_commonDivisor_51 : decode cX2_commonDivisor 51 = .ok (.invokevirtual 87, 3) := by decide +kernel
theorem dX2_commonDivisor_54 : decode cX2_commonDivisor 54 = .ok (.aload 4, 2) := by decide +kernel
theorem dX2_commonDivisor_56 : decode cX2_commonDivisor 56 = .ok (.astore 7, 2) := by decide +kernel
theorem dX2_commonDivisor_58 : decode cX2_commonDivisor 58 = .ok (.aload 5, 2) := by decide +kernel
theorem dX2_commonDivisor_60 : decode cX2_commonDivisor 60 = .ok (.astore 4, 2) := by decide +kernel
theorem dX2_commonDivisor_62 : decode cX2_commonDivisor 62 = .ok (.aload 7, 2) := by decide +kernel
theorem dX2_commonDivisor_64 : decode cX2_commonDivisor 64 = .ok (.astore 5, 2) := by decide +kernel
theorem dX2_commonDivisor_66 : decode cX2_commonDivisor 66 = .ok (.iinc 6 1, 3) := by decide +kernel
theorem dX2_commonDivisor_69 : decode cX2_commonDivisor 69 = .ok (.goto (-42), 3) := by decide +kernel
theorem dX2_commonDivisor_72 : decode cX2_commonDivisor 72 = .ok (.aload_n 0, 1) := by decide +kernel
theorem dX2_commonDivisor_73 : decode cX2_commonDivisor 73 = .ok (.aload 4, 2) := by decide +kernel
theorem dX2_commonDivisor_75 : decode cX2_commonDivisor 75 = .ok (.invokevirtual 90, 3) := by decide +kernel
theorem dX2_commonDivisor_78 : decode cX2_commonDivisor 78 = .ok (.aload_n 3, 1) := by decide +kernel
theorem dX2_commonDivisor_79 : decode cX2_commonDivisor 79 = .ok (.aload 4, 2) := by decide +kernel
theorem dX2_commonDivisor_81 : decode cX2_commonDivisor 81 = .ok (.invokevirtual 62, 3) := by decide +kernel
theorem dX2_commonDivisor_84 : decode cX2_commonDivisor 84 = .ok (.return_, 1) := by decide +kernel
theorem dX2_invert_0 : decode cX2_invert 0 = .ok (.aload_n 0, 1) := by decide +kernel
theorem dX2_invert_1 : decode cX2_invert 1 = .ok (.getfield 23, 3) := by decide +kernel
theorem dX2_invert_4 : decode cX2_invert 4 = .ok (.astore 4, 2) := by decide +kernel
theorem dX2_invert_6 : decode cX2_invert 6 = .ok (.aload_n 0, 1) := by decide +kernel
theorem dX2_invert_7 : decode cX2_invert 7 = .ok (.getfield 26, 3) := by decide +kernel
theorem dX2_invert_10 : decode cX2_invert 10 = .ok (.astore 5, 2) := by decide +kernel
theorem dX2_invert_12 : decode cX2_invert 12 = .ok (.aload_n 0, 1) := by decide +kernel
theorem dX2_invert_13 : decode cX2_invert 13 = .ok (.getfield 29, 3) := by decide +kernel
theorem dX2_invert_16 : decode cX2_invert 16 = .ok (.astore 6, 2) := by decide +kernel
theorem dX2_invert_18 : decode cX2_invert 18 = .ok (.aload_n 0, 1) := by decide +kernel
theorem dX2_invert_19 : decode cX2_invert 19 = .ok (.getfield 32, 3) := by decide +kernel
theorem dX2_invert_22 : decode cX2_invert 22 = .ok (.astore 7, 2) := by decide +kernel
theorem dX2_invert_24 : decode cX2_invert 24 = .ok (.aload 4, 2) := by decide +kernel
theorem dX2_invert_26 : decode cX2_invert 26 = .ok (.aload_n 2, 1) := by decide +kernel
theorem dX2_invert_27 : decode cX2_invert 27 = .ok (.invokevirtual 62, 3) := by decide +kernel
theorem dX2_invert_30 : decode cX2_invert 30 = .ok (.aload 5, 2) := by decide +kernel
theorem dX2_invert_32 : decode cX2_invert 32 = .ok (.aload_n 1, 1) := by decide +kernel
theorem dX2_invert_33 : decode cX2_invert 33 = .ok (.invokevirtual 62, 3) := by decide +kernel
theorem dX2_invert_36 : decode cX2_invert 36 = .ok (.aload_n 0, 1) := by decide +kernel
theorem dX2_invert_37 : decode cX2_invert 37 = .ok (.aload 5, 2) := by decide +kernel
theorem dX2_invert_39 : decode cX2_invert 39 = .ok (.aload_n 2, 1) := by decide +kernel
theorem dX2_invert_40 : decode cX2_invert 40 = .ok (.aload_n 0, 1) := by decide +kernel
theorem dX2_invert_41 : decode cX2_invert 41 = .ok (.getfield 20, 3) := by decide +kernel
theorem dX2_invert_44 : decode cX2_invert 44 = .ok (.invokevirtual 87, 3) := by decide +kernel
theorem dX2_invert_47 : decode cX2_invert 47 = .ok (.aload 6, 2) := by decide +kernel
theorem dX2_invert_49 : decode cX2_invert 49 = .ok (.lconst 0, 1) := by decide +kernel
theorem dX2_invert_50 : decode cX2_invert 50 = .ok (.invokevirtual 93, 3) := by decide +kernel
theorem dX2_invert_53 : decode cX2_invert 53 = .ok (.aload 7, 2) := by decide +kernel
theorem dX2_invert_55 : decode cX2_invert 55 = .ok (.lconst 1, 1) := by decide +kernel
theorem dX2_invert_56 : decode cX2_invert 56 = .ok (.invokevirtual 93, 3) := by decide +kernel
theorem dX2_invert_59 : decode cX2_invert 59 = .ok (.iconst 0, 1) := by decide +kernel
theorem dX2_invert_60 : decode cX2_invert 60 = .ok (.istore 8, 2) := by decide +kernel
theorem dX2_invert_62 : decode cX2_invert 62 = .ok (.iload 8, 2) := by decide +kernel
theorem dX2_invert_64 : decode cX2_invert 64 = .ok (.bipush 84, 2) := by decide +kernel
theorem dX2_invert_66 : decode cX2_invert 66 = .ok (.if_icmp .gt 65, 3) := by decide +kernel
theorem dX2_invert_69 : decode cX2_invert 69 = .ok (.aload 5, 2) := by decide +kernel
theorem dX2_invert_71 : decode cX2_invert 71 = .ok (.getfield 45, 3) := by decide +kernel
theorem dX2_invert_74 : decode cX2_invert 74 = .ok (.ifCond .lt 57, 3) := by decide +kernel
theorem dX2_invert_77 : decode cX2_invert 77 = .ok (.aload_n 0, 1) := by decide +kernel
theorem dX2_invert_78 : decode cX2_invert 78 = .ok (.aload 4, 2) := by decide +kernel
theorem dX2_invert_80 : decode cX2_invert 80 = .ok (.aload 5, 2) := by decide +kernel
theorem dX2_invert_82 : decode cX2_invert 82 = .ok (.aload_n 0, 1) := by decide +kernel
theorem dX2_invert_83 : decode cX2_invert 83 = .ok (.getfield 20, 3) := by decide +kernel
theorem dX2_invert_86 : decode cX2_invert 86 = .ok (.invokevirtual 87, 3) := by decide +kernel
theorem dX2_invert_89 : decode cX2_invert 89 = .ok (.aload_n 0, 1) := by decide +kernel
theorem dX2_invert_90 : decode cX2_invert 90 = .ok (.aload 6, 2) := by decide +kernel
theorem dX2_invert_92 : decode cX2_invert 92 = .ok (.aload_n 0, 1) := by decide +kernel
theorem dX2_invert_93 : decode cX2_invert 93 = .ok (.getfield 20, 3) := by decide +kernel
theorem dX2_invert_96 : decode cX2_invert 96 = .ok (.aload 7, 2) := by decide +kernel
theorem dX2_invert_98 : decode cX2_invert 98 = .ok (.invokevirtual 97, 3) := by decide +kernel
theorem dX2_invert_101 : decode cX2_invert 101 = .ok (.aload 4, 2) := by decide +kernel
theorem dX2_invert_103 : decode cX2_invert 103 = .ok (.astore 9, 2) := by decide +kernel
theorem dX2_invert_105 : decode cX2_invert 105 = .ok (.aload 5, 2) := by decide +kernel
theorem dX2_invert_107 : decode cX2_invert 107 = .ok (.astore 4, 2) := by decide +kernel
theorem dX2_invert_109 : decode cX2_invert 109 = .ok (.aload 9, 2) := by decide +kernel
theorem dX2_invert_111 : decode cX2_invert 111 = .ok (.astore 5, 2) := by decide +kernel
theorem dX2_invert_113 : decode cX2_invert 113 = .ok (.aload 6, 2) := by decide +kernel
theorem dX2_invert_115 : decode cX2_invert 115 = .ok (.astore 9, 2) := by decide +kernel
theorem dX2_invert_117 : decode cX2_invert 117 = .ok (.aload 7, 2) := by decide +kernel
theorem dX2_invert_119 : decode cX2_invert 119 = .ok (.astore 6, 2) := by decide +kernel
theorem dX2_invert_121 : decode cX2_invert 121 = .ok (.aload 9, 2) := by decide +kernel
theorem dX2_invert_123 : decode cX2_invert 123 = .ok (.astore 7, 2) := by decide +kernel
theorem dX2_invert_125 : decode cX2_invert 125 = .ok (.iinc 8 1, 3) := by decide +kernel
theorem dX2_invert_128 : decode cX2_invert 128 = .ok (.goto (-66), 3) := by decide +kernel
theorem dX2_invert_131 : decode cX2_invert 131 = .ok (.aload 4, 2) := by decide +kernel
theorem dX2_invert_133 : decode cX2_invert 133 = .ok (.getfield 45, 3) := by decide +kernel
theorem dX2_invert_136 : decode cX2_invert 136 = .ok (.ifCond .eq 5, 3) := by decide +kernel
theorem dX2_invert_139 : decode cX2_invert 139 = .ok (.iconst 0, 1) := by decide +kernel
theorem dX2_invert_140 : decode cX2_invert 140 = .ok (.ireturn, 1) := by decide +kernel
theorem dX2_invert_141 : decode cX2_invert 141 = .ok (.aload_n 0, 1) := by decide +kernel
theorem dX2_invert_142 : decode cX2_invert 142 = .ok (.aload 6, 2) := by decide +kernel
theorem dX2_invert_144 : decode cX2_invert 144 = .ok (.aload_n 0, 1) := by decide +kernel
theorem dX2_invert_145 : decode cX2_invert 145 = .ok (.getfield 41, 3) := by decide +kernel
theorem dX2_invert_148 : decode cX2_invert 148 = .ok (.aload 4, 2) := by decide +kernel
theorem dX2_invert_150 : decode cX2_invert 150 = .ok (.getfield 49, 3) := by decide +kernel
theorem dX2_invert_153 : decode cX2_invert 153 = .ok (.iconst 0, 1) := by decide +kernel
theorem dX2_invert_154 : decode cX2_invert 154 = .ok (.laload, 1) := by decide +kernel
theorem dX2_invert_155 : decode cX2_invert 155 = .ok (.invokevirtual 83, 3) := by decide +kernel
theorem dX2_invert_158 : decode cX2_invert 158 = .ok (.aload_n 3, 1) := by decide +kernel
theorem dX2_invert_159 : decode cX2_invert 159 = .ok (.invokevirtual 100, 3) := by decide +kernel
theorem dX2_invert_162 : decode cX2_invert 162 = .ok (.iconst 1, 1) := by decide +kernel
theorem dX2_invert_163 : decode cX2_invert 163 = .ok (.ireturn, 1) := by decide +kernel
theorem dX2_lessen_0 : decode cX2_lessen 0 = .ok (.aload_n 0, 1) := by decide +kernel
theorem dX2_lessen_1 : decode cX2_lessen 1 = .ok (.aload_n 2, 1) := by decide +kernel
theorem dX2_lessen_2 : decode cX2_lessen 2 = .ok (.aload_n 3, 1) := by decide +kernel
theorem dX2_lessen_3 : decode cX2_lessen 3 = .ok (.aload_n 0, 1) := by decide +kernel
theorem dX2_lessen_4 : decode cX2_lessen 4 = .ok (.getfield 14, 3) := by decide +kernel
theorem dX2_lessen_7 : decode cX2_lessen 7 = .ok (.invokevirtual 53, 3) := by decide +kernel
theorem dX2_lessen_10 : decode cX2_lessen 10 = .ok (.aload_n 1, 1) := by decide +kernel
theorem dX2_lessen_11 : decode cX2_lessen 11 = .ok (.getfield 45, 3) := by decide +kernel
theorem dX2_lessen_14 : decode cX2_lessen 14 = .ok (.aload_n 0, 1) := by decide +kernel
theorem dX2_lessen_15 : decode cX2_lessen 15 = .ok (.getfield 14, 3) := by decide +kernel
theorem dX2_lessen_18 : decode cX2_lessen 18 = .ok (.getfield 45, 3) := by decide +kernel
theorem dX2_lessen_21 : decode cX2_lessen 21 = .ok (.invokestatic 104, 3) := by decide +kernel
theorem dX2_lessen_24 : decode cX2_lessen 24 = .ok (.istore 4, 2) := by decide +kernel
theorem dX2_lessen_26 : decode cX2_lessen 26 = .ok (.iconst 0, 1) := by decide +kernel
theorem dX2_lessen_27 : decode cX2_lessen 27 = .ok (.istore 5, 2) := by decide +kernel
theorem dX2_lessen_29 : decode cX2_lessen 29 = .ok (.iload 5, 2) := by decide +kernel
theorem dX2_lessen_31 : decode cX2_lessen 31 = .ok (.iload 4, 2) := by decide +kernel
theorem dX2_lessen_33 : decode cX2_lessen 33 = .ok (.if_icmp .gt 39, 3) := by decide +kernel
theorem dX2_lessen_36 : decode cX2_lessen 36 = .ok (.aload_n 1, 1) := by decide +kernel
theorem dX2_lessen_37 : decode cX2_lessen 37 = .ok (.getfield 49, 3) := by decide +kernel
theorem dX2_lessen_40 : decode cX2_lessen 40 = .ok (.iload 5, 2) := by decide +kernel
theorem dX2_lessen_42 : decode cX2_lessen 42 = .ok (.aload_n 0, 1) := by decide +kernel
theorem dX2_lessen_43 : decode cX2_lessen 43 = .ok (.getfield 41, 3) := by decide +kernel
theorem dX2_lessen_46 : decode cX2_lessen 46 = .ok (.aload_n 1, 1) := by decide +kernel
theorem dX2_lessen_47 : decode cX2_lessen 47 = .ok (.iload 5, 2) := by decide +kernel
theorem dX2_lessen_49 : decode cX2_lessen 49 = .ok (.invokevirtual 107, 3) := by decide +kernel
theorem dX2_lessen_52 : decode cX2_lessen 52 = .ok (.aload_n 0, 1) := by decide +kernel
theorem dX2_lessen_53 : decode cX2_lessen 53 = .ok (.getfield 14, 3) := by decide +kernel
theorem dX2_lessen_56 : decode cX2_lessen 56 = .ok (.iload 5, 2) := by decide +kernel
theorem dX2_lessen_58 : decode cX2_lessen 58 = .ok (.invokevirtual 107, 3) := by decide +kernel
theorem dX2_lessen_61 : decode cX2_lessen 61 = .ok (.lsub, 1) := by decide +kernel
theorem dX2_lessen_62 : decode cX2_lessen 62 = .ok (.invokevirtual 111, 3) := by decide +kernel
theorem dX2_lessen_65 : decode cX2_lessen 65 = .ok (.lastore, 1) := by decide +kernel
theorem dX2_lessen_66 : decode cX2_lessen 66 = .ok (.iinc 5 1, 3) := by decide +kernel
theorem dX2_lessen_69 : decode cX2_lessen 69 = .ok (.goto (-40), 3) := by decide +kernel
theorem dX2_lessen_72 : decode cX2_lessen 72 = .ok (.aload_n 1, 1) := by decide +kernel
theorem dX2_lessen_73 : decode cX2_lessen 73 = .ok (.iload 4, 2) := by decide +kernel
theorem dX2_lessen_75 : decode cX2_lessen 75 = .ok (.invokevirtual 70, 3) := by decide +kernel
theorem dX2_lessen_78 : decode cX2_lessen 78 = .ok (.return_, 1) := by decide +kernel
theorem dX2_multiplyBy_0 : decode cX2_multiplyBy 0 = .ok (.aload 4, 2) := by decide +kernel
theorem dX2_multiplyBy_2 : decode cX2_multiplyBy 2 = .ok (.aload_n 1, 1) := by decide +kernel
theorem dX2_multiplyBy_3 : decode cX2_multiplyBy 3 = .ok (.invokevirtual 62, 3) := by decide +kernel
theorem dX2_multiplyBy_6 : decode cX2_multiplyBy 6 = .ok (.iconst 0, 1) := by decide +kernel
theorem dX2_multiplyBy_7 : decode cX2_multiplyBy 7 = .ok (.istore 5, 2) := by decide +kernel
theorem dX2_multiplyBy_9 : decode cX2_multiplyBy 9 = .ok (.iload 5, 2) := by decide +kernel
theorem dX2_multiplyBy_11 : decode cX2_multiplyBy 11 = .ok (.aload 4, 2) := by decide +kernel
theorem dX2_multiplyBy_13 : decode cX2_multiplyBy 13 = .ok (.getfield 45, 3) := by decide +kernel
theorem dX2_multiplyBy_16 : decode cX2_multiplyBy 16 = .ok (.if_icmp .gt 34, 3) := by decide +kernel
theorem dX2_multiplyBy_19 : decode cX2_multiplyBy 19 = .ok (.aload 4, 2) := by decide +kernel
theorem dX2_multiplyBy_21 : decode cX2_multiplyBy 21 = .ok (.getfield 49, 3) := by decide +kernel
theorem dX2_multiplyBy_24 : decode cX2_multiplyBy 24 = .ok (.iload 5, 2) := by decide +kernel
theorem dX2_multiplyBy_26 : decode cX2_multiplyBy 26 = .ok (.aload_n 0, 1) := by decide +kernel
theorem dX2_multiplyBy_27 : decode cX2_multiplyBy 27 = .ok (.getfield 41, 3) := by decide +kernel
theorem dX2_multiplyBy_30 : decode cX2_multiplyBy 30 = .ok (.aload 4, 2) := by decide +kernel
theorem dX2_multiplyBy_32 : decode cX2_multiplyBy 32 = .ok (.getfield 49, 3) := by decide +kernel
theorem dX2_multiplyBy_35 : decode cX2_multiplyBy 35 = .ok (.iload 5, 2) := by decide +kernel
theorem dX2_multiplyBy_37 : decode cX2_multiplyBy 37 = .ok (.laload, 1) := by decide +kernel
theorem dX2_multiplyBy_38 : decode cX2_multiplyBy 38 = .ok (.lload_n 2, 1) := by decide +kernel
theorem dX2_multiplyBy_39 : decode cX2_multiplyBy 39 = .ok (.lmul, 1) := by decide +kernel
theorem dX2_multiplyBy_40 : decode cX2_multiplyBy 40 = .ok (.invokevirtual 111, 3) := by decide +kernel
theorem dX2_multiplyBy_43 : decode cX2_multiplyBy 43 = .ok (.lastore, 1) := by decide +kernel
theorem dX2_multiplyBy_44 : decode cX2_multiplyBy 44 = .ok (.iinc 5 1, 3) := by decide +kernel
theorem dX2_multiplyBy_47 : decode cX2_multiplyBy 47 = .ok (.goto (-38), 3) := by decide +kernel
theorem dX2_multiplyBy_50 : decode cX2_multiplyBy 50 = .ok (.return_, 1) := by decide +kernel
theorem dX2_multiplyModulo_0 : decode cX2_multiplyModulo 0 = .ok (.aload_n 0, 1) := by decide +kernel
theorem dX2_multiplyModulo_1 : decode cX2_multiplyModulo 1 = .ok (.aload_n 1, 1) := by decide +kernel
theorem dX2_multiplyModulo_2 : decode cX2_multiplyModulo 2 = .ok (.aload_n 2, 1) := by decide +kernel
theorem dX2_multiplyModulo_3 : decode cX2_multiplyModulo 3 = .ok (.aload_n 0, 1) := by decide +kernel
theorem dX2_multiplyModulo_4 : decode cX2_multiplyModulo 4 = .ok (.getfield 14, 3) := by decide +kernel
theorem dX2_multiplyModulo_7 : decode cX2_multiplyModulo 7 = .ok (.invokevirtual 53, 3) := by decide +kernel
theorem dX2_multiplyModulo_10 : decode cX2_multiplyModulo 10 = .ok (.aload_n 0, 1) := by decide +kernel
theorem dX2_multiplyModulo_11 : decode cX2_multiplyModulo 11 = .ok (.aload_n 0, 1) := by decide +kernel
theorem dX2_multiplyModulo_12 : decode cX2_multiplyModulo 12 = .ok (.getfield 14, 3) := by decide +kernel
theorem dX2_multiplyModulo_15 : decode cX2_multiplyModulo 15 = .ok (.aload_n 3, 1) := by decide +kernel
theorem dX2_multiplyModulo_16 : decode cX2_multiplyModulo 16 = .ok (.aload_n 0, 1) := by decide +kernel
theorem dX2_multiplyModulo_17 : decode cX2_multiplyModulo 17 = .ok (.getfield 20, 3) := by decide +kernel
theorem dX2_multiplyModulo_20 : decode cX2_multiplyModulo 20 = .ok (.invokevirtual 87, 3) := by decide +kernel
theorem dX2_multiplyModulo_23 : decode cX2_multiplyModulo 23 = .ok (.aload 4, 2) := by decide +kernel
theorem dX2_multiplyModulo_25 : decode cX2_multiplyModulo 25 = .ok (.aload_n 0, 1) := by decide +kernel
theorem dX2_multiplyModulo_26 : decode cX2_multiplyModulo 26 = .ok (.getfield 14, 3) := by decide +kernel
theorem dX2_multiplyModulo_29 : decode cX2_multiplyModulo 29 = .ok (.invokevirtual 62, 3) := by decide +kernel
theorem dX2_multiplyModulo_32 : decode cX2_multiplyModulo 32 = .ok (.return_, 1) := by decide +kernel
theorem dX2_powerModulo_0 : decode cX2_powerModulo 0 = .ok (.aload_n 0, 1) := by decide +kernel
theorem dX2_powerModulo_1 : decode cX2_powerModulo 1 = .ok (.getfield 38, 3) := by decide +kernel
theorem dX2_powerModulo_4 : decode cX2_powerModulo 4 = .ok (.aload 4, 2) := by decide +kernel
theorem dX2_powerModulo_6 : decode cX2_powerModulo 6 = .ok (.invokevirtual 62, 3) := by decide +kernel
theorem dX2_powerModulo_9 : decode cX2_powerModulo 9 = .ok (.aload_n 0, 1) := by decide +kernel
theorem dX2_powerModulo_10 : decode cX2_powerModulo 10 = .ok (.aload_n 0, 1) := by decide +kernel
theorem dX2_powerModulo_11 : decode cX2_powerModulo 11 = .ok (.getfield 38, 3) := by decide +kernel
theorem dX2_powerModulo_14 : decode cX2_powerModulo 14 = .ok (.invokevirtual 90, 3) := by decide +kernel
theorem dX2_powerModulo_17 : decode cX2_powerModulo 17 = .ok (.aload_n 0, 1) := by decide +kernel
theorem dX2_powerModulo_18 : decode cX2_powerModulo 18 = .ok (.getfield 35, 3) := by decide +kernel
theorem dX2_powerModulo_21 : decode cX2_powerModulo 21 = .ok (.aload_n 1, 1) := by decide +kernel
theorem dX2_powerModulo_22 : decode cX2_powerModulo 22 = .ok (.invokevirtual 62, 3) := by decide +kernel
theorem dX2_powerModulo_25 : decode cX2_powerModulo 25 = .ok (.aload_n 0, 1) := by decide +kernel
theorem dX2_powerModulo_26 : decode cX2_powerModulo 26 = .ok (.aload_n 0, 1) := by decide +kernel
theorem dX2_powerModulo_27 : decode cX2_powerModulo 27 = .ok (.getfield 35, 3) := by decide +kernel
theorem dX2_powerModulo_30 : decode cX2_powerModulo 30 = .ok (.aload_n 0, 1) := by decide +kernel
theorem dX2_powerModulo_31 : decode cX2_powerModulo 31 = .ok (.getfield 38, 3) := by decide +kernel
theorem dX2_powerModulo_34 : decode cX2_powerModulo 34 = .ok (.aload_n 0, 1) := by decide +kernel
theorem dX2_powerModulo_35 : decode cX2_powerModulo 35 = .ok (.getfield 20, 3) := by decide +kernel
theorem dX2_powerModulo_38 : decode cX2_powerModulo 38 = .ok (.invokevirtual 87, 3) := by decide +kernel
theorem dX2_powerModulo_41 : decode cX2_powerModulo 41 = .ok (.aload 5, 2) := by decide +kernel
theorem dX2_powerModulo_43 : decode cX2_powerModulo 43 = .ok (.lconst 1, 1) := by decide +kernel
theorem dX2_powerModulo_44 : decode cX2_powerModulo 44 = .ok (.invokevirtual 93, 3) := by decide +kernel
theorem dX2_powerModulo_47 : decode cX2_powerModulo 47 = .ok (.bipush 62, 2) := by decide +kernel
theorem dX2_powerModulo_49 : decode cX2_powerModulo 49 = .ok (.istore 6, 2) := by decide +kernel
theorem dX2_powerModulo_51 : decode cX2_powerModulo 51 = .ok (.iload 6, 2) := by decide +kernel
theorem dX2_powerModulo_53 : decode cX2_powerModulo 53 = .ok (.ifCond .lt 50, 3) := by decide +kernel
theorem dX2_powerModulo_56 : decode cX2_powerModulo 56 = .ok (.aload_n 0, 1) := by decide +kernel
theorem dX2_powerModulo_57 : decode cX2_powerModulo 57 = .ok (.aload 5, 2) := by decide +kernel
theorem dX2_powerModulo_59 : decode cX2_powerModulo 59 = .ok (.aload 5, 2) := by decide +kernel
theorem dX2_powerModulo_61 : decode cX2_powerModulo 61 = .ok (.aload_n 0, 1) := by decide +kernel
theorem dX2_powerModulo_62 : decode cX2_powerModulo 62 = .ok (.getfield 38, 3) := by decide +kernel
theorem dX2_powerModulo_65 : decode cX2_powerModulo 65 = .ok (.aload 5, 2) := by decide +kernel
theorem dX2_powerModulo_67 : decode cX2_powerModulo 67 = .ok (.invokevirtual 114, 3) := by decide +kernel
theorem dX2_powerModulo_70 : decode cX2_powerModulo 70 = .ok (.lload_n 2, 1) := by decide +kernel
theorem dX2_powerModulo_71 : decode cX2_powerModulo 71 = .ok (.iload 6, 2) := by decide +kernel
theorem dX2_powerModulo_73 : decode cX2_powerModulo 73 = .ok (.lshr, 1) := by decide +kernel
theorem dX2_powerModulo_74 : decode cX2_powerModulo 74 = .ok (.lconst 1, 1) := by decide +kernel
theorem dX2_powerModulo_75 : decode cX2_powerModulo 75 = .ok (.land, 1) := by decide +kernel
theorem dX2_powerModulo_76 : decode cX2_powerModulo 76 = .ok (.lconst 1, 1) := by decide +kernel
theorem dX2_powerModulo_77 : decode cX2_powerModulo 77 = .ok (.lcmp, 1) := by decide +kernel
theorem dX2_powerModulo_78 : decode cX2_powerModulo 78 = .ok (.ifCond .ne 19, 3) := by decide +kernel
theorem dX2_powerModulo_81 : decode cX2_powerModulo 81 = .ok (.aload_n 0, 1) := by decide +kernel
theorem dX2_powerModulo_82 : decode cX2_powerModulo 82 = .ok (.aload 5, 2) := by decide +kernel
theorem dX2_powerModulo_84 : decode cX2_powerModulo 84 = .ok (.aload_n 0, 1) := by decide +kernel
theorem dX2_powerModulo_85 : decode cX2_powerModulo 85 = .ok (.getfield 35, 3) := by decide +kernel
theorem dX2_powerModulo_88 : decode cX2_powerModulo 88 = .ok (.aload_n 0, 1) := by decide +kernel
theorem dX2_powerModulo_89 : decode cX2_powerModulo 89 = .ok (.getfield 38, 3) := by decide +kernel
theorem dX2_powerModulo_92 : decode cX2_powerModulo 92 = .ok (.aload 5, 2) := by decide +kernel
theorem dX2_powerModulo_94 : decode cX2_powerModulo 94 = .ok (.invokevirtual 114, 3) := by decide +kernel
theorem dX2_powerModulo_97 : decode cX2_powerModulo 97 = .ok (.iinc 6 (-1), 3) := by decide +kernel
theorem dX2_powerModulo_100 : decode cX2_powerModulo 100 = .ok (.goto (-49), 3) := by decide +kernel
theorem dX2_powerModulo_103 : decode cX2_powerModulo 103 = .ok (.return_, 1) := by decide +kernel
theorem dX2_derive_0 : decode cX2_derive 0 = .ok (.iconst 1, 1) := by decide +kernel
theorem dX2_derive_1 : decode cX2_derive 1 = .ok (.istore_n 3, 1) := by decide +kernel
theorem dX2_derive_2 : decode cX2_derive 2 = .ok (.iload_n 3, 1) := by decide +kernel
theorem dX2_derive_3 : decode cX2_derive 3 = .ok (.aload_n 1, 1) := by decide +kernel
theorem dX2_derive_4 : decode cX2_derive 4 = .ok (.getfield 45, 3) := by decide +kernel
theorem dX2_derive_7 : decode cX2_derive 7 = .ok (.if_icmp .gt 35, 3) := by decide +kernel
theorem dX2_derive_10 : decode cX2_derive 10 = .ok (.aload_n 2, 1) := by decide +kernel
theorem dX2_derive_11 : decode cX2_derive 11 = .ok (.getfield 49, 3) := by decide +kernel
theorem dX2_derive_14 : decode cX2_derive 14 = .ok (.iload_n 3, 1) := by decide +kernel
theorem dX2_derive_15 : decode cX2_derive 15 = .ok (.iconst 1, 1) := by decide +kernel
theorem dX2_derive_16 : decode cX2_derive 16 = .ok (.isub, 1) := by decide +kernel
theorem dX2_derive_17 : decode cX2_derive 17 = .ok (.aload_n 1, 1) := by decide +kernel
theorem dX2_derive_18 : decode cX2_derive 18 = .ok (.getfield 49, 3) := by decide +kernel
theorem dX2_derive_21 : decode cX2_derive 21 = .ok (.iload_n 3, 1) := by decide +kernel
theorem dX2_derive_22 : decode cX2_derive 22 = .ok (.laload, 1) := by decide +kernel
theorem dX2_derive_23 : decode cX2_derive 23 = .ok (.iload_n 3, 1) := by decide +kernel
theorem dX2_derive_24 : decode cX2_derive 24 = .ok (.i2l, 1) := by decide +kernel
theorem dX2_derive_25 : decode cX2_derive 25 = .ok (.lmul, 1) := by decide +kernel
theorem dX2_derive_26 : decode cX2_derive 26 = .ok (.aload_n 0, 1) := by decide +kernel
theorem dX2_derive_27 : decode cX2_derive 27 = .ok (.getfield 41, 3) := by decide +kernel
theorem dX2_derive_30 : decode cX2_derive 30 = .ok (.getfield 57, 3) := by decide +kernel
theorem dX2_derive_33 : decode cX2_derive 33 = .ok (.i2l, 1) := by decide +kernel
theorem dX2_derive_34 : decode cX2_derive 34 = .ok (.lrem, 1) := by decide +kernel
theorem dX2_derive_35 : decode cX2_derive 35 = .ok (.lastore, 1) := by decide +kernel
theorem dX2_derive_36 : decode cX2_derive 36 = .ok (.iinc 3 1, 3) := by decide +kernel
theorem dX2_derive_39 : decode cX2_derive 39 = .ok (.goto (-37), 3) := by decide +kernel
theorem dX2_derive_42 : decode cX2_derive 42 = .ok (.aload_n 2, 1) := by decide +kernel
theorem dX2_derive_43 : decode cX2_derive 43 = .ok (.aload_n 1, 1) := by decide +kernel
theorem dX2_derive_44 : decode cX2_derive 44 = .ok (.getfield 45, 3) := by decide +kernel
theorem dX2_derive_47 : decode cX2_derive 47 = .ok (.iconst 1, 1) := by decide +kernel
theorem dX2_derive_48 : decode cX2_derive 48 = .ok (.isub, 1) := by decide +kernel
theorem dX2_derive_49 : decode cX2_derive 49 = .ok (.invokevirtual 70, 3) := by decide +kernel
theorem dX2_derive_52 : decode cX2_derive 52 = .ok (.return_, 1) := by decide +kernel
theorem dX2_resultant_0 : decode cX2_resultant 0 = .ok (.aload_n 0, 1) := by decide +kernel
theorem dX2_resultant_1 : decode cX2_resultant 1 = .ok (.getfield 23, 3) := by decide +kernel
theorem dX2_resultant_4 : decode cX2_resultant 4 = .ok (.astore_n 3, 1) := by decide +kernel
theorem dX2_resultant_5 : decode cX2_resultant 5 = .ok (.aload_n 0, 1) := by decide +kernel
theorem dX2_resultant_6 : decode cX2_resultant 6 = .ok (.getfield 26, 3) := by decide +kernel
theorem dX2_resultant_9 : decode cX2_resultant 9 = .ok (.astore 4, 2) := by decide +kernel
theorem dX2_resultant_11 : decode cX2_resultant 11 = .ok (.aload_n 3, 1) := by decide +kernel
theorem dX2_resultant_12 : decode cX2_resultant 12 = .ok (.aload_n 1, 1) := by decide +kernel
theorem dX2_resultant_13 : decode cX2_resultant 13 = .ok (.invokevirtual 62, 3) := by decide +kernel
theorem dX2_resultant_16 : decode cX2_resultant 16 = .ok (.aload 4, 2) := by decide +kernel
theorem dX2_resultant_18 : decode cX2_resultant 18 = .ok (.aload_n 2, 1) := by decide +kernel
theorem dX2_resultant_19 : decode cX2_resultant 19 = .ok (.invokevirtual 62, 3) := by decide +kernel
theorem dX2_resultant_22 : decode cX2_resultant 22 = .ok (.lconst 1, 1) := by decide +kernel
theorem dX2_resultant_23 : decode cX2_resultant 23 = .ok (.lstore 5, 2) := by decide +kernel
theorem dX2_resultant_25 : decode cX2_resultant 25 = .ok (.iconst 0, 1) := by decide +kernel
theorem dX2_resultant_26 : decode cX2_resultant 26 = .ok (.istore 7, 2) := by decide +kernel
theorem dX2_resultant_28 : decode cX2_resultant 28 = .ok (.iload 7, 2) := by decide +kernel
theorem dX2_resultant_30 : decode cX2_resultant 30 = .ok (.bipush 84, 2) := by decide +kernel
theorem dX2_resultant_32 : decode cX2_resultant 32 = .ok (.if_icmp .gt 110, 3) := by decide +kernel
theorem dX2_resultant_35 : decode cX2_resultant 35 = .ok (.aload 4, 2) := by decide +kernel
theorem dX2_resultant_37 : decode cX2_resultant 37 = .ok (.getfield 45, 3) := by decide +kernel
theorem dX2_resultant_40 : decode cX2_resultant 40 = .ok (.ifCond .le 102, 3) := by decide +kernel
theorem dX2_resultant_43 : decode cX2_resultant 43 = .ok (.aload_n 3, 1) := by decide +kernel
theorem dX2_resultant_44 : decode cX2_resultant 44 = .ok (.getfield 45, 3) := by decide +kernel
theorem dX2_resultant_47 : decode cX2_resultant 47 = .ok (.istore 8, 2) := by decide +kernel
theorem dX2_resultant_49 : decode cX2_resultant 49 = .ok (.iload 8, 2) := by decide +kernel
theorem dX2_resultant_51 : decode cX2_resultant 51 = .ok (.aload 4, 2) := by decide +kernel
theorem dX2_resultant_53 : decode cX2_resultant 53 = .ok (.getfield 45, 3) := by decide +kernel
theorem dX2_resultant_56 : decode cX2_resultant 56 = .ok (.iand, 1) := by decide +kernel
theorem dX2_resultant_57 : decode cX2_resultant 57 = .ok (.iconst 1, 1) := by decide +kernel
theorem dX2_resultant_58 : decode cX2_resultant 58 = .ok (.iand, 1) := by decide +kernel
theorem dX2_resultant_59 : decode cX2_resultant 59 = .ok (.iconst 1, 1) := by decide +kernel
theorem dX2_resultant_60 : decode cX2_resultant 60 = .ok (.if_icmp .ne 15, 3) := by decide +kernel
theorem dX2_resultant_63 : decode cX2_resultant 63 = .ok (.aload_n 0, 1) := by decide +kernel
theorem dX2_resultant_64 : decode cX2_resultant 64 = .ok (.getfield 41, 3) := by decide +kernel
theorem dX2_resultant_67 : decode cX2_resultant 67 = .ok (.lload 5, 2) := by decide +kernel
theorem dX2_resultant_69 : decode cX2_resultant 69 = .ok (.lneg, 1) := by decide +kernel
theorem dX2_resultant_70 : decode cX2_resultant 70 = .ok (.invokevirtual 111, 3) := by decide +kernel
theorem dX2_resultant_73 : decode cX2_resultant 73 = .ok (.lstore 5, 2) := by decide +kernel
theorem dX2_resultant_75 : decode cX2_resultant 75 = .ok (.aload_n 0, 1) := by decide +kernel
theorem dX2_resultant_76 : decode cX2_resultant 76 = .ok (.aload_n 3, 1) := by decide +kernel
theorem dX2_resultant_77 : decode cX2_resultant 77 = .ok (.aload 4, 2) := by decide +kernel
theorem dX2_resultant_79 : decode cX2_resultant 79 = .ok (.aload_n 0, 1) := by decide +kernel
theorem dX2_resultant_80 : decode cX2_resultant 80 = .ok (.getfield 20, 3) := by decide +kernel
theorem dX2_resultant_83 : decode cX2_resultant 83 = .ok (.invokevirtual 87, 3) := by decide +kernel
theorem dX2_resultant_86 : decode cX2_resultant 86 = .ok (.aload_n 3, 1) := by decide +kernel
theorem dX2_resultant_87 : decode cX2_resultant 87 = .ok (.getfield 45, 3) := by decide +kernel
theorem dX2_resultant_90 : decode cX2_resultant 90 = .ok (.ifCond .ge 5, 3) := by decide +kernel
theorem dX2_resultant_93 : decode cX2_resultant 93 = .ok (.lconst 0, 1) := by decide +kernel
theorem dX2_resultant_94 : decode cX2_resultant 94 = .ok (.lreturn, 1) := by decide +kernel
theorem dX2_resultant_95 : decode cX2_resultant 95 = .ok (.aload_n 0, 1) := by decide +kernel
theorem dX2_resultant_96 : decode cX2_resultant 96 = .ok (.getfield 41, 3) := by decide +kernel
theorem dX2_resultant_99 : decode cX2_resultant 99 = .ok (.lload 5, 2) := by decide +kernel
theorem dX2_resultant_101 : decode cX2_resultant 101 = .ok (.aload_n 0, 1) := by decide +kernel
theorem dX2_resultant_102 : decode cX2_resultant 102 = .ok (.getfield 41, 3) := by decide +kernel
theorem dX2_resultant_105 : decode cX2_resultant 105 = .ok (.aload 4, 2) := by decide +kernel
theorem dX2_resultant_107 : decode cX2_resultant 107 = .ok (.invokevirtual 79, 3) := by decide +kernel
theorem dX2_resultant_110 : decode cX2_resultant 110 = .ok (.iload 8, 2) := by decide +kernel
theorem dX2_resultant_112 : decode cX2_resultant 112 = .ok (.aload_n 3, 1) := by decide +kernel
theorem dX2_resultant_113 : decode cX2_resultant 113 = .ok (.getfield 45, 3) := by decide +kernel
theorem dX2_resultant_116 : decode cX2_resultant 116 = .ok (.isub, 1) := by decide +kernel
theorem dX2_resultant_117 : decode cX2_resultant 117 = .ok (.invokevirtual 66, 3) := by decide +kernel
theorem dX2_resultant_120 : decode cX2_resultant 120 = .ok (.lmul, 1) := by decide +kernel
theorem dX2_resultant_121 : decode cX2_resultant 121 = .ok (.invokevirtual 111, 3) := by decide +kernel
theorem dX2_resultant_124 : decode cX2_resultant 124 = .ok (.lstore 5, 2) := by decide +kernel
theorem dX2_resultant_126 : decode cX2_resultant 126 = .ok (.aload_n 3, 1) := by decide +kernel
theorem dX2_resultant_127 : decode cX2_resultant 127 = .ok (.astore 9, 2) := by decide +kernel
theorem dX2_resultant_129 : decode cX2_resultant 129 = .ok (.aload 4, 2) := by decide +kernel
theorem dX2_resultant_131 : decode cX2_resultant 131 = .ok (.astore_n 3, 1) := by decide +kernel
theorem dX2_resultant_132 : decode cX2_resultant 132 = .ok (.aload 9, 2) := by decide +kernel
theorem dX2_resultant_134 : decode cX2_resultant 134 = .ok (.astore 4, 2) := by decide +kernel
theorem dX2_resultant_136 : decode cX2_resultant 136 = .ok (.iinc 7 1, 3) := by decide +kernel
theorem dX2_resultant_139 : decode cX2_resultant 139 = .ok (.goto (-111), 3) := by decide +kernel
theorem dX2_resultant_142 : decode cX2_resultant 142 = .ok (.aload_n 0, 1) := by decide +kernel
theorem dX2_resultant_143 : decode cX2_resultant 143 = .ok (.getfield 41, 3) := by decide +kernel
theorem dX2_resultant_146 : decode cX2_resultant 146 = .ok (.lload 5, 2) := by decide +kernel
theorem dX2_resultant_148 : decode cX2_resultant 148 = .ok (.aload_n 0, 1) := by decide +kernel
theorem dX2_resultant_149 : decode cX2_resultant 149 = .ok (.getfield 41, 3) := by decide +kernel
theorem dX2_resultant_152 : decode cX2_resultant 152 = .ok (.aload 4, 2) := by decide +kernel
theorem dX2_resultant_154 : decode cX2_resultant 154 = .ok (.invokevirtual 79, 3) := by decide +kernel
theorem dX2_resultant_157 : decode cX2_resultant 157 = .ok (.aload_n 3, 1) := by decide +kernel
theorem dX2_resultant_158 : decode cX2_resultant 158 = .ok (.getfield 45, 3) := by decide +kernel
theorem dX2_resultant_161 : decode cX2_resultant 161 = .ok (.invokevirtual 66, 3) := by decide +kernel
theorem dX2_resultant_164 : decode cX2_resultant 164 = .ok (.lmul, 1) := by decide +kernel
theorem dX2_resultant_165 : decode cX2_resultant 165 = .ok (.invokevirtual 111, 3) := by decide +kernel
theorem dX2_resultant_168 : decode cX2_resultant 168 = .ok (.lreturn, 1) := by decide +kernel
theorem dX3_valueOf_0 : decode cX3_valueOf 0 = .ok (.lconst 0, 1) := by decide +kernel
theorem dX3_valueOf_1 : decode cX3_valueOf 1 = .ok (.lstore 4, 2) := by decide +kernel
theorem dX3_valueOf_3 : decode cX3_valueOf 3 = .ok (.aload_n 1, 1) := by decide +kernel
theorem dX3_valueOf_4 : decode cX3_valueOf 4 = .ok (.getfield 45, 3) := by decide +kernel
theorem dX3_valueOf_7 : decode cX3_valueOf 7 = .ok (.istore 6, 2) := by decide +kernel
theorem dX3_valueOf_9 : decode cX3_valueOf 9 = .ok (.iload 6, 2) := by decide +kernel
theorem dX3_valueOf_11 : decode cX3_valueOf 11 = .ok (.ifCond .lt 30, 3) := by decide +kernel
theorem dX3_valueOf_14 : decode cX3_valueOf 14 = .ok (.aload_n 0, 1) := by decide +kernel
theorem dX3_valueOf_15 : decode cX3_valueOf 15 = .ok (.getfield 18, 3) := by decide +kernel
theorem dX3_valueOf_18 : decode cX3_valueOf 18 = .ok (.lload 4, 2) := by decide +kernel
theorem dX3_valueOf_20 : decode cX3_valueOf 20 = .ok (.lload_n 2, 1) := by decide +kernel
theorem dX3_valueOf_21 : decode cX3_valueOf 21 = .ok (.lmul, 1) := by decide +kernel
theorem dX3_valueOf_22 : decode cX3_valueOf 22 = .ok (.aload_n 1, 1) := by decide +kernel
theorem dX3_valueOf_23 : decode cX3_valueOf 23 = .ok (.getfield 48, 3) := by decide +kernel
theorem dX3_valueOf_26 : decode cX3_valueOf 26 = .ok (.iload 6, 2) := by decide +kernel
theorem dX3_valueOf_28 : decode cX3_valueOf 28 = .ok (.laload, 1) := by decide +kernel
theorem dX3_valueOf_29 : decode cX3_valueOf 29 = .ok (.ladd, 1) := by decide +kernel
theorem dX3_valueOf_30 : decode cX3_valueOf 30 = .ok (.invokevirtual 36, 3) := by decide +kernel
theorem dX3_valueOf_33 : decode cX3_valueOf 33 = .ok (.lstore 4, 2) := by decide +kernel
theorem dX3_valueOf_35 : decode cX3_valueOf 35 = .ok (.iinc 6 (-1), 3) := by decide +kernel
theorem dX3_valueOf_38 : decode cX3_valueOf 38 = .ok (.goto (-29), 3) := by decide +kernel
theorem dX3_valueOf_41 : decode cX3_valueOf 41 = .ok (.lload 4, 2) := by decide +kernel
theorem dX3_valueOf_43 : decode cX3_valueOf 43 = .ok (.lreturn, 1) := by decide +kernel
theorem dX3_multiplyByLine_0 : decode cX3_multiplyByLine 0 = .ok (.aload_n 1, 1) := by decide +kernel
theorem dX3_multiplyByLine_1 : decode cX3_multiplyByLine 1 = .ok (.getfield 45, 3) := by decide +kernel
theorem dX3_multiplyByLine_4 : decode cX3_multiplyByLine 4 = .ok (.iconst 1, 1) := by decide +kernel
theorem dX3_multiplyByLine_5 : decode cX3_multiplyByLine 5 = .ok (.iadd, 1) := by decide +kernel
theorem dX3_multiplyByLine_6 : decode cX3_multiplyByLine 6 = .ok (.istore 4, 2) := by decide +kernel
theorem dX3_multiplyByLine_8 : decode cX3_multiplyByLine 8 = .ok (.iload 4, 2) := by decide +kernel
theorem dX3_multiplyByLine_10 : decode cX3_multiplyByLine 10 = .ok (.istore 5, 2) := by decide +kernel
theorem dX3_multiplyByLine_12 : decode cX3_multiplyByLine 12 = .ok (.iload 5, 2) := by decide +kernel
theorem dX3_multiplyByLine_14 : decode cX3_multiplyByLine 14 = .ok (.ifCond .lt 54, 3) := by decide +kernel
theorem dX3_multiplyByLine_17 : decode cX3_multiplyByLine 17 = .ok (.iload 5, 2) := by decide +kernel
theorem dX3_multiplyByLine_19 : decode cX3_multiplyByLine 19 = .ok (.ifCond .le 15, 3) := by decide +kernel
theorem dX3_multiplyByLine_22 : decode cX3_multiplyByLine 22 = .ok (.aload_n 1, 1) := by decide +kernel
theorem dX3_multiplyByLine_23 : decode cX3_multiplyByLine 23 = .ok (.getfield 48, 3) := by decide +kernel
theorem dX3_multiplyByLine_26 : decode cX3_multiplyByLine 26 = .ok (.iload 5, 2) := by decide +kernel
theorem dX3_multiplyByLine_28 : decode cX3_multiplyByLine 28 = .ok (.iconst 1, 1) := by decide +kernel
theorem dX3_multiplyByLine_29 : decode cX3_multiplyByLine 29 = .ok (.isub, 1) := by decide +kernel
theorem dX3_multiplyByLine_30 : decode cX3_multiplyByLine 30 = .ok (.laload, 1) := by decide +kernel
theorem dX3_multiplyByLine_31 : decode cX3_multiplyByLine 31 = .ok (.goto 4, 3) := by decide +kernel
theorem dX3_multiplyByLine_34 : decode cX3_multiplyByLine 34 = .ok (.lconst 0, 1) := by decide +kernel
theorem dX3_multiplyByLine_35 : decode cX3_multiplyByLine 35 = .ok (.lstore 6, 2) := by decide +kernel
theorem dX3_multiplyByLine_37 : decode cX3_multiplyByLine 37 = .ok (.aload_n 1, 1) := by decide +kernel
theorem dX3_multiplyByLine_38 : decode cX3_multiplyByLine 38 = .ok (.getfield 48, 3) := by decide +kernel
theorem dX3_multiplyByLine_41 : decode cX3_multiplyByLine 41 = .ok (.iload 5, 2) := by decide +kernel
theorem dX3_multiplyByLine_43 : decode cX3_multiplyByLine 43 = .ok (.aload_n 0, 1) := by decide +kernel
theorem dX3_multiplyByLine_44 : decode cX3_multiplyByLine 44 = .ok (.getfield 18, 3) := by decide +kernel
theorem dX3_multiplyByLine_47 : decode cX3_multiplyByLine 47 = .ok (.lload 6, 2) := by decide +kernel
theorem dX3_multiplyByLine_49 : decode cX3_multiplyByLine 49 = .ok (.lload_n 2, 1) := by decide +kernel
theorem dX3_multiplyByLine_50 : decode cX3_multiplyByLine 50 = .ok (.aload_n 1, 1) := by decide +kernel
theorem dX3_multiplyByLine_51 : decode cX3_multiplyByLine 51 = .ok (.iload 5, 2) := by decide +kernel
theorem dX3_multiplyByLine_53 : decode cX3_multiplyByLine 53 = .ok (.invokevirtual 51, 3) := by decide +kernel
theorem dX3_multiplyByLine_56 : decode cX3_multiplyByLine 56 = .ok (.lmul, 1) := by decide +kernel
theorem dX3_multiplyByLine_57 : decode cX3_multiplyByLine 57 = .ok (.lsub, 1) := by decide +kernel
theorem dX3_multiplyByLine_58 : decode cX3_multiplyByLine 58 = .ok (.invokevirtual 36, 3) := by decide +kernel
theorem dX3_multiplyByLine_61 : decode cX3_multiplyByLine 61 = .ok (.lastore, 1) := by decide +kernel
theorem dX3_multiplyByLine_62 : decode cX3_multiplyByLine 62 = .ok (.iinc 5 (-1), 3) := by decide +kernel
theorem dX3_multiplyByLine_65 : decode cX3_multiplyByLine 65 = .ok (.goto (-53), 3) := by decide +kernel
theorem dX3_multiplyByLine_68 : decode cX3_multiplyByLine 68 = .ok (.aload_n 1, 1) := by decide +kernel
theorem dX3_multiplyByLine_69 : decode cX3_multiplyByLine 69 = .ok (.iload 4, 2) := by decide +kernel
theorem dX3_multiplyByLine_71 : decode cX3_multiplyByLine 71 = .ok (.putfield 45, 3) := by decide +kernel
theorem dX3_multiplyByLine_74 : decode cX3_multiplyByLine 74 = .ok (.return_, 1) := by decide +kernel
theorem dX4_isPlain_0 : decode cX4_isPlain 0 = .ok (.aload_n 0, 1) := by decide +kernel
theorem dX4_isPlain_1 : decode cX4_isPlain 1 = .ok (.getfield 19, 3) := by decide +kernel
theorem dX4_isPlain_4 : decode cX4_isPlain 4 = .ok (.iconst 1, 1) := by decide +kernel
theorem dX4_isPlain_5 : decode cX4_isPlain 5 = .ok (.if_icmp .ge 7, 3) := by decide +kernel
theorem dX4_isPlain_8 : decode cX4_isPlain 8 = .ok (.iconst 1, 1) := by decide +kernel
theorem dX4_isPlain_9 : decode cX4_isPlain 9 = .ok (.goto 4, 3) := by decide +kernel
theorem dX4_isPlain_12 : decode cX4_isPlain 12 = .ok (.iconst 0, 1) := by decide +kernel
theorem dX4_isPlain_13 : decode cX4_isPlain 13 = .ok (.ireturn, 1) := by decide +kernel
theorem dX4_isLike_0 : decode cX4_isLike 0 = .ok (.iconst 0, 1) := by decide +kernel
theorem dX4_isLike_1 : decode cX4_isLike 1 = .ok (.istore_n 2, 1) := by decide +kernel
theorem dX4_isLike_2 : decode cX4_isLike 2 = .ok (.iload_n 2, 1) := by decide +kernel
theorem dX4_isLike_3 : decode cX4_isLike 3 = .ok (.sipush 287, 3) := by decide +kernel
theorem dX4_isLike_6 : decode cX4_isLike 6 = .ok (.if_icmp .ge 27, 3) := by decide +kernel
theorem dX4_isLike_9 : decode cX4_isLike 9 = .ok (.aload_n 0, 1) := by decide +kernel
theorem dX4_isLike_10 : decode cX4_isLike 10 = .ok (.getfield 9, 3) := by decide +kernel
theorem dX4_isLike_13 : decode cX4_isLike 13 = .ok (.iload_n 2, 1) := by decide +kernel
theorem dX4_isLike_14 : decode cX4_isLike 14 = .ok (.laload, 1) := by decide +kernel
theorem dX4_isLike_15 : decode cX4_isLike 15 = .ok (.aload_n 1, 1) := by decide +kernel
theorem dX4_isLike_16 : decode cX4_isLike 16 = .ok (.getfield 9, 3) := by decide +kernel
theorem dX4_isLike_19 : decode cX4_isLike 19 = .ok (.iload_n 2, 1) := by decide +kernel
theorem dX4_isLike_20 : decode cX4_isLike 20 = .ok (.laload, 1) := by decide +kernel
theorem dX4_isLike_21 : decode cX4_isLike 21 = .ok (.lcmp, 1) := by decide +kernel
theorem dX4_isLike_22 : decode cX4_isLike 22 = .ok (.ifCond .eq 5, 3) := by decide +kernel
theorem dX4_isLike_25 : decode cX4_isLike 25 = .ok (.iconst 0, 1) := by decide +kernel
theorem dX4_isLike_26 : decode cX4_isLike 26 = .ok (.ireturn, 1) := by decide +kernel
theorem dX4_isLike_27 : decode cX4_isLike 27 = .ok (.iinc 2 1, 3) := by decide +kernel
theorem dX4_isLike_30 : decode cX4_isLike 30 = .ok (.goto (-28), 3) := by decide +kernel
theorem dX4_isLike_33 : decode cX4_isLike 33 = .ok (.iconst 1, 1) := by decide +kernel
theorem dX4_isLike_34 : decode cX4_isLike 34 = .ok (.ireturn, 1) := by decide +kernel
theorem dX4_toRow_0 : decode cX4_toRow 0 = .ok (.aload_n 0, 1) := by decide +kernel
theorem dX4_toRow_1 : decode cX4_toRow 1 = .ok (.iconst 0, 1) := by decide +kernel
theorem dX4_toRow_2 : decode cX4_toRow 2 = .ok (.aload_n 1, 1) := by decide +kernel
theorem dX4_toRow_3 : decode cX4_toRow 3 = .ok (.invokevirtual 34, 3) := by decide +kernel
theorem dX4_toRow_6 : decode cX4_toRow 6 = .ok (.return_, 1) := by decide +kernel
theorem dX4_sliceTo_0 : decode cX4_sliceTo 0 = .ok (.iconst 0, 1) := by decide +kernel
theorem dX4_sliceTo_1 : decode cX4_sliceTo 1 = .ok (.istore_n 3, 1) := by decide +kernel
theorem dX4_sliceTo_2 : decode cX4_sliceTo 2 = .ok (.iload_n 3, 1) := by decide +kernel
theorem dX4_sliceTo_3 : decode cX4_sliceTo 3 = .ok (.bipush 41, 2) := by decide +kernel
theorem dX4_sliceTo_5 : decode cX4_sliceTo 5 = .ok (.if_icmp .ge 26, 3) := by decide +kernel
theorem dX4_sliceTo_8 : decode cX4_sliceTo 8 = .ok (.aload_n 2, 1) := by decide +kernel
theorem dX4_sliceTo_9 : decode cX4_sliceTo 9 = .ok (.getfield 38, 3) := by decide +kernel
theorem dX4_sliceTo_12 : decode cX4_sliceTo 12 = .ok (.iload_n 3, 1) := by decide +kernel
theorem dX4_sliceTo_13 : decode cX4_sliceTo 13 = .ok (.aload_n 0, 1) := by decide +kernel
theorem dX4_sliceTo_14 : decode cX4_sliceTo 14 = .ok (.getfield 9, 3) := by decide +kernel
theorem dX4_sliceTo_17 : decode cX4_sliceTo 17 = .ok (.iload_n 1, 1) := by decide +kernel
theorem dX4_sliceTo_18 : decode cX4_sliceTo 18 = .ok (.bipush 41, 2) := by decide +kernel
theorem dX4_sliceTo_20 : decode cX4_sliceTo 20 = .ok (.imul, 1) := by decide +kernel
theorem dX4_sliceTo_21 : decode cX4_sliceTo 21 = .ok (.iload_n 3, 1) := by decide +kernel
theorem dX4_sliceTo_22 : decode cX4_sliceTo 22 = .ok (.iadd, 1) := by decide +kernel
theorem dX4_sliceTo_23 : decode cX4_sliceTo 23 = .ok (.laload, 1) := by decide +kernel
theorem dX4_sliceTo_24 : decode cX4_sliceTo 24 = .ok (.lastore, 1) := by decide +kernel
theorem dX4_sliceTo_25 : decode cX4_sliceTo 25 = .ok (.iinc 3 1, 3) := by decide +kernel
theorem dX4_sliceTo_28 : decode cX4_sliceTo 28 = .ok (.goto (-26), 3) := by decide +kernel
theorem dX4_sliceTo_31 : decode cX4_sliceTo 31 = .ok (.aload_n 2, 1) := by decide +kernel
theorem dX4_sliceTo_32 : decode cX4_sliceTo 32 = .ok (.bipush 40, 2) := by decide +kernel
theorem dX4_sliceTo_34 : decode cX4_sliceTo 34 = .ok (.invokevirtual 41, 3) := by decide +kernel
theorem dX4_sliceTo_37 : decode cX4_sliceTo 37 = .ok (.return_, 1) := by decide +kernel
theorem dX5_in_0 : decode cX5_in 0 = .ok (.iconst 0, 1) := by decide +kernel
theorem dX5_in_1 : decode cX5_in 1 = .ok (.iload_n 1, 1) := by decide +kernel
theorem dX5_in_2 : decode cX5_in 2 = .ok (.aload_n 0, 1) := by decide +kernel
theorem dX5_in_3 : decode cX5_in 3 = .ok (.arraylength, 1) := by decide +kernel
theorem dX5_in_4 : decode cX5_in 4 = .ok (.iconst 1, 1) := by decide +kernel
theorem dX5_in_5 : decode cX5_in 5 = .ok (.isub, 1) := by decide +kernel
theorem dX5_in_6 : decode cX5_in 6 = .ok (.invokestatic 19, 3) := by decide +kernel
theorem dX5_in_9 : decode cX5_in 9 = .ok (.invokestatic 25, 3) := by decide +kernel
theorem dX5_in_12 : decode cX5_in 12 = .ok (.istore_n 2, 1) := by decide +kernel
theorem dX5_in_13 : decode cX5_in 13 = .ok (.aload_n 0, 1) := by decide +kernel
theorem dX5_in_14 : decode cX5_in 14 = .ok (.iload_n 2, 1) := by decide +kernel
theorem dX5_in_15 : decode cX5_in 15 = .ok (.aaload, 1) := by decide +kernel
theorem dX5_in_16 : decode cX5_in 16 = .ok (.ifnonnull 15, 3) := by decide +kernel
theorem dX5_in_19 : decode cX5_in 19 = .ok (.aload_n 0, 1) := by decide +kernel
theorem dX5_in_20 : decode cX5_in 20 = .ok (.iload_n 2, 1) := by decide +kernel
theorem dX5_in_21 : decode cX5_in 21 = .ok (.new 10, 3) := by decide +kernel
theorem dX5_in_24 : decode cX5_in 24 = .ok (.dup, 1) := by decide +kernel
theorem dX5_in_25 : decode cX5_in 25 = .ok (.bipush 84, 2) := by decide +kernel
theorem dX5_in_27 : decode cX5_in 27 = .ok (.invokespecial 28, 3) := by decide +kernel
theorem dX5_in_30 : decode cX5_in 30 = .ok (.aastore, 1) := by decide +kernel
theorem dX5_in_31 : decode cX5_in 31 = .ok (.aload_n 0, 1) := by decide +kernel
theorem dX5_in_32 : decode cX5_in 32 = .ok (.iload_n 2, 1) := by decide +kernel
theorem dX5_in_33 : decode cX5_in 33 = .ok (.aaload, 1) := by decide +kernel
theorem dX5_in_34 : decode cX5_in 34 = .ok (.areturn, 1) := by decide +kernel
theorem dX6_init_0 : decode cX6_init 0 = .ok (.aload_n 0, 1) := by decide +kernel
theorem dX6_init_1 : decode cX6_init 1 = .ok (.invokespecial 3, 3) := by decide +kernel
theorem dX6_init_4 : decode cX6_init 4 = .ok (.aload_n 0, 1) := by decide +kernel
theorem dX6_init_5 : decode cX6_init 5 = .ok (.sipush 1600, 3) := by decide +kernel
theorem dX6_init_8 : decode cX6_init 8 = .ok (.newarray .long, 2) := by decide +kernel
theorem dX6_init_10 : decode cX6_init 10 = .ok (.putfield 9, 3) := by decide +kernel
theorem dX6_init_13 : decode cX6_init 13 = .ok (.aload_n 0, 1) := by decide +kernel
theorem dX6_init_14 : decode cX6_init 14 = .ok (.bipush 40, 2) := by decide +kernel
theorem dX6_init_16 : decode cX6_init 16 = .ok (.newarray .int, 2) := by decide +kernel
theorem dX6_init_18 : decode cX6_init 18 = .ok (.putfield 15, 3) := by decide +kernel
theorem dX6_init_21 : decode cX6_init 21 = .ok (.aload_n 0, 1) := by decide +kernel
theorem dX6_init_22 : decode cX6_init 22 = .ok (.new 19, 3) := by decide +kernel
theorem dX6_init_25 : decode cX6_init 25 = .ok (.dup, 1) := by decide +kernel
theorem dX6_init_26 : decode cX6_init 26 = .ok (.bipush 84, 2) := by decide +kernel
theorem dX6_init_28 : decode cX6_init 28 = .ok (.invokespecial 21, 3) := by decide +kernel
theorem dX6_init_31 : decode cX6_init 31 = .ok (.putfield 24, 3) := by decide +kernel
theorem dX6_init_34 : decode cX6_init 34 = .ok (.aload_n 0, 1) := by decide +kernel
theorem dX6_init_35 : decode cX6_init 35 = .ok (.new 19, 3) := by decide +kernel
theorem dX6_init_38 : decode cX6_init 38 = .ok (.dup, 1) := by decide +kernel
theorem dX6_init_39 : decode cX6_init 39 = .ok (.bipush 84, 2) := by decide +kernel
theorem dX6_init_41 : decode cX6_init 41 = .ok (.invokespecial 21, 3) := by decide +kernel
theorem dX6_init_44 : decode cX6_init 44 = .ok (.putfield 28, 3) := by decide +kernel
theorem dX6_init_47 : decode cX6_init 47 = .ok (.aload_n 0, 1) := by decide +kernel
theorem dX6_init_48 : decode cX6_init 48 = .ok (.new 19, 3) := by decide +kernel
theorem dX6_init_51 : decode cX6_init 51 = .ok (.dup, 1) := by decide +kernel
theorem dX6_init_52 : decode cX6_init 52 = .ok (.bipush 84, 2) := by decide +kernel
theorem dX6_init_54 : decode cX6_init 54 = .ok (.invokespecial 21, 3) := by decide +kernel
theorem dX6_init_57 : decode cX6_init 57 = .ok (.putfield 31, 3) := by decide +kernel
theorem dX6_init_60 : decode cX6_init 60 = .ok (.aload_n 0, 1) := by decide +kernel
theorem dX6_init_61 : decode cX6_init 61 = .ok (.aload_n 1, 1) := by decide +kernel
theorem dX6_init_62 : decode cX6_init 62 = .ok (.putfield 34, 3) := by decide +kernel
theorem dX6_init_65 : decode cX6_init 65 = .ok (.aload_n 0, 1) := by decide +kernel
theorem dX6_init_66 : decode cX6_init 66 = .ok (.aload_n 2, 1) := by decide +kernel
theorem dX6_init_67 : decode cX6_init 67 = .ok (.putfield 38, 3) := by decide +kernel
theorem dX6_init_70 : decode cX6_init 70 = .ok (.return_, 1) := by decide +kernel
theorem dX6_split_0 : decode cX6_split 0 = .ok (.aload_n 2, 1) := by decide +kernel
theorem dX6_split_1 : decode cX6_split 1 = .ok (.iload_n 3, 1) := by decide +kernel
theorem dX6_split_2 : decode cX6_split 2 = .ok (.invokestatic 42, 3) := by decide +kernel
theorem dX6_split_5 : decode cX6_split 5 = .ok (.aload_n 1, 1) := by decide +kernel
theorem dX6_split_6 : decode cX6_split 6 = .ok (.invokevirtual 46, 3) := by decide +kernel
theorem dX6_split_9 : decode cX6_split 9 = .ok (.iload_n 3, 1) := by decide +kernel
theorem dX6_split_10 : decode cX6_split 10 = .ok (.iconst 1, 1) := by decide +kernel
theorem dX6_split_11 : decode cX6_split 11 = .ok (.iadd, 1) := by decide +kernel
theorem dX6_split_12 : decode cX6_split 12 = .ok (.istore 4, 2) := by decide +kernel
theorem dX6_split_14 : decode cX6_split 14 = .ok (.aload_n 1, 1) := by decide +kernel
theorem dX6_split_15 : decode cX6_split 15 = .ok (.getfield 50, 3) := by decide +kernel
theorem dX6_split_18 : decode cX6_split 18 = .ok (.iconst 2, 1) := by decide +kernel
theorem dX6_split_19 : decode cX6_split 19 = .ok (.if_icmp .ge 6, 3) := by decide +kernel
theorem dX6_split_22 : decode cX6_split 22 = .ok (.iload 4, 2) := by decide +kernel
theorem dX6_split_24 : decode cX6_split 24 = .ok (.ireturn, 1) := by decide +kernel
theorem dX6_split_25 : decode cX6_split 25 = .ok (.aload_n 0, 1) := by decide +kernel
theorem dX6_split_26 : decode cX6_split 26 = .ok (.aload_n 1, 1) := by decide +kernel
theorem dX6_split_27 : decode cX6_split 27 = .ok (.invokevirtual 54, 3) := by decide +kernel
theorem dX6_split_30 : decode cX6_split 30 = .ok (.iload_n 3, 1) := by decide +kernel
theorem dX6_split_31 : decode cX6_split 31 = .ok (.aload_n 0, 1) := by decide +kernel
theorem dX6_split_32 : decode cX6_split 32 = .ok (.getfield 57, 3) := by decide +kernel
theorem dX6_split_35 : decode cX6_split 35 = .ok (.iadd, 1) := by decide +kernel
theorem dX6_split_36 : decode cX6_split 36 = .ok (.aload_n 0, 1) := by decide +kernel
theorem dX6_split_37 : decode cX6_split 37 = .ok (.invokevirtual 60, 3) := by decide +kernel
theorem dX6_split_40 : decode cX6_split 40 = .ok (.isub, 1) := by decide +kernel
theorem dX6_split_41 : decode cX6_split 41 = .ok (.aload_n 2, 1) := by decide +kernel
theorem dX6_split_42 : decode cX6_split 42 = .ok (.arraylength, 1) := by decide +kernel
theorem dX6_split_43 : decode cX6_split 43 = .ok (.invokestatic 64, 3) := by decide +kernel
theorem dX6_split_46 : decode cX6_split 46 = .ok (.istore 5, 2) := by decide +kernel
theorem dX6_split_48 : decode cX6_split 48 = .ok (.iconst 1, 1) := by decide +kernel
theorem dX6_split_49 : decode cX6_split 49 = .ok (.istore 6, 2) := by decide +kernel
theorem dX6_split_51 : decode cX6_split 51 = .ok (.iload 6, 2) := by decide +kernel
theorem dX6_split_53 : decode cX6_split 53 = .ok (.aload_n 0, 1) := by decide +kernel
theorem dX6_split_54 : decode cX6_split 54 = .ok (.getfield 57, 3) := by decide +kernel
theorem dX6_split_57 : decode cX6_split 57 = .ok (.if_icmp .ge 155, 3) := by decide +kernel
theorem dX6_split_60 : decode cX6_split 60 = .ok (.iload 4, 2) := by decide +kernel
theorem dX6_split_62 : decode cX6_split 62 = .ok (.iload 5, 2) := by decide +kernel
theorem dX6_split_64 : decode cX6_split 64 = .ok (.if_icmp .ge 148, 3) := by decide +kernel
theorem dX6_split_67 : decode cX6_split 67 = .ok (.aload_n 0, 1) := by decide +kernel
theorem dX6_split_68 : decode cX6_split 68 = .ok (.getfield 15, 3) := by decide +kernel
theorem dX6_split_71 : decode cX6_split 71 = .ok (.iload 6, 2) := by decide +kernel
theorem dX6_split_73 : decode cX6_split 73 = .ok (.iaload, 1) := by decide +kernel
theorem dX6_split_74 : decode cX6_split 74 = .ok (.iconst (-1), 1) := by decide +kernel
theorem dX6_split_75 : decode cX6_split 75 = .ok (.if_icmp .ne 7, 3) := by decide +kernel
theorem dX6_split_78 : decode cX6_split 78 = .ok (.iconst 1, 1) := by decide +kernel
theorem dX6_split_79 : decode cX6_split 79 = .ok (.goto 4, 3) := by decide +kernel
theorem dX6_split_82 : decode cX6_split 82 = .ok (.iconst 0, 1) := by decide +kernel
theorem dX6_split_83 : decode cX6_split 83 = .ok (.istore 7, 2) := by decide +kernel
theorem dX6_split_85 : decode cX6_split 85 = .ok (.iload 7, 2) := by decide +kernel
theorem dX6_split_87 : decode cX6_split 87 = .ok (.ifCond .eq 9, 3) := by decide +kernel
theorem dX6_split_90 : decode cX6_split 90 = .ok (.aload_n 0, 1) := by decide +kernel
theorem dX6_split_91 : decode cX6_split 91 = .ok (.iload 6, 2) := by decide +kernel
theorem dX6_split_93 : decode cX6_split 93 = .ok (.invokevirtual 70, 3) := by decide +kernel
theorem dX6_split_96 : decode cX6_split 96 = .ok (.iconst 0, 1) := by decide +kernel
theorem dX6_split_97 : decode cX6_split 97 = .ok (.istore 8, 2) := by decide +kernel
theorem dX6_split_99 : decode cX6_split 99 = .ok (.iload 8, 2) := by decide +kernel
theorem dX6_split_101 : decode cX6_split 101 = .ok (.aload_n 0, 1) := by decide +kernel
theorem dX6_split_102 : decode cX6_split 102 = .ok (.getfield 34, 3) := by decide +kernel
theorem dX6_split_105 : decode cX6_split 105 = .ok (.getfield 73, 3) := by decide +kernel
theorem dX6_split_108 : decode cX6_split 108 = .ok (.if_icmp .ge 98, 3) := by decide +kernel
theorem dX6_split_111 : decode cX6_split 111 = .ok (.iload 7, 2) := by decide +kernel
theorem dX6_split_113 : decode cX6_split 113 = .ok (.ifCond .eq 93, 3) := by decide +kernel
theorem dX6_split_116 : decode cX6_split 116 = .ok (.iload 4, 2) := by decide +kernel
theorem dX6_split_118 : decode cX6_split 118 = .ok (.iload 5, 2) := by decide +kernel
theorem dX6_split_120 : decode cX6_split 120 = .ok (.if_icmp .ge 86, 3) := by decide +kernel
theorem dX6_split_123 : decode cX6_split 123 = .ok (.iconst 0, 1) := by decide +kernel
theorem dX6_split_124 : decode cX6_split 124 = .ok (.istore 7, 2) := by decide +kernel
theorem dX6_split_126 : decode cX6_split 126 = .ok (.iload 4, 2) := by decide +kernel
theorem dX6_split_128 : decode cX6_split 128 = .ok (.istore 9, 2) := by decide +kernel
theorem dX6_split_130 : decode cX6_split 130 = .ok (.iload_n 3, 1) := by decide +kernel
theorem dX6_split_131 : decode cX6_split 131 = .ok (.istore 10, 2) := by decide +kernel
theorem dX6_split_133 : decode cX6_split 133 = .ok (.iload 10, 2) := by decide +kernel
theorem dX6_split_135 : decode cX6_split 135 = .ok (.iload 9, 2) := by decide +kernel
theorem dX6_split_137 : decode cX6_split 137 = .ok (.if_icmp .ge 63, 3) := by decide +kernel
theorem dX6_split_140 : decode cX6_split 140 = .ok (.iload 4, 2) := by decide +kernel
theorem dX6_split_142 : decode cX6_split 142 = .ok (.iload 5, 2) := by decide +kernel
theorem dX6_split_144 : decode cX6_split 144 = .ok (.if_icmp .ge 56, 3) := by decide +kernel
theorem dX6_split_147 : decode cX6_split 147 = .ok (.aload_n 2, 1) := by decide +kernel
theorem dX6_split_148 : decode cX6_split 148 = .ok (.iload 10, 2) := by decide +kernel
theorem dX6_split_150 : decode cX6_split 150 = .ok (.invokestatic 42, 3) := by decide +kernel
theorem dX6_split_153 : decode cX6_split 153 = .ok (.astore 11, 2) := by decide +kernel
theorem dX6_split_155 : decode cX6_split 155 = .ok (.aload_n 0, 1) := by decide +kernel
theorem dX6_split_156 : decode cX6_split 156 = .ok (.aload 11, 2) := by decide +kernel
theorem dX6_split_158 : decode cX6_split 158 = .ok (.invokevirtual 78, 3) := by decide +kernel
theorem dX6_split_161 : decode cX6_split 161 = .ok (.ifCond .eq 33, 3) := by decide +kernel
theorem dX6_split_164 : decode cX6_split 164 = .ok (.iconst 1, 1) := by decide +kernel
theorem dX6_split_165 : decode cX6_split 165 = .ok (.istore 7, 2) := by decide +kernel
theorem dX6_split_167 : decode cX6_split 167 = .ok (.iload 4, 2) := by decide +kernel
theorem dX6_split_169 : decode cX6_split 169 = .ok (.aload_n 0, 1) := by decide +kernel
theorem dX6_split_170 : decode cX6_split 170 = .ok (.aload 11, 2) := by decide +kernel
theorem dX6_split_172 : decode cX6_split 172 = .ok (.iload 8, 2) := by decide +kernel
theorem dX6_split_174 : decode cX6_split 174 = .ok (.aload_n 2, 1) := by decide +kernel
theorem dX6_split_175 : decode cX6_split 175 = .ok (.iload 4, 2) := by decide +kernel
theorem dX6_split_177 : decode cX6_split 177 = .ok (.invokestatic 42, 3) := by decide +kernel
theorem dX6_split_180 : decode cX6_split 180 = .ok (.invokevirtual 82, 3) := by decide +kernel
theorem dX6_split_183 : decode cX6_split 183 = .ok (.ifCond .eq 7, 3) := by decide +kernel
theorem dX6_split_186 : decode cX6_split 186 = .ok (.iconst 1, 1) := by decide +kernel
theorem dX6_split_187 : decode cX6_split 187 = .ok (.goto 4, 3) := by decide +kernel
theorem dX6_split_190 : decode cX6_split 190 = .ok (.iconst 0, 1) := by decide +kernel
theorem dX6_split_191 : decode cX6_split 191 = .ok (.iadd, 1) := by decide +kernel
theorem dX6_split_192 : decode cX6_split 192 = .ok (.istore 4, 2) := by decide +kernel
theorem dX6_split_194 : decode cX6_split 194 = .ok (.iinc 10 1, 3) := by decide +kernel
theorem dX6_split_197 : decode cX6_split 197 = .ok (.goto (-64), 3) := by decide +kernel
theorem dX6_split_200 : decode cX6_split 200 = .ok (.iinc 8 1, 3) := by decide +kernel
theorem dX6_split_203 : decode cX6_split 203 = .ok (.goto (-104), 3) := by decide +kernel
theorem dX6_split_206 : decode cX6_split 206 = .ok (.iinc 6 1, 3) := by decide +kernel
theorem dX6_split_209 : decode cX6_split 209 = .ok (.goto (-158), 3) := by decide +kernel
theorem dX6_split_212 : decode cX6_split 212 = .ok (.iload 4, 2) := by decide +kernel
theorem dX6_split_214 : decode cX6_split 214 = .ok (.ireturn, 1) := by decide +kernel
theorem dX6_fillGrid_0 : decode cX6_fillGrid 0 = .ok (.aload_n 0, 1) := by decide +kernel
theorem dX6_fillGrid_1 : decode cX6_fillGrid 1 = .ok (.aload_n 1, 1) := by decide +kernel
theorem dX6_fillGrid_2 : decode cX6_fillGrid 2 = .ok (.getfield 50, 3) := by decide +kernel
theorem dX6_fillGrid_5 : decode cX6_fillGrid 5 = .ok (.bipush 40, 2) := by decide +kernel
theorem dX6_fillGrid_7 : decode cX6_fillGrid 7 = .ok (.invokestatic 64, 3) := by decide +kernel
theorem dX6_fillGrid_10 : decode cX6_fillGrid 10 = .ok (.putfield 57, 3) := by decide +kernel
theorem dX6_fillGrid_13 : decode cX6_fillGrid 13 = .ok (.aload_n 0, 1) := by decide +kernel
theorem dX6_fillGrid_14 : decode cX6_fillGrid 14 = .ok (.getfield 31, 3) := by decide +kernel
theorem dX6_fillGrid_17 : decode cX6_fillGrid 17 = .ok (.lconst 1, 1) := by decide +kernel
theorem dX6_fillGrid_18 : decode cX6_fillGrid 18 = .ok (.invokevirtual 86, 3) := by decide +kernel
theorem dX6_fillGrid_21 : decode cX6_fillGrid 21 = .ok (.aload_n 0, 1) := by decide +kernel
theorem dX6_fillGrid_22 : decode cX6_fillGrid 22 = .ok (.getfield 28, 3) := by decide +kernel
theorem dX6_fillGrid_25 : decode cX6_fillGrid 25 = .ok (.getfield 90, 3) := by decide +kernel
theorem dX6_fillGrid_28 : decode cX6_fillGrid 28 = .ok (.iconst 0, 1) := by decide +kernel
theorem dX6_fillGrid_29 : decode cX6_fillGrid 29 = .ok (.lconst 0, 1) := by decide +kernel
theorem dX6_fillGrid_30 : decode cX6_fillGrid 30 = .ok (.lastore, 1) := by decide +kernel
theorem dX6_fillGrid_31 : decode cX6_fillGrid 31 = .ok (.aload_n 0, 1) := by decide +kernel
theorem dX6_fillGrid_32 : decode cX6_fillGrid 32 = .ok (.getfield 28, 3) := by decide +kernel
theorem dX6_fillGrid_35 : decode cX6_fillGrid 35 = .ok (.getfield 90, 3) := by decide +kernel
theorem dX6_fillGrid_38 : decode cX6_fillGrid 38 = .ok (.iconst 1, 1) := by decide +kernel
theorem dX6_fillGrid_39 : decode cX6_fillGrid 39 = .ok (.lconst 1, 1) := by decide +kernel
theorem dX6_fillGrid_40 : decode cX6_fillGrid 40 = .ok (.lastore, 1) := by decide +kernel
theorem dX6_fillGrid_41 : decode cX6_fillGrid 41 = .ok (.aload_n 0, 1) := by decide +kernel
theorem dX6_fillGrid_42 : decode cX6_fillGrid 42 = .ok (.getfield 28, 3) := by decide +kernel
theorem dX6_fillGrid_45 : decode cX6_fillGrid 45 = .ok (.iconst 1, 1) := by decide +kernel
theorem dX6_fillGrid_46 : decode cX6_fillGrid 46 = .ok (.putfield 50, 3) := by decide +kernel
theorem dX6_fillGrid_49 : decode cX6_fillGrid 49 = .ok (.aload_n 0, 1) := by decide +kernel
theorem dX6_fillGrid_50 : decode cX6_fillGrid 50 = .ok (.getfield 38, 3) := by decide +kernel
theorem dX6_fillGrid_53 : decode cX6_fillGrid 53 = .ok (.aload_n 0, 1) := by decide +kernel
theorem dX6_fillGrid_54 : decode cX6_fillGrid 54 = .ok (.getfield 28, 3) := by decide +kernel
theorem dX6_fillGrid_57 : decode cX6_fillGrid 57 = .ok (.aload_n 0, 1) := by decide +kernel
theorem dX6_fillGrid_58 : decode cX6_fillGrid 58 = .ok (.getfield 34, 3) := by decide +kernel
theorem dX6_fillGrid_61 : decode cX6_fillGrid 61 = .ok (.getfield 73, 3) := by decide +kernel
theorem dX6_fillGrid_64 : decode cX6_fillGrid 64 = .ok (.i2l, 1) := by decide +kernel
theorem dX6_fillGrid_65 : decode cX6_fillGrid 65 = .ok (.aload_n 1, 1) := by decide +kernel
theorem dX6_fillGrid_66 : decode cX6_fillGrid 66 = .ok (.aload_n 0, 1) := by decide +kernel
theorem dX6_fillGrid_67 : decode cX6_fillGrid 67 = .ok (.getfield 24, 3) := by decide +kernel
theorem dX6_fillGrid_70 : decode cX6_fillGrid 70 = .ok (.invokevirtual 93, 3) := by decide +kernel
theorem dX6_fillGrid_73 : decode cX6_fillGrid 73 = .ok (.iconst 0, 1) := by decide +kernel
theorem dX6_fillGrid_74 : decode cX6_fillGrid 74 = .ok (.istore_n 2, 1) := by decide +kernel
theorem dX6_fillGrid_75 : decode cX6_fillGrid 75 = .ok (.iload_n 2, 1) := by decide +kernel
theorem dX6_fillGrid_76 : decode cX6_fillGrid 76 = .ok (.aload_n 0, 1) := by decide +kernel
theorem dX6_fillGrid_77 : decode cX6_fillGrid 77 = .ok (.getfield 57, 3) := by decide +kernel
theorem dX6_fillGrid_80 : decode cX6_fillGrid 80 = .ok (.if_icmp .ge 88, 3) := by decide +kernel
theorem dX6_fillGrid_83 : decode cX6_fillGrid 83 = .ok (.iconst 0, 1) := by decide +kernel
theorem dX6_fillGrid_84 : decode cX6_fillGrid 84 = .ok (.istore_n 3, 1) := by decide +kernel
theorem dX6_fillGrid_85 : decode cX6_fillGrid 85 = .ok (.iload_n 3, 1) := by decide +kernel
theorem dX6_fillGrid_86 : decode cX6_fillGrid 86 = .ok (.aload_n 0, 1) := by decide +kernel
theorem dX6_fillGrid_87 : decode cX6_fillGrid 87 = .ok (.getfield 57, 3) := by decide +kernel
theorem dX6_fillGrid_90 : decode cX6_fillGrid 90 = .ok (.if_icmp .ge 52, 3) := by decide +kernel
theorem dX6_fillGrid_93 : decode cX6_fillGrid 93 = .ok (.iload_n 3, 1) := by decide +kernel
theorem dX6_fillGrid_94 : decode cX6_fillGrid 94 = .ok (.iload_n 2, 1) := by decide +kernel
theorem dX6_fillGrid_95 : decode cX6_fillGrid 95 = .ok (.if_icmp .ne 7, 3) := by decide +kernel
theorem dX6_fillGrid_98 : decode cX6_fillGrid 98 = .ok (.lconst 1, 1) := by decide +kernel
theorem dX6_fillGrid_99 : decode cX6_fillGrid 99 = .ok (.goto 4, 3) := by decide +kernel
theorem dX6_fillGrid_102 : decode cX6_fillGrid 102 = .ok (.lconst 0, 1) := by decide +kernel
theorem dX6_fillGrid_103 : decode cX6_fillGrid 103 = .ok (.lstore 4, 2) := by decide +kernel
theorem dX6_fillGrid_105 : decode cX6_fillGrid 105 = .ok (.aload_n 0, 1) := by decide +kernel
theorem dX6_fillGrid_106 : decode cX6_fillGrid 106 = .ok (.getfield 9, 3) := by decide +kernel
theorem dX6_fillGrid_109 : decode cX6_fillGrid 109 = .ok (.iload_n 3, 1) := by decide +kernel
theorem dX6_fillGrid_110 : decode cX6_fillGrid 110 = .ok (.aload_n 0, 1) := by decide +kernel
theorem dX6_fillGrid_111 : decode cX6_fillGrid 111 = .ok (.getfield 57, 3) := by decide +kernel
theorem dX6_fillGrid_114 : decode cX6_fillGrid 114 = .ok (.imul, 1) := by decide +kernel
theorem dX6_fillGrid_115 : decode cX6_fillGrid 115 = .ok (.iload_n 2, 1) := by decide +kernel
theorem dX6_fillGrid_116 : decode cX6_fillGrid 116 = .ok (.iadd, 1) := by decide +kernel
theorem dX6_fillGrid_117 : decode cX6_fillGrid 117 = .ok (.aload_n 0, 1) := by decide +kernel
theorem dX6_fillGrid_118 : decode cX6_fillGrid 118 = .ok (.getfield 34, 3) := by decide +kernel
theorem dX6_fillGrid_121 : decode cX6_fillGrid 121 = .ok (.aload_n 0, 1) := by decide +kernel
theorem dX6_fillGrid_122 : decode cX6_fillGrid 122 = .ok (.getfield 31, 3) := by decide +kernel
theorem dX6_fillGrid_125 : decode cX6_fillGrid 125 = .ok (.iload_n 3, 1) := by decide +kernel
theorem dX6_fillGrid_126 : decode cX6_fillGrid 126 = .ok (.invokevirtual 99, 3) := by decide +kernel
theorem dX6_fillGrid_129 : decode cX6_fillGrid 129 = .ok (.lload 4, 2) := by decide +kernel
theorem dX6_fillGrid_131 : decode cX6_fillGrid 131 = .ok (.lsub, 1) := by decide +kernel
theorem dX6_fillGrid_132 : decode cX6_fillGrid 132 = .ok (.invokevirtual 103, 3) := by decide +kernel
theorem dX6_fillGrid_135 : decode cX6_fillGrid 135 = .ok (.lastore, 1) := by decide +kernel
theorem dX6_fillGrid_136 : decode cX6_fillGrid 136 = .ok (.iinc 3 1, 3) := by decide +kernel
theorem dX6_fillGrid_139 : decode cX6_fillGrid 139 = .ok (.goto (-54), 3) := by decide +kernel
theorem dX6_fillGrid_142 : decode cX6_fillGrid 142 = .ok (.aload_n 0, 1) := by decide +kernel
theorem dX6_fillGrid_143 : decode cX6_fillGrid 143 = .ok (.getfield 38, 3) := by decide +kernel
theorem dX6_fillGrid_146 : decode cX6_fillGrid 146 = .ok (.aload_n 0, 1) := by decide +kernel
theorem dX6_fillGrid_147 : decode cX6_fillGrid 147 = .ok (.getfield 31, 3) := by decide +kernel
theorem dX6_fillGrid_150 : decode cX6_fillGrid 150 = .ok (.aload_n 0, 1) := by decide +kernel
theorem dX6_fillGrid_151 : decode cX6_fillGrid 151 = .ok (.getfield 24, 3) := by decide +kernel
theorem dX6_fillGrid_154 : decode cX6_fillGrid 154 = .ok (.aload_n 1, 1) := by decide +kernel
theorem dX6_fillGrid_155 : decode cX6_fillGrid 155 = .ok (.aload_n 0, 1) := by decide +kernel
theorem dX6_fillGrid_156 : decode cX6_fillGrid 156 = .ok (.getfield 31, 3) := by decide +kernel
theorem dX6_fillGrid_159 : decode cX6_fillGrid 159 = .ok (.invokevirtual 107, 3) := by decide +kernel
theorem dX6_fillGrid_162 : decode cX6_fillGrid 162 = .ok (.iinc 2 1, 3) := by decide +kernel
theorem dX6_fillGrid_165 : decode cX6_fillGrid 165 = .ok (.goto (-90), 3) := by decide +kernel
theorem dX6_fillGrid_168 : decode cX6_fillGrid 168 = .ok (.return_, 1) := by decide +kernel
theorem dX6_clearColumns_0 : decode cX6_clearColumns 0 = .ok (.iconst 0, 1) := by decide +kernel
theorem dX6_clearColumns_1 : decode cX6_clearColumns 1 = .ok (.istore_n 1, 1) := by decide +kernel
theorem dX6_clearColumns_2 : decode cX6_clearColumns 2 = .ok (.iconst 0, 1) := by decide +kernel
theorem dX6_clearColumns_3 : decode cX6_clearColumns 3 = .ok (.istore_n 2, 1) := by decide +kernel
theorem dX6_clearColumns_4 : decode cX6_clearColumns 4 = .ok (.iload_n 2, 1) := by decide +kernel
theorem dX6_clearColumns_5 : decode cX6_clearColumns 5 = .ok (.aload_n 0, 1) := by decide +kernel
theorem dX6_clearColumns_6 : decode cX6_clearColumns 6 = .ok (.getfield 57, 3) := by decide +kernel
theorem dX6_clearColumns_9 : decode cX6_clearColumns 9 = .ok (.if_icmp .ge 107, 3) := by decide +kernel
theorem dX6_clearColumns_12 : decode cX6_clearColumns 12 = .ok (.iload_n 1, 1) := by decide +kernel
theorem dX6_clearColumns_13 : decode cX6_clearColumns 13 = .ok (.istore_n 3, 1) := by decide +kernel
theorem dX6_clearColumns_14 : decode cX6_clearColumns 14 = .ok (.iload_n 3, 1) := by decide +kernel
theorem dX6_clearColumns_15 : decode cX6_clearColumns 15 = .ok (.aload_n 0, 1) := by decide +kernel
theorem dX6_clearColumns_16 : decode cX6_clearColumns 16 = .ok (.getfield 57, 3) := by decide +kernel
theorem dX6_clearColumns_19 : decode cX6_clearColumns 19 = .ok (.if_icmp .ge 27, 3) := by decide +kernel
theorem dX6_clearColumns_22 : decode cX6_clearColumns 22 = .ok (.aload_n 0, 1) := by decide +kernel
theorem dX6_clearColumns_23 : decode cX6_clearColumns 23 = .ok (.getfield 9, 3) := by decide +kernel
theorem dX6_clearColumns_26 : decode cX6_clearColumns 26 = .ok (.iload_n 3, 1) := by decide +kernel
