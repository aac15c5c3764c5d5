theorem dL_law_0 : decode cL_law 0 = .ok (.new 7, 3) := by decide +kernel
theorem dL_law_3 : decode cL_law 3 = .ok (.dup, 1) := by decide +kernel
theorem dL_law_4 : decode cL_law 4 = .ok (.invokespecial 9, 3) := by decide +kernel
theorem dL_law_7 : decode cL_law 7 = .ok (.astore_n 1, 1) := by decide +kernel
theorem dL_law_8 : decode cL_law 8 = .ok (.new 10, 3) := by decide +kernel
theorem dL_law_11 : decode cL_law 11 = .ok (.dup, 1) := by decide +kernel
theorem dL_law_12 : decode cL_law 12 = .ok (.invokespecial 12, 3) := by decide +kernel
theorem dL_law_15 : decode cL_law 15 = .ok (.astore_n 2, 1) := by decide +kernel
theorem dL_law_16 : decode cL_law 16 = .ok (.iconst 0, 1) := by decide +kernel
theorem dL_law_17 : decode cL_law 17 = .ok (.istore_n 3, 1) := by decide +kernel
theorem dL_law_18 : decode cL_law 18 = .ok (.iload_n 3, 1) := by decide +kernel
theorem dL_law_19 : decode cL_law 19 = .ok (.aload_n 0, 1) := by decide +kernel
theorem dL_law_20 : decode cL_law 20 = .ok (.arraylength, 1) := by decide +kernel
theorem dL_law_21 : decode cL_law 21 = .ok (.bipush 6, 2) := by decide +kernel
theorem dL_law_23 : decode cL_law 23 = .ok (.isub, 1) := by decide +kernel
theorem dL_law_24 : decode cL_law 24 = .ok (.if_icmp .gt 940, 3) := by decide +kernel
theorem dL_law_27 : decode cL_law 27 = .ok (.aload_n 0, 1) := by decide +kernel
theorem dL_law_28 : decode cL_law 28 = .ok (.iload_n 3, 1) := by decide +kernel
theorem dL_law_29 : decode cL_law 29 = .ok (.iaload, 1) := by decide +kernel
theorem dL_law_30 : decode cL_law 30 = .ok (.bipush 31, 2) := by decide +kernel
theorem dL_law_32 : decode cL_law 32 = .ok (.iand, 1) := by decide +kernel
theorem dL_law_33 : decode cL_law 33 = .ok (.tableswitch 925 0 19 #[95, 118, 171, 194, 237, 320, 393, 436, 469, 572, 605, 628, 651, 684, 717, 740, 763, 796, 819, 912], 95) := by decide +kernel
theorem dL_law_128 : decode cL_law 128 = .ok (.aload_n 1, 1) := by decide +kernel
theorem dL_law_129 : decode cL_law 129 = .ok (.aload_n 0, 1) := by decide +kernel
theorem dL_law_130 : decode cL_law 130 = .ok (.iload_n 3, 1) := by decide +kernel
theorem dL_law_131 : decode cL_law 131 = .ok (.iconst 1, 1) := by decide +kernel
theorem dL_law_132 : decode cL_law 132 = .ok (.iadd, 1) := by decide +kernel
theorem dL_law_133 : decode cL_law 133 = .ok (.iaload, 1) := by decide +kernel
theorem dL_law_134 : decode cL_law 134 = .ok (.invokevirtual 13, 3) := by decide +kernel
theorem dL_law_137 : decode cL_law 137 = .ok (.aload_n 2, 1) := by decide +kernel
theorem dL_law_138 : decode cL_law 138 = .ok (.aload_n 0, 1) := by decide +kernel
theorem dL_law_139 : decode cL_law 139 = .ok (.iload_n 3, 1) := by decide +kernel
theorem dL_law_140 : decode cL_law 140 = .ok (.iconst 1, 1) := by decide +kernel
theorem dL_law_141 : decode cL_law 141 = .ok (.iadd, 1) := by decide +kernel
theorem dL_law_142 : decode cL_law 142 = .ok (.iaload, 1) := by decide +kernel
theorem dL_law_143 : decode cL_law 143 = .ok (.invokevirtual 17, 3) := by decide +kernel
theorem dL_law_146 : decode cL_law 146 = .ok (.if_icmp .eq 812, 3) := by decide +kernel
theorem dL_law_149 : decode cL_law 149 = .ok (.iconst 0, 1) := by decide +kernel
theorem dL_law_150 : decode cL_law 150 = .ok (.ireturn, 1) := by decide +kernel
theorem dL_law_151 : decode cL_law 151 = .ok (.aload_n 1, 1) := by decide +kernel
theorem dL_law_152 : decode cL_law 152 = .ok (.aload_n 0, 1) := by decide +kernel
theorem dL_law_153 : decode cL_law 153 = .ok (.iload_n 3, 1) := by decide +kernel
theorem dL_law_154 : decode cL_law 154 = .ok (.iconst 1, 1) := by decide +kernel
theorem dL_law_155 : decode cL_law 155 = .ok (.iadd, 1) := by decide +kernel
theorem dL_law_156 : decode cL_law 156 = .ok (.iaload, 1) := by decide +kernel
theorem dL_law_157 : decode cL_law 157 = .ok (.i2l, 1) := by decide +kernel
theorem dL_law_158 : decode cL_law 158 = .ok (.bipush 32, 2) := by decide +kernel
theorem dL_law_160 : decode cL_law 160 = .ok (.lshl, 1) := by decide +kernel
theorem dL_law_161 : decode cL_law 161 = .ok (.aload_n 0, 1) := by decide +kernel
theorem dL_law_162 : decode cL_law 162 = .ok (.iload_n 3, 1) := by decide +kernel
theorem dL_law_163 : decode cL_law 163 = .ok (.iconst 2, 1) := by decide +kernel
theorem dL_law_164 : decode cL_law 164 = .ok (.iadd, 1) := by decide +kernel
theorem dL_law_165 : decode cL_law 165 = .ok (.iaload, 1) := by decide +kernel
theorem dL_law_166 : decode cL_law 166 = .ok (.i2l, 1) := by decide +kernel
theorem dL_law_167 : decode cL_law 167 = .ok (.ldc2_w 18, 3) := by decide +kernel
theorem dL_law_170 : decode cL_law 170 = .ok (.land, 1) := by decide +kernel
theorem dL_law_171 : decode cL_law 171 = .ok (.lor, 1) := by decide +kernel
theorem dL_law_172 : decode cL_law 172 = .ok (.invokevirtual 20, 3) := by decide +kernel
theorem dL_law_175 : decode cL_law 175 = .ok (.aload_n 2, 1) := by decide +kernel
theorem dL_law_176 : decode cL_law 176 = .ok (.aload_n 0, 1) := by decide +kernel
theorem dL_law_177 : decode cL_law 177 = .ok (.iload_n 3, 1) := by decide +kernel
theorem dL_law_178 : decode cL_law 178 = .ok (.iconst 1, 1) := by decide +kernel
theorem dL_law_179 : decode cL_law 179 = .ok (.iadd, 1) := by decide +kernel
theorem dL_law_180 : decode cL_law 180 = .ok (.iaload, 1) := by decide +kernel
theorem dL_law_181 : decode cL_law 181 = .ok (.i2l, 1) := by decide +kernel
theorem dL_law_182 : decode cL_law 182 = .ok (.bipush 32, 2) := by decide +kernel
theorem dL_law_184 : decode cL_law 184 = .ok (.lshl, 1) := by decide +kernel
theorem dL_law_185 : decode cL_law 185 = .ok (.aload_n 0, 1) := by decide +kernel
theorem dL_law_186 : decode cL_law 186 = .ok (.iload_n 3, 1) := by decide +kernel
theorem dL_law_187 : decode cL_law 187 = .ok (.iconst 2, 1) := by decide +kernel
theorem dL_law_188 : decode cL_law 188 = .ok (.iadd, 1) := by decide +kernel
theorem dL_law_189 : decode cL_law 189 = .ok (.iaload, 1) := by decide +kernel
theorem dL_law_190 : decode cL_law 190 = .ok (.i2l, 1) := by decide +kernel
theorem dL_law_191 : decode cL_law 191 = .ok (.ldc2_w 18, 3) := by decide +kernel
theorem dL_law_194 : decode cL_law 194 = .ok (.land, 1) := by decide +kernel
theorem dL_law_195 : decode cL_law 195 = .ok (.lor, 1) := by decide +kernel
theorem dL_law_196 : decode cL_law 196 = .ok (.invokevirtual 24, 3) := by decide +kernel
theorem dL_law_199 : decode cL_law 199 = .ok (.if_icmp .eq 759, 3) := by decide +kernel
theorem dL_law_202 : decode cL_law 202 = .ok (.iconst 0, 1) := by decide +kernel
theorem dL_law_203 : decode cL_law 203 = .ok (.ireturn, 1) := by decide +kernel
theorem dL_law_204 : decode cL_law 204 = .ok (.aload_n 1, 1) := by decide +kernel
theorem dL_law_205 : decode cL_law 205 = .ok (.aload_n 0, 1) := by decide +kernel
theorem dL_law_206 : decode cL_law 206 = .ok (.iload_n 3, 1) := by decide +kernel
theorem dL_law_207 : decode cL_law 207 = .ok (.iconst 1, 1) := by decide +kernel
theorem dL_law_208 : decode cL_law 208 = .ok (.iadd, 1) := by decide +kernel
theorem dL_law_209 : decode cL_law 209 = .ok (.iaload, 1) := by decide +kernel
theorem dL_law_210 : decode cL_law 210 = .ok (.invokevirtual 25, 3) := by decide +kernel
theorem dL_law_213 : decode cL_law 213 = .ok (.aload_n 2, 1) := by decide +kernel
theorem dL_law_214 : decode cL_law 214 = .ok (.aload_n 0, 1) := by decide +kernel
theorem dL_law_215 : decode cL_law 215 = .ok (.iload_n 3, 1) := by decide +kernel
theorem dL_law_216 : decode cL_law 216 = .ok (.iconst 1, 1) := by decide +kernel
theorem dL_law_217 : decode cL_law 217 = .ok (.iadd, 1) := by decide +kernel
theorem dL_law_218 : decode cL_law 218 = .ok (.iaload, 1) := by decide +kernel
theorem dL_law_219 : decode cL_law 219 = .ok (.invokevirtual 29, 3) := by decide +kernel
theorem dL_law_222 : decode cL_law 222 = .ok (.if_icmp .eq 736, 3) := by decide +kernel
theorem dL_law_225 : decode cL_law 225 = .ok (.iconst 0, 1) := by decide +kernel
theorem dL_law_226 : decode cL_law 226 = .ok (.ireturn, 1) := by decide +kernel
theorem dL_law_227 : decode cL_law 227 = .ok (.aload_n 1, 1) := by decide +kernel
theorem dL_law_228 : decode cL_law 228 = .ok (.aload_n 0, 1) := by decide +kernel
theorem dL_law_229 : decode cL_law 229 = .ok (.iload_n 3, 1) := by decide +kernel
theorem dL_law_230 : decode cL_law 230 = .ok (.iconst 1, 1) := by decide +kernel
theorem dL_law_231 : decode cL_law 231 = .ok (.iadd, 1) := by decide +kernel
theorem dL_law_232 : decode cL_law 232 = .ok (.iaload, 1) := by decide +kernel
theorem dL_law_233 : decode cL_law 233 = .ok (.aload_n 0, 1) := by decide +kernel
theorem dL_law_234 : decode cL_law 234 = .ok (.iload_n 3, 1) := by decide +kernel
theorem dL_law_235 : decode cL_law 235 = .ok (.iconst 2, 1) := by decide +kernel
theorem dL_law_236 : decode cL_law 236 = .ok (.iadd, 1) := by decide +kernel
theorem dL_law_237 : decode cL_law 237 = .ok (.iaload, 1) := by decide +kernel
theorem dL_law_238 : decode cL_law 238 = .ok (.aload_n 0, 1) := by decide +kernel
theorem dL_law_239 : decode cL_law 239 = .ok (.iload_n 3, 1) := by decide +kernel
theorem dL_law_240 : decode cL_law 240 = .ok (.iconst 3, 1) := by decide +kernel
theorem dL_law_241 : decode cL_law 241 = .ok (.iadd, 1) := by decide +kernel
theorem dL_law_242 : decode cL_law 242 = .ok (.iaload, 1) := by decide +kernel
theorem dL_law_243 : decode cL_law 243 = .ok (.invokevirtual 30, 3) := by decide +kernel
theorem dL_law_246 : decode cL_law 246 = .ok (.aload_n 2, 1) := by decide +kernel
theorem dL_law_247 : decode cL_law 247 = .ok (.aload_n 0, 1) := by decide +kernel
theorem dL_law_248 : decode cL_law 248 = .ok (.iload_n 3, 1) := by decide +kernel
theorem dL_law_249 : decode cL_law 249 = .ok (.iconst 1, 1) := by decide +kernel
theorem dL_law_250 : decode cL_law 250 = .ok (.iadd, 1) := by decide +kernel
theorem dL_law_251 : decode cL_law 251 = .ok (.iaload, 1) := by decide +kernel
theorem dL_law_252 : decode cL_law 252 = .ok (.aload_n 0, 1) := by decide +kernel
theorem dL_law_253 : decode cL_law 253 = .ok (.iload_n 3, 1) := by decide +kernel
theorem dL_law_254 : decode cL_law 254 = .ok (.iconst 2, 1) := by decide +kernel
theorem dL_law_255 : decode cL_law 255 = .ok (.iadd, 1) := by decide +kernel
theorem dL_law_256 : decode cL_law 256 = .ok (.iaload, 1) := by decide +kernel
theorem dL_law_257 : decode cL_law 257 = .ok (.aload_n 0, 1) := by decide +kernel
theorem dL_law_258 : decode cL_law 258 = .ok (.iload_n 3, 1) := by decide +kernel
theorem dL_law_259 : decode cL_law 259 = .ok (.iconst 3, 1) := by decide +kernel
theorem dL_law_260 : decode cL_law 260 = .ok (.iadd, 1) := by decide +kernel
theorem dL_law_261 : decode cL_law 261 = .ok (.iaload, 1) := by decide +kernel
theorem dL_law_262 : decode cL_law 262 = .ok (.invokevirtual 34, 3) := by decide +kernel
theorem dL_law_265 : decode cL_law 265 = .ok (.if_icmp .eq 693, 3) := by decide +kernel
theorem dL_law_268 : decode cL_law 268 = .ok (.iconst 0, 1) := by decide +kernel
theorem dL_law_269 : decode cL_law 269 = .ok (.ireturn, 1) := by decide +kernel
theorem dL_law_270 : decode cL_law 270 = .ok (.aload_n 1, 1) := by decide +kernel
theorem dL_law_271 : decode cL_law 271 = .ok (.aload_n 0, 1) := by decide +kernel
theorem dL_law_272 : decode cL_law 272 = .ok (.iload_n 3, 1) := by decide +kernel
theorem dL_law_273 : decode cL_law 273 = .ok (.iconst 1, 1) := by decide +kernel
theorem dL_law_274 : decode cL_law 274 = .ok (.iadd, 1) := by decide +kernel
theorem dL_law_275 : decode cL_law 275 = .ok (.iaload, 1) := by decide +kernel
theorem dL_law_276 : decode cL_law 276 = .ok (.aload_n 0, 1) := by decide +kernel
theorem dL_law_277 : decode cL_law 277 = .ok (.iload_n 3, 1) := by decide +kernel
theorem dL_law_278 : decode cL_law 278 = .ok (.iconst 2, 1) := by decide +kernel
theorem dL_law_279 : decode cL_law 279 = .ok (.iadd, 1) := by decide +kernel
theorem dL_law_280 : decode cL_law 280 = .ok (.iaload, 1) := by decide +kernel
theorem dL_law_281 : decode cL_law 281 = .ok (.i2l, 1) := by decide +kernel
theorem dL_law_282 : decode cL_law 282 = .ok (.bipush 32, 2) := by decide +kernel
theorem dL_law_284 : decode cL_law 284 = .ok (.lshl, 1) := by decide +kernel
theorem dL_law_285 : decode cL_law 285 = .ok (.aload_n 0, 1) := by decide +kernel
theorem dL_law_286 : decode cL_law 286 = .ok (.iload_n 3, 1) := by decide +kernel
theorem dL_law_287 : decode cL_law 287 = .ok (.iconst 3, 1) := by decide +kernel
theorem dL_law_288 : decode cL_law 288 = .ok (.iadd, 1) := by decide +kernel
theorem dL_law_289 : decode cL_law 289 = .ok (.iaload, 1) := by decide +kernel
theorem dL_law_290 : decode cL_law 290 = .ok (.i2l, 1) := by decide +kernel
theorem dL_law_291 : decode cL_law 291 = .ok (.ldc2_w 18, 3) := by decide +kernel
theorem dL_law_294 : decode cL_law 294 = .ok (.land, 1) := by decide +kernel
theorem dL_law_295 : decode cL_law 295 = .ok (.lor, 1) := by decide +kernel
theorem dL_law_296 : decode cL_law 296 = .ok (.aload_n 0, 1) := by decide +kernel
theorem dL_law_297 : decode cL_law 297 = .ok (.iload_n 3, 1) := by decide +kernel
theorem dL_law_298 : decode cL_law 298 = .ok (.iconst 4, 1) := by decide +kernel
theorem dL_law_299 : decode cL_law 299 = .ok (.iadd, 1) := by decide +kernel
theorem dL_law_300 : decode cL_law 300 = .ok (.iaload, 1) := by decide +kernel
theorem dL_law_301 : decode cL_law 301 = .ok (.aload_n 0, 1) := by decide +kernel
theorem dL_law_302 : decode cL_law 302 = .ok (.iload_n 3, 1) := by decide +kernel
theorem dL_law_303 : decode cL_law 303 = .ok (.iconst 5, 1) := by decide +kernel
theorem dL_law_304 : decode cL_law 304 = .ok (.iadd, 1) := by decide +kernel
theorem dL_law_305 : decode cL_law 305 = .ok (.iaload, 1) := by decide +kernel
theorem dL_law_306 : decode cL_law 306 = .ok (.invokevirtual 35, 3) := by decide +kernel
theorem dL_law_309 : decode cL_law 309 = .ok (.aload_n 2, 1) := by decide +kernel
theorem dL_law_310 : decode cL_law 310 = .ok (.aload_n 0, 1) := by decide +kernel
theorem dL_law_311 : decode cL_law 311 = .ok (.iload_n 3, 1) := by decide +kernel
theorem dL_law_312 : decode cL_law 312 = .ok (.iconst 1, 1) := by decide +kernel
theorem dL_law_313 : decode cL_law 313 = .ok (.iadd, 1) := by decide +kernel
theorem dL_law_314 : decode cL_law 314 = .ok (.iaload, 1) := by decide +kernel
theorem dL_law_315 : decode cL_law 315 = .ok (.aload_n 0, 1) := by decide +kernel
theorem dL_law_316 : decode cL_law 316 = .ok (.iload_n 3, 1) := by decide +kernel
theorem dL_law_317 : decode cL_law 317 = .ok (.iconst 2, 1) := by decide +kernel
theorem dL_law_318 : decode cL_law 318 = .ok (.iadd, 1) := by decide +kernel
theorem dL_law_319 : decode cL_law 319 = .ok (.iaload, 1) := by decide +kernel
theorem dL_law_320 : decode cL_law 320 = .ok (.i2l, 1) := by decide +kernel
theorem dL_law_321 : decode cL_law 321 = .ok (.bipush 32, 2) := by decide +kernel
theorem dL_law_323 : decode cL_law 323 = .ok (.lshl, 1) := by decide +kernel
theorem dL_law_324 : decode cL_law 324 = .ok (.aload_n 0, 1) := by decide +kernel
theorem dL_law_325 : decode cL_law 325 = .ok (.iload_n 3, 1) := by decide +kernel
theorem dL_law_326 : decode cL_law 326 = .ok (.iconst 3, 1) := by decide +kernel
theorem dL_law_327 : decode cL_law 327 = .ok (.iadd, 1) := by decide +kernel
theorem dL_law_328 : decode cL_law 328 = .ok (.iaload, 1) := by decide +kernel
theorem dL_law_329 : decode cL_law 329 = .ok (.i2l, 1) := by decide +kernel
theorem dL_law_330 : decode cL_law 330 = .ok (.ldc2_w 18, 3) := by decide +kernel
theorem dL_law_333 : decode cL_law 333 = .ok (.land, 1) := by decide +kernel
theorem dL_law_334 : decode cL_law 334 = .ok (.lor, 1) := by decide +kernel
theorem dL_law_335 : decode cL_law 335 = .ok (.aload_n 0, 1) := by decide +kernel
theorem dL_law_336 : decode cL_law 336 = .ok (.iload_n 3, 1) := by decide +kernel
theorem dL_law_337 : decode cL_law 337 = .ok (.iconst 4, 1) := by decide +kernel
theorem dL_law_338 : decode cL_law 338 = .ok (.iadd, 1) := by decide +kernel
theorem dL_law_339 : decode cL_law 339 = .ok (.iaload, 1) := by decide +kernel
theorem dL_law_340 : decode cL_law 340 = .ok (.aload_n 0, 1) := by decide +kernel
theorem dL_law_341 : decode cL_law 341 = .ok (.iload_n 3, 1) := by decide +kernel
theorem dL_law_342 : decode cL_law 342 = .ok (.iconst 5, 1) := by decide +kernel
theorem dL_law_343 : decode cL_law 343 = .ok (.iadd, 1) := by decide +kernel
theorem dL_law_344 : decode cL_law 344 = .ok (.iaload, 1) := by decide +kernel
theorem dL_law_345 : decode cL_law 345 = .ok (.invokevirtual 39, 3) := by decide +kernel
theorem dL_law_348 : decode cL_law 348 = .ok (.if_icmp .eq 610, 3) := by decide +kernel
theorem dL_law_351 : decode cL_law 351 = .ok (.iconst 0, 1) := by decide +kernel
theorem dL_law_352 : decode cL_law 352 = .ok (.ireturn, 1) := by decide +kernel
theorem dL_law_353 : decode cL_law 353 = .ok (.aload_n 1, 1) := by decide +kernel
theorem dL_law_354 : decode cL_law 354 = .ok (.aload_n 0, 1) := by decide +kernel
theorem dL_law_355 : decode cL_law 355 = .ok (.iload_n 3, 1) := by decide +kernel
theorem dL_law_356 : decode cL_law 356 = .ok (.iconst 1, 1) := by decide +kernel
theorem dL_law_357 : decode cL_law 357 = .ok (.iadd, 1) := by decide +kernel
theorem dL_law_358 : decode cL_law 358 = .ok (.iaload, 1) := by decide +kernel
theorem dL_law_359 : decode cL_law 359 = .ok (.aload_n 0, 1) := by decide +kernel
theorem dL_law_360 : decode cL_law 360 = .ok (.iload_n 3, 1) := by decide +kernel
theorem dL_law_361 : decode cL_law 361 = .ok (.iconst 2, 1) := by decide +kernel
theorem dL_law_362 : decode cL_law 362 = .ok (.iadd, 1) := by decide +kernel
theorem dL_law_363 : decode cL_law 363 = .ok (.iaload, 1) := by decide +kernel
theorem dL_law_364 : decode cL_law 364 = .ok (.i2l, 1) := by decide +kernel
theorem dL_law_365 : decode cL_law 365 = .ok (.bipush 32, 2) := by decide +kernel
theorem dL_law_367 : decode cL_law 367 = .ok (.lshl, 1) := by decide +kernel
theorem dL_law_368 : decode cL_law 368 = .ok (.aload_n 0, 1) := by decide +kernel
theorem dL_law_369 : decode cL_law 369 = .ok (.iload_n 3, 1) := by decide +kernel
theorem dL_law_370 : decode cL_law 370 = .ok (.iconst 3, 1) := by decide +kernel
theorem dL_law_371 : decode cL_law 371 = .ok (.iadd, 1) := by decide +kernel
theorem dL_law_372 : decode cL_law 372 = .ok (.iaload, 1) := by decide +kernel
theorem dL_law_373 : decode cL_law 373 = .ok (.i2l, 1) := by decide +kernel
theorem dL_law_374 : decode cL_law 374 = .ok (.ldc2_w 18, 3) := by decide +kernel
theorem dL_law_377 : decode cL_law 377 = .ok (.land, 1) := by decide +kernel
theorem dL_law_378 : decode cL_law 378 = .ok (.lor, 1) := by decide +kernel
theorem dL_law_379 : decode cL_law 379 = .ok (.aload_n 0, 1) := by decide +kernel
theorem dL_law_380 : decode cL_law 380 = .ok (.iload_n 3, 1) := by decide +kernel
theorem dL_law_381 : decode cL_law 381 = .ok (.iconst 4, 1) := by decide +kernel
theorem dL_law_382 : decode cL_law 382 = .ok (.iadd, 1) := by decide +kernel
theorem dL_law_383 : decode cL_law 383 = .ok (.iaload, 1) := by decide +kernel
theorem dL_law_384 : decode cL_law 384 = .ok (.invokevirtual 40, 3) := by decide +kernel
theorem dL_law_387 : decode cL_law 387 = .ok (.aload_n 2, 1) := by decide +kernel
theorem dL_law_388 : decode cL_law 388 = .ok (.aload_n 0, 1) := by decide +kernel
theorem dL_law_389 : decode cL_law 389 = .ok (.iload_n 3, 1) := by decide +kernel
theorem dL_law_390 : decode cL_law 390 = .ok (.iconst 1, 1) := by decide +kernel
theorem dL_law_391 : decode cL_law 391 = .ok (.iadd, 1) := by decide +kernel
theorem dL_law_392 : decode cL_law 392 = .ok (.iaload, 1) := by decide +kernel
theorem dL_law_393 : decode cL_law 393 = .ok (.aload_n 0, 1) := by decide +kernel
theorem dL_law_394 : decode cL_law 394 = .ok (.iload_n 3, 1) := by decide +kernel
theorem dL_law_395 : decode cL_law 395 = .ok (.iconst 2, 1) := by decide +kernel
theorem dL_law_396 : decode cL_law 396 = .ok (.iadd, 1) := by decide +kernel
theorem dL_law_397 : decode cL_law 397 = .ok (.iaload, 1) := by decide +kernel
theorem dL_law_398 : decode cL_law 398 = .ok (.i2l, 1) := by decide +kernel
theorem dL_law_399 : decode cL_law 399 = .ok (.bipush 32, 2) := by decide +kernel
theorem dL_law_401 : decode cL_law 401 = .ok (.lshl, 1) := by decide +kernel
theorem dL_law_402 : decode cL_law 402 = .ok (.aload_n 0, 1) := by decide +kernel
theorem dL_law_403 : decode cL_law 403 = .ok (.iload_n 3, 1) := by decide +kernel
theorem dL_law_404 : decode cL_law 404 = .ok (.iconst 3, 1) := by decide +kernel
theorem dL_law_405 : decode cL_law 405 = .ok (.iadd, 1) := by decide +kernel
theorem dL_law_406 : decode cL_law 406 = .ok (.iaload, 1) := by decide +kernel
theorem dL_law_407 : decode cL_law 407 = .ok (.i2l, 1) := by decide +kernel
theorem dL_law_408 : decode cL_law 408 = .ok (.ldc2_w 18, 3) := by decide +kernel
theorem dL_law_411 : decode cL_law 411 = .ok (.land, 1) := by decide +kernel
theorem dL_law_412 : decode cL_law 412 = .ok (.lor, 1) := by decide +kernel
theorem dL_law_413 : decode cL_law 413 = .ok (.aload_n 0, 1) := by decide +kernel
theorem dL_law_414 : decode cL_law 414 = .ok (.iload_n 3, 1) := by decide +kernel
theorem dL_law_415 : decode cL_law 415 = .ok (.iconst 4, 1) := by decide +kernel
theorem dL_law_416 : decode cL_law 416 = .ok (.iadd, 1) := by decide +kernel
theorem dL_law_417 : decode cL_law 417 = .ok (.iaload, 1) := by decide +kernel
theorem dL_law_418 : decode cL_law 418 = .ok (.invokevirtual 44, 3) := by decide +kernel
theorem dL_law_421 : decode cL_law 421 = .ok (.if_icmp .eq 537, 3) := by decide +kernel
theorem dL_law_424 : decode cL_law 424 = .ok (.iconst 0, 1) := by decide +kernel
theorem dL_law_425 : decode cL_law 425 = .ok (.ireturn, 1) := by decide +kernel
theorem dL_law_426 : decode cL_law 426 = .ok (.aload_n 1, 1) := by decide +kernel
theorem dL_law_427 : decode cL_law 427 = .ok (.aload_n 0, 1) := by decide +kernel
theorem dL_law_428 : decode cL_law 428 = .ok (.iload_n 3, 1) := by decide +kernel
theorem dL_law_429 : decode cL_law 429 = .ok (.iconst 1, 1) := by decide +kernel
theorem dL_law_430 : decode cL_law 430 = .ok (.iadd, 1) := by decide +kernel
theorem dL_law_431 : decode cL_law 431 = .ok (.iaload, 1) := by decide +kernel
theorem dL_law_432 : decode cL_law 432 = .ok (.aload_n 0, 1) := by decide +kernel
theorem dL_law_433 : decode cL_law 433 = .ok (.iload_n 3, 1) := by decide +kernel
theorem dL_law_434 : decode cL_law 434 = .ok (.iconst 2, 1) := by decide +kernel
theorem dL_law_435 : decode cL_law 435 = .ok (.iadd, 1) := by decide +kernel
theorem dL_law_436 : decode cL_law 436 = .ok (.iaload, 1) := by decide +kernel
theorem dL_law_437 : decode cL_law 437 = .ok (.aload_n 0, 1) := by decide +kernel
theorem dL_law_438 : decode cL_law 438 = .ok (.iload_n 3, 1) := by decide +kernel
theorem dL_law_439 : decode cL_law 439 = .ok (.iconst 3, 1) := by decide +kernel
theorem dL_law_440 : decode cL_law 440 = .ok (.iadd, 1) := by decide +kernel
theorem dL_law_441 : decode cL_law 441 = .ok (.iaload, 1) := by decide +kernel
theorem dL_law_442 : decode cL_law 442 = .ok (.invokevirtual 45, 3) := by decide +kernel
theorem dL_law_445 : decode cL_law 445 = .ok (.aload_n 2, 1) := by decide +kernel
theorem dL_law_446 : decode cL_law 446 = .ok (.aload_n 0, 1) := by decide +kernel
theorem dL_law_447 : decode cL_law 447 = .ok (.iload_n 3, 1) := by decide +kernel
theorem dL_law_448 : decode cL_law 448 = .ok (.iconst 1, 1) := by decide +kernel
theorem dL_law_449 : decode cL_law 449 = .ok (.iadd, 1) := by decide +kernel
theorem dL_law_450 : decode cL_law 450 = .ok (.iaload, 1) := by decide +kernel
theorem dL_law_451 : decode cL_law 451 = .ok (.aload_n 0, 1) := by decide +kernel
theorem dL_law_452 : decode cL_law 452 = .ok (.iload_n 3, 1) := by decide +kernel
theorem dL_law_453 : decode cL_law 453 = .ok (.iconst 2, 1) := by decide +kernel
theorem dL_law_454 : decode cL_law 454 = .ok (.iadd, 1) := by decide +kernel
theorem dL_law_455 : decode cL_law 455 = .ok (.iaload, 1) := by decide +kernel
theorem dL_law_456 : decode cL_law 456 = .ok (.aload_n 0, 1) := by decide +kernel
theorem dL_law_457 : decode cL_law 457 = .ok (.iload_n 3, 1) := by decide +kernel
theorem dL_law_458 : decode cL_law 458 = .ok (.iconst 3, 1) := by decide +kernel
theorem dL_law_459 : decode cL_law 459 = .ok (.iadd, 1) := by decide +kernel
theorem dL_law_460 : decode cL_law 460 = .ok (.iaload, 1) := by decide +kernel
theorem dL_law_461 : decode cL_law 461 = .ok (.invokevirtual 48, 3) := by decide +kernel
theorem dL_law_464 : decode cL_law 464 = .ok (.if_icmp .eq 494, 3) := by decide +kernel
theorem dL_law_467 : decode cL_law 467 = .ok (.iconst 0, 1) := by decide +kernel
theorem dL_law_468 : decode cL_law 468 = .ok (.ireturn, 1) := by decide +kernel
theorem dL_law_469 : decode cL_law 469 = .ok (.aload_n 1, 1) := by decide +kernel
theorem dL_law_470 : decode cL_law 470 = .ok (.aload_n 0, 1) := by decide +kernel
theorem dL_law_471 : decode cL_law 471 = .ok (.iload_n 3, 1) := by decide +kernel
theorem dL_law_472 : decode cL_law 472 = .ok (.iconst 1, 1) := by decide +kernel
theorem dL_law_473 : decode cL_law 473 = .ok (.iadd, 1) := by decide +kernel
theorem dL_law_474 : decode cL_law 474 = .ok (.iaload, 1) := by decide +kernel
theorem dL_law_475 : decode cL_law 475 = .ok (.aload_n 0, 1) := by decide +kernel
theorem dL_law_476 : decode cL_law 476 = .ok (.iload_n 3, 1) := by decide +kernel
theorem dL_law_477 : decode cL_law 477 = .ok (.iconst 2, 1) := by decide +kernel
theorem dL_law_478 : decode cL_law 478 = .ok (.iadd, 1) := by decide +kernel
theorem dL_law_479 : decode cL_law 479 = .ok (.iaload, 1) := by decide +kernel
theorem dL_law_480 : decode cL_law 480 = .ok (.invokevirtual 49, 3) := by decide +kernel
theorem dL_law_483 : decode cL_law 483 = .ok (.aload_n 2, 1) := by decide +kernel
theorem dL_law_484 : decode cL_law 484 = .ok (.aload_n 0, 1) := by decide +kernel
theorem dL_law_485 : decode cL_law 485 = .ok (.iload_n 3, 1) := by decide +kernel
theorem dL_law_486 : decode cL_law 486 = .ok (.iconst 1, 1) := by decide +kernel
theorem dL_law_487 : decode cL_law 487 = .ok (.iadd, 1) := by decide +kernel
theorem dL_law_488 : decode cL_law 488 = .ok (.iaload, 1) := by decide +kernel
theorem dL_law_489 : decode cL_law 489 = .ok (.aload_n 0, 1) := by decide +kernel
theorem dL_law_490 : decode cL_law 490 = .ok (.iload_n 3, 1) := by decide +kernel
theorem dL_law_491 : decode cL_law 491 = .ok (.iconst 2, 1) := by decide +kernel
theorem dL_law_492 : decode cL_law 492 = .ok (.iadd, 1) := by decide +kernel
theorem dL_law_493 : decode cL_law 493 = .ok (.iaload, 1) := by decide +kernel
theorem dL_law_494 : decode cL_law 494 = .ok (.invokevirtual 53, 3) := by decide +kernel
theorem dL_law_497 : decode cL_law 497 = .ok (.if_icmp .eq 461, 3) := by decide +kernel
theorem dL_law_500 : decode cL_law 500 = .ok (.iconst 0, 1) := by decide +kernel
theorem dL_law_501 : decode cL_law 501 = .ok (.ireturn, 1) := by decide +kernel
theorem dL_law_502 : decode cL_law 502 = .ok (.aload_n 1, 1) := by decide +kernel
theorem dL_law_503 : decode cL_law 503 = .ok (.aload_n 0, 1) := by decide +kernel
theorem dL_law_504 : decode cL_law 504 = .ok (.iload_n 3, 1) := by decide +kernel
theorem dL_law_505 : decode cL_law 505 = .ok (.iconst 1, 1) := by decide +kernel
theorem dL_law_506 : decode cL_law 506 = .ok (.iadd, 1) := by decide +kernel
theorem dL_law_507 : decode cL_law 507 = .ok (.iaload, 1) := by decide +kernel
theorem dL_law_508 : decode cL_law 508 = .ok (.aload_n 0, 1) := by decide +kernel
theorem dL_law_509 : decode cL_law 509 = .ok (.iload_n 3, 1) := by decide +kernel
theorem dL_law_510 : decode cL_law 510 = .ok (.iconst 2, 1) := by decide +kernel
theorem dL_law_511 : decode cL_law 511 = .ok (.iadd, 1) := by decide +kernel
theorem dL_law_512 : decode cL_law 512 = .ok (.iaload, 1) := by decide +kernel
theorem dL_law_513 : decode cL_law 513 = .ok (.i2l, 1) := by decide +kernel
theorem dL_law_514 : decode cL_law 514 = .ok (.bipush 32, 2) := by decide +kernel
theorem dL_law_516 : decode cL_law 516 = .ok (.lshl, 1) := by decide +kernel
theorem dL_law_517 : decode cL_law 517 = .ok (.aload_n 0, 1) := by decide +kernel
theorem dL_law_518 : decode cL_law 518 = .ok (.iload_n 3, 1) := by decide +kernel
theorem dL_law_519 : decode cL_law 519 = .ok (.iconst 3, 1) := by decide +kernel
theorem dL_law_520 : decode cL_law 520 = .ok (.iadd, 1) := by decide +kernel
theorem dL_law_521 : decode cL_law 521 = .ok (.iaload, 1) := by decide +kernel
theorem dL_law_522 : decode cL_law 522 = .ok (.i2l, 1) := by decide +kernel
theorem dL_law_523 : decode cL_law 523 = .ok (.ldc2_w 18, 3) := by decide +kernel
theorem dL_law_526 : decode cL_law 526 = .ok (.land, 1) := by decide +kernel
theorem dL_law_527 : decode cL_law 527 = .ok (.lor, 1) := by decide +kernel
theorem dL_law_528 : decode cL_law 528 = .ok (.aload_n 0, 1) := by decide +kernel
theorem dL_law_529 : decode cL_law 529 = .ok (.iload_n 3, 1) := by decide +kernel
theorem dL_law_530 : decode cL_law 530 = .ok (.iconst 4, 1) := by decide +kernel
theorem dL_law_531 : decode cL_law 531 = .ok (.iadd, 1) := by decide +kernel
theorem dL_law_532 : decode cL_law 532 = .ok (.iaload, 1) := by decide +kernel
theorem dL_law_533 : decode cL_law 533 = .ok (.i2l, 1) := by decide +kernel
theorem dL_law_534 : decode cL_law 534 = .ok (.bipush 32, 2) := by decide +kernel
theorem dL_law_536 : decode cL_law 536 = .ok (.lshl, 1) := by decide +kernel
theorem dL_law_537 : decode cL_law 537 = .ok (.aload_n 0, 1) := by decide +kernel
theorem dL_law_538 : decode cL_law 538 = .ok (.iload_n 3, 1) := by decide +kernel
theorem dL_law_539 : decode cL_law 539 = .ok (.iconst 5, 1) := by decide +kernel
theorem dL_law_540 : decode cL_law 540 = .ok (.iadd, 1) := by decide +kernel
theorem dL_law_541 : decode cL_law 541 = .ok (.iaload, 1) := by decide +kernel
theorem dL_law_542 : decode cL_law 542 = .ok (.i2l, 1) := by decide +kernel
theorem dL_law_543 : decode cL_law 543 = .ok (.ldc2_w 18, 3) := by decide +kernel
theorem dL_law_546 : decode cL_law 546 = .ok (.land, 1) := by decide +kernel
theorem dL_law_547 : decode cL_law 547 = .ok (.lor, 1) := by decide +kernel
theorem dL_law_548 : decode cL_law 548 = .ok (.invokevirtual 54, 3) := by decide +kernel
theorem dL_law_551 : decode cL_law 551 = .ok (.aload_n 2, 1) := by decide +kernel
theorem dL_law_552 : decode cL_law 552 = .ok (.aload_n 0, 1) := by decide +kernel
theorem dL_law_553 : decode cL_law 553 = .ok (.iload_n 3, 1) := by decide +kernel
theorem dL_law_554 : decode cL_law 554 = .ok (.iconst 1, 1) := by decide +kernel
theorem dL_law_555 : decode cL_law 555 = .ok (.iadd, 1) := by decide +kernel
theorem dL_law_556 : decode cL_law 556 = .ok (.iaload, 1) := by decide +kernel
theorem dL_law_557 : decode cL_law 557 = .ok (.aload_n 0, 1) := by decide +kernel
theorem dL_law_558 : decode cL_law 558 = .ok (.iload_n 3, 1) := by decide +kernel
theorem dL_law_559 : decode cL_law 559 = .ok (.iconst 2, 1) := by decide +kernel
theorem dL_law_560 : decode cL_law 560 = .ok (.iadd, 1) := by decide +kernel
theorem dL_law_561 : decode cL_law 561 = .ok (.iaload, 1) := by decide +kernel
theorem dL_law_562 : decode cL_law 562 = .ok (.i2l, 1) := by decide +kernel
theorem dL_law_563 : decode cL_law 563 = .ok (.bipush 32, 2) := by decide +kernel
theorem dL_law_565 : decode cL_law 565 = .ok (.lshl, 1) := by decide +kernel
theorem dL_law_566 : decode cL_law 566 = .ok (.aload_n 0, 1) := by decide +kernel
theorem dL_law_567 : decode cL_law 567 = .ok (.iload_n 3, 1) := by decide +kernel
theorem dL_law_568 : decode cL_law 568 = .ok (.iconst 3, 1) := by decide +kernel
theorem dL_law_569 : decode cL_law 569 = .ok (.iadd, 1) := by decide +kernel
theorem dL_law_570 : decode cL_law 570 = .ok (.iaload, 1) := by decide +kernel
theorem dL_law_571 : decode cL_law 571 = .ok (.i2l, 1) := by decide +kernel
theorem dL_law_572 : decode cL_law 572 = .ok (.ldc2_w 18, 3) := by decide +kernel
theorem dL_law_575 : decode cL_law 575 = .ok (.land, 1) := by decide +kernel
theorem dL_law_576 : decode cL_law 576 = .ok (.lor, 1) := by decide +kernel
theorem dL_law_577 : decode cL_law 577 = .ok (.aload_n 0, 1) := by decide +kernel
theorem dL_law_578 : decode cL_law 578 = .ok (.iload_n 3, 1) := by decide +kernel
theorem dL_law_579 : decode cL_law 579 = .ok (.iconst 4, 1) := by decide +kernel
theorem dL_law_580 : decode cL_law 580 = .ok (.iadd, 1) := by decide +kernel
theorem dL_law_581 : decode cL_law 581 = .ok (.iaload, 1) := by decide +kernel
theorem dL_law_582 : decode cL_law 582 = .ok (.i2l, 1) := by decide +kernel
theorem dL_law_583 : decode cL_law 583 = .ok (.bipush 32, 2) := by decide +kernel
theorem dL_law_585 : decode cL_law 585 = .ok (.lshl, 1) := by decide +kernel
theorem dL_law_586 : decode cL_law 586 = .ok (.aload_n 0, 1) := by decide +kernel
theorem dL_law_587 : decode cL_law 587 = .ok (.iload_n 3, 1) := by decide +kernel
theorem dL_law_588 : decode cL_law 588 = .ok (.iconst 5, 1) := by decide +kernel
theorem dL_law_589 : decode cL_law 589 = .ok (.iadd, 1) := by decide +kernel
theorem dL_law_590 : decode cL_law 590 = .ok (.iaload, 1) := by decide +kernel
theorem dL_law_591 : decode cL_law 591 = .ok (.i2l, 1) := by decide +kernel
theorem dL_law_592 : decode cL_law 592 = .ok (.ldc2_w 18, 3) := by decide +kernel
theorem dL_law_595 : decode cL_law 595 = .ok (.land, 1) := by decide +kernel
theorem dL_law_596 : decode cL_law 596 = .ok (.lor, 1) := by decide +kernel
theorem dL_law_597 : decode cL_law 597 = .ok (.invokevirtual 58, 3) := by decide +kernel
theorem dL_law_600 : decode cL_law 600 = .ok (.if_icmp .eq 358, 3) := by decide +kernel
theorem dL_law_603 : decode cL_law 603 = .ok (.iconst 0, 1) := by decide +kernel
theorem dL_law_604 : decode cL_law 604 = .ok (.ireturn, 1) := by decide +kernel
theorem dL_law_605 : decode cL_law 605 = .ok (.aload_n 1, 1) := by decide +kernel
theorem dL_law_606 : decode cL_law 606 = .ok (.aload_n 0, 1) := by decide +kernel
theorem dL_law_607 : decode cL_law 607 = .ok (.iload_n 3, 1) := by decide +kernel
theorem dL_law_608 : decode cL_law 608 = .ok (.iconst 1, 1) := by decide +kernel
theorem dL_law_609 : decode cL_law 609 = .ok (.iadd, 1) := by decide +kernel
theorem dL_law_610 : decode cL_law 610 = .ok (.iaload, 1) := by decide +kernel
theorem dL_law_611 : decode cL_law 611 = .ok (.aload_n 0, 1) := by decide +kernel
theorem dL_law_612 : decode cL_law 612 = .ok (.iload_n 3, 1) := by decide +kernel
theorem dL_law_613 : decode cL_law 613 = .ok (.iconst 2, 1) := by decide +kernel
theorem dL_law_614 : decode cL_law 614 = .ok (.iadd, 1) := by decide +kernel
theorem dL_law_615 : decode cL_law 615 = .ok (.iaload, 1) := by decide +kernel
theorem dL_law_616 : decode cL_law 616 = .ok (.invokevirtual 59, 3) := by decide +kernel
theorem dL_law_619 : decode cL_law 619 = .ok (.aload_n 2, 1) := by decide +kernel
theorem dL_law_620 : decode cL_law 620 = .ok (.aload_n 0, 1) := by decide +kernel
theorem dL_law_621 : decode cL_law 621 = .ok (.iload_n 3, 1) := by decide +kernel
theorem dL_law_622 : decode cL_law 622 = .ok (.iconst 1, 1) := by decide +kernel
theorem dL_law_623 : decode cL_law 623 = .ok (.iadd, 1) := by decide +kernel
theorem dL_law_624 : decode cL_law 624 = .ok (.iaload, 1) := by decide +kernel
theorem dL_law_625 : decode cL_law 625 = .ok (.aload_n 0, 1) := by decide +kernel
theorem dL_law_626 : decode cL_law 626 = .ok (.iload_n 3, 1) := by decide +kernel
theorem dL_law_627 : decode cL_law 627 = .ok (.iconst 2, 1) := by decide +kernel
theorem dL_law_628 : decode cL_law 628 = .ok (.iadd, 1) := by decide +kernel
theorem dL_law_629 : decode cL_law 629 = .ok (.iaload, 1) := by decide +kernel
theorem dL_law_630 : decode cL_law 630 = .ok (.invokevirtual 63, 3) := by decide +kernel
theorem dL_law_633 : decode cL_law 633 = .ok (.if_icmp .eq 325, 3) := by decide +kernel
theorem dL_law_636 : decode cL_law 636 = .ok (.iconst 0, 1) := by decide +kernel
theorem dL_law_637 : decode cL_law 637 = .ok (.ireturn, 1) := by decide +kernel
theorem dL_law_638 : decode cL_law 638 = .ok (.aload_n 1, 1) := by decide +kernel
theorem dL_law_639 : decode cL_law 639 = .ok (.aload_n 0, 1) := by decide +kernel
theorem dL_law_640 : decode cL_law 640 = .ok (.iload_n 3, 1) := by decide +kernel
theorem dL_law_641 : decode cL_law 641 = .ok (.iconst 1, 1) := by decide +kernel
theorem dL_law_642 : decode cL_law 642 = .ok (.iadd, 1) := by decide +kernel
theorem dL_law_643 : decode cL_law 643 = .ok (.iaload, 1) := by decide +kernel
theorem dL_law_644 : decode cL_law 644 = .ok (.invokevirtual 64, 3) := by decide +kernel
theorem dL_law_647 : decode cL_law 647 = .ok (.aload_n 2, 1) := by decide +kernel
theorem dL_law_648 : decode cL_law 648 = .ok (.aload_n 0, 1) := by decide +kernel
theorem dL_law_649 : decode cL_law 649 = .ok (.iload_n 3, 1) := by decide +kernel
theorem dL_law_650 : decode cL_law 650 = .ok (.iconst 1, 1) := by decide +kernel
theorem dL_law_651 : decode cL_law 651 = .ok (.iadd, 1) := by decide +kernel
theorem dL_law_652 : decode cL_law 652 = .ok (.iaload, 1) := by decide +kernel
theorem dL_law_653 : decode cL_law 653 = .ok (.invokevirtual 67, 3) := by decide +kernel
theorem dL_law_656 : decode cL_law 656 = .ok (.if_icmp .eq 302, 3) := by decide +kernel
theorem dL_law_659 : decode cL_law 659 = .ok (.iconst 0, 1) := by decide +kernel
theorem dL_law_660 : decode cL_law 660 = .ok (.ireturn, 1) := by decide +kernel
theorem dL_law_661 : decode cL_law 661 = .ok (.aload_n 1, 1) := by decide +kernel
theorem dL_law_662 : decode cL_law 662 = .ok (.aload_n 0, 1) := by decide +kernel
theorem dL_law_663 : decode cL_law 663 = .ok (.iload_n 3, 1) := by decide +kernel
theorem dL_law_664 : decode cL_law 664 = .ok (.iconst 1, 1) := by decide +kernel
theorem dL_law_665 : decode cL_law 665 = .ok (.iadd, 1) := by decide +kernel
theorem dL_law_666 : decode cL_law 666 = .ok (.iaload, 1) := by decide +kernel
theorem dL_law_667 : decode cL_law 667 = .ok (.invokevirtual 68, 3) := by decide +kernel
theorem dL_law_670 : decode cL_law 670 = .ok (.aload_n 2, 1) := by decide +kernel
theorem dL_law_671 : decode cL_law 671 = .ok (.aload_n 0, 1) := by decide +kernel
theorem dL_law_672 : decode cL_law 672 = .ok (.iload_n 3, 1) := by decide +kernel
theorem dL_law_673 : decode cL_law 673 = .ok (.iconst 1, 1) := by decide +kernel
theorem dL_law_674 : decode cL_law 674 = .ok (.iadd, 1) := by decide +kernel
theorem dL_law_675 : decode cL_law 675 = .ok (.iaload, 1) := by decide +kernel
theorem dL_law_676 : decode cL_law 676 = .ok (.invokevirtual 71, 3) := by decide +kernel
theorem dL_law_679 : decode cL_law 679 = .ok (.if_icmp .eq 279, 3) := by decide +kernel
theorem dL_law_682 : decode cL_law 682 = .ok (.iconst 0, 1) := by decide +kernel
theorem dL_law_683 : decode cL_law 683 = .ok (.ireturn, 1) := by decide +kernel
theorem dL_law_684 : decode cL_law 684 = .ok (.aload_n 1, 1) := by decide +kernel
theorem dL_law_685 : decode cL_law 685 = .ok (.aload_n 0, 1) := by decide +kernel
theorem dL_law_686 : decode cL_law 686 = .ok (.iload_n 3, 1) := by decide +kernel
theorem dL_law_687 : decode cL_law 687 = .ok (.iconst 1, 1) := by decide +kernel
theorem dL_law_688 : decode cL_law 688 = .ok (.iadd, 1) := by decide +kernel
theorem dL_law_689 : decode cL_law 689 = .ok (.iaload, 1) := by decide +kernel
theorem dL_law_690 : decode cL_law 690 = .ok (.aload_n 0, 1) := by decide +kernel
theorem dL_law_691 : decode cL_law 691 = .ok (.iload_n 3, 1) := by decide +kernel
theorem dL_law_692 : decode cL_law 692 = .ok (.iconst 2, 1) := by decide +kernel
theorem dL_law_693 : decode cL_law 693 = .ok (.iadd, 1) := by decide +kernel
theorem dL_law_694 : decode cL_law 694 = .ok (.iaload, 1) := by decide +kernel
theorem dL_law_695 : decode cL_law 695 = .ok (.invokevirtual 72, 3) := by decide +kernel
theorem dL_law_698 : decode cL_law 698 = .ok (.aload_n 2, 1) := by decide +kernel
theorem dL_law_699 : decode cL_law 699 = .ok (.aload_n 0, 1) := by decide +kernel
theorem dL_law_700 : decode cL_law 700 = .ok (.iload_n 3, 1) := by decide +kernel
theorem dL_law_701 : decode cL_law 701 = .ok (.iconst 1, 1) := by decide +kernel
theorem dL_law_702 : decode cL_law 702 = .ok (.iadd, 1) := by decide +kernel
theorem dL_law_703 : decode cL_law 703 = .ok (.iaload, 1) := by decide +kernel
theorem dL_law_704 : decode cL_law 704 = .ok (.aload_n 0, 1) := by decide +kernel
theorem dL_law_705 : decode cL_law 705 = .ok (.iload_n 3, 1) := by decide +kernel
theorem dL_law_706 : decode cL_law 706 = .ok (.iconst 2, 1) := by decide +kernel
theorem dL_law_707 : decode cL_law 707 = .ok (.iadd, 1) := by decide +kernel
theorem dL_law_708 : decode cL_law 708 = .ok (.iaload, 1) := by decide +kernel
theorem dL_law_709 : decode cL_law 709 = .ok (.invokevirtual 75, 3) := by decide +kernel
theorem dL_law_712 : decode cL_law 712 = .ok (.if_icmp .eq 246, 3) := by decide +kernel
theorem dL_law_715 : decode cL_law 715 = .ok (.iconst 0, 1) := by decide +kernel
theorem dL_law_716 : decode cL_law 716 = .ok (.ireturn, 1) := by decide +kernel
theorem dL_law_717 : decode cL_law 717 = .ok (.aload_n 1, 1) := by decide +kernel
theorem dL_law_718 : decode cL_law 718 = .ok (.aload_n 0, 1) := by decide +kernel
theorem dL_law_719 : decode cL_law 719 = .ok (.iload_n 3, 1) := by decide +kernel
theorem dL_law_720 : decode cL_law 720 = .ok (.iconst 1, 1) := by decide +kernel
theorem dL_law_721 : decode cL_law 721 = .ok (.iadd, 1) := by decide +kernel
theorem dL_law_722 : decode cL_law 722 = .ok (.iaload, 1) := by decide +kernel
theorem dL_law_723 : decode cL_law 723 = .ok (.aload_n 0, 1) := by decide +kernel
theorem dL_law_724 : decode cL_law 724 = .ok (.iload_n 3, 1) := by decide +kernel
theorem dL_law_725 : decode cL_law 725 = .ok (.iconst 2, 1) := by decide +kernel
theorem dL_law_726 : decode cL_law 726 = .ok (.iadd, 1) := by decide +kernel
theorem dL_law_727 : decode cL_law 727 = .ok (.iaload, 1) := by decide +kernel
theorem dL_law_728 : decode cL_law 728 = .ok (.invokevirtual 76, 3) := by decide +kernel
theorem dL_law_731 : decode cL_law 731 = .ok (.aload_n 2, 1) := by decide +kernel
theorem dL_law_732 : decode cL_law 732 = .ok (.aload_n 0, 1) := by decide +kernel
theorem dL_law_733 : decode cL_law 733 = .ok (.iload_n 3, 1) := by decide +kernel
theorem dL_law_734 : decode cL_law 734 = .ok (.iconst 1, 1) := by decide +kernel
theorem dL_law_735 : decode cL_law 735 = .ok (.iadd, 1) := by decide +kernel
theorem dL_law_736 : decode cL_law 736 = .ok (.iaload, 1) := by decide +kernel
theorem dL_law_737 : decode cL_law 737 = .ok (.aload_n 0, 1) := by decide +kernel
theorem dL_law_738 : decode cL_law 738 = .ok (.iload_n 3, 1) := by decide +kernel
theorem dL_law_739 : decode cL_law 739 = .ok (.iconst 2, 1) := by decide +kernel
theorem dL_law_740 : decode cL_law 740 = .ok (.iadd, 1) := by decide +kernel
theorem dL_law_741 : decode cL_law 741 = .ok (.iaload, 1) := by decide +kernel
theorem dL_law_742 : decode cL_law 742 = .ok (.invokevirtual 79, 3) := by decide +kernel
theorem dL_law_745 : decode cL_law 745 = .ok (.if_icmp .eq 213, 3) := by decide +kernel
theorem dL_law_748 : decode cL_law 748 = .ok (.iconst 0, 1) := by decide +kernel
theorem dL_law_749 : decode cL_law 749 = .ok (.ireturn, 1) := by decide +kernel
theorem dL_law_750 : decode cL_law 750 = .ok (.aload_n 1, 1) := by decide +kernel
theorem dL_law_751 : decode cL_law 751 = .ok (.aload_n 0, 1) := by decide +kernel
theorem dL_law_752 : decode cL_law 752 = .ok (.iload_n 3, 1) := by decide +kernel
theorem dL_law_753 : decode cL_law 753 = .ok (.iconst 1, 1) := by decide +kernel
theorem dL_law_754 : decode cL_law 754 = .ok (.iadd, 1) := by decide +kernel
theorem dL_law_755 : decode cL_law 755 = .ok (.iaload, 1) := by decide +kernel
theorem dL_law_756 : decode cL_law 756 = .ok (.invokevirtual 80, 3) := by decide +kernel
theorem dL_law_759 : decode cL_law 759 = .ok (.aload_n 2, 1) := by decide +kernel
theorem dL_law_760 : decode cL_law 760 = .ok (.aload_n 0, 1) := by decide +kernel
theorem dL_law_761 : decode cL_law 761 = .ok (.iload_n 3, 1) := by decide +kernel
theorem dL_law_762 : decode cL_law 762 = .ok (.iconst 1, 1) := by decide +kernel
theorem dL_law_763 : decode cL_law 763 = .ok (.iadd, 1) := by decide +kernel
theorem dL_law_764 : decode cL_law 764 = .ok (.iaload, 1) := by decide +kernel
theorem dL_law_765 : decode cL_law 765 = .ok (.invokevirtual 83, 3) := by decide +kernel
theorem dL_law_768 : decode cL_law 768 = .ok (.if_icmp .eq 190, 3) := by decide +kernel
theorem dL_law_771 : decode cL_law 771 = .ok (.iconst 0, 1) := by decide +kernel
theorem dL_law_772 : decode cL_law 772 = .ok (.ireturn, 1) := by decide +kernel
theorem dL_law_773 : decode cL_law 773 = .ok (.aload_n 1, 1) := by decide +kernel
theorem dL_law_774 : decode cL_law 774 = .ok (.aload_n 0, 1) := by decide +kernel
theorem dL_law_775 : decode cL_law 775 = .ok (.iload_n 3, 1) := by decide +kernel
theorem dL_law_776 : decode cL_law 776 = .ok (.iconst 1, 1) := by decide +kernel
theorem dL_law_777 : decode cL_law 777 = .ok (.iadd, 1) := by decide +kernel
theorem dL_law_778 : decode cL_law 778 = .ok (.iaload, 1) := by decide +kernel
theorem dL_law_779 : decode cL_law 779 = .ok (.invokevirtual 84, 3) := by decide +kernel
theorem dL_law_782 : decode cL_law 782 = .ok (.aload_n 2, 1) := by decide +kernel
theorem dL_law_783 : decode cL_law 783 = .ok (.aload_n 0, 1) := by decide +kernel
theorem dL_law_784 : decode cL_law 784 = .ok (.iload_n 3, 1) := by decide +kernel
theorem dL_law_785 : decode cL_law 785 = .ok (.iconst 1, 1) := by decide +kernel
theorem dL_law_786 : decode cL_law 786 = .ok (.iadd, 1) := by decide +kernel
theorem dL_law_787 : decode cL_law 787 = .ok (.iaload, 1) := by decide +kernel
theorem dL_law_788 : decode cL_law 788 = .ok (.invokevirtual 87, 3) := by decide +kernel
theorem dL_law_791 : decode cL_law 791 = .ok (.if_icmp .eq 167, 3) := by decide +kernel
theorem dL_law_794 : decode cL_law 794 = .ok (.iconst 0, 1) := by decide +kernel
theorem dL_law_795 : decode cL_law 795 = .ok (.ireturn, 1) := by decide +kernel
theorem dL_law_796 : decode cL_law 796 = .ok (.aload_n 1, 1) := by decide +kernel
theorem dL_law_797 : decode cL_law 797 = .ok (.aload_n 0, 1) := by decide +kernel
theorem dL_law_798 : decode cL_law 798 = .ok (.iload_n 3, 1) := by decide +kernel
theorem dL_law_799 : decode cL_law 799 = .ok (.iconst 1, 1) := by decide +kernel
theorem dL_law_800 : decode cL_law 800 = .ok (.iadd, 1) := by decide +kernel
theorem dL_law_801 : decode cL_law 801 = .ok (.iaload, 1) := by decide +kernel
theorem dL_law_802 : decode cL_law 802 = .ok (.aload_n 0, 1) := by decide +kernel
theorem dL_law_803 : decode cL_law 803 = .ok (.iload_n 3, 1) := by decide +kernel
theorem dL_law_804 : decode cL_law 804 = .ok (.iconst 2, 1) := by decide +kernel
theorem dL_law_805 : decode cL_law 805 = .ok (.iadd, 1) := by decide +kernel
theorem dL_law_806 : decode cL_law 806 = .ok (.iaload, 1) := by decide +kernel
theorem dL_law_807 : decode cL_law 807 = .ok (.invokevirtual 88, 3) := by decide +kernel
theorem dL_law_810 : decode cL_law 810 = .ok (.aload_n 2, 1) := by decide +kernel
theorem dL_law_811 : decode cL_law 811 = .ok (.aload_n 0, 1) := by decide +kernel
theorem dL_law_812 : decode cL_law 812 = .ok (.iload_n 3, 1) := by decide +kernel
theorem dL_law_813 : decode cL_law 813 = .ok (.iconst 1, 1) := by decide +kernel
theorem dL_law_814 : decode cL_law 814 = .ok (.iadd, 1) := by decide +kernel
theorem dL_law_815 : decode cL_law 815 = .ok (.iaload, 1) := by decide +kernel
theorem dL_law_816 : decode cL_law 816 = .ok (.aload_n 0, 1) := by decide +kernel
theorem dL_law_817 : decode cL_law 817 = .ok (.iload_n 3, 1) := by decide +kernel
theorem dL_law_818 : decode cL_law 818 = .ok (.iconst 2, 1) := by decide +kernel
theorem dL_law_819 : decode cL_law 819 = .ok (.iadd, 1) := by decide +kernel
theorem dL_law_820 : decode cL_law 820 = .ok (.iaload, 1) := by decide +kernel
theorem dL_law_821 : decode cL_law 821 = .ok (.invokevirtual 91, 3) := by decide +kernel
theorem dL_law_824 : decode cL_law 824 = .ok (.if_icmp .eq 134, 3) := by decide +kernel
theorem dL_law_827 : decode cL_law 827 = .ok (.iconst 0, 1) := by decide +kernel
theorem dL_law_828 : decode cL_law 828 = .ok (.ireturn, 1) := by decide +kernel
theorem dL_law_829 : decode cL_law 829 = .ok (.aload_n 1, 1) := by decide +kernel
theorem dL_law_830 : decode cL_law 830 = .ok (.aload_n 0, 1) := by decide +kernel
theorem dL_law_831 : decode cL_law 831 = .ok (.iload_n 3, 1) := by decide +kernel
theorem dL_law_832 : decode cL_law 832 = .ok (.iconst 1, 1) := by decide +kernel
theorem dL_law_833 : decode cL_law 833 = .ok (.iadd, 1) := by decide +kernel
theorem dL_law_834 : decode cL_law 834 = .ok (.iaload, 1) := by decide +kernel
theorem dL_law_835 : decode cL_law 835 = .ok (.invokevirtual 92, 3) := by decide +kernel
theorem dL_law_838 : decode cL_law 838 = .ok (.aload_n 2, 1) := by decide +kernel
theorem dL_law_839 : decode cL_law 839 = .ok (.aload_n 0, 1) := by decide +kernel
theorem dL_law_840 : decode cL_law 840 = .ok (.iload_n 3, 1) := by decide +kernel
theorem dL_law_841 : decode cL_law 841 = .ok (.iconst 1, 1) := by decide +kernel
theorem dL_law_842 : decode cL_law 842 = .ok (.iadd, 1) := by decide +kernel
theorem dL_law_843 : decode cL_law 843 = .ok (.iaload, 1) := by decide +kernel
theorem dL_law_844 : decode cL_law 844 = .ok (.invokevirtual 95, 3) := by decide +kernel
theorem dL_law_847 : decode cL_law 847 = .ok (.if_icmp .eq 111, 3) := by decide +kernel
theorem dL_law_850 : decode cL_law 850 = .ok (.iconst 0, 1) := by decide +kernel
theorem dL_law_851 : decode cL_law 851 = .ok (.ireturn, 1) := by decide +kernel
theorem dL_law_852 : decode cL_law 852 = .ok (.aload_n 1, 1) := by decide +kernel
theorem dL_law_853 : decode cL_law 853 = .ok (.aload_n 0, 1) := by decide +kernel
theorem dL_law_854 : decode cL_law 854 = .ok (.iload_n 3, 1) := by decide +kernel
theorem dL_law_855 : decode cL_law 855 = .ok (.iconst 1, 1) := by decide +kernel
theorem dL_law_856 : decode cL_law 856 = .ok (.iadd, 1) := by decide +kernel
theorem dL_law_857 : decode cL_law 857 = .ok (.iaload, 1) := by decide +kernel
theorem dL_law_858 : decode cL_law 858 = .ok (.i2l, 1) := by decide +kernel
theorem dL_law_859 : decode cL_law 859 = .ok (.bipush 32, 2) := by decide +kernel
theorem dL_law_861 : decode cL_law 861 = .ok (.lshl, 1) := by decide +kernel
theorem dL_law_862 : decode cL_law 862 = .ok (.aload_n 0, 1) := by decide +kernel
theorem dL_law_863 : decode cL_law 863 = .ok (.iload_n 3, 1) := by decide +kernel
theorem dL_law_864 : decode cL_law 864 = .ok (.iconst 2, 1) := by decide +kernel
theorem dL_law_865 : decode cL_law 865 = .ok (.iadd, 1) := by decide +kernel
theorem dL_law_866 : decode cL_law 866 = .ok (.iaload, 1) := by decide +kernel
theorem dL_law_867 : decode cL_law 867 = .ok (.i2l, 1) := by decide +kernel
theorem dL_law_868 : decode cL_law 868 = .ok (.ldc2_w 18, 3) := by decide +kernel
theorem dL_law_871 : decode cL_law 871 = .ok (.land, 1) := by decide +kernel
theorem dL_law_872 : decode cL_law 872 = .ok (.lor, 1) := by decide +kernel
theorem dL_law_873 : decode cL_law 873 = .ok (.aload_n 0, 1) := by decide +kernel
theorem dL_law_874 : decode cL_law 874 = .ok (.iload_n 3, 1) := by decide +kernel
theorem dL_law_875 : decode cL_law 875 = .ok (.iconst 3, 1) := by decide +kernel
theorem dL_law_876 : decode cL_law 876 = .ok (.iadd, 1) := by decide +kernel
theorem dL_law_877 : decode cL_law 877 = .ok (.iaload, 1) := by decide +kernel
theorem dL_law_878 : decode cL_law 878 = .ok (.i2l, 1) := by decide +kernel
theorem dL_law_879 : decode cL_law 879 = .ok (.bipush 32, 2) := by decide +kernel
theorem dL_law_881 : decode cL_law 881 = .ok (.lshl, 1) := by decide +kernel
theorem dL_law_882 : decode cL_law 882 = .ok (.aload_n 0, 1) := by decide +kernel
theorem dL_law_883 : decode cL_law 883 = .ok (.iload_n 3, 1) := by decide +kernel
theorem dL_law_884 : decode cL_law 884 = .ok (.iconst 4, 1) := by decide +kernel
theorem dL_law_885 : decode cL_law 885 = .ok (.iadd, 1) := by decide +kernel
theorem dL_law_886 : decode cL_law 886 = .ok (.iaload, 1) := by decide +kernel
theorem dL_law_887 : decode cL_law 887 = .ok (.i2l, 1) := by decide +kernel
theorem dL_law_888 : decode cL_law 888 = .ok (.ldc2_w 18, 3) := by decide +kernel
theorem dL_law_891 : decode cL_law 891 = .ok (.land, 1) := by decide +kernel
theorem dL_law_892 : decode cL_law 892 = .ok (.lor, 1) := by decide +kernel
theorem dL_law_893 : decode cL_law 893 = .ok (.invokevirtual 96, 3) := by decide +kernel
theorem dL_law_896 : decode cL_law 896 = .ok (.aload_n 2, 1) := by decide +kernel
theorem dL_law_897 : decode cL_law 897 = .ok (.aload_n 0, 1) := by decide +kernel
theorem dL_law_898 : decode cL_law 898 = .ok (.iload_n 3, 1) := by decide +kernel
theorem dL_law_899 : decode cL_law 899 = .ok (.iconst 1, 1) := by decide +kernel
theorem dL_law_900 : decode cL_law 900 = .ok (.iadd, 1) := by decide +kernel
theorem dL_law_901 : decode cL_law 901 = .ok (.iaload, 1) := by decide +kernel
theorem dL_law_902 : decode cL_law 902 = .ok (.i2l, 1) := by decide +kernel
theorem dL_law_903 : decode cL_law 903 = .ok (.bipush 32, 2) := by decide +kernel
theorem dL_law_905 : decode cL_law 905 = .ok (.lshl, 1) := by decide +kernel
theorem dL_law_906 : decode cL_law 906 = .ok (.aload_n 0, 1) := by decide +kernel
theorem dL_law_907 : decode cL_law 907 = .ok (.iload_n 3, 1) := by decide +kernel
theorem dL_law_908 : decode cL_law 908 = .ok (.iconst 2, 1) := by decide +kernel
theorem dL_law_909 : decode cL_law 909 = .ok (.iadd, 1) := by decide +kernel
theorem dL_law_910 : decode cL_law 910 = .ok (.iaload, 1) := by decide +kernel
theorem dL_law_911 : decode cL_law 911 = .ok (.i2l, 1) := by decide +kernel
theorem dL_law_912 : decode cL_law 912 = .ok (.ldc2_w 18, 3) := by decide +kernel
theorem dL_law_915 : decode cL_law 915 = .ok (.land, 1) := by decide +kernel
theorem dL_law_916 : decode cL_law 916 = .ok (.lor, 1) := by decide +kernel
theorem dL_law_917 : decode cL_law 917 = .ok (.aload_n 0, 1) := by decide +kernel
theorem dL_law_918 : decode cL_law 918 = .ok (.iload_n 3, 1) := by decide +kernel
theorem dL_law_919 : decode cL_law 919 = .ok (.iconst 3, 1) := by decide +kernel
theorem dL_law_920 : decode cL_law 920 = .ok (.iadd, 1) := by decide +kernel
theorem dL_law_921 : decode cL_law 921 = .ok (.iaload, 1) := by decide +kernel
theorem dL_law_922 : decode cL_law 922 = .ok (.i2l, 1) := by decide +kernel
theorem dL_law_923 : decode cL_law 923 = .ok (.bipush 32, 2) := by decide +kernel
theorem dL_law_925 : decode cL_law 925 = .ok (.lshl, 1) := by decide +kernel
theorem dL_law_926 : decode cL_law 926 = .ok (.aload_n 0, 1) := by decide +kernel
theorem dL_law_927 : decode cL_law 927 = .ok (.iload_n 3, 1) := by decide +kernel
theorem dL_law_928 : decode cL_law 928 = .ok (.iconst 4, 1) := by decide +kernel
theorem dL_law_929 : decode cL_law 929 = .ok (.iadd, 1) := by decide +kernel
theorem dL_law_930 : decode cL_law 930 = .ok (.iaload, 1) := by decide +kernel
theorem dL_law_931 : decode cL_law 931 = .ok (.i2l, 1) := by decide +kernel
theorem dL_law_932 : decode cL_law 932 = .ok (.ldc2_w 18, 3) := by decide +kernel
theorem dL_law_935 : decode cL_law 935 = .ok (.land, 1) := by decide +kernel
theorem dL_law_936 : decode cL_law 936 = .ok (.lor, 1) := by decide +kernel
theorem dL_law_937 : decode cL_law 937 = .ok (.invokevirtual 100, 3) := by decide +kernel
theorem dL_law_940 : decode cL_law 940 = .ok (.if_icmp .eq 18, 3) := by decide +kernel
theorem dL_law_943 : decode cL_law 943 = .ok (.iconst 0, 1) := by decide +kernel
theorem dL_law_944 : decode cL_law 944 = .ok (.ireturn, 1) := by decide +kernel
theorem dL_law_945 : decode cL_law 945 = .ok (.aload_n 1, 1) := by decide +kernel
theorem dL_law_946 : decode cL_law 946 = .ok (.invokevirtual 101, 3) := by decide +kernel
theorem dL_law_949 : decode cL_law 949 = .ok (.aload_n 2, 1) := by decide +kernel
theorem dL_law_950 : decode cL_law 950 = .ok (.invokevirtual 105, 3) := by decide +kernel
theorem dL_law_953 : decode cL_law 953 = .ok (.if_icmp .eq 5, 3) := by decide +kernel
theorem dL_law_956 : decode cL_law 956 = .ok (.iconst 0, 1) := by decide +kernel
theorem dL_law_957 : decode cL_law 957 = .ok (.ireturn, 1) := by decide +kernel
theorem dL_law_958 : decode cL_law 958 = .ok (.iinc 3 6, 3) := by decide +kernel
theorem dL_law_961 : decode cL_law 961 = .ok (.goto (-943), 3) := by decide +kernel
theorem dL_law_964 : decode cL_law 964 = .ok (.iconst 1, 1) := by decide +kernel
theorem dL_law_965 : decode cL_law 965 = .ok (.ireturn, 1) := by decide +kernel
theorem dX10_apply_0 : decode cX10_apply 0 = .ok (.iload_n 1, 1) := by decide +kernel
theorem dX10_apply_1 : decode cX10_apply 1 = .ok (.ifCond .lt 9, 3) := by decide +kernel
theorem dX10_apply_4 : decode cX10_apply 4 = .ok (.iload_n 1, 1) := by decide +kernel
theorem dX10_apply_5 : decode cX10_apply 5 = .ok (.bipush 13, 2) := by decide +kernel
theorem dX10_apply_7 : decode cX10_apply 7 = .ok (.if_icmp .le 6, 3) := by decide +kernel
theorem dX10_apply_10 : decode cX10_apply 10 = .ok (.bipush (-2), 2) := by decide +kernel
theorem dX10_apply_12 : decode cX10_apply 12 = .ok (.ireturn, 1) := by decide +kernel
theorem dX10_apply_13 : decode cX10_apply 13 = .ok (.iload_n 1, 1) := by decide +kernel
theorem dX10_apply_14 : decode cX10_apply 14 = .ok (.iconst 3, 1) := by decide +kernel
theorem dX10_apply_15 : decode cX10_apply 15 = .ok (.if_icmp .eq 15, 3) := by decide +kernel
theorem dX10_apply_18 : decode cX10_apply 18 = .ok (.iload_n 1, 1) := by decide +kernel
theorem dX10_apply_19 : decode cX10_apply 19 = .ok (.bipush 6, 2) := by decide +kernel
theorem dX10_apply_21 : decode cX10_apply 21 = .ok (.if_icmp .eq 9, 3) := by decide +kernel
theorem dX10_apply_24 : decode cX10_apply 24 = .ok (.iload_n 1, 1) := by decide +kernel
theorem dX10_apply_25 : decode cX10_apply 25 = .ok (.bipush 7, 2) := by decide +kernel
theorem dX10_apply_27 : decode cX10_apply 27 = .ok (.if_icmp .ne 7, 3) := by decide +kernel
theorem dX10_apply_30 : decode cX10_apply 30 = .ok (.iconst 1, 1) := by decide +kernel
theorem dX10_apply_31 : decode cX10_apply 31 = .ok (.goto 4, 3) := by decide +kernel
theorem dX10_apply_34 : decode cX10_apply 34 = .ok (.iconst 0, 1) := by decide +kernel
theorem dX10_apply_35 : decode cX10_apply 35 = .ok (.istore 4, 2) := by decide +kernel
theorem dX10_apply_37 : decode cX10_apply 37 = .ok (.aload_n 0, 1) := by decide +kernel
theorem dX10_apply_38 : decode cX10_apply 38 = .ok (.iload_n 2, 1) := by decide +kernel
theorem dX10_apply_39 : decode cX10_apply 39 = .ok (.invokevirtual 118, 3) := by decide +kernel
theorem dX10_apply_42 : decode cX10_apply 42 = .ok (.ifCond .eq 16, 3) := by decide +kernel
theorem dX10_apply_45 : decode cX10_apply 45 = .ok (.iload 4, 2) := by decide +kernel
theorem dX10_apply_47 : decode cX10_apply 47 = .ok (.ifCond .ne 13, 3) := by decide +kernel
theorem dX10_apply_50 : decode cX10_apply 50 = .ok (.aload_n 0, 1) := by decide +kernel
theorem dX10_apply_51 : decode cX10_apply 51 = .ok (.iload_n 3, 1) := by decide +kernel
theorem dX10_apply_52 : decode cX10_apply 52 = .ok (.invokevirtual 118, 3) := by decide +kernel
theorem dX10_apply_55 : decode cX10_apply 55 = .ok (.ifCond .ne 5, 3) := by decide +kernel
theorem dX10_apply_58 : decode cX10_apply 58 = .ok (.iconst (-1), 1) := by decide +kernel
theorem dX10_apply_59 : decode cX10_apply 59 = .ok (.ireturn, 1) := by decide +kernel
theorem dX10_apply_60 : decode cX10_apply 60 = .ok (.iload_n 1, 1) := by decide +kernel
theorem dX10_apply_61 : decode cX10_apply 61 = .ok (.bipush 8, 2) := by decide +kernel
theorem dX10_apply_63 : decode cX10_apply 63 = .ok (.if_icmp .lt 28, 3) := by decide +kernel
theorem dX10_apply_66 : decode cX10_apply 66 = .ok (.iload_n 1, 1) := by decide +kernel
theorem dX10_apply_67 : decode cX10_apply 67 = .ok (.bipush 12, 2) := by decide +kernel
theorem dX10_apply_69 : decode cX10_apply 69 = .ok (.if_icmp .eq 22, 3) := by decide +kernel
theorem dX10_apply_72 : decode cX10_apply 72 = .ok (.aload_n 0, 1) := by decide +kernel
theorem dX10_apply_73 : decode cX10_apply 73 = .ok (.iload_n 2, 1) := by decide +kernel
theorem dX10_apply_74 : decode cX10_apply 74 = .ok (.invokevirtual 126, 3) := by decide +kernel
theorem dX10_apply_77 : decode cX10_apply 77 = .ok (.ifCond .eq 11, 3) := by decide +kernel
theorem dX10_apply_80 : decode cX10_apply 80 = .ok (.aload_n 0, 1) := by decide +kernel
theorem dX10_apply_81 : decode cX10_apply 81 = .ok (.iload_n 3, 1) := by decide +kernel
theorem dX10_apply_82 : decode cX10_apply 82 = .ok (.invokevirtual 126, 3) := by decide +kernel
theorem dX10_apply_85 : decode cX10_apply 85 = .ok (.ifCond .ne 6, 3) := by decide +kernel
theorem dX10_apply_88 : decode cX10_apply 88 = .ok (.bipush (-2), 2) := by decide +kernel
theorem dX10_apply_90 : decode cX10_apply 90 = .ok (.ireturn, 1) := by decide +kernel
theorem dX10_apply_91 : decode cX10_apply 91 = .ok (.iload_n 1, 1) := by decide +kernel
theorem dX10_apply_92 : decode cX10_apply 92 = .ok (.iconst 1, 1) := by decide +kernel
theorem dX10_apply_93 : decode cX10_apply 93 = .ok (.if_icmp .le 8, 3) := by decide +kernel
theorem dX10_apply_96 : decode cX10_apply 96 = .ok (.iload_n 1, 1) := by decide +kernel
theorem dX10_apply_97 : decode cX10_apply 97 = .ok (.iconst 3, 1) := by decide +kernel
theorem dX10_apply_98 : decode cX10_apply 98 = .ok (.if_icmp .ne 127, 3) := by decide +kernel
theorem dX10_apply_101 : decode cX10_apply 101 = .ok (.aload_n 0, 1) := by decide +kernel
theorem dX10_apply_102 : decode cX10_apply 102 = .ok (.invokevirtual 107, 3) := by decide +kernel
theorem dX10_apply_105 : decode cX10_apply 105 = .ok (.iconst 0, 1) := by decide +kernel
theorem dX10_apply_106 : decode cX10_apply 106 = .ok (.istore 5, 2) := by decide +kernel
theorem dX10_apply_108 : decode cX10_apply 108 = .ok (.iload 5, 2) := by decide +kernel
theorem dX10_apply_110 : decode cX10_apply 110 = .ok (.sipush 287, 3) := by decide +kernel
theorem dX10_apply_113 : decode cX10_apply 113 = .ok (.if_icmp .ge 107, 3) := by decide +kernel
theorem dX10_apply_116 : decode cX10_apply 116 = .ok (.aload_n 0, 1) := by decide +kernel
theorem dX10_apply_117 : decode cX10_apply 117 = .ok (.getfield 13, 3) := by decide +kernel
theorem dX10_apply_120 : decode cX10_apply 120 = .ok (.sipush 287, 3) := by decide +kernel
theorem dX10_apply_123 : decode cX10_apply 123 = .ok (.iload_n 2, 1) := by decide +kernel
theorem dX10_apply_124 : decode cX10_apply 124 = .ok (.imul, 1) := by decide +kernel
theorem dX10_apply_125 : decode cX10_apply 125 = .ok (.iload 5, 2) := by decide +kernel
theorem dX10_apply_127 : decode cX10_apply 127 = .ok (.iadd, 1) := by decide +kernel
theorem dX10_apply_128 : decode cX10_apply 128 = .ok (.iaload, 1) := by decide +kernel
theorem dX10_apply_129 : decode cX10_apply 129 = .ok (.istore 6, 2) := by decide +kernel
theorem dX10_apply_131 : decode cX10_apply 131 = .ok (.iload 4, 2) := by decide +kernel
theorem dX10_apply_133 : decode cX10_apply 133 = .ok (.ifCond .eq 7, 3) := by decide +kernel
theorem dX10_apply_136 : decode cX10_apply 136 = .ok (.iconst 0, 1) := by decide +kernel
theorem dX10_apply_137 : decode cX10_apply 137 = .ok (.goto 16, 3) := by decide +kernel
theorem dX10_apply_140 : decode cX10_apply 140 = .ok (.aload_n 0, 1) := by decide +kernel
theorem dX10_apply_141 : decode cX10_apply 141 = .ok (.getfield 13, 3) := by decide +kernel
theorem dX10_apply_144 : decode cX10_apply 144 = .ok (.sipush 287, 3) := by decide +kernel
theorem dX10_apply_147 : decode cX10_apply 147 = .ok (.iload_n 3, 1) := by decide +kernel
theorem dX10_apply_148 : decode cX10_apply 148 = .ok (.imul, 1) := by decide +kernel
theorem dX10_apply_149 : decode cX10_apply 149 = .ok (.iload 5, 2) := by decide +kernel
theorem dX10_apply_151 : decode cX10_apply 151 = .ok (.iadd, 1) := by decide +kernel
theorem dX10_apply_152 : decode cX10_apply 152 = .ok (.iaload, 1) := by decide +kernel
theorem dX10_apply_153 : decode cX10_apply 153 = .ok (.istore 7, 2) := by decide +kernel
theorem dX10_apply_155 : decode cX10_apply 155 = .ok (.aload_n 0, 1) := by decide +kernel
theorem dX10_apply_156 : decode cX10_apply 156 = .ok (.getfield 17, 3) := by decide +kernel
theorem dX10_apply_159 : decode cX10_apply 159 = .ok (.iload 5, 2) := by decide +kernel
theorem dX10_apply_161 : decode cX10_apply 161 = .ok (.iload_n 1, 1) := by decide +kernel
theorem dX10_apply_162 : decode cX10_apply 162 = .ok (.ifCond .ne 16, 3) := by decide +kernel
theorem dX10_apply_165 : decode cX10_apply 165 = .ok (.iload 6, 2) := by decide +kernel
theorem dX10_apply_167 : decode cX10_apply 167 = .ok (.iload 7, 2) := by decide +kernel
theorem dX10_apply_169 : decode cX10_apply 169 = .ok (.iadd, 1) := by decide +kernel
theorem dX10_apply_170 : decode cX10_apply 170 = .ok (.aload_n 0, 1) := by decide +kernel
theorem dX10_apply_171 : decode cX10_apply 171 = .ok (.getfield 78, 3) := by decide +kernel
theorem dX10_apply_174 : decode cX10_apply 174 = .ok (.irem, 1) := by decide +kernel
theorem dX10_apply_175 : decode cX10_apply 175 = .ok (.goto 38, 3) := by decide +kernel
theorem dX10_apply_178 : decode cX10_apply 178 = .ok (.iload_n 1, 1) := by decide +kernel
theorem dX10_apply_179 : decode cX10_apply 179 = .ok (.iconst 1, 1) := by decide +kernel
theorem dX10_apply_180 : decode cX10_apply 180 = .ok (.if_icmp .ne 21, 3) := by decide +kernel
theorem dX10_apply_183 : decode cX10_apply 183 = .ok (.iload 6, 2) := by decide +kernel
theorem dX10_apply_185 : decode cX10_apply 185 = .ok (.iload 7, 2) := by decide +kernel
theorem dX10_apply_187 : decode cX10_apply 187 = .ok (.isub, 1) := by decide +kernel
theorem dX10_apply_188 : decode cX10_apply 188 = .ok (.aload_n 0, 1) := by decide +kernel
theorem dX10_apply_189 : decode cX10_apply 189 = .ok (.getfield 78, 3) := by decide +kernel
theorem dX10_apply_192 : decode cX10_apply 192 = .ok (.iadd, 1) := by decide +kernel
theorem dX10_apply_193 : decode cX10_apply 193 = .ok (.aload_n 0, 1) := by decide +kernel
theorem dX10_apply_194 : decode cX10_apply 194 = .ok (.getfield 78, 3) := by decide +kernel
theorem dX10_apply_197 : decode cX10_apply 197 = .ok (.irem, 1) := by decide +kernel
theorem dX10_apply_198 : decode cX10_apply 198 = .ok (.goto 15, 3) := by decide +kernel
theorem dX10_apply_201 : decode cX10_apply 201 = .ok (.aload_n 0, 1) := by decide +kernel
theorem dX10_apply_202 : decode cX10_apply 202 = .ok (.getfield 78, 3) := by decide +kernel
theorem dX10_apply_205 : decode cX10_apply 205 = .ok (.iload 6, 2) := by decide +kernel
theorem dX10_apply_207 : decode cX10_apply 207 = .ok (.isub, 1) := by decide +kernel
theorem dX10_apply_208 : decode cX10_apply 208 = .ok (.aload_n 0, 1) := by decide +kernel
theorem dX10_apply_209 : decode cX10_apply 209 = .ok (.getfield 78, 3) := by decide +kernel
theorem dX10_apply_212 : decode cX10_apply 212 = .ok (.irem, 1) := by decide +kernel
theorem dX10_apply_213 : decode cX10_apply 213 = .ok (.iastore, 1) := by decide +kernel
theorem dX10_apply_214 : decode cX10_apply 214 = .ok (.iinc 5 1, 3) := by decide +kernel
theorem dX10_apply_217 : decode cX10_apply 217 = .ok (.goto (-109), 3) := by decide +kernel
theorem dX10_apply_220 : decode cX10_apply 220 = .ok (.aload_n 0, 1) := by decide +kernel
theorem dX10_apply_221 : decode cX10_apply 221 = .ok (.invokevirtual 114, 3) := by decide +kernel
theorem dX10_apply_224 : decode cX10_apply 224 = .ok (.ireturn, 1) := by decide +kernel
theorem dX10_apply_225 : decode cX10_apply 225 = .ok (.iload_n 1, 1) := by decide +kernel
theorem dX10_apply_226 : decode cX10_apply 226 = .ok (.iconst 2, 1) := by decide +kernel
theorem dX10_apply_227 : decode cX10_apply 227 = .ok (.if_icmp .ne 10, 3) := by decide +kernel
theorem dX10_apply_230 : decode cX10_apply 230 = .ok (.aload_n 0, 1) := by decide +kernel
theorem dX10_apply_231 : decode cX10_apply 231 = .ok (.iload_n 2, 1) := by decide +kernel
theorem dX10_apply_232 : decode cX10_apply 232 = .ok (.iload_n 3, 1) := by decide +kernel
theorem dX10_apply_233 : decode cX10_apply 233 = .ok (.invokevirtual 129, 3) := by decide +kernel
theorem dX10_apply_236 : decode cX10_apply 236 = .ok (.ireturn, 1) := by decide +kernel
theorem dX10_apply_237 : decode cX10_apply 237 = .ok (.iload_n 1, 1) := by decide +kernel
theorem dX10_apply_238 : decode cX10_apply 238 = .ok (.iconst 4, 1) := by decide +kernel
theorem dX10_apply_239 : decode cX10_apply 239 = .ok (.if_icmp .eq 8, 3) := by decide +kernel
theorem dX10_apply_242 : decode cX10_apply 242 = .ok (.iload_n 1, 1) := by decide +kernel
theorem dX10_apply_243 : decode cX10_apply 243 = .ok (.iconst 5, 1) := by decide +kernel
theorem dX10_apply_244 : decode cX10_apply 244 = .ok (.if_icmp .ne 20, 3) := by decide +kernel
theorem dX10_apply_247 : decode cX10_apply 247 = .ok (.aload_n 0, 1) := by decide +kernel
theorem dX10_apply_248 : decode cX10_apply 248 = .ok (.iload_n 2, 1) := by decide +kernel
theorem dX10_apply_249 : decode cX10_apply 249 = .ok (.iload_n 3, 1) := by decide +kernel
theorem dX10_apply_250 : decode cX10_apply 250 = .ok (.iload_n 1, 1) := by decide +kernel
theorem dX10_apply_251 : decode cX10_apply 251 = .ok (.iconst 4, 1) := by decide +kernel
theorem dX10_apply_252 : decode cX10_apply 252 = .ok (.if_icmp .ne 7, 3) := by decide +kernel
theorem dX10_apply_255 : decode cX10_apply 255 = .ok (.iconst 1, 1) := by decide +kernel
theorem dX10_apply_256 : decode cX10_apply 256 = .ok (.goto 4, 3) := by decide +kernel
theorem dX10_apply_259 : decode cX10_apply 259 = .ok (.iconst 0, 1) := by decide +kernel
theorem dX10_apply_260 : decode cX10_apply 260 = .ok (.invokevirtual 133, 3) := by decide +kernel
theorem dX10_apply_263 : decode cX10_apply 263 = .ok (.ireturn, 1) := by decide +kernel
theorem dX10_apply_264 : decode cX10_apply 264 = .ok (.iload_n 1, 1) := by decide +kernel
theorem dX10_apply_265 : decode cX10_apply 265 = .ok (.bipush 7, 2) := by decide +kernel
theorem dX10_apply_267 : decode cX10_apply 267 = .ok (.if_icmp .gt 20, 3) := by decide +kernel
theorem dX10_apply_270 : decode cX10_apply 270 = .ok (.aload_n 0, 1) := by decide +kernel
theorem dX10_apply_271 : decode cX10_apply 271 = .ok (.iload_n 2, 1) := by decide +kernel
theorem dX10_apply_272 : decode cX10_apply 272 = .ok (.iload_n 1, 1) := by decide +kernel
theorem dX10_apply_273 : decode cX10_apply 273 = .ok (.bipush 6, 2) := by decide +kernel
theorem dX10_apply_275 : decode cX10_apply 275 = .ok (.if_icmp .ne 7, 3) := by decide +kernel
theorem dX10_apply_278 : decode cX10_apply 278 = .ok (.iconst 1, 1) := by decide +kernel
theorem dX10_apply_279 : decode cX10_apply 279 = .ok (.goto 4, 3) := by decide +kernel
theorem dX10_apply_282 : decode cX10_apply 282 = .ok (.iconst 0, 1) := by decide +kernel
theorem dX10_apply_283 : decode cX10_apply 283 = .ok (.invokevirtual 137, 3) := by decide +kernel
theorem dX10_apply_286 : decode cX10_apply 286 = .ok (.ireturn, 1) := by decide +kernel
theorem dX10_apply_287 : decode cX10_apply 287 = .ok (.iload_n 1, 1) := by decide +kernel
theorem dX10_apply_288 : decode cX10_apply 288 = .ok (.bipush 12, 2) := by decide +kernel
theorem dX10_apply_290 : decode cX10_apply 290 = .ok (.if_icmp .ne 10, 3) := by decide +kernel
theorem dX10_apply_293 : decode cX10_apply 293 = .ok (.aload_n 0, 1) := by decide +kernel
theorem dX10_apply_294 : decode cX10_apply 294 = .ok (.iload_n 2, 1) := by decide +kernel
theorem dX10_apply_295 : decode cX10_apply 295 = .ok (.iload_n 3, 1) := by decide +kernel
theorem dX10_apply_296 : decode cX10_apply 296 = .ok (.invokevirtual 141, 3) := by decide +kernel
theorem dX10_apply_299 : decode cX10_apply 299 = .ok (.ireturn, 1) := by decide +kernel
theorem dX10_apply_300 : decode cX10_apply 300 = .ok (.aload_n 0, 1) := by decide +kernel
theorem dX10_apply_301 : decode cX10_apply 301 = .ok (.iload_n 2, 1) := by decide +kernel
theorem dX10_apply_302 : decode cX10_apply 302 = .ok (.iconst 0, 1) := by decide +kernel
theorem dX10_apply_303 : decode cX10_apply 303 = .ok (.invokevirtual 144, 3) := by decide +kernel
theorem dX10_apply_306 : decode cX10_apply 306 = .ok (.aload_n 0, 1) := by decide +kernel
theorem dX10_apply_307 : decode cX10_apply 307 = .ok (.iload_n 3, 1) := by decide +kernel
theorem dX10_apply_308 : decode cX10_apply 308 = .ok (.iconst 1, 1) := by decide +kernel
theorem dX10_apply_309 : decode cX10_apply 309 = .ok (.invokevirtual 144, 3) := by decide +kernel
theorem dX10_apply_312 : decode cX10_apply 312 = .ok (.iload_n 1, 1) := by decide +kernel
theorem dX10_apply_313 : decode cX10_apply 313 = .ok (.bipush 13, 2) := by decide +kernel
theorem dX10_apply_315 : decode cX10_apply 315 = .ok (.if_icmp .ne 10, 3) := by decide +kernel
theorem dX10_apply_318 : decode cX10_apply 318 = .ok (.aload_n 0, 1) := by decide +kernel
theorem dX10_apply_319 : decode cX10_apply 319 = .ok (.invokevirtual 148, 3) := by decide +kernel
theorem dX10_apply_322 : decode cX10_apply 322 = .ok (.goto 8, 3) := by decide +kernel
theorem dX10_apply_325 : decode cX10_apply 325 = .ok (.aload_n 0, 1) := by decide +kernel
theorem dX10_apply_326 : decode cX10_apply 326 = .ok (.iload_n 1, 1) := by decide +kernel
theorem dX10_apply_327 : decode cX10_apply 327 = .ok (.invokevirtual 151, 3) := by decide +kernel
theorem dX10_apply_330 : decode cX10_apply 330 = .ok (.ireturn, 1) := by decide +kernel
theorem dX10_at_0 : decode cX10_at 0 = .ok (.aload_n 0, 1) := by decide +kernel
theorem dX10_at_1 : decode cX10_at 1 = .ok (.iload_n 1, 1) := by decide +kernel
theorem dX10_at_2 : decode cX10_at 2 = .ok (.invokevirtual 118, 3) := by decide +kernel
theorem dX10_at_5 : decode cX10_at 5 = .ok (.ifCond .eq 23, 3) := by decide +kernel
theorem dX10_at_8 : decode cX10_at 8 = .ok (.iload_n 2, 1) := by decide +kernel
theorem dX10_at_9 : decode cX10_at 9 = .ok (.ifCond .lt 19, 3) := by decide +kernel
theorem dX10_at_12 : decode cX10_at 12 = .ok (.iload_n 2, 1) := by decide +kernel
theorem dX10_at_13 : decode cX10_at 13 = .ok (.bipush 40, 2) := by decide +kernel
theorem dX10_at_15 : decode cX10_at 15 = .ok (.if_icmp .gt 13, 3) := by decide +kernel
theorem dX10_at_18 : decode cX10_at 18 = .ok (.iload_n 3, 1) := by decide +kernel
theorem dX10_at_19 : decode cX10_at 19 = .ok (.ifCond .lt 9, 3) := by decide +kernel
theorem dX10_at_22 : decode cX10_at 22 = .ok (.iload_n 3, 1) := by decide +kernel
theorem dX10_at_23 : decode cX10_at 23 = .ok (.bipush 6, 2) := by decide +kernel
theorem dX10_at_25 : decode cX10_at 25 = .ok (.if_icmp .le 7, 3) := by decide +kernel
theorem dX10_at_28 : decode cX10_at 28 = .ok (.iconst (-1), 1) := by decide +kernel
theorem dX10_at_29 : decode cX10_at 29 = .ok (.goto 14, 3) := by decide +kernel
theorem dX10_at_32 : decode cX10_at 32 = .ok (.aload_n 0, 1) := by decide +kernel
theorem dX10_at_33 : decode cX10_at 33 = .ok (.getfield 13, 3) := by decide +kernel
theorem dX10_at_36 : decode cX10_at 36 = .ok (.iload_n 1, 1) := by decide +kernel
theorem dX10_at_37 : decode cX10_at 37 = .ok (.iload_n 2, 1) := by decide +kernel
theorem dX10_at_38 : decode cX10_at 38 = .ok (.iload_n 3, 1) := by decide +kernel
theorem dX10_at_39 : decode cX10_at 39 = .ok (.invokestatic 99, 3) := by decide +kernel
theorem dX10_at_42 : decode cX10_at 42 = .ok (.iaload, 1) := by decide +kernel
theorem dX10_at_43 : decode cX10_at 43 = .ok (.ireturn, 1) := by decide +kernel
theorem dX10_be_0 : decode cX10_be 0 = .ok (.iconst 0, 1) := by decide +kernel
theorem dX10_be_1 : decode cX10_be 1 = .ok (.istore_n 3, 1) := by decide +kernel
theorem dX10_be_2 : decode cX10_be 2 = .ok (.iload_n 3, 1) := by decide +kernel
theorem dX10_be_3 : decode cX10_be 3 = .ok (.sipush 200, 3) := by decide +kernel
theorem dX10_be_6 : decode cX10_be 6 = .ok (.if_icmp .ge 22, 3) := by decide +kernel
theorem dX10_be_9 : decode cX10_be 9 = .ok (.aload_n 0, 1) := by decide +kernel
theorem dX10_be_10 : decode cX10_be 10 = .ok (.getfield 23, 3) := by decide +kernel
theorem dX10_be_13 : decode cX10_be 13 = .ok (.sipush 200, 3) := by decide +kernel
theorem dX10_be_16 : decode cX10_be 16 = .ok (.iload_n 1, 1) := by decide +kernel
theorem dX10_be_17 : decode cX10_be 17 = .ok (.imul, 1) := by decide +kernel
theorem dX10_be_18 : decode cX10_be 18 = .ok (.iload_n 3, 1) := by decide +kernel
theorem dX10_be_19 : decode cX10_be 19 = .ok (.iadd, 1) := by decide +kernel
theorem dX10_be_20 : decode cX10_be 20 = .ok (.iconst 0, 1) := by decide +kernel
theorem dX10_be_21 : decode cX10_be 21 = .ok (.iastore, 1) := by decide +kernel
theorem dX10_be_22 : decode cX10_be 22 = .ok (.iinc 3 1, 3) := by decide +kernel
theorem dX10_be_25 : decode cX10_be 25 = .ok (.goto (-23), 3) := by decide +kernel
theorem dX10_be_28 : decode cX10_be 28 = .ok (.aload_n 0, 1) := by decide +kernel
theorem dX10_be_29 : decode cX10_be 29 = .ok (.getfield 23, 3) := by decide +kernel
theorem dX10_be_32 : decode cX10_be 32 = .ok (.sipush 200, 3) := by decide +kernel
theorem dX10_be_35 : decode cX10_be 35 = .ok (.iload_n 1, 1) := by decide +kernel
theorem dX10_be_36 : decode cX10_be 36 = .ok (.imul, 1) := by decide +kernel
theorem dX10_be_37 : decode cX10_be 37 = .ok (.iload_n 2, 1) := by decide +kernel
theorem dX10_be_38 : decode cX10_be 38 = .ok (.iastore, 1) := by decide +kernel
theorem dX10_be_39 : decode cX10_be 39 = .ok (.aload_n 0, 1) := by decide +kernel
theorem dX10_be_40 : decode cX10_be 40 = .ok (.getfield 26, 3) := by decide +kernel
theorem dX10_be_43 : decode cX10_be 43 = .ok (.iload_n 1, 1) := by decide +kernel
theorem dX10_be_44 : decode cX10_be 44 = .ok (.iload_n 2, 1) := by decide +kernel
theorem dX10_be_45 : decode cX10_be 45 = .ok (.ifCond .ne 7, 3) := by decide +kernel
theorem dX10_be_48 : decode cX10_be 48 = .ok (.iconst (-1), 1) := by decide +kernel
theorem dX10_be_49 : decode cX10_be 49 = .ok (.goto 4, 3) := by decide +kernel
theorem dX10_be_52 : decode cX10_be 52 = .ok (.iconst 0, 1) := by decide +kernel
theorem dX10_be_53 : decode cX10_be 53 = .ok (.iastore, 1) := by decide +kernel
theorem dX10_be_54 : decode cX10_be 54 = .ok (.return_, 1) := by decide +kernel
theorem dX10_clear_0 : decode cX10_clear 0 = .ok (.iconst 0, 1) := by decide +kernel
theorem dX10_clear_1 : decode cX10_clear 1 = .ok (.istore_n 1, 1) := by decide +kernel
theorem dX10_clear_2 : decode cX10_clear 2 = .ok (.iload_n 1, 1) := by decide +kernel
theorem dX10_clear_3 : decode cX10_clear 3 = .ok (.sipush 1500, 3) := by decide +kernel
theorem dX10_clear_6 : decode cX10_clear 6 = .ok (.if_icmp .ge 16, 3) := by decide +kernel
theorem dX10_clear_9 : decode cX10_clear 9 = .ok (.aload_n 0, 1) := by decide +kernel
theorem dX10_clear_10 : decode cX10_clear 10 = .ok (.getfield 17, 3) := by decide +kernel
theorem dX10_clear_13 : decode cX10_clear 13 = .ok (.iload_n 1, 1) := by decide +kernel
theorem dX10_clear_14 : decode cX10_clear 14 = .ok (.iconst 0, 1) := by decide +kernel
theorem dX10_clear_15 : decode cX10_clear 15 = .ok (.iastore, 1) := by decide +kernel
theorem dX10_clear_16 : decode cX10_clear 16 = .ok (.iinc 1 1, 3) := by decide +kernel
theorem dX10_clear_19 : decode cX10_clear 19 = .ok (.goto (-17), 3) := by decide +kernel
theorem dX10_clear_22 : decode cX10_clear 22 = .ok (.return_, 1) := by decide +kernel
theorem dX10_constant_0 : decode cX10_constant 0 = .ok (.aload_n 0, 1) := by decide +kernel
theorem dX10_constant_1 : decode cX10_constant 1 = .ok (.invokevirtual 107, 3) := by decide +kernel
theorem dX10_constant_4 : decode cX10_constant 4 = .ok (.aload_n 0, 1) := by decide +kernel
theorem dX10_constant_5 : decode cX10_constant 5 = .ok (.getfield 17, 3) := by decide +kernel
theorem dX10_constant_8 : decode cX10_constant 8 = .ok (.iconst 0, 1) := by decide +kernel
theorem dX10_constant_9 : decode cX10_constant 9 = .ok (.aload_n 0, 1) := by decide +kernel
theorem dX10_constant_10 : decode cX10_constant 10 = .ok (.lload_n 1, 1) := by decide +kernel
theorem dX10_constant_11 : decode cX10_constant 11 = .ok (.invokevirtual 110, 3) := by decide +kernel
theorem dX10_constant_14 : decode cX10_constant 14 = .ok (.iastore, 1) := by decide +kernel
theorem dX10_constant_15 : decode cX10_constant 15 = .ok (.aload_n 0, 1) := by decide +kernel
theorem dX10_constant_16 : decode cX10_constant 16 = .ok (.invokevirtual 114, 3) := by decide +kernel
theorem dX10_constant_19 : decode cX10_constant 19 = .ok (.ireturn, 1) := by decide +kernel
theorem dX10_degree_0 : decode cX10_degree 0 = .ok (.aload_n 0, 1) := by decide +kernel
theorem dX10_degree_1 : decode cX10_degree 1 = .ok (.iload_n 1, 1) := by decide +kernel
theorem dX10_degree_2 : decode cX10_degree 2 = .ok (.invokevirtual 118, 3) := by decide +kernel
theorem dX10_degree_5 : decode cX10_degree 5 = .ok (.ifCond .eq 12, 3) := by decide +kernel
theorem dX10_degree_8 : decode cX10_degree 8 = .ok (.iload_n 2, 1) := by decide +kernel
theorem dX10_degree_9 : decode cX10_degree 9 = .ok (.ifCond .lt 8, 3) := by decide +kernel
theorem dX10_degree_12 : decode cX10_degree 12 = .ok (.iload_n 2, 1) := by decide +kernel
theorem dX10_degree_13 : decode cX10_degree 13 = .ok (.iconst 1, 1) := by decide +kernel
theorem dX10_degree_14 : decode cX10_degree 14 = .ok (.if_icmp .le 6, 3) := by decide +kernel
theorem dX10_degree_17 : decode cX10_degree 17 = .ok (.bipush (-2), 2) := by decide +kernel
theorem dX10_degree_19 : decode cX10_degree 19 = .ok (.ireturn, 1) := by decide +kernel
theorem dX10_degree_20 : decode cX10_degree 20 = .ok (.iload_n 2, 1) := by decide +kernel
theorem dX10_degree_21 : decode cX10_degree 21 = .ok (.ifCond .ne 11, 3) := by decide +kernel
theorem dX10_degree_24 : decode cX10_degree 24 = .ok (.aload_n 0, 1) := by decide +kernel
theorem dX10_degree_25 : decode cX10_degree 25 = .ok (.iload_n 1, 1) := by decide +kernel
theorem dX10_degree_26 : decode cX10_degree 26 = .ok (.invokevirtual 154, 3) := by decide +kernel
theorem dX10_degree_29 : decode cX10_degree 29 = .ok (.goto 8, 3) := by decide +kernel
theorem dX10_degree_32 : decode cX10_degree 32 = .ok (.aload_n 0, 1) := by decide +kernel
theorem dX10_degree_33 : decode cX10_degree 33 = .ok (.iload_n 1, 1) := by decide +kernel
theorem dX10_degree_34 : decode cX10_degree 34 = .ok (.invokevirtual 103, 3) := by decide +kernel
theorem dX10_degree_37 : decode cX10_degree 37 = .ok (.ireturn, 1) := by decide +kernel
theorem dX10_drop_0 : decode cX10_drop 0 = .ok (.aload_n 0, 1) := by decide +kernel
theorem dX10_drop_1 : decode cX10_drop 1 = .ok (.iload_n 1, 1) := by decide +kernel
theorem dX10_drop_2 : decode cX10_drop 2 = .ok (.invokevirtual 118, 3) := by decide +kernel
theorem dX10_drop_5 : decode cX10_drop 5 = .ok (.ifCond .ne 5, 3) := by decide +kernel
theorem dX10_drop_8 : decode cX10_drop 8 = .ok (.iconst 0, 1) := by decide +kernel
theorem dX10_drop_9 : decode cX10_drop 9 = .ok (.ireturn, 1) := by decide +kernel
theorem dX10_drop_10 : decode cX10_drop 10 = .ok (.aload_n 0, 1) := by decide +kernel
theorem dX10_drop_11 : decode cX10_drop 11 = .ok (.getfield 7, 3) := by decide +kernel
theorem dX10_drop_14 : decode cX10_drop 14 = .ok (.iload_n 1, 1) := by decide +kernel
theorem dX10_drop_15 : decode cX10_drop 15 = .ok (.iconst 0, 1) := by decide +kernel
theorem dX10_drop_16 : decode cX10_drop 16 = .ok (.bastore, 1) := by decide +kernel
theorem dX10_drop_17 : decode cX10_drop 17 = .ok (.iconst 1, 1) := by decide +kernel
theorem dX10_drop_18 : decode cX10_drop 18 = .ok (.ireturn, 1) := by decide +kernel
theorem dX10_factor_0 : decode cX10_factor 0 = .ok (.aload_n 0, 1) := by decide +kernel
theorem dX10_factor_1 : decode cX10_factor 1 = .ok (.iload_n 1, 1) := by decide +kernel
theorem dX10_factor_2 : decode cX10_factor 2 = .ok (.invokevirtual 118, 3) := by decide +kernel
theorem dX10_factor_5 : decode cX10_factor 5 = .ok (.ifCond .ne 5, 3) := by decide +kernel
theorem dX10_factor_8 : decode cX10_factor 8 = .ok (.iconst (-1), 1) := by decide +kernel
theorem dX10_factor_9 : decode cX10_factor 9 = .ok (.ireturn, 1) := by decide +kernel
theorem dX10_factor_10 : decode cX10_factor 10 = .ok (.aload_n 0, 1) := by decide +kernel
theorem dX10_factor_11 : decode cX10_factor 11 = .ok (.iload_n 1, 1) := by decide +kernel
theorem dX10_factor_12 : decode cX10_factor 12 = .ok (.invokevirtual 126, 3) := by decide +kernel
theorem dX10_factor_15 : decode cX10_factor 15 = .ok (.ifCond .ne 6, 3) := by decide +kernel
theorem dX10_factor_18 : decode cX10_factor 18 = .ok (.bipush (-2), 2) := by decide +kernel
theorem dX10_factor_20 : decode cX10_factor 20 = .ok (.ireturn, 1) := by decide +kernel
theorem dX10_factor_21 : decode cX10_factor 21 = .ok (.aload_n 0, 1) := by decide +kernel
theorem dX10_factor_22 : decode cX10_factor 22 = .ok (.iload_n 1, 1) := by decide +kernel
theorem dX10_factor_23 : decode cX10_factor 23 = .ok (.iconst 0, 1) := by decide +kernel
theorem dX10_factor_24 : decode cX10_factor 24 = .ok (.invokevirtual 144, 3) := by decide +kernel
theorem dX10_factor_27 : decode cX10_factor 27 = .ok (.aload_n 0, 1) := by decide +kernel
theorem dX10_factor_28 : decode cX10_factor 28 = .ok (.getfield 26, 3) := by decide +kernel
theorem dX10_factor_31 : decode cX10_factor 31 = .ok (.iconst 0, 1) := by decide +kernel
theorem dX10_factor_32 : decode cX10_factor 32 = .ok (.iaload, 1) := by decide +kernel
theorem dX10_factor_33 : decode cX10_factor 33 = .ok (.iconst 1, 1) := by decide +kernel
theorem dX10_factor_34 : decode cX10_factor 34 = .ok (.if_icmp .ge 6, 3) := by decide +kernel
theorem dX10_factor_37 : decode cX10_factor 37 = .ok (.bipush (-3), 2) := by decide +kernel
theorem dX10_factor_39 : decode cX10_factor 39 = .ok (.ireturn, 1) := by decide +kernel
theorem dX10_factor_40 : decode cX10_factor 40 = .ok (.aload_n 0, 1) := by decide +kernel
theorem dX10_factor_41 : decode cX10_factor 41 = .ok (.iconst 1, 1) := by decide +kernel
theorem dX10_factor_42 : decode cX10_factor 42 = .ok (.putfield 86, 3) := by decide +kernel
theorem dX10_factor_45 : decode cX10_factor 45 = .ok (.aload_n 0, 1) := by decide +kernel
theorem dX10_factor_46 : decode cX10_factor 46 = .ok (.aload_n 0, 1) := by decide +kernel
theorem dX10_factor_47 : decode cX10_factor 47 = .ok (.getfield 23, 3) := by decide +kernel
theorem dX10_factor_50 : decode cX10_factor 50 = .ok (.aload_n 0, 1) := by decide +kernel
theorem dX10_factor_51 : decode cX10_factor 51 = .ok (.getfield 26, 3) := by decide +kernel
theorem dX10_factor_54 : decode cX10_factor 54 = .ok (.iconst 0, 1) := by decide +kernel
theorem dX10_factor_55 : decode cX10_factor 55 = .ok (.iaload, 1) := by decide +kernel
theorem dX10_factor_56 : decode cX10_factor 56 = .ok (.iaload, 1) := by decide +kernel
theorem dX10_factor_57 : decode cX10_factor 57 = .ok (.putfield 208, 3) := by decide +kernel
theorem dX10_factor_60 : decode cX10_factor 60 = .ok (.aload_n 0, 1) := by decide +kernel
theorem dX10_factor_61 : decode cX10_factor 61 = .ok (.iconst 0, 1) := by decide +kernel
theorem dX10_factor_62 : decode cX10_factor 62 = .ok (.invokevirtual 179, 3) := by decide +kernel
theorem dX10_factor_65 : decode cX10_factor 65 = .ok (.aload_n 0, 1) := by decide +kernel
theorem dX10_factor_66 : decode cX10_factor 66 = .ok (.iconst 0, 1) := by decide +kernel
theorem dX10_factor_67 : decode cX10_factor 67 = .ok (.bipush 20, 2) := by decide +kernel
theorem dX10_factor_69 : decode cX10_factor 69 = .ok (.invokevirtual 167, 3) := by decide +kernel
theorem dX10_factor_72 : decode cX10_factor 72 = .ok (.aload_n 0, 1) := by decide +kernel
theorem dX10_factor_73 : decode cX10_factor 73 = .ok (.iconst 0, 1) := by decide +kernel
theorem dX10_factor_74 : decode cX10_factor 74 = .ok (.putfield 90, 3) := by decide +kernel
theorem dX10_factor_77 : decode cX10_factor 77 = .ok (.aload_n 0, 1) := by decide +kernel
theorem dX10_factor_78 : decode cX10_factor 78 = .ok (.iconst 0, 1) := by decide +kernel
theorem dX10_factor_79 : decode cX10_factor 79 = .ok (.putfield 205, 3) := by decide +kernel
theorem dX10_factor_82 : decode cX10_factor 82 = .ok (.aload_n 0, 1) := by decide +kernel
theorem dX10_factor_83 : decode cX10_factor 83 = .ok (.iconst 0, 1) := by decide +kernel
theorem dX10_factor_84 : decode cX10_factor 84 = .ok (.invokevirtual 211, 3) := by decide +kernel
theorem dX10_factor_87 : decode cX10_factor 87 = .ok (.aload_n 0, 1) := by decide +kernel
theorem dX10_factor_88 : decode cX10_factor 88 = .ok (.getfield 205, 3) := by decide +kernel
theorem dX10_factor_91 : decode cX10_factor 91 = .ok (.ifCond .le 18, 3) := by decide +kernel
theorem dX10_factor_94 : decode cX10_factor 94 = .ok (.aload_n 0, 1) := by decide +kernel
theorem dX10_factor_95 : decode cX10_factor 95 = .ok (.bipush 11, 2) := by decide +kernel
theorem dX10_factor_97 : decode cX10_factor 97 = .ok (.invokevirtual 214, 3) := by decide +kernel
theorem dX10_factor_100 : decode cX10_factor 100 = .ok (.aload_n 0, 1) := by decide +kernel
theorem dX10_factor_101 : decode cX10_factor 101 = .ok (.bipush 11, 2) := by decide +kernel
theorem dX10_factor_103 : decode cX10_factor 103 = .ok (.invokevirtual 217, 3) := by decide +kernel
theorem dX10_factor_106 : decode cX10_factor 106 = .ok (.goto (-19), 3) := by decide +kernel
theorem dX10_factor_109 : decode cX10_factor 109 = .ok (.aload_n 0, 1) := by decide +kernel
theorem dX10_factor_110 : decode cX10_factor 110 = .ok (.invokevirtual 220, 3) := by decide +kernel
theorem dX10_factor_113 : decode cX10_factor 113 = .ok (.aload_n 0, 1) := by decide +kernel
theorem dX10_factor_114 : decode cX10_factor 114 = .ok (.getfield 90, 3) := by decide +kernel
theorem dX10_factor_117 : decode cX10_factor 117 = .ok (.ireturn, 1) := by decide +kernel
theorem dX10_factorAt_0 : decode cX10_factorAt 0 = .ok (.iload_n 1, 1) := by decide +kernel
theorem dX10_factorAt_1 : decode cX10_factorAt 1 = .ok (.ifCond .lt 21, 3) := by decide +kernel
theorem dX10_factorAt_4 : decode cX10_factorAt 4 = .ok (.iload_n 1, 1) := by decide +kernel
theorem dX10_factorAt_5 : decode cX10_factorAt 5 = .ok (.aload_n 0, 1) := by decide +kernel
theorem dX10_factorAt_6 : decode cX10_factorAt 6 = .ok (.getfield 90, 3) := by decide +kernel
theorem dX10_factorAt_9 : decode cX10_factorAt 9 = .ok (.if_icmp .ge 13, 3) := by decide +kernel
theorem dX10_factorAt_12 : decode cX10_factorAt 12 = .ok (.iload_n 2, 1) := by decide +kernel
theorem dX10_factorAt_13 : decode cX10_factorAt 13 = .ok (.ifCond .lt 9, 3) := by decide +kernel
theorem dX10_factorAt_16 : decode cX10_factorAt 16 = .ok (.iload_n 2, 1) := by decide +kernel
theorem dX10_factorAt_17 : decode cX10_factorAt 17 = .ok (.bipush 40, 2) := by decide +kernel
theorem dX10_factorAt_19 : decode cX10_factorAt 19 = .ok (.if_icmp .le 7, 3) := by decide +kernel
theorem dX10_factorAt_22 : decode cX10_factorAt 22 = .ok (.iconst (-1), 1) := by decide +kernel
theorem dX10_factorAt_23 : decode cX10_factorAt 23 = .ok (.goto 14, 3) := by decide +kernel
theorem dX10_factorAt_26 : decode cX10_factorAt 26 = .ok (.aload_n 0, 1) := by decide +kernel
theorem dX10_factorAt_27 : decode cX10_factorAt 27 = .ok (.getfield 42, 3) := by decide +kernel
theorem dX10_factorAt_30 : decode cX10_factorAt 30 = .ok (.bipush 41, 2) := by decide +kernel
theorem dX10_factorAt_32 : decode cX10_factorAt 32 = .ok (.iload_n 1, 1) := by decide +kernel
theorem dX10_factorAt_33 : decode cX10_factorAt 33 = .ok (.imul, 1) := by decide +kernel
theorem dX10_factorAt_34 : decode cX10_factorAt 34 = .ok (.iload_n 2, 1) := by decide +kernel
theorem dX10_factorAt_35 : decode cX10_factorAt 35 = .ok (.iadd, 1) := by decide +kernel
theorem dX10_factorAt_36 : decode cX10_factorAt 36 = .ok (.iaload, 1) := by decide +kernel
theorem dX10_factorAt_37 : decode cX10_factorAt 37 = .ok (.ireturn, 1) := by decide +kernel
theorem dX10_factorOf_0 : decode cX10_factorOf 0 = .ok (.iload_n 1, 1) := by decide +kernel
theorem dX10_factorOf_1 : decode cX10_factorOf 1 = .ok (.ifCond .lt 20, 3) := by decide +kernel
theorem dX10_factorOf_4 : decode cX10_factorOf 4 = .ok (.iload_n 1, 1) := by decide +kernel
theorem dX10_factorOf_5 : decode cX10_factorOf 5 = .ok (.aload_n 0, 1) := by decide +kernel
theorem dX10_factorOf_6 : decode cX10_factorOf 6 = .ok (.getfield 90, 3) := by decide +kernel
theorem dX10_factorOf_9 : decode cX10_factorOf 9 = .ok (.if_icmp .ge 12, 3) := by decide +kernel
theorem dX10_factorOf_12 : decode cX10_factorOf 12 = .ok (.iload_n 2, 1) := by decide +kernel
theorem dX10_factorOf_13 : decode cX10_factorOf 13 = .ok (.ifCond .lt 8, 3) := by decide +kernel
theorem dX10_factorOf_16 : decode cX10_factorOf 16 = .ok (.iload_n 2, 1) := by decide +kernel
theorem dX10_factorOf_17 : decode cX10_factorOf 17 = .ok (.iconst 1, 1) := by decide +kernel
theorem dX10_factorOf_18 : decode cX10_factorOf 18 = .ok (.if_icmp .le 5, 3) := by decide +kernel
theorem dX10_factorOf_21 : decode cX10_factorOf 21 = .ok (.iconst (-1), 1) := by decide +kernel
theorem dX10_factorOf_22 : decode cX10_factorOf 22 = .ok (.ireturn, 1) := by decide +kernel
theorem dX10_factorOf_23 : decode cX10_factorOf 23 = .ok (.iload_n 2, 1) := by decide +kernel
theorem dX10_factorOf_24 : decode cX10_factorOf 24 = .ok (.ifCond .ne 12, 3) := by decide +kernel
theorem dX10_factorOf_27 : decode cX10_factorOf 27 = .ok (.aload_n 0, 1) := by decide +kernel
theorem dX10_factorOf_28 : decode cX10_factorOf 28 = .ok (.getfield 39, 3) := by decide +kernel
theorem dX10_factorOf_31 : decode cX10_factorOf 31 = .ok (.iload_n 1, 1) := by decide +kernel
theorem dX10_factorOf_32 : decode cX10_factorOf 32 = .ok (.iaload, 1) := by decide +kernel
theorem dX10_factorOf_33 : decode cX10_factorOf 33 = .ok (.goto 9, 3) := by decide +kernel
theorem dX10_factorOf_36 : decode cX10_factorOf 36 = .ok (.aload_n 0, 1) := by decide +kernel
theorem dX10_factorOf_37 : decode cX10_factorOf 37 = .ok (.getfield 36, 3) := by decide +kernel
theorem dX10_factorOf_40 : decode cX10_factorOf 40 = .ok (.iload_n 1, 1) := by decide +kernel
theorem dX10_factorOf_41 : decode cX10_factorOf 41 = .ok (.iaload, 1) := by decide +kernel
theorem dX10_factorOf_42 : decode cX10_factorOf 42 = .ok (.ireturn, 1) := by decide +kernel
theorem dX10_init_0 : decode cX10_init 0 = .ok (.aload_n 0, 1) := by decide +kernel
theorem dX10_init_1 : decode cX10_init 1 = .ok (.invokespecial 1, 3) := by decide +kernel
theorem dX10_init_4 : decode cX10_init 4 = .ok (.aload_n 0, 1) := by decide +kernel
theorem dX10_init_5 : decode cX10_init 5 = .ok (.bipush 100, 2) := by decide +kernel
theorem dX10_init_7 : decode cX10_init 7 = .ok (.newarray .boolean, 2) := by decide +kernel
theorem dX10_init_9 : decode cX10_init 9 = .ok (.putfield 7, 3) := by decide +kernel
theorem dX10_init_12 : decode cX10_init 12 = .ok (.aload_n 0, 1) := by decide +kernel
theorem dX10_init_13 : decode cX10_init 13 = .ok (.sipush 28700, 3) := by decide +kernel
theorem dX10_init_16 : decode cX10_init 16 = .ok (.newarray .int, 2) := by decide +kernel
theorem dX10_init_18 : decode cX10_init 18 = .ok (.putfield 13, 3) := by decide +kernel
theorem dX10_init_21 : decode cX10_init 21 = .ok (.aload_n 0, 1) := by decide +kernel
theorem dX10_init_22 : decode cX10_init 22 = .ok (.sipush 1500, 3) := by decide +kernel
theorem dX10_init_25 : decode cX10_init 25 = .ok (.newarray .int, 2) := by decide +kernel
theorem dX10_init_27 : decode cX10_init 27 = .ok (.putfield 17, 3) := by decide +kernel
theorem dX10_init_30 : decode cX10_init 30 = .ok (.aload_n 0, 1) := by decide +kernel
theorem dX10_init_31 : decode cX10_init 31 = .ok (.sipush 1500, 3) := by decide +kernel
theorem dX10_init_34 : decode cX10_init 34 = .ok (.newarray .int, 2) := by decide +kernel
theorem dX10_init_36 : decode cX10_init 36 = .ok (.putfield 20, 3) := by decide +kernel
theorem dX10_init_39 : decode cX10_init 39 = .ok (.aload_n 0, 1) := by decide +kernel
theorem dX10_init_40 : decode cX10_init 40 = .ok (.sipush 8000, 3) := by decide +kernel
theorem dX10_init_43 : decode cX10_init 43 = .ok (.newarray .int, 2) := by decide +kernel
theorem dX10_init_45 : decode cX10_init 45 = .ok (.putfield 23, 3) := by decide +kernel
theorem dX10_init_48 : decode cX10_init 48 = .ok (.aload_n 0, 1) := by decide +kernel
theorem dX10_init_49 : decode cX10_init 49 = .ok (.bipush 40, 2) := by decide +kernel
theorem dX10_init_51 : decode cX10_init 51 = .ok (.newarray .int, 2) := by decide +kernel
theorem dX10_init_53 : decode cX10_init 53 = .ok (.putfield 26, 3) := by decide +kernel
theorem dX10_init_56 : decode cX10_init 56 = .ok (.aload_n 0, 1) := by decide +kernel
theorem dX10_init_57 : decode cX10_init 57 = .ok (.sipush 6400, 3) := by decide +kernel
theorem dX10_init_60 : decode cX10_init 60 = .ok (.newarray .long, 2) := by decide +kernel
theorem dX10_init_62 : decode cX10_init 62 = .ok (.putfield 29, 3) := by decide +kernel
theorem dX10_init_65 : decode cX10_init 65 = .ok (.aload_n 0, 1) := by decide +kernel
theorem dX10_init_66 : decode cX10_init 66 = .ok (.sipush 11520, 3) := by decide +kernel
theorem dX10_init_69 : decode cX10_init 69 = .ok (.newarray .int, 2) := by decide +kernel
theorem dX10_init_71 : decode cX10_init 71 = .ok (.putfield 33, 3) := by decide +kernel
theorem dX10_init_74 : decode cX10_init 74 = .ok (.aload_n 0, 1) := by decide +kernel
theorem dX10_init_75 : decode cX10_init 75 = .ok (.bipush 41, 2) := by decide +kernel
theorem dX10_init_77 : decode cX10_init 77 = .ok (.newarray .int, 2) := by decide +kernel
theorem dX10_init_79 : decode cX10_init 79 = .ok (.putfield 36, 3) := by decide +kernel
theorem dX10_init_82 : decode cX10_init 82 = .ok (.aload_n 0, 1) := by decide +kernel
theorem dX10_init_83 : decode cX10_init 83 = .ok (.bipush 41, 2) := by decide +kernel
theorem dX10_init_85 : decode cX10_init 85 = .ok (.newarray .int, 2) := by decide +kernel
theorem dX10_init_87 : decode cX10_init 87 = .ok (.putfield 39, 3) := by decide +kernel
theorem dX10_init_90 : decode cX10_init 90 = .ok (.aload_n 0, 1) := by decide +kernel
theorem dX10_init_91 : decode cX10_init 91 = .ok (.sipush 1681, 3) := by decide +kernel
theorem dX10_init_94 : decode cX10_init 94 = .ok (.newarray .int, 2) := by decide +kernel
theorem dX10_init_96 : decode cX10_init 96 = .ok (.putfield 42, 3) := by decide +kernel
theorem dX10_init_99 : decode cX10_init 99 = .ok (.aload_n 0, 1) := by decide +kernel
theorem dX10_init_100 : decode cX10_init 100 = .ok (.bipush 41, 2) := by decide +kernel
theorem dX10_init_102 : decode cX10_init 102 = .ok (.newarray .int, 2) := by decide +kernel
theorem dX10_init_104 : decode cX10_init 104 = .ok (.putfield 45, 3) := by decide +kernel
theorem dX10_init_107 : decode cX10_init 107 = .ok (.aload_n 0, 1) := by decide +kernel
theorem dX10_init_108 : decode cX10_init 108 = .ok (.bipush 41, 2) := by decide +kernel
theorem dX10_init_110 : decode cX10_init 110 = .ok (.newarray .int, 2) := by decide +kernel
theorem dX10_init_112 : decode cX10_init 112 = .ok (.putfield 48, 3) := by decide +kernel
theorem dX10_init_115 : decode cX10_init 115 = .ok (.aload_n 0, 1) := by decide +kernel
theorem dX10_init_116 : decode cX10_init 116 = .ok (.sipush 1681, 3) := by decide +kernel
theorem dX10_init_119 : decode cX10_init 119 = .ok (.newarray .int, 2) := by decide +kernel
theorem dX10_init_121 : decode cX10_init 121 = .ok (.putfield 51, 3) := by decide +kernel
theorem dX10_init_124 : decode cX10_init 124 = .ok (.aload_n 0, 1) := by decide +kernel
theorem dX10_init_125 : decode cX10_init 125 = .ok (.bipush 41, 2) := by decide +kernel
theorem dX10_init_127 : decode cX10_init 127 = .ok (.newarray .int, 2) := by decide +kernel
theorem dX10_init_129 : decode cX10_init 129 = .ok (.putfield 54, 3) := by decide +kernel
theorem dX10_init_132 : decode cX10_init 132 = .ok (.aload_n 0, 1) := by decide +kernel
theorem dX10_init_133 : decode cX10_init 133 = .ok (.bipush 100, 2) := by decide +kernel
theorem dX10_init_135 : decode cX10_init 135 = .ok (.newarray .int, 2) := by decide +kernel
theorem dX10_init_137 : decode cX10_init 137 = .ok (.putfield 57, 3) := by decide +kernel
theorem dX10_init_140 : decode cX10_init 140 = .ok (.aload_n 0, 1) := by decide +kernel
theorem dX10_init_141 : decode cX10_init 141 = .ok (.sipush 4100, 3) := by decide +kernel
theorem dX10_init_144 : decode cX10_init 144 = .ok (.newarray .int, 2) := by decide +kernel
theorem dX10_init_146 : decode cX10_init 146 = .ok (.putfield 60, 3) := by decide +kernel
theorem dX10_init_149 : decode cX10_init 149 = .ok (.aload_n 0, 1) := by decide +kernel
theorem dX10_init_150 : decode cX10_init 150 = .ok (.sipush 1681, 3) := by decide +kernel
theorem dX10_init_153 : decode cX10_init 153 = .ok (.newarray .int, 2) := by decide +kernel
theorem dX10_init_155 : decode cX10_init 155 = .ok (.putfield 63, 3) := by decide +kernel
theorem dX10_init_158 : decode cX10_init 158 = .ok (.aload_n 0, 1) := by decide +kernel
theorem dX10_init_159 : decode cX10_init 159 = .ok (.bipush 41, 2) := by decide +kernel
theorem dX10_init_161 : decode cX10_init 161 = .ok (.newarray .int, 2) := by decide +kernel
theorem dX10_init_163 : decode cX10_init 163 = .ok (.putfield 66, 3) := by decide +kernel
theorem dX10_init_166 : decode cX10_init 166 = .ok (.aload_n 0, 1) := by decide +kernel
theorem dX10_init_167 : decode cX10_init 167 = .ok (.sipush 1681, 3) := by decide +kernel
theorem dX10_init_170 : decode cX10_init 170 = .ok (.newarray .int, 2) := by decide +kernel
theorem dX10_init_172 : decode cX10_init 172 = .ok (.putfield 69, 3) := by decide +kernel
theorem dX10_init_175 : decode cX10_init 175 = .ok (.aload_n 0, 1) := by decide +kernel
theorem dX10_init_176 : decode cX10_init 176 = .ok (.bipush 41, 2) := by decide +kernel
theorem dX10_init_178 : decode cX10_init 178 = .ok (.newarray .int, 2) := by decide +kernel
theorem dX10_init_180 : decode cX10_init 180 = .ok (.putfield 72, 3) := by decide +kernel
theorem dX10_init_183 : decode cX10_init 183 = .ok (.aload_n 0, 1) := by decide +kernel
theorem dX10_init_184 : decode cX10_init 184 = .ok (.bipush 41, 2) := by decide +kernel
theorem dX10_init_186 : decode cX10_init 186 = .ok (.newarray .int, 2) := by decide +kernel
theorem dX10_init_188 : decode cX10_init 188 = .ok (.putfield 75, 3) := by decide +kernel
theorem dX10_init_191 : decode cX10_init 191 = .ok (.aload_n 0, 1) := by decide +kernel
theorem dX10_init_192 : decode cX10_init 192 = .ok (.iconst 2, 1) := by decide +kernel
theorem dX10_init_193 : decode cX10_init 193 = .ok (.putfield 78, 3) := by decide +kernel
theorem dX10_init_196 : decode cX10_init 196 = .ok (.return_, 1) := by decide +kernel
theorem dX10_interpolate_0 : decode cX10_interpolate 0 = .ok (.aload_n 0, 1) := by decide +kernel
theorem dX10_interpolate_1 : decode cX10_interpolate 1 = .ok (.iconst 0, 1) := by decide +kernel
theorem dX10_interpolate_2 : decode cX10_interpolate 2 = .ok (.iconst 0, 1) := by decide +kernel
theorem dX10_interpolate_3 : decode cX10_interpolate 3 = .ok (.invokevirtual 170, 3) := by decide +kernel
theorem dX10_interpolate_6 : decode cX10_interpolate 6 = .ok (.aload_n 0, 1) := by decide +kernel
theorem dX10_interpolate_7 : decode cX10_interpolate 7 = .ok (.iconst 1, 1) := by decide +kernel
theorem dX10_interpolate_8 : decode cX10_interpolate 8 = .ok (.iconst 1, 1) := by decide +kernel
theorem dX10_interpolate_9 : decode cX10_interpolate 9 = .ok (.invokevirtual 170, 3) := by decide +kernel
theorem dX10_interpolate_12 : decode cX10_interpolate 12 = .ok (.iconst 0, 1) := by decide +kernel
theorem dX10_interpolate_13 : decode cX10_interpolate 13 = .ok (.istore_n 1, 1) := by decide +kernel
theorem dX10_interpolate_14 : decode cX10_interpolate 14 = .ok (.iload_n 1, 1) := by decide +kernel
theorem dX10_interpolate_15 : decode cX10_interpolate 15 = .ok (.aload_n 0, 1) := by decide +kernel
theorem dX10_interpolate_16 : decode cX10_interpolate 16 = .ok (.getfield 83, 3) := by decide +kernel
theorem dX10_interpolate_19 : decode cX10_interpolate 19 = .ok (.if_icmp .ge 223, 3) := by decide +kernel
theorem dX10_interpolate_22 : decode cX10_interpolate 22 = .ok (.lconst 0, 1) := by decide +kernel
theorem dX10_interpolate_23 : decode cX10_interpolate 23 = .ok (.lstore_n 2, 1) := by decide +kernel
theorem dX10_interpolate_24 : decode cX10_interpolate 24 = .ok (.lconst 0, 1) := by decide +kernel
theorem dX10_interpolate_25 : decode cX10_interpolate 25 = .ok (.lstore 4, 2) := by decide +kernel
theorem dX10_interpolate_27 : decode cX10_interpolate 27 = .ok (.bipush 41, 2) := by decide +kernel
theorem dX10_interpolate_29 : decode cX10_interpolate 29 = .ok (.istore 6, 2) := by decide +kernel
theorem dX10_interpolate_31 : decode cX10_interpolate 31 = .ok (.iload 6, 2) := by decide +kernel
theorem dX10_interpolate_33 : decode cX10_interpolate 33 = .ok (.ifCond .lt 65, 3) := by decide +kernel
theorem dX10_interpolate_36 : decode cX10_interpolate 36 = .ok (.lload_n 2, 1) := by decide +kernel
theorem dX10_interpolate_37 : decode cX10_interpolate 37 = .ok (.aload_n 0, 1) := by decide +kernel
theorem dX10_interpolate_38 : decode cX10_interpolate 38 = .ok (.getfield 72, 3) := by decide +kernel
theorem dX10_interpolate_41 : decode cX10_interpolate 41 = .ok (.iload_n 1, 1) := by decide +kernel
theorem dX10_interpolate_42 : decode cX10_interpolate 42 = .ok (.iaload, 1) := by decide +kernel
theorem dX10_interpolate_43 : decode cX10_interpolate 43 = .ok (.i2l, 1) := by decide +kernel
theorem dX10_interpolate_44 : decode cX10_interpolate 44 = .ok (.lmul, 1) := by decide +kernel
theorem dX10_interpolate_45 : decode cX10_interpolate 45 = .ok (.aload_n 0, 1) := by decide +kernel
theorem dX10_interpolate_46 : decode cX10_interpolate 46 = .ok (.getfield 23, 3) := by decide +kernel
theorem dX10_interpolate_49 : decode cX10_interpolate 49 = .ok (.iload 6, 2) := by decide +kernel
theorem dX10_interpolate_51 : decode cX10_interpolate 51 = .ok (.iaload, 1) := by decide +kernel
theorem dX10_interpolate_52 : decode cX10_interpolate 52 = .ok (.i2l, 1) := by decide +kernel
theorem dX10_interpolate_53 : decode cX10_interpolate 53 = .ok (.ladd, 1) := by decide +kernel
theorem dX10_interpolate_54 : decode cX10_interpolate 54 = .ok (.aload_n 0, 1) := by decide +kernel
theorem dX10_interpolate_55 : decode cX10_interpolate 55 = .ok (.getfield 78, 3) := by decide +kernel
theorem dX10_interpolate_58 : decode cX10_interpolate 58 = .ok (.i2l, 1) := by decide +kernel
theorem dX10_interpolate_59 : decode cX10_interpolate 59 = .ok (.lrem, 1) := by decide +kernel
theorem dX10_interpolate_60 : decode cX10_interpolate 60 = .ok (.lstore_n 2, 1) := by decide +kernel
theorem dX10_interpolate_61 : decode cX10_interpolate 61 = .ok (.lload 4, 2) := by decide +kernel
theorem dX10_interpolate_63 : decode cX10_interpolate 63 = .ok (.aload_n 0, 1) := by decide +kernel
theorem dX10_interpolate_64 : decode cX10_interpolate 64 = .ok (.getfield 72, 3) := by decide +kernel
theorem dX10_interpolate_67 : decode cX10_interpolate 67 = .ok (.iload_n 1, 1) := by decide +kernel
theorem dX10_interpolate_68 : decode cX10_interpolate 68 = .ok (.iaload, 1) := by decide +kernel
theorem dX10_interpolate_69 : decode cX10_interpolate 69 = .ok (.i2l, 1) := by decide +kernel
theorem dX10_interpolate_70 : decode cX10_interpolate 70 = .ok (.lmul, 1) := by decide +kernel
theorem dX10_interpolate_71 : decode cX10_interpolate 71 = .ok (.aload_n 0, 1) := by decide +kernel
theorem dX10_interpolate_72 : decode cX10_interpolate 72 = .ok (.getfield 23, 3) := by decide +kernel
theorem dX10_interpolate_75 : decode cX10_interpolate 75 = .ok (.sipush 200, 3) := by decide +kernel
theorem dX10_interpolate_78 : decode cX10_interpolate 78 = .ok (.iload 6, 2) := by decide +kernel
theorem dX10_interpolate_80 : decode cX10_interpolate 80 = .ok (.iadd, 1) := by decide +kernel
theorem dX10_interpolate_81 : decode cX10_interpolate 81 = .ok (.iaload, 1) := by decide +kernel
theorem dX10_interpolate_82 : decode cX10_interpolate 82 = .ok (.i2l, 1) := by decide +kernel
theorem dX10_interpolate_83 : decode cX10_interpolate 83 = .ok (.ladd, 1) := by decide +kernel
theorem dX10_interpolate_84 : decode cX10_interpolate 84 = .ok (.aload_n 0, 1) := by decide +kernel
theorem dX10_interpolate_85 : decode cX10_interpolate 85 = .ok (.getfield 78, 3) := by decide +kernel
theorem dX10_interpolate_88 : decode cX10_interpolate 88 = .ok (.i2l, 1) := by decide +kernel
theorem dX10_interpolate_89 : decode cX10_interpolate 89 = .ok (.lrem, 1) := by decide +kernel
theorem dX10_interpolate_90 : decode cX10_interpolate 90 = .ok (.lstore 4, 2) := by decide +kernel
theorem dX10_interpolate_92 : decode cX10_interpolate 92 = .ok (.iinc 6 (-1), 3) := by decide +kernel
theorem dX10_interpolate_95 : decode cX10_interpolate 95 = .ok (.goto (-64), 3) := by decide +kernel
theorem dX10_interpolate_98 : decode cX10_interpolate 98 = .ok (.aload_n 0, 1) := by decide +kernel
theorem dX10_interpolate_99 : decode cX10_interpolate 99 = .ok (.getfield 75, 3) := by decide +kernel
theorem dX10_interpolate_102 : decode cX10_interpolate 102 = .ok (.iload_n 1, 1) := by decide +kernel
theorem dX10_interpolate_103 : decode cX10_interpolate 103 = .ok (.iaload, 1) := by decide +kernel
theorem dX10_interpolate_104 : decode cX10_interpolate 104 = .ok (.i2l, 1) := by decide +kernel
theorem dX10_interpolate_105 : decode cX10_interpolate 105 = .ok (.lload_n 2, 1) := by decide +kernel
theorem dX10_interpolate_106 : decode cX10_interpolate 106 = .ok (.lsub, 1) := by decide +kernel
theorem dX10_interpolate_107 : decode cX10_interpolate 107 = .ok (.aload_n 0, 1) := by decide +kernel
theorem dX10_interpolate_108 : decode cX10_interpolate 108 = .ok (.getfield 78, 3) := by decide +kernel
theorem dX10_interpolate_111 : decode cX10_interpolate 111 = .ok (.i2l, 1) := by decide +kernel
theorem dX10_interpolate_112 : decode cX10_interpolate 112 = .ok (.ladd, 1) := by decide +kernel
theorem dX10_interpolate_113 : decode cX10_interpolate 113 = .ok (.aload_n 0, 1) := by decide +kernel
theorem dX10_interpolate_114 : decode cX10_interpolate 114 = .ok (.getfield 78, 3) := by decide +kernel
theorem dX10_interpolate_117 : decode cX10_interpolate 117 = .ok (.i2l, 1) := by decide +kernel
theorem dX10_interpolate_118 : decode cX10_interpolate 118 = .ok (.lrem, 1) := by decide +kernel
theorem dX10_interpolate_119 : decode cX10_interpolate 119 = .ok (.aload_n 0, 1) := by decide +kernel
theorem dX10_interpolate_120 : decode cX10_interpolate 120 = .ok (.lload 4, 2) := by decide +kernel
theorem dX10_interpolate_122 : decode cX10_interpolate 122 = .ok (.l2i, 1) := by decide +kernel
theorem dX10_interpolate_123 : decode cX10_interpolate 123 = .ok (.invokevirtual 173, 3) := by decide +kernel
theorem dX10_interpolate_126 : decode cX10_interpolate 126 = .ok (.i2l, 1) := by decide +kernel
theorem dX10_interpolate_127 : decode cX10_interpolate 127 = .ok (.lmul, 1) := by decide +kernel
theorem dX10_interpolate_128 : decode cX10_interpolate 128 = .ok (.aload_n 0, 1) := by decide +kernel
theorem dX10_interpolate_129 : decode cX10_interpolate 129 = .ok (.getfield 78, 3) := by decide +kernel
theorem dX10_interpolate_132 : decode cX10_interpolate 132 = .ok (.i2l, 1) := by decide +kernel
theorem dX10_interpolate_133 : decode cX10_interpolate 133 = .ok (.lrem, 1) := by decide +kernel
theorem dX10_interpolate_134 : decode cX10_interpolate 134 = .ok (.lstore 6, 2) := by decide +kernel
theorem dX10_interpolate_136 : decode cX10_interpolate 136 = .ok (.aload_n 0, 1) := by decide +kernel
theorem dX10_interpolate_137 : decode cX10_interpolate 137 = .ok (.iconst 2, 1) := by decide +kernel
theorem dX10_interpolate_138 : decode cX10_interpolate 138 = .ok (.lload 6, 2) := by decide +kernel
theorem dX10_interpolate_140 : decode cX10_interpolate 140 = .ok (.l2i, 1) := by decide +kernel
theorem dX10_interpolate_141 : decode cX10_interpolate 141 = .ok (.invokevirtual 170, 3) := by decide +kernel
theorem dX10_interpolate_144 : decode cX10_interpolate 144 = .ok (.aload_n 0, 1) := by decide +kernel
theorem dX10_interpolate_145 : decode cX10_interpolate 145 = .ok (.iconst 1, 1) := by decide +kernel
theorem dX10_interpolate_146 : decode cX10_interpolate 146 = .ok (.iconst 2, 1) := by decide +kernel
theorem dX10_interpolate_147 : decode cX10_interpolate 147 = .ok (.iconst 3, 1) := by decide +kernel
theorem dX10_interpolate_148 : decode cX10_interpolate 148 = .ok (.invokevirtual 189, 3) := by decide +kernel
theorem dX10_interpolate_151 : decode cX10_interpolate 151 = .ok (.aload_n 0, 1) := by decide +kernel
theorem dX10_interpolate_152 : decode cX10_interpolate 152 = .ok (.iconst 4, 1) := by decide +kernel
theorem dX10_interpolate_153 : decode cX10_interpolate 153 = .ok (.iconst 0, 1) := by decide +kernel
theorem dX10_interpolate_154 : decode cX10_interpolate 154 = .ok (.invokevirtual 170, 3) := by decide +kernel
theorem dX10_interpolate_157 : decode cX10_interpolate 157 = .ok (.aload_n 0, 1) := by decide +kernel
theorem dX10_interpolate_158 : decode cX10_interpolate 158 = .ok (.iconst 4, 1) := by decide +kernel
theorem dX10_interpolate_159 : decode cX10_interpolate 159 = .ok (.iconst 3, 1) := by decide +kernel
theorem dX10_interpolate_160 : decode cX10_interpolate 160 = .ok (.iconst 5, 1) := by decide +kernel
theorem dX10_interpolate_161 : decode cX10_interpolate 161 = .ok (.invokevirtual 192, 3) := by decide +kernel
theorem dX10_interpolate_164 : decode cX10_interpolate 164 = .ok (.aload_n 0, 1) := by decide +kernel
theorem dX10_interpolate_165 : decode cX10_interpolate 165 = .ok (.iconst 0, 1) := by decide +kernel
theorem dX10_interpolate_166 : decode cX10_interpolate 166 = .ok (.iconst 5, 1) := by decide +kernel
theorem dX10_interpolate_167 : decode cX10_interpolate 167 = .ok (.bipush 6, 2) := by decide +kernel
theorem dX10_interpolate_169 : decode cX10_interpolate 169 = .ok (.invokevirtual 192, 3) := by decide +kernel
theorem dX10_interpolate_172 : decode cX10_interpolate 172 = .ok (.aload_n 0, 1) := by decide +kernel
theorem dX10_interpolate_173 : decode cX10_interpolate 173 = .ok (.bipush 6, 2) := by decide +kernel
theorem dX10_interpolate_175 : decode cX10_interpolate 175 = .ok (.iconst 0, 1) := by decide +kernel
theorem dX10_interpolate_176 : decode cX10_interpolate 176 = .ok (.invokevirtual 167, 3) := by decide +kernel
theorem dX10_interpolate_179 : decode cX10_interpolate 179 = .ok (.aload_n 0, 1) := by decide +kernel
theorem dX10_interpolate_180 : decode cX10_interpolate 180 = .ok (.iconst 2, 1) := by decide +kernel
theorem dX10_interpolate_181 : decode cX10_interpolate 181 = .ok (.iconst 0, 1) := by decide +kernel
theorem dX10_interpolate_182 : decode cX10_interpolate 182 = .ok (.invokevirtual 170, 3) := by decide +kernel
theorem dX10_interpolate_185 : decode cX10_interpolate 185 = .ok (.aload_n 0, 1) := by decide +kernel
theorem dX10_interpolate_186 : decode cX10_interpolate 186 = .ok (.getfield 23, 3) := by decide +kernel
theorem dX10_interpolate_189 : decode cX10_interpolate 189 = .ok (.sipush 400, 3) := by decide +kernel
theorem dX10_interpolate_192 : decode cX10_interpolate 192 = .ok (.aload_n 0, 1) := by decide +kernel
theorem dX10_interpolate_193 : decode cX10_interpolate 193 = .ok (.getfield 78, 3) := by decide +kernel
theorem dX10_interpolate_196 : decode cX10_interpolate 196 = .ok (.aload_n 0, 1) := by decide +kernel
theorem dX10_interpolate_197 : decode cX10_interpolate 197 = .ok (.getfield 72, 3) := by decide +kernel
theorem dX10_interpolate_200 : decode cX10_interpolate 200 = .ok (.iload_n 1, 1) := by decide +kernel
theorem dX10_interpolate_201 : decode cX10_interpolate 201 = .ok (.iaload, 1) := by decide +kernel
theorem dX10_interpolate_202 : decode cX10_interpolate 202 = .ok (.isub, 1) := by decide +kernel
theorem dX10_interpolate_203 : decode cX10_interpolate 203 = .ok (.aload_n 0, 1) := by decide +kernel
theorem dX10_interpolate_204 : decode cX10_interpolate 204 = .ok (.getfield 78, 3) := by decide +kernel
theorem dX10_interpolate_207 : decode cX10_interpolate 207 = .ok (.irem, 1) := by decide +kernel
theorem dX10_interpolate_208 : decode cX10_interpolate 208 = .ok (.iastore, 1) := by decide +kernel
theorem dX10_interpolate_209 : decode cX10_interpolate 209 = .ok (.aload_n 0, 1) := by decide +kernel
theorem dX10_interpolate_210 : decode cX10_interpolate 210 = .ok (.getfield 23, 3) := by decide +kernel
theorem dX10_interpolate_213 : decode cX10_interpolate 213 = .ok (.sipush 401, 3) := by decide +kernel
theorem dX10_interpolate_216 : decode cX10_interpolate 216 = .ok (.iconst 1, 1) := by decide +kernel
theorem dX10_interpolate_217 : decode cX10_interpolate 217 = .ok (.iastore, 1) := by decide +kernel
theorem dX10_interpolate_218 : decode cX10_interpolate 218 = .ok (.aload_n 0, 1) := by decide +kernel
theorem dX10_interpolate_219 : decode cX10_interpolate 219 = .ok (.iconst 2, 1) := by decide +kernel
theorem dX10_interpolate_220 : decode cX10_interpolate 220 = .ok (.invokevirtual 164, 3) := by decide +kernel
theorem dX10_interpolate_223 : decode cX10_interpolate 223 = .ok (.aload_n 0, 1) := by decide +kernel
theorem dX10_interpolate_224 : decode cX10_interpolate 224 = .ok (.iconst 1, 1) := by decide +kernel
theorem dX10_interpolate_225 : decode cX10_interpolate 225 = .ok (.iconst 2, 1) := by decide +kernel
theorem dX10_interpolate_226 : decode cX10_interpolate 226 = .ok (.iconst 3, 1) := by decide +kernel
theorem dX10_interpolate_227 : decode cX10_interpolate 227 = .ok (.invokevirtual 189, 3) := by decide +kernel
theorem dX10_interpolate_230 : decode cX10_interpolate 230 = .ok (.aload_n 0, 1) := by decide +kernel
theorem dX10_interpolate_231 : decode cX10_interpolate 231 = .ok (.iconst 3, 1) := by decide +kernel
theorem dX10_interpolate_232 : decode cX10_interpolate 232 = .ok (.iconst 1, 1) := by decide +kernel
theorem dX10_interpolate_233 : decode cX10_interpolate 233 = .ok (.invokevirtual 167, 3) := by decide +kernel
theorem dX10_interpolate_236 : decode cX10_interpolate 236 = .ok (.iinc 1 1, 3) := by decide +kernel
theorem dX10_interpolate_239 : decode cX10_interpolate 239 = .ok (.goto (-225), 3) := by decide +kernel
theorem dX10_interpolate_242 : decode cX10_interpolate 242 = .ok (.aload_n 0, 1) := by decide +kernel
theorem dX10_interpolate_243 : decode cX10_interpolate 243 = .ok (.iconst 0, 1) := by decide +kernel
theorem dX10_interpolate_244 : decode cX10_interpolate 244 = .ok (.putfield 83, 3) := by decide +kernel
theorem dX10_interpolate_247 : decode cX10_interpolate 247 = .ok (.aload_n 0, 1) := by decide +kernel
theorem dX10_interpolate_248 : decode cX10_interpolate 248 = .ok (.iconst 0, 1) := by decide +kernel
theorem dX10_interpolate_249 : decode cX10_interpolate 249 = .ok (.invokevirtual 182, 3) := by decide +kernel
theorem dX10_interpolate_252 : decode cX10_interpolate 252 = .ok (.ireturn, 1) := by decide +kernel
theorem dX10_isPlace_0 : decode cX10_isPlace 0 = .ok (.iload_n 1, 1) := by decide +kernel
theorem dX10_isPlace_1 : decode cX10_isPlace 1 = .ok (.ifCond .lt 22, 3) := by decide +kernel
theorem dX10_isPlace_4 : decode cX10_isPlace 4 = .ok (.iload_n 1, 1) := by decide +kernel
theorem dX10_isPlace_5 : decode cX10_isPlace 5 = .ok (.bipush 100, 2) := by decide +kernel
theorem dX10_isPlace_7 : decode cX10_isPlace 7 = .ok (.if_icmp .ge 16, 3) := by decide +kernel
theorem dX10_isPlace_10 : decode cX10_isPlace 10 = .ok (.aload_n 0, 1) := by decide +kernel
theorem dX10_isPlace_11 : decode cX10_isPlace 11 = .ok (.getfield 7, 3) := by decide +kernel
theorem dX10_isPlace_14 : decode cX10_isPlace 14 = .ok (.iload_n 1, 1) := by decide +kernel
theorem dX10_isPlace_15 : decode cX10_isPlace 15 = .ok (.baload, 1) := by decide +kernel
theorem dX10_isPlace_16 : decode cX10_isPlace 16 = .ok (.ifCond .eq 7, 3) := by decide +kernel
theorem dX10_isPlace_19 : decode cX10_isPlace 19 = .ok (.iconst 1, 1) := by decide +kernel
theorem dX10_isPlace_20 : decode cX10_isPlace 20 = .ok (.goto 4, 3) := by decide +kernel
theorem dX10_isPlace_23 : decode cX10_isPlace 23 = .ok (.iconst 0, 1) := by decide +kernel
theorem dX10_isPlace_24 : decode cX10_isPlace 24 = .ok (.ireturn, 1) := by decide +kernel
theorem dX10_keep_0 : decode cX10_keep 0 = .ok (.iconst 0, 1) := by decide +kernel
theorem dX10_keep_1 : decode cX10_keep 1 = .ok (.istore_n 1, 1) := by decide +kernel
theorem dX10_keep_2 : decode cX10_keep 2 = .ok (.iload_n 1, 1) := by decide +kernel
theorem dX10_keep_3 : decode cX10_keep 3 = .ok (.bipush 100, 2) := by decide +kernel
theorem dX10_keep_5 : decode cX10_keep 5 = .ok (.if_icmp .ge 18, 3) := by decide +kernel
theorem dX10_keep_8 : decode cX10_keep 8 = .ok (.aload_n 0, 1) := by decide +kernel
theorem dX10_keep_9 : decode cX10_keep 9 = .ok (.getfield 7, 3) := by decide +kernel
theorem dX10_keep_12 : decode cX10_keep 12 = .ok (.iload_n 1, 1) := by decide +kernel
theorem dX10_keep_13 : decode cX10_keep 13 = .ok (.baload, 1) := by decide +kernel
theorem dX10_keep_14 : decode cX10_keep 14 = .ok (.ifCond .eq 9, 3) := by decide +kernel
theorem dX10_keep_17 : decode cX10_keep 17 = .ok (.iinc 1 1, 3) := by decide +kernel
theorem dX10_keep_20 : decode cX10_keep 20 = .ok (.goto (-18), 3) := by decide +kernel
theorem dX10_keep_23 : decode cX10_keep 23 = .ok (.iload_n 1, 1) := by decide +kernel
theorem dX10_keep_24 : decode cX10_keep 24 = .ok (.bipush 100, 2) := by decide +kernel
theorem dX10_keep_26 : decode cX10_keep 26 = .ok (.if_icmp .ne 6, 3) := by decide +kernel
theorem dX10_keep_29 : decode cX10_keep 29 = .ok (.bipush (-5), 2) := by decide +kernel
theorem dX10_keep_31 : decode cX10_keep 31 = .ok (.ireturn, 1) := by decide +kernel
theorem dX10_keep_32 : decode cX10_keep 32 = .ok (.aload_n 0, 1) := by decide +kernel
theorem dX10_keep_33 : decode cX10_keep 33 = .ok (.getfield 7, 3) := by decide +kernel
theorem dX10_keep_36 : decode cX10_keep 36 = .ok (.iload_n 1, 1) := by decide +kernel
theorem dX10_keep_37 : decode cX10_keep 37 = .ok (.iconst 1, 1) := by decide +kernel
theorem dX10_keep_38 : decode cX10_keep 38 = .ok (.bastore, 1) := by decide +kernel
theorem dX10_keep_39 : decode cX10_keep 39 = .ok (.iconst 0, 1) := by decide +kernel
theorem dX10_keep_40 : decode cX10_keep 40 = .ok (.istore_n 2, 1) := by decide +kernel
theorem dX10_keep_41 : decode cX10_keep 41 = .ok (.iload_n 2, 1) := by decide +kernel
theorem dX10_keep_42 : decode cX10_keep 42 = .ok (.sipush 287, 3) := by decide +kernel
theorem dX10_keep_45 : decode cX10_keep 45 = .ok (.if_icmp .ge 27, 3) := by decide +kernel
theorem dX10_keep_48 : decode cX10_keep 48 = .ok (.aload_n 0, 1) := by decide +kernel
theorem dX10_keep_49 : decode cX10_keep 49 = .ok (.getfield 13, 3) := by decide +kernel
theorem dX10_keep_52 : decode cX10_keep 52 = .ok (.sipush 287, 3) := by decide +kernel
theorem dX10_keep_55 : decode cX10_keep 55 = .ok (.iload_n 1, 1) := by decide +kernel
theorem dX10_keep_56 : decode cX10_keep 56 = .ok (.imul, 1) := by decide +kernel
theorem dX10_keep_57 : decode cX10_keep 57 = .ok (.iload_n 2, 1) := by decide +kernel
theorem dX10_keep_58 : decode cX10_keep 58 = .ok (.iadd, 1) := by decide +kernel
theorem dX10_keep_59 : decode cX10_keep 59 = .ok (.aload_n 0, 1) := by decide +kernel
theorem dX10_keep_60 : decode cX10_keep 60 = .ok (.getfield 17, 3) := by decide +kernel
theorem dX10_keep_63 : decode cX10_keep 63 = .ok (.iload_n 2, 1) := by decide +kernel
theorem dX10_keep_64 : decode cX10_keep 64 = .ok (.iaload, 1) := by decide +kernel
theorem dX10_keep_65 : decode cX10_keep 65 = .ok (.iastore, 1) := by decide +kernel
theorem dX10_keep_66 : decode cX10_keep 66 = .ok (.iinc 2 1, 3) := by decide +kernel
theorem dX10_keep_69 : decode cX10_keep 69 = .ok (.goto (-28), 3) := by decide +kernel
theorem dX10_keep_72 : decode cX10_keep 72 = .ok (.iload_n 1, 1) := by decide +kernel
theorem dX10_keep_73 : decode cX10_keep 73 = .ok (.ireturn, 1) := by decide +kernel
theorem dX10_keepRegister_0 : decode cX10_keepRegister 0 = .ok (.aload_n 0, 1) := by decide +kernel
theorem dX10_keepRegister_1 : decode cX10_keepRegister 1 = .ok (.getfield 26, 3) := by decide +kernel
theorem dX10_keepRegister_4 : decode cX10_keepRegister 4 = .ok (.iload_n 1, 1) := by decide +kernel
theorem dX10_keepRegister_5 : decode cX10_keepRegister 5 = .ok (.iaload, 1) := by decide +kernel
theorem dX10_keepRegister_6 : decode cX10_keepRegister 6 = .ok (.bipush 40, 2) := by decide +kernel
theorem dX10_keepRegister_8 : decode cX10_keepRegister 8 = .ok (.if_icmp .le 6, 3) := by decide +kernel
theorem dX10_keepRegister_11 : decode cX10_keepRegister 11 = .ok (.bipush (-4), 2) := by decide +kernel
theorem dX10_keepRegister_13 : decode cX10_keepRegister 13 = .ok (.ireturn, 1) := by decide +kernel
theorem dX10_keepRegister_14 : decode cX10_keepRegister 14 = .ok (.aload_n 0, 1) := by decide +kernel
theorem dX10_keepRegister_15 : decode cX10_keepRegister 15 = .ok (.invokevirtual 107, 3) := by decide +kernel
theorem dX10_keepRegister_18 : decode cX10_keepRegister 18 = .ok (.iconst 0, 1) := by decide +kernel
theorem dX10_keepRegister_19 : decode cX10_keepRegister 19 = .ok (.istore_n 2, 1) := by decide +kernel
theorem dX10_keepRegister_20 : decode cX10_keepRegister 20 = .ok (.iload_n 2, 1) := by decide +kernel
theorem dX10_keepRegister_21 : decode cX10_keepRegister 21 = .ok (.bipush 40, 2) := by decide +kernel
theorem dX10_keepRegister_23 : decode cX10_keepRegister 23 = .ok (.if_icmp .gt 30, 3) := by decide +kernel
theorem dX10_keepRegister_26 : decode cX10_keepRegister 26 = .ok (.aload_n 0, 1) := by decide +kernel
theorem dX10_keepRegister_27 : decode cX10_keepRegister 27 = .ok (.getfield 17, 3) := by decide +kernel
theorem dX10_keepRegister_30 : decode cX10_keepRegister 30 = .ok (.bipush 7, 2) := by decide +kernel
theorem dX10_keepRegister_32 : decode cX10_keepRegister 32 = .ok (.iload_n 2, 1) := by decide +kernel
theorem dX10_keepRegister_33 : decode cX10_keepRegister 33 = .ok (.imul, 1) := by decide +kernel
theorem dX10_keepRegister_34 : decode cX10_keepRegister 34 = .ok (.aload_n 0, 1) := by decide +kernel
theorem dX10_keepRegister_35 : decode cX10_keepRegister 35 = .ok (.getfield 23, 3) := by decide +kernel
theorem dX10_keepRegister_38 : decode cX10_keepRegister 38 = .ok (.sipush 200, 3) := by decide +kernel
theorem dX10_keepRegister_41 : decode cX10_keepRegister 41 = .ok (.iload_n 1, 1) := by decide +kernel
theorem dX10_keepRegister_42 : decode cX10_keepRegister 42 = .ok (.imul, 1) := by decide +kernel
theorem dX10_keepRegister_43 : decode cX10_keepRegister 43 = .ok (.iload_n 2, 1) := by decide +kernel
theorem dX10_keepRegister_44 : decode cX10_keepRegister 44 = .ok (.iadd, 1) := by decide +kernel
theorem dX10_keepRegister_45 : decode cX10_keepRegister 45 = .ok (.iaload, 1) := by decide +kernel
theorem dX10_keepRegister_46 : decode cX10_keepRegister 46 = .ok (.iastore, 1) := by decide +kernel
theorem dX10_keepRegister_47 : decode cX10_keepRegister 47 = .ok (.iinc 2 1, 3) := by decide +kernel
theorem dX10_keepRegister_50 : decode cX10_keepRegister 50 = .ok (.goto (-30), 3) := by decide +kernel
theorem dX10_keepRegister_53 : decode cX10_keepRegister 53 = .ok (.aload_n 0, 1) := by decide +kernel
theorem dX10_keepRegister_54 : decode cX10_keepRegister 54 = .ok (.invokevirtual 114, 3) := by decide +kernel
theorem dX10_keepRegister_57 : decode cX10_keepRegister 57 = .ok (.ireturn, 1) := by decide +kernel
theorem dX10_modulo_0 : decode cX10_modulo 0 = .ok (.lload_n 1, 1) := by decide +kernel
theorem dX10_modulo_1 : decode cX10_modulo 1 = .ok (.aload_n 0, 1) := by decide +kernel
theorem dX10_modulo_2 : decode cX10_modulo 2 = .ok (.getfield 78, 3) := by decide +kernel
theorem dX10_modulo_5 : decode cX10_modulo 5 = .ok (.i2l, 1) := by decide +kernel
theorem dX10_modulo_6 : decode cX10_modulo 6 = .ok (.lrem, 1) := by decide +kernel
theorem dX10_modulo_7 : decode cX10_modulo 7 = .ok (.lstore_n 3, 1) := by decide +kernel
theorem dX10_modulo_8 : decode cX10_modulo 8 = .ok (.lload_n 3, 1) := by decide +kernel
theorem dX10_modulo_9 : decode cX10_modulo 9 = .ok (.lconst 0, 1) := by decide +kernel
theorem dX10_modulo_10 : decode cX10_modulo 10 = .ok (.lcmp, 1) := by decide +kernel
theorem dX10_modulo_11 : decode cX10_modulo 11 = .ok (.ifCond .ge 13, 3) := by decide +kernel
theorem dX10_modulo_14 : decode cX10_modulo 14 = .ok (.lload_n 3, 1) := by decide +kernel
theorem dX10_modulo_15 : decode cX10_modulo 15 = .ok (.aload_n 0, 1) := by decide +kernel
theorem dX10_modulo_16 : decode cX10_modulo 16 = .ok (.getfield 78, 3) := by decide +kernel
theorem dX10_modulo_19 : decode cX10_modulo 19 = .ok (.i2l, 1) := by decide +kernel
theorem dX10_modulo_20 : decode cX10_modulo 20 = .ok (.ladd, 1) := by decide +kernel
theorem dX10_modulo_21 : decode cX10_modulo 21 = .ok (.goto 4, 3) := by decide +kernel
theorem dX10_modulo_24 : decode cX10_modulo 24 = .ok (.lload_n 3, 1) := by decide +kernel
theorem dX10_modulo_25 : decode cX10_modulo 25 = .ok (.l2i, 1) := by decide +kernel
theorem dX10_modulo_26 : decode cX10_modulo 26 = .ok (.ireturn, 1) := by decide +kernel
theorem dX10_part_0 : decode cX10_part 0 = .ok (.aload_n 0, 1) := by decide +kernel
theorem dX10_part_1 : decode cX10_part 1 = .ok (.getfield 26, 3) := by decide +kernel
theorem dX10_part_4 : decode cX10_part 4 = .ok (.iload_n 1, 1) := by decide +kernel
theorem dX10_part_5 : decode cX10_part 5 = .ok (.iaload, 1) := by decide +kernel
theorem dX10_part_6 : decode cX10_part 6 = .ok (.iconst 1, 1) := by decide +kernel
theorem dX10_part_7 : decode cX10_part 7 = .ok (.if_icmp .ne 9, 3) := by decide +kernel
theorem dX10_part_10 : decode cX10_part 10 = .ok (.aload_n 0, 1) := by decide +kernel
theorem dX10_part_11 : decode cX10_part 11 = .ok (.iload_n 1, 1) := by decide +kernel
theorem dX10_part_12 : decode cX10_part 12 = .ok (.invokevirtual 223, 3) := by decide +kernel
theorem dX10_part_15 : decode cX10_part 15 = .ok (.return_, 1) := by decide +kernel
theorem dX10_part_16 : decode cX10_part 16 = .ok (.aload_n 0, 1) := by decide +kernel
theorem dX10_part_17 : decode cX10_part 17 = .ok (.bipush 12, 2) := by decide +kernel
theorem dX10_part_19 : decode cX10_part 19 = .ok (.iconst 0, 1) := by decide +kernel
theorem dX10_part_20 : decode cX10_part 20 = .ok (.invokevirtual 170, 3) := by decide +kernel
theorem dX10_part_23 : decode cX10_part 23 = .ok (.iconst 1, 1) := by decide +kernel
theorem dX10_part_24 : decode cX10_part 24 = .ok (.istore_n 2, 1) := by decide +kernel
theorem dX10_part_25 : decode cX10_part 25 = .ok (.iload_n 2, 1) := by decide +kernel
theorem dX10_part_26 : decode cX10_part 26 = .ok (.aload_n 0, 1) := by decide +kernel
theorem dX10_part_27 : decode cX10_part 27 = .ok (.getfield 26, 3) := by decide +kernel
theorem dX10_part_30 : decode cX10_part 30 = .ok (.iload_n 1, 1) := by decide +kernel
theorem dX10_part_31 : decode cX10_part 31 = .ok (.iaload, 1) := by decide +kernel
theorem dX10_part_32 : decode cX10_part 32 = .ok (.if_icmp .gt 44, 3) := by decide +kernel
theorem dX10_part_35 : decode cX10_part 35 = .ok (.aload_n 0, 1) := by decide +kernel
theorem dX10_part_36 : decode cX10_part 36 = .ok (.getfield 23, 3) := by decide +kernel
theorem dX10_part_39 : decode cX10_part 39 = .ok (.sipush 2400, 3) := by decide +kernel
theorem dX10_part_42 : decode cX10_part 42 = .ok (.iload_n 2, 1) := by decide +kernel
theorem dX10_part_43 : decode cX10_part 43 = .ok (.iadd, 1) := by decide +kernel
