theorem dL_law_0 : decode cL_law 0 = .ok (.invokestatic 163, 3) := by decide +kernel
theorem dL_law_3 : decode cL_law 3 = .ok (.ifCond .ne 5, 3) := by decide +kernel
theorem dL_law_6 : decode cL_law 6 = .ok (.iconst 0, 1) := by decide +kernel
theorem dL_law_7 : decode cL_law 7 = .ok (.ireturn, 1) := by decide +kernel
theorem dL_law_8 : decode cL_law 8 = .ok (.new 8, 3) := by decide +kernel
theorem dL_law_11 : decode cL_law 11 = .ok (.dup, 1) := by decide +kernel
theorem dL_law_12 : decode cL_law 12 = .ok (.invokespecial 129, 3) := by decide +kernel
theorem dL_law_15 : decode cL_law 15 = .ok (.astore_n 1, 1) := by decide +kernel
theorem dL_law_16 : decode cL_law 16 = .ok (.iconst 0, 1) := by decide +kernel
theorem dL_law_17 : decode cL_law 17 = .ok (.istore_n 2, 1) := by decide +kernel
theorem dL_law_18 : decode cL_law 18 = .ok (.iconst 0, 1) := by decide +kernel
theorem dL_law_19 : decode cL_law 19 = .ok (.istore_n 3, 1) := by decide +kernel
theorem dL_law_20 : decode cL_law 20 = .ok (.iconst 0, 1) := by decide +kernel
theorem dL_law_21 : decode cL_law 21 = .ok (.istore 4, 2) := by decide +kernel
theorem dL_law_23 : decode cL_law 23 = .ok (.iconst 0, 1) := by decide +kernel
theorem dL_law_24 : decode cL_law 24 = .ok (.istore 5, 2) := by decide +kernel
theorem dL_law_26 : decode cL_law 26 = .ok (.iload 5, 2) := by decide +kernel
theorem dL_law_28 : decode cL_law 28 = .ok (.bipush 60, 2) := by decide +kernel
theorem dL_law_30 : decode cL_law 30 = .ok (.if_icmp .ge 669, 3) := by decide +kernel
theorem dL_law_33 : decode cL_law 33 = .ok (.aload_n 0, 1) := by decide +kernel
theorem dL_law_34 : decode cL_law 34 = .ok (.arraylength, 1) := by decide +kernel
theorem dL_law_35 : decode cL_law 35 = .ok (.ifCond .ne 11, 3) := by decide +kernel
theorem dL_law_38 : decode cL_law 38 = .ok (.bipush 103, 2) := by decide +kernel
theorem dL_law_40 : decode cL_law 40 = .ok (.iload 5, 2) := by decide +kernel
theorem dL_law_42 : decode cL_law 42 = .ok (.imul, 1) := by decide +kernel
theorem dL_law_43 : decode cL_law 43 = .ok (.goto 13, 3) := by decide +kernel
theorem dL_law_46 : decode cL_law 46 = .ok (.aload_n 0, 1) := by decide +kernel
theorem dL_law_47 : decode cL_law 47 = .ok (.iload 5, 2) := by decide +kernel
theorem dL_law_49 : decode cL_law 49 = .ok (.aload_n 0, 1) := by decide +kernel
theorem dL_law_50 : decode cL_law 50 = .ok (.arraylength, 1) := by decide +kernel
theorem dL_law_51 : decode cL_law 51 = .ok (.irem, 1) := by decide +kernel
theorem dL_law_52 : decode cL_law 52 = .ok (.iaload, 1) := by decide +kernel
theorem dL_law_53 : decode cL_law 53 = .ok (.bipush 8, 2) := by decide +kernel
theorem dL_law_55 : decode cL_law 55 = .ok (.iushr, 1) := by decide +kernel
theorem dL_law_56 : decode cL_law 56 = .ok (.istore 6, 2) := by decide +kernel
theorem dL_law_58 : decode cL_law 58 = .ok (.iload 6, 2) := by decide +kernel
theorem dL_law_60 : decode cL_law 60 = .ok (.bipush 9, 2) := by decide +kernel
theorem dL_law_62 : decode cL_law 62 = .ok (.irem, 1) := by decide +kernel
theorem dL_law_63 : decode cL_law 63 = .ok (.istore 7, 2) := by decide +kernel
theorem dL_law_65 : decode cL_law 65 = .ok (.iload 6, 2) := by decide +kernel
theorem dL_law_67 : decode cL_law 67 = .ok (.bipush 9, 2) := by decide +kernel
theorem dL_law_69 : decode cL_law 69 = .ok (.idiv, 1) := by decide +kernel
theorem dL_law_70 : decode cL_law 70 = .ok (.istore 8, 2) := by decide +kernel
theorem dL_law_72 : decode cL_law 72 = .ok (.iload 7, 2) := by decide +kernel
theorem dL_law_74 : decode cL_law 74 = .ok (.iconst 3, 1) := by decide +kernel
theorem dL_law_75 : decode cL_law 75 = .ok (.if_icmp .ge 159, 3) := by decide +kernel
theorem dL_law_78 : decode cL_law 78 = .ok (.iload 7, 2) := by decide +kernel
theorem dL_law_80 : decode cL_law 80 = .ok (.ifCond .ne 40, 3) := by decide +kernel
theorem dL_law_83 : decode cL_law 83 = .ok (.aload_n 1, 1) := by decide +kernel
theorem dL_law_84 : decode cL_law 84 = .ok (.iconst 4, 1) := by decide +kernel
theorem dL_law_85 : decode cL_law 85 = .ok (.iload 8, 2) := by decide +kernel
theorem dL_law_87 : decode cL_law 87 = .ok (.sipush 1601, 3) := by decide +kernel
theorem dL_law_90 : decode cL_law 90 = .ok (.irem, 1) := by decide +kernel
theorem dL_law_91 : decode cL_law 91 = .ok (.iload 8, 2) := by decide +kernel
theorem dL_law_93 : decode cL_law 93 = .ok (.sipush 841, 3) := by decide +kernel
theorem dL_law_96 : decode cL_law 96 = .ok (.irem, 1) := by decide +kernel
theorem dL_law_97 : decode cL_law 97 = .ok (.iload 8, 2) := by decide +kernel
theorem dL_law_99 : decode cL_law 99 = .ok (.bipush 7, 2) := by decide +kernel
theorem dL_law_101 : decode cL_law 101 = .ok (.idiv, 1) := by decide +kernel
theorem dL_law_102 : decode cL_law 102 = .ok (.sipush 1601, 3) := by decide +kernel
theorem dL_law_105 : decode cL_law 105 = .ok (.irem, 1) := by decide +kernel
theorem dL_law_106 : decode cL_law 106 = .ok (.iload 8, 2) := by decide +kernel
theorem dL_law_108 : decode cL_law 108 = .ok (.iconst 3, 1) := by decide +kernel
theorem dL_law_109 : decode cL_law 109 = .ok (.idiv, 1) := by decide +kernel
theorem dL_law_110 : decode cL_law 110 = .ok (.sipush 841, 3) := by decide +kernel
theorem dL_law_113 : decode cL_law 113 = .ok (.irem, 1) := by decide +kernel
theorem dL_law_114 : decode cL_law 114 = .ok (.invokestatic 121, 3) := by decide +kernel
theorem dL_law_117 : decode cL_law 117 = .ok (.goto 69, 3) := by decide +kernel
theorem dL_law_120 : decode cL_law 120 = .ok (.iload 7, 2) := by decide +kernel
theorem dL_law_122 : decode cL_law 122 = .ok (.iconst 1, 1) := by decide +kernel
theorem dL_law_123 : decode cL_law 123 = .ok (.if_icmp .ne 37, 3) := by decide +kernel
theorem dL_law_126 : decode cL_law 126 = .ok (.aload_n 1, 1) := by decide +kernel
theorem dL_law_127 : decode cL_law 127 = .ok (.iconst 5, 1) := by decide +kernel
theorem dL_law_128 : decode cL_law 128 = .ok (.iload 8, 2) := by decide +kernel
theorem dL_law_130 : decode cL_law 130 = .ok (.sipush 1200, 3) := by decide +kernel
theorem dL_law_133 : decode cL_law 133 = .ok (.irem, 1) := by decide +kernel
theorem dL_law_134 : decode cL_law 134 = .ok (.iload 8, 2) := by decide +kernel
theorem dL_law_136 : decode cL_law 136 = .ok (.sipush 800, 3) := by decide +kernel
theorem dL_law_139 : decode cL_law 139 = .ok (.irem, 1) := by decide +kernel
theorem dL_law_140 : decode cL_law 140 = .ok (.iconst 1, 1) := by decide +kernel
theorem dL_law_141 : decode cL_law 141 = .ok (.iload 8, 2) := by decide +kernel
theorem dL_law_143 : decode cL_law 143 = .ok (.bipush 10, 2) := by decide +kernel
theorem dL_law_145 : decode cL_law 145 = .ok (.irem, 1) := by decide +kernel
theorem dL_law_146 : decode cL_law 146 = .ok (.iadd, 1) := by decide +kernel
theorem dL_law_147 : decode cL_law 147 = .ok (.iconst 1, 1) := by decide +kernel
theorem dL_law_148 : decode cL_law 148 = .ok (.iload 8, 2) := by decide +kernel
theorem dL_law_150 : decode cL_law 150 = .ok (.bipush 40, 2) := by decide +kernel
theorem dL_law_152 : decode cL_law 152 = .ok (.irem, 1) := by decide +kernel
theorem dL_law_153 : decode cL_law 153 = .ok (.iadd, 1) := by decide +kernel
theorem dL_law_154 : decode cL_law 154 = .ok (.invokestatic 121, 3) := by decide +kernel
theorem dL_law_157 : decode cL_law 157 = .ok (.goto 29, 3) := by decide +kernel
theorem dL_law_160 : decode cL_law 160 = .ok (.aload_n 1, 1) := by decide +kernel
theorem dL_law_161 : decode cL_law 161 = .ok (.bipush 6, 2) := by decide +kernel
theorem dL_law_163 : decode cL_law 163 = .ok (.iload 8, 2) := by decide +kernel
theorem dL_law_165 : decode cL_law 165 = .ok (.sipush 1600, 3) := by decide +kernel
theorem dL_law_168 : decode cL_law 168 = .ok (.irem, 1) := by decide +kernel
theorem dL_law_169 : decode cL_law 169 = .ok (.iload 8, 2) := by decide +kernel
theorem dL_law_171 : decode cL_law 171 = .ok (.sipush 800, 3) := by decide +kernel
theorem dL_law_174 : decode cL_law 174 = .ok (.irem, 1) := by decide +kernel
theorem dL_law_175 : decode cL_law 175 = .ok (.iconst 1, 1) := by decide +kernel
theorem dL_law_176 : decode cL_law 176 = .ok (.iload 8, 2) := by decide +kernel
theorem dL_law_178 : decode cL_law 178 = .ok (.bipush 50, 2) := by decide +kernel
theorem dL_law_180 : decode cL_law 180 = .ok (.irem, 1) := by decide +kernel
theorem dL_law_181 : decode cL_law 181 = .ok (.iadd, 1) := by decide +kernel
theorem dL_law_182 : decode cL_law 182 = .ok (.iconst 0, 1) := by decide +kernel
theorem dL_law_183 : decode cL_law 183 = .ok (.invokestatic 121, 3) := by decide +kernel
theorem dL_law_186 : decode cL_law 186 = .ok (.lstore 9, 2) := by decide +kernel
theorem dL_law_188 : decode cL_law 188 = .ok (.lload 9, 2) := by decide +kernel
theorem dL_law_190 : decode cL_law 190 = .ok (.iload_n 2, 1) := by decide +kernel
theorem dL_law_191 : decode cL_law 191 = .ok (.i2l, 1) := by decide +kernel
theorem dL_law_192 : decode cL_law 192 = .ok (.lcmp, 1) := by decide +kernel
theorem dL_law_193 : decode cL_law 193 = .ok (.ifCond .eq 23, 3) := by decide +kernel
theorem dL_law_196 : decode cL_law 196 = .ok (.lload 9, 2) := by decide +kernel
theorem dL_law_198 : decode cL_law 198 = .ok (.ldc2_w 104, 3) := by decide +kernel
theorem dL_law_201 : decode cL_law 201 = .ok (.lcmp, 1) := by decide +kernel
theorem dL_law_202 : decode cL_law 202 = .ok (.ifCond .eq 14, 3) := by decide +kernel
theorem dL_law_205 : decode cL_law 205 = .ok (.lload 9, 2) := by decide +kernel
theorem dL_law_207 : decode cL_law 207 = .ok (.ldc2_w 108, 3) := by decide +kernel
theorem dL_law_210 : decode cL_law 210 = .ok (.lcmp, 1) := by decide +kernel
theorem dL_law_211 : decode cL_law 211 = .ok (.ifCond .eq 5, 3) := by decide +kernel
theorem dL_law_214 : decode cL_law 214 = .ok (.iconst 0, 1) := by decide +kernel
theorem dL_law_215 : decode cL_law 215 = .ok (.ireturn, 1) := by decide +kernel
theorem dL_law_216 : decode cL_law 216 = .ok (.iload_n 2, 1) := by decide +kernel
theorem dL_law_217 : decode cL_law 217 = .ok (.lload 9, 2) := by decide +kernel
theorem dL_law_219 : decode cL_law 219 = .ok (.lconst 0, 1) := by decide +kernel
theorem dL_law_220 : decode cL_law 220 = .ok (.lcmp, 1) := by decide +kernel
theorem dL_law_221 : decode cL_law 221 = .ok (.ifCond .ge 7, 3) := by decide +kernel
theorem dL_law_224 : decode cL_law 224 = .ok (.iconst 0, 1) := by decide +kernel
theorem dL_law_225 : decode cL_law 225 = .ok (.goto 4, 3) := by decide +kernel
theorem dL_law_228 : decode cL_law 228 = .ok (.iconst 1, 1) := by decide +kernel
theorem dL_law_229 : decode cL_law 229 = .ok (.iadd, 1) := by decide +kernel
theorem dL_law_230 : decode cL_law 230 = .ok (.istore_n 2, 1) := by decide +kernel
theorem dL_law_231 : decode cL_law 231 = .ok (.goto 394, 3) := by decide +kernel
theorem dL_law_234 : decode cL_law 234 = .ok (.iload 7, 2) := by decide +kernel
theorem dL_law_236 : decode cL_law 236 = .ok (.iconst 5, 1) := by decide +kernel
theorem dL_law_237 : decode cL_law 237 = .ok (.if_icmp .ge 95, 3) := by decide +kernel
theorem dL_law_240 : decode cL_law 240 = .ok (.iload_n 2, 1) := by decide +kernel
theorem dL_law_241 : decode cL_law 241 = .ok (.ifCond .le 91, 3) := by decide +kernel
theorem dL_law_244 : decode cL_law 244 = .ok (.iconst 1, 1) := by decide +kernel
theorem dL_law_245 : decode cL_law 245 = .ok (.iload 8, 2) := by decide +kernel
theorem dL_law_247 : decode cL_law 247 = .ok (.bipush 16, 2) := by decide +kernel
theorem dL_law_249 : decode cL_law 249 = .ok (.irem, 1) := by decide +kernel
theorem dL_law_250 : decode cL_law 250 = .ok (.iadd, 1) := by decide +kernel
theorem dL_law_251 : decode cL_law 251 = .ok (.istore 9, 2) := by decide +kernel
theorem dL_law_253 : decode cL_law 253 = .ok (.aload_n 1, 1) := by decide +kernel
theorem dL_law_254 : decode cL_law 254 = .ok (.bipush 7, 2) := by decide +kernel
theorem dL_law_256 : decode cL_law 256 = .ok (.iload 8, 2) := by decide +kernel
theorem dL_law_258 : decode cL_law 258 = .ok (.iload_n 2, 1) := by decide +kernel
theorem dL_law_259 : decode cL_law 259 = .ok (.irem, 1) := by decide +kernel
theorem dL_law_260 : decode cL_law 260 = .ok (.iload 9, 2) := by decide +kernel
theorem dL_law_262 : decode cL_law 262 = .ok (.bipush 60, 2) := by decide +kernel
theorem dL_law_264 : decode cL_law 264 = .ok (.iload 8, 2) := by decide +kernel
theorem dL_law_266 : decode cL_law 266 = .ok (.sipush 181, 3) := by decide +kernel
theorem dL_law_269 : decode cL_law 269 = .ok (.irem, 1) := by decide +kernel
theorem dL_law_270 : decode cL_law 270 = .ok (.iadd, 1) := by decide +kernel
theorem dL_law_271 : decode cL_law 271 = .ok (.iload 8, 2) := by decide +kernel
theorem dL_law_273 : decode cL_law 273 = .ok (.iconst 2, 1) := by decide +kernel
theorem dL_law_274 : decode cL_law 274 = .ok (.irem, 1) := by decide +kernel
theorem dL_law_275 : decode cL_law 275 = .ok (.invokestatic 121, 3) := by decide +kernel
theorem dL_law_278 : decode cL_law 278 = .ok (.lstore 10, 2) := by decide +kernel
theorem dL_law_280 : decode cL_law 280 = .ok (.lload 10, 2) := by decide +kernel
theorem dL_law_282 : decode cL_law 282 = .ok (.iload_n 3, 1) := by decide +kernel
theorem dL_law_283 : decode cL_law 283 = .ok (.bipush 12, 2) := by decide +kernel
theorem dL_law_285 : decode cL_law 285 = .ok (.if_icmp .ge 8, 3) := by decide +kernel
theorem dL_law_288 : decode cL_law 288 = .ok (.iload_n 3, 1) := by decide +kernel
theorem dL_law_289 : decode cL_law 289 = .ok (.i2l, 1) := by decide +kernel
theorem dL_law_290 : decode cL_law 290 = .ok (.goto 6, 3) := by decide +kernel
theorem dL_law_293 : decode cL_law 293 = .ok (.ldc2_w 108, 3) := by decide +kernel
theorem dL_law_296 : decode cL_law 296 = .ok (.lcmp, 1) := by decide +kernel
theorem dL_law_297 : decode cL_law 297 = .ok (.ifCond .eq 5, 3) := by decide +kernel
theorem dL_law_300 : decode cL_law 300 = .ok (.iconst 0, 1) := by decide +kernel
theorem dL_law_301 : decode cL_law 301 = .ok (.ireturn, 1) := by decide +kernel
theorem dL_law_302 : decode cL_law 302 = .ok (.iload_n 3, 1) := by decide +kernel
theorem dL_law_303 : decode cL_law 303 = .ok (.ifCond .ne 8, 3) := by decide +kernel
theorem dL_law_306 : decode cL_law 306 = .ok (.iload 9, 2) := by decide +kernel
theorem dL_law_308 : decode cL_law 308 = .ok (.goto 5, 3) := by decide +kernel
theorem dL_law_311 : decode cL_law 311 = .ok (.iload 4, 2) := by decide +kernel
theorem dL_law_313 : decode cL_law 313 = .ok (.istore 4, 2) := by decide +kernel
theorem dL_law_315 : decode cL_law 315 = .ok (.iload_n 3, 1) := by decide +kernel
theorem dL_law_316 : decode cL_law 316 = .ok (.iload_n 3, 1) := by decide +kernel
theorem dL_law_317 : decode cL_law 317 = .ok (.bipush 12, 2) := by decide +kernel
theorem dL_law_319 : decode cL_law 319 = .ok (.if_icmp .ge 7, 3) := by decide +kernel
theorem dL_law_322 : decode cL_law 322 = .ok (.iconst 1, 1) := by decide +kernel
theorem dL_law_323 : decode cL_law 323 = .ok (.goto 4, 3) := by decide +kernel
theorem dL_law_326 : decode cL_law 326 = .ok (.iconst 0, 1) := by decide +kernel
theorem dL_law_327 : decode cL_law 327 = .ok (.iadd, 1) := by decide +kernel
theorem dL_law_328 : decode cL_law 328 = .ok (.istore_n 3, 1) := by decide +kernel
theorem dL_law_329 : decode cL_law 329 = .ok (.goto 296, 3) := by decide +kernel
theorem dL_law_332 : decode cL_law 332 = .ok (.iload 7, 2) := by decide +kernel
theorem dL_law_334 : decode cL_law 334 = .ok (.iconst 5, 1) := by decide +kernel
theorem dL_law_335 : decode cL_law 335 = .ok (.if_icmp .ne 84, 3) := by decide +kernel
theorem dL_law_338 : decode cL_law 338 = .ok (.aload_n 1, 1) := by decide +kernel
theorem dL_law_339 : decode cL_law 339 = .ok (.iconst 1, 1) := by decide +kernel
theorem dL_law_340 : decode cL_law 340 = .ok (.iload 8, 2) := by decide +kernel
theorem dL_law_342 : decode cL_law 342 = .ok (.iconst 4, 1) := by decide +kernel
theorem dL_law_343 : decode cL_law 343 = .ok (.irem, 1) := by decide +kernel
theorem dL_law_344 : decode cL_law 344 = .ok (.iconst 5, 1) := by decide +kernel
theorem dL_law_345 : decode cL_law 345 = .ok (.iload 8, 2) := by decide +kernel
theorem dL_law_347 : decode cL_law 347 = .ok (.iconst 4, 1) := by decide +kernel
theorem dL_law_348 : decode cL_law 348 = .ok (.idiv, 1) := by decide +kernel
theorem dL_law_349 : decode cL_law 349 = .ok (.bipush 36, 2) := by decide +kernel
theorem dL_law_351 : decode cL_law 351 = .ok (.irem, 1) := by decide +kernel
theorem dL_law_352 : decode cL_law 352 = .ok (.iadd, 1) := by decide +kernel
theorem dL_law_353 : decode cL_law 353 = .ok (.iconst 0, 1) := by decide +kernel
theorem dL_law_354 : decode cL_law 354 = .ok (.iconst 0, 1) := by decide +kernel
theorem dL_law_355 : decode cL_law 355 = .ok (.invokestatic 121, 3) := by decide +kernel
theorem dL_law_358 : decode cL_law 358 = .ok (.ldc2_w 166, 3) := by decide +kernel
theorem dL_law_361 : decode cL_law 361 = .ok (.lcmp, 1) := by decide +kernel
theorem dL_law_362 : decode cL_law 362 = .ok (.ifCond .lt 55, 3) := by decide +kernel
theorem dL_law_365 : decode cL_law 365 = .ok (.aload_n 1, 1) := by decide +kernel
theorem dL_law_366 : decode cL_law 366 = .ok (.iconst 3, 1) := by decide +kernel
theorem dL_law_367 : decode cL_law 367 = .ok (.iload 8, 2) := by decide +kernel
theorem dL_law_369 : decode cL_law 369 = .ok (.iconst 3, 1) := by decide +kernel
theorem dL_law_370 : decode cL_law 370 = .ok (.irem, 1) := by decide +kernel
theorem dL_law_371 : decode cL_law 371 = .ok (.iload 8, 2) := by decide +kernel
theorem dL_law_373 : decode cL_law 373 = .ok (.iconst 3, 1) := by decide +kernel
theorem dL_law_374 : decode cL_law 374 = .ok (.idiv, 1) := by decide +kernel
theorem dL_law_375 : decode cL_law 375 = .ok (.iconst 5, 1) := by decide +kernel
theorem dL_law_376 : decode cL_law 376 = .ok (.irem, 1) := by decide +kernel
theorem dL_law_377 : decode cL_law 377 = .ok (.iconst 1, 1) := by decide +kernel
theorem dL_law_378 : decode cL_law 378 = .ok (.isub, 1) := by decide +kernel
theorem dL_law_379 : decode cL_law 379 = .ok (.iload 8, 2) := by decide +kernel
theorem dL_law_381 : decode cL_law 381 = .ok (.iconst 2, 1) := by decide +kernel
theorem dL_law_382 : decode cL_law 382 = .ok (.irem, 1) := by decide +kernel
theorem dL_law_383 : decode cL_law 383 = .ok (.iconst 0, 1) := by decide +kernel
theorem dL_law_384 : decode cL_law 384 = .ok (.invokestatic 121, 3) := by decide +kernel
theorem dL_law_387 : decode cL_law 387 = .ok (.lconst 1, 1) := by decide +kernel
theorem dL_law_388 : decode cL_law 388 = .ok (.lcmp, 1) := by decide +kernel
theorem dL_law_389 : decode cL_law 389 = .ok (.ifCond .ne 28, 3) := by decide +kernel
theorem dL_law_392 : decode cL_law 392 = .ok (.aload_n 1, 1) := by decide +kernel
theorem dL_law_393 : decode cL_law 393 = .ok (.iconst 2, 1) := by decide +kernel
theorem dL_law_394 : decode cL_law 394 = .ok (.iload 8, 2) := by decide +kernel
theorem dL_law_396 : decode cL_law 396 = .ok (.iconst 5, 1) := by decide +kernel
theorem dL_law_397 : decode cL_law 397 = .ok (.idiv, 1) := by decide +kernel
theorem dL_law_398 : decode cL_law 398 = .ok (.iconst 4, 1) := by decide +kernel
theorem dL_law_399 : decode cL_law 399 = .ok (.irem, 1) := by decide +kernel
theorem dL_law_400 : decode cL_law 400 = .ok (.iload 8, 2) := by decide +kernel
theorem dL_law_402 : decode cL_law 402 = .ok (.bipush 7, 2) := by decide +kernel
theorem dL_law_404 : decode cL_law 404 = .ok (.idiv, 1) := by decide +kernel
theorem dL_law_405 : decode cL_law 405 = .ok (.iconst 2, 1) := by decide +kernel
theorem dL_law_406 : decode cL_law 406 = .ok (.irem, 1) := by decide +kernel
theorem dL_law_407 : decode cL_law 407 = .ok (.iconst 0, 1) := by decide +kernel
theorem dL_law_408 : decode cL_law 408 = .ok (.iconst 0, 1) := by decide +kernel
theorem dL_law_409 : decode cL_law 409 = .ok (.invokestatic 121, 3) := by decide +kernel
theorem dL_law_412 : decode cL_law 412 = .ok (.lconst 0, 1) := by decide +kernel
theorem dL_law_413 : decode cL_law 413 = .ok (.lcmp, 1) := by decide +kernel
theorem dL_law_414 : decode cL_law 414 = .ok (.ifCond .ge 211, 3) := by decide +kernel
theorem dL_law_417 : decode cL_law 417 = .ok (.iconst 0, 1) := by decide +kernel
theorem dL_law_418 : decode cL_law 418 = .ok (.ireturn, 1) := by decide +kernel
theorem dL_law_419 : decode cL_law 419 = .ok (.iload 7, 2) := by decide +kernel
theorem dL_law_421 : decode cL_law 421 = .ok (.bipush 6, 2) := by decide +kernel
theorem dL_law_423 : decode cL_law 423 = .ok (.if_icmp .ne 110, 3) := by decide +kernel
theorem dL_law_426 : decode cL_law 426 = .ok (.iload_n 3, 1) := by decide +kernel
theorem dL_law_427 : decode cL_law 427 = .ok (.ifCond .le 106, 3) := by decide +kernel
theorem dL_law_430 : decode cL_law 430 = .ok (.iload 8, 2) := by decide +kernel
theorem dL_law_432 : decode cL_law 432 = .ok (.iload_n 3, 1) := by decide +kernel
theorem dL_law_433 : decode cL_law 433 = .ok (.irem, 1) := by decide +kernel
theorem dL_law_434 : decode cL_law 434 = .ok (.istore 9, 2) := by decide +kernel
theorem dL_law_436 : decode cL_law 436 = .ok (.aload_n 1, 1) := by decide +kernel
theorem dL_law_437 : decode cL_law 437 = .ok (.iload 9, 2) := by decide +kernel
theorem dL_law_439 : decode cL_law 439 = .ok (.iconst 1, 1) := by decide +kernel
theorem dL_law_440 : decode cL_law 440 = .ok (.invokevirtual 73, 3) := by decide +kernel
theorem dL_law_443 : decode cL_law 443 = .ok (.istore 10, 2) := by decide +kernel
theorem dL_law_445 : decode cL_law 445 = .ok (.aload_n 1, 1) := by decide +kernel
theorem dL_law_446 : decode cL_law 446 = .ok (.iload 9, 2) := by decide +kernel
theorem dL_law_448 : decode cL_law 448 = .ok (.iconst 0, 1) := by decide +kernel
theorem dL_law_449 : decode cL_law 449 = .ok (.invokevirtual 73, 3) := by decide +kernel
theorem dL_law_452 : decode cL_law 452 = .ok (.ifCond .ge 7, 3) := by decide +kernel
theorem dL_law_455 : decode cL_law 455 = .ok (.iconst 1, 1) := by decide +kernel
theorem dL_law_456 : decode cL_law 456 = .ok (.goto 4, 3) := by decide +kernel
theorem dL_law_459 : decode cL_law 459 = .ok (.iconst 0, 1) := by decide +kernel
theorem dL_law_460 : decode cL_law 460 = .ok (.iload 10, 2) := by decide +kernel
theorem dL_law_462 : decode cL_law 462 = .ok (.ifCond .ge 7, 3) := by decide +kernel
theorem dL_law_465 : decode cL_law 465 = .ok (.iconst 1, 1) := by decide +kernel
theorem dL_law_466 : decode cL_law 466 = .ok (.goto 4, 3) := by decide +kernel
theorem dL_law_469 : decode cL_law 469 = .ok (.iconst 0, 1) := by decide +kernel
theorem dL_law_470 : decode cL_law 470 = .ok (.if_icmp .ne 58, 3) := by decide +kernel
theorem dL_law_473 : decode cL_law 473 = .ok (.aload_n 1, 1) := by decide +kernel
theorem dL_law_474 : decode cL_law 474 = .ok (.iload 9, 2) := by decide +kernel
theorem dL_law_476 : decode cL_law 476 = .ok (.iconst 3, 1) := by decide +kernel
theorem dL_law_477 : decode cL_law 477 = .ok (.invokevirtual 73, 3) := by decide +kernel
theorem dL_law_480 : decode cL_law 480 = .ok (.ifCond .ge 7, 3) := by decide +kernel
theorem dL_law_483 : decode cL_law 483 = .ok (.iconst 1, 1) := by decide +kernel
theorem dL_law_484 : decode cL_law 484 = .ok (.goto 4, 3) := by decide +kernel
theorem dL_law_487 : decode cL_law 487 = .ok (.iconst 0, 1) := by decide +kernel
theorem dL_law_488 : decode cL_law 488 = .ok (.iload 10, 2) := by decide +kernel
theorem dL_law_490 : decode cL_law 490 = .ok (.iconst 1, 1) := by decide +kernel
theorem dL_law_491 : decode cL_law 491 = .ok (.if_icmp .ge 7, 3) := by decide +kernel
theorem dL_law_494 : decode cL_law 494 = .ok (.iconst 1, 1) := by decide +kernel
theorem dL_law_495 : decode cL_law 495 = .ok (.goto 4, 3) := by decide +kernel
theorem dL_law_498 : decode cL_law 498 = .ok (.iconst 0, 1) := by decide +kernel
theorem dL_law_499 : decode cL_law 499 = .ok (.if_icmp .ne 29, 3) := by decide +kernel
theorem dL_law_502 : decode cL_law 502 = .ok (.aload_n 1, 1) := by decide +kernel
theorem dL_law_503 : decode cL_law 503 = .ok (.iload 9, 2) := by decide +kernel
theorem dL_law_505 : decode cL_law 505 = .ok (.invokevirtual 66, 3) := by decide +kernel
theorem dL_law_508 : decode cL_law 508 = .ok (.lconst 0, 1) := by decide +kernel
theorem dL_law_509 : decode cL_law 509 = .ok (.lcmp, 1) := by decide +kernel
theorem dL_law_510 : decode cL_law 510 = .ok (.ifCond .lt 18, 3) := by decide +kernel
theorem dL_law_513 : decode cL_law 513 = .ok (.iload 9, 2) := by decide +kernel
theorem dL_law_515 : decode cL_law 515 = .ok (.ifCond .ne 15, 3) := by decide +kernel
theorem dL_law_518 : decode cL_law 518 = .ok (.aload_n 1, 1) := by decide +kernel
theorem dL_law_519 : decode cL_law 519 = .ok (.iconst 0, 1) := by decide +kernel
theorem dL_law_520 : decode cL_law 520 = .ok (.invokevirtual 66, 3) := by decide +kernel
theorem dL_law_523 : decode cL_law 523 = .ok (.lconst 0, 1) := by decide +kernel
theorem dL_law_524 : decode cL_law 524 = .ok (.lcmp, 1) := by decide +kernel
theorem dL_law_525 : decode cL_law 525 = .ok (.ifCond .eq 5, 3) := by decide +kernel
theorem dL_law_528 : decode cL_law 528 = .ok (.iconst 0, 1) := by decide +kernel
theorem dL_law_529 : decode cL_law 529 = .ok (.ireturn, 1) := by decide +kernel
theorem dL_law_530 : decode cL_law 530 = .ok (.goto 95, 3) := by decide +kernel
theorem dL_law_533 : decode cL_law 533 = .ok (.iload 7, 2) := by decide +kernel
theorem dL_law_535 : decode cL_law 535 = .ok (.bipush 7, 2) := by decide +kernel
theorem dL_law_537 : decode cL_law 537 = .ok (.if_icmp .ne 30, 3) := by decide +kernel
theorem dL_law_540 : decode cL_law 540 = .ok (.aload_n 1, 1) := by decide +kernel
theorem dL_law_541 : decode cL_law 541 = .ok (.invokevirtual 118, 3) := by decide +kernel
theorem dL_law_544 : decode cL_law 544 = .ok (.istore 9, 2) := by decide +kernel
theorem dL_law_546 : decode cL_law 546 = .ok (.aload_n 1, 1) := by decide +kernel
theorem dL_law_547 : decode cL_law 547 = .ok (.invokevirtual 160, 3) := by decide +kernel
theorem dL_law_550 : decode cL_law 550 = .ok (.iload 9, 2) := by decide +kernel
theorem dL_law_552 : decode cL_law 552 = .ok (.if_icmp .ne 10, 3) := by decide +kernel
theorem dL_law_555 : decode cL_law 555 = .ok (.aload_n 1, 1) := by decide +kernel
theorem dL_law_556 : decode cL_law 556 = .ok (.invokevirtual 118, 3) := by decide +kernel
theorem dL_law_559 : decode cL_law 559 = .ok (.ifCond .eq 5, 3) := by decide +kernel
theorem dL_law_562 : decode cL_law 562 = .ok (.iconst 0, 1) := by decide +kernel
theorem dL_law_563 : decode cL_law 563 = .ok (.ireturn, 1) := by decide +kernel
theorem dL_law_564 : decode cL_law 564 = .ok (.goto 61, 3) := by decide +kernel
theorem dL_law_567 : decode cL_law 567 = .ok (.aload_n 1, 1) := by decide +kernel
theorem dL_law_568 : decode cL_law 568 = .ok (.bipush 17, 2) := by decide +kernel
theorem dL_law_570 : decode cL_law 570 = .ok (.iload 8, 2) := by decide +kernel
theorem dL_law_572 : decode cL_law 572 = .ok (.bipush 6, 2) := by decide +kernel
theorem dL_law_574 : decode cL_law 574 = .ok (.irem, 1) := by decide +kernel
theorem dL_law_575 : decode cL_law 575 = .ok (.iload 8, 2) := by decide +kernel
theorem dL_law_577 : decode cL_law 577 = .ok (.bipush 6, 2) := by decide +kernel
theorem dL_law_579 : decode cL_law 579 = .ok (.idiv, 1) := by decide +kernel
theorem dL_law_580 : decode cL_law 580 = .ok (.iconst 4, 1) := by decide +kernel
theorem dL_law_581 : decode cL_law 581 = .ok (.irem, 1) := by decide +kernel
theorem dL_law_582 : decode cL_law 582 = .ok (.iload 8, 2) := by decide +kernel
theorem dL_law_584 : decode cL_law 584 = .ok (.sipush 1001, 3) := by decide +kernel
theorem dL_law_587 : decode cL_law 587 = .ok (.irem, 1) := by decide +kernel
theorem dL_law_588 : decode cL_law 588 = .ok (.iconst 0, 1) := by decide +kernel
theorem dL_law_589 : decode cL_law 589 = .ok (.invokestatic 121, 3) := by decide +kernel
theorem dL_law_592 : decode cL_law 592 = .ok (.lconst 0, 1) := by decide +kernel
theorem dL_law_593 : decode cL_law 593 = .ok (.lcmp, 1) := by decide +kernel
theorem dL_law_594 : decode cL_law 594 = .ok (.ifCond .lt 29, 3) := by decide +kernel
theorem dL_law_597 : decode cL_law 597 = .ok (.aload_n 1, 1) := by decide +kernel
theorem dL_law_598 : decode cL_law 598 = .ok (.bipush 18, 2) := by decide +kernel
theorem dL_law_600 : decode cL_law 600 = .ok (.iload 8, 2) := by decide +kernel
theorem dL_law_602 : decode cL_law 602 = .ok (.bipush 24, 2) := by decide +kernel
theorem dL_law_604 : decode cL_law 604 = .ok (.idiv, 1) := by decide +kernel
theorem dL_law_605 : decode cL_law 605 = .ok (.bipush 6, 2) := by decide +kernel
theorem dL_law_607 : decode cL_law 607 = .ok (.irem, 1) := by decide +kernel
theorem dL_law_608 : decode cL_law 608 = .ok (.iload 8, 2) := by decide +kernel
theorem dL_law_610 : decode cL_law 610 = .ok (.bipush 90, 2) := by decide +kernel
theorem dL_law_612 : decode cL_law 612 = .ok (.irem, 1) := by decide +kernel
theorem dL_law_613 : decode cL_law 613 = .ok (.iconst 0, 1) := by decide +kernel
theorem dL_law_614 : decode cL_law 614 = .ok (.iconst 0, 1) := by decide +kernel
theorem dL_law_615 : decode cL_law 615 = .ok (.invokestatic 121, 3) := by decide +kernel
theorem dL_law_618 : decode cL_law 618 = .ok (.lconst 0, 1) := by decide +kernel
theorem dL_law_619 : decode cL_law 619 = .ok (.lcmp, 1) := by decide +kernel
theorem dL_law_620 : decode cL_law 620 = .ok (.ifCond .ge 5, 3) := by decide +kernel
theorem dL_law_623 : decode cL_law 623 = .ok (.iconst 0, 1) := by decide +kernel
theorem dL_law_624 : decode cL_law 624 = .ok (.ireturn, 1) := by decide +kernel
theorem dL_law_625 : decode cL_law 625 = .ok (.iconst 0, 1) := by decide +kernel
theorem dL_law_626 : decode cL_law 626 = .ok (.istore 9, 2) := by decide +kernel
theorem dL_law_628 : decode cL_law 628 = .ok (.iconst 0, 1) := by decide +kernel
theorem dL_law_629 : decode cL_law 629 = .ok (.istore 10, 2) := by decide +kernel
theorem dL_law_631 : decode cL_law 631 = .ok (.iload 10, 2) := by decide +kernel
theorem dL_law_633 : decode cL_law 633 = .ok (.bipush 6, 2) := by decide +kernel
theorem dL_law_635 : decode cL_law 635 = .ok (.if_icmp .ge 22, 3) := by decide +kernel
theorem dL_law_638 : decode cL_law 638 = .ok (.iload 9, 2) := by decide +kernel
theorem dL_law_640 : decode cL_law 640 = .ok (.iconst 1, 1) := by decide +kernel
theorem dL_law_641 : decode cL_law 641 = .ok (.aload_n 1, 1) := by decide +kernel
theorem dL_law_642 : decode cL_law 642 = .ok (.iload 10, 2) := by decide +kernel
theorem dL_law_644 : decode cL_law 644 = .ok (.invokevirtual 91, 3) := by decide +kernel
theorem dL_law_647 : decode cL_law 647 = .ok (.ishl, 1) := by decide +kernel
theorem dL_law_648 : decode cL_law 648 = .ok (.ior, 1) := by decide +kernel
theorem dL_law_649 : decode cL_law 649 = .ok (.istore 9, 2) := by decide +kernel
theorem dL_law_651 : decode cL_law 651 = .ok (.iinc 10 1, 3) := by decide +kernel
theorem dL_law_654 : decode cL_law 654 = .ok (.goto (-23), 3) := by decide +kernel
theorem dL_law_657 : decode cL_law 657 = .ok (.iload 9, 2) := by decide +kernel
theorem dL_law_659 : decode cL_law 659 = .ok (.bipush 63, 2) := by decide +kernel
theorem dL_law_661 : decode cL_law 661 = .ok (.if_icmp .ne 30, 3) := by decide +kernel
theorem dL_law_664 : decode cL_law 664 = .ok (.aload_n 1, 1) := by decide +kernel
theorem dL_law_665 : decode cL_law 665 = .ok (.invokevirtual 134, 3) := by decide +kernel
theorem dL_law_668 : decode cL_law 668 = .ok (.ifCond .eq 23, 3) := by decide +kernel
theorem dL_law_671 : decode cL_law 671 = .ok (.iload 5, 2) := by decide +kernel
theorem dL_law_673 : decode cL_law 673 = .ok (.bipush 15, 2) := by decide +kernel
theorem dL_law_675 : decode cL_law 675 = .ok (.irem, 1) := by decide +kernel
theorem dL_law_676 : decode cL_law 676 = .ok (.ifCond .ne 17, 3) := by decide +kernel
theorem dL_law_679 : decode cL_law 679 = .ok (.aload_n 1, 1) := by decide +kernel
theorem dL_law_680 : decode cL_law 680 = .ok (.iconst 4, 1) := by decide +kernel
theorem dL_law_681 : decode cL_law 681 = .ok (.iload_n 2, 1) := by decide +kernel
theorem dL_law_682 : decode cL_law 682 = .ok (.iload_n 3, 1) := by decide +kernel
theorem dL_law_683 : decode cL_law 683 = .ok (.iload 4, 2) := by decide +kernel
theorem dL_law_685 : decode cL_law 685 = .ok (.invokestatic 130, 3) := by decide +kernel
theorem dL_law_688 : decode cL_law 688 = .ok (.ifCond .ne 5, 3) := by decide +kernel
theorem dL_law_691 : decode cL_law 691 = .ok (.iconst 0, 1) := by decide +kernel
theorem dL_law_692 : decode cL_law 692 = .ok (.ireturn, 1) := by decide +kernel
theorem dL_law_693 : decode cL_law 693 = .ok (.iinc 5 1, 3) := by decide +kernel
theorem dL_law_696 : decode cL_law 696 = .ok (.goto (-670), 3) := by decide +kernel
theorem dL_law_699 : decode cL_law 699 = .ok (.iconst 1, 1) := by decide +kernel
theorem dL_law_700 : decode cL_law 700 = .ok (.ireturn, 1) := by decide +kernel
def fL_lawT (m : dM) (w2 : Int32) (w3 : Int32) (w4 : Int32) (w5 : Int32) : Option dM := (fX11_ranked m 0 0).bind (fun q => dS q (fun _ => none) (fun q => dP2 q (fun v3 m2 => dlet ((0 : Int32) ||| ((1 : Int32) <<< (v3 &&& 31)) : Int32) (fun v5 => (fX11_ranked m2 0 1).bind (fun q => dS q (fun _ => none) (fun q => dP2 q (fun v8 m7 => dlet (v5 ||| ((1 : Int32) <<< (v8 &&& 31)) : Int32) (fun v10 => (fX11_ranked m7 0 2).bind (fun q => dS q (fun _ => none) (fun q => dP2 q (fun v13 m12 => dlet (v10 ||| ((1 : Int32) <<< (v13 &&& 31)) : Int32) (fun v15 => (fX11_ranked m12 0 3).bind (fun q => dS q (fun _ => none) (fun q => dP2 q (fun v18 m17 => dlet (v15 ||| ((1 : Int32) <<< (v18 &&& 31)) : Int32) (fun v20 => (fX11_ranked m17 0 4).bind (fun q => dS q (fun _ => none) (fun q => dP2 q (fun v23 m22 => dlet (v20 ||| ((1 : Int32) <<< (v23 &&& 31)) : Int32) (fun v25 => (fX11_ranked m22 0 5).bind (fun q => dS q (fun _ => none) (fun q => dP2 q (fun v28 m27 => dlet (v25 ||| ((1 : Int32) <<< (v28 &&& 31)) : Int32) (fun v30 => if v30 = 63 then (fX11_agrees m27 0).bind (fun q => dP2 q (fun v33 m32 => if v33 = 0 then none else if (w5 - w5 / 15 * 15) = 0 then (fL_refuses m32 4 w2 w3 w4).bind (fun m35 => some m35) else some m32)) else none))))))))))))))))))))))))
set_option maxHeartbeats 4000000 in
set_option maxRecDepth 100000 in
theorem kL_lawT {p : Program} {l : Launch} {e : Env} {s : State} {mth : MethodId} {below : List Frame} {meth : Method} {c : Code} {g : dG} {Q : State → Prop} {H : Heap} {cells slots : Nat} {ls : Array Slot} {b : Nat} {m m9 : dM} {w2 : Int32} {w3 : Int32} {w4 : Int32} {w5 : Int32} {K : Heap → Prop} (hst : l.stackTraces = false) (S : CallFix p mth c cL_law 12 s #[Value.ref b] wsL_law RL) (hE : dEw g s) (hKs : ∀ H H1 : Heap, (∀ q, q < g.2.2.2 → H1[q]? = H[q]?) → K H → K H1) (hR : cells + 942 ≤ room_1.cells ∧ slots + 5652 ≤ room_1.slots) (h : fL_lawT m w2 w3 w4 w5 = some m9) (hP : va_P g.1 vwCl (dws g m) H) (hS : va_S (dAs s) s.heap H []) (hb : g.2.2.2 ≤ H.size) (hK : K H) (hl : lv_has ls 12 [(0, .ref b), (1, .ref (dad g 0)), (2, .int w2), (3, .int w3), (4, .int w4), (5, .int w5)])
    (kk : ∀ (H : Heap) (ls : Array Slot) (cells2 slots2 : Nat), cells2 ≤ cells + 942 → slots2 ≤ slots + 5652 → va_P g.1 vwCl (dws g m9) H → va_S (dAs s) s.heap H [] → g.2.2.2 ≤ H.size → K H → lv_has ls 12 [(0, .ref b), (1, .ref (dad g 0)), (2, .int w2), (3, .int w3), (4, .int w4), (5, .int w5)] → W p l e room_1 s mth #[Value.ref b] below meth c H [] cells2 slots2 Q (F0 mth 693 ls [])) : W p l e room_1 s mth #[Value.ref b] below meth c H [] cells slots Q (F0 mth 625 ls []) := by
  obtain ⟨hR1, hR2⟩ := hR
  unfold fL_lawT at h
  refine lv_iconst (v := 0) S.1 S.2.1 dL_law_625 (by decide) ?_
  refine lv_istore (lv' := [(9, .int 0), (0, .ref b), (1, .ref (dad g 0)), (2, .int w2), (3, .int w3), (4, .int w4), (5, .int w5)]) S.1 S.2.1 dL_law_626 hl (by decide) rfl (fun ls hl => ?_)
  refine lv_iconst (v := 0) S.1 S.2.1 dL_law_628 (by decide) ?_
  refine lv_istore (lv' := [(10, .int 0), (9, .int 0), (0, .ref b), (1, .ref (dad g 0)), (2, .int w2), (3, .int w3), (4, .int w4), (5, .int w5)]) S.1 S.2.1 dL_law_629 hl (by decide) rfl (fun ls hl => ?_)
  refine lv_iload S.1 S.2.1 dL_law_631 (lv_at hl 0 rfl) ?_
  refine lv_bipush (v := 6) S.1 S.2.1 dL_law_633 (by decide) ?_
  refine lv_icmp_ge (tgt := 657) S.1 S.2.1 dL_law_635 (by decide) (fun cq => ?_) (fun cq => ?_)
  · exact absurd cq (by decide)
  · refine lv_iload S.1 S.2.1 dL_law_638 (lv_at hl 1 rfl) ?_
    refine lv_iconst (v := 1) S.1 S.2.1 dL_law_640 (by decide) ?_
    refine lv_aload_n S.1 S.2.1 dL_law_641 rfl (lv_at hl 3 rfl) ?_
    refine lv_iload S.1 S.2.1 dL_law_642 (lv_at hl 0 rfl) ?_
    obtain ⟨q4, hc1, h⟩ := d_b h
    rcases q4 with q4 | q4
    · have h := d_s1 h
      cases h
    obtain ⟨v3, m2⟩ := q4
    have h := d_s2 h
    have h := d_p2 h
    refine dwxi (vx_runV (As := [.int 0]) (rest := [.int 1, .int 0]) S (kX11_ranked l g hst hc1) (cwV 1 S.2.2.2.2 gL_law_X11_ranked rfl rfl rfl ynX11_ranked ⟨(Nat.le_of_ble_eq_true rfl), (Nat.le_of_ble_eq_true rfl)⟩) (dwV hE hP hS hb (ci := 11) rfl (dat12 dk_0)) rfl rfl hl.1 rfl (lv_room (Nat.le_of_ble_eq_true rfl)) dL_law_644 ⟨by omega, by omega⟩) rfl hE hS hb hKs hK (fun H hP hS hb hK => ?_)
    refine lv_ishl S.1 S.2.1 dL_law_647 ?_
    refine lv_ior S.1 S.2.1 dL_law_648 ?_
    refine lv_topi (fun v5 ev5 => ?_)
    have h := d_let ev5 h
    refine lv_istore (lv' := [(9, .int v5), (10, .int 0), (0, .ref b), (1, .ref (dad g 0)), (2, .int w2), (3, .int w3), (4, .int w4), (5, .int w5)]) S.1 S.2.1 dL_law_649 hl (by decide) rfl (fun ls hl => ?_)
    refine lv_iinc (v := 1) (lv' := [(10, .int 1), (9, .int v5), (0, .ref b), (1, .ref (dad g 0)), (2, .int w2), (3, .int w3), (4, .int w4), (5, .int w5)]) S.1 S.2.1 dL_law_651 hl (k := 1) rfl (by decide) (by decide) rfl (fun ls hl => ?_)
    refine lv_goto (tgt := 631) S.1 S.2.1 dL_law_654 (by decide) ?_
    refine lv_iload S.1 S.2.1 dL_law_631 (lv_at hl 0 rfl) ?_
    refine lv_bipush (v := 6) S.1 S.2.1 dL_law_633 (by decide) ?_
    refine lv_icmp_ge (tgt := 657) S.1 S.2.1 dL_law_635 (by decide) (fun cq => ?_) (fun cq => ?_)
    · exact absurd cq (by decide)
    · refine lv_iload S.1 S.2.1 dL_law_638 (lv_at hl 1 rfl) ?_
      refine lv_iconst (v := 1) S.1 S.2.1 dL_law_640 (by decide) ?_
      refine lv_aload_n S.1 S.2.1 dL_law_641 rfl (lv_at hl 3 rfl) ?_
      refine lv_iload S.1 S.2.1 dL_law_642 (lv_at hl 0 rfl) ?_
      obtain ⟨q9, hc6, h⟩ := d_b h
      rcases q9 with q9 | q9
      · have h := d_s1 h
        cases h
      obtain ⟨v8, m7⟩ := q9
      have h := d_s2 h
      have h := d_p2 h
      refine dwxi (vx_runV (As := [.int 1]) (rest := [.int 1, .int v5]) S (kX11_ranked l g hst hc6) (cwV 1 S.2.2.2.2 gL_law_X11_ranked rfl rfl rfl ynX11_ranked ⟨(Nat.le_of_ble_eq_true rfl), (Nat.le_of_ble_eq_true rfl)⟩) (dwV hE hP hS hb (ci := 11) rfl (dat12 dk_0)) rfl rfl hl.1 rfl (lv_room (Nat.le_of_ble_eq_true rfl)) dL_law_644 ⟨by omega, by omega⟩) rfl hE hS hb hKs hK (fun H hP hS hb hK => ?_)
      refine lv_ishl S.1 S.2.1 dL_law_647 ?_
      refine lv_ior S.1 S.2.1 dL_law_648 ?_
      refine lv_topi (fun v10 ev10 => ?_)
      have h := d_let ev10 h
      refine lv_istore (lv' := [(9, .int v10), (10, .int 1), (0, .ref b), (1, .ref (dad g 0)), (2, .int w2), (3, .int w3), (4, .int w4), (5, .int w5)]) S.1 S.2.1 dL_law_649 hl (by decide) rfl (fun ls hl => ?_)
      refine lv_iinc (v := 2) (lv' := [(10, .int 2), (9, .int v10), (0, .ref b), (1, .ref (dad g 0)), (2, .int w2), (3, .int w3), (4, .int w4), (5, .int w5)]) S.1 S.2.1 dL_law_651 hl (k := 1) rfl (by decide) (by decide) rfl (fun ls hl => ?_)
      refine lv_goto (tgt := 631) S.1 S.2.1 dL_law_654 (by decide) ?_
      refine lv_iload S.1 S.2.1 dL_law_631 (lv_at hl 0 rfl) ?_
      refine lv_bipush (v := 6) S.1 S.2.1 dL_law_633 (by decide) ?_
      refine lv_icmp_ge (tgt := 657) S.1 S.2.1 dL_law_635 (by decide) (fun cq => ?_) (fun cq => ?_)
      · exact absurd cq (by decide)
      · refine lv_iload S.1 S.2.1 dL_law_638 (lv_at hl 1 rfl) ?_
        refine lv_iconst (v := 1) S.1 S.2.1 dL_law_640 (by decide) ?_
        refine lv_aload_n S.1 S.2.1 dL_law_641 rfl (lv_at hl 3 rfl) ?_
        refine lv_iload S.1 S.2.1 dL_law_642 (lv_at hl 0 rfl) ?_
        obtain ⟨q14, hc11, h⟩ := d_b h
        rcases q14 with q14 | q14
        · have h := d_s1 h
          cases h
        obtain ⟨v13, m12⟩ := q14
        have h := d_s2 h
        have h := d_p2 h
        refine dwxi (vx_runV (As := [.int 2]) (rest := [.int 1, .int v10]) S (kX11_ranked l g hst hc11) (cwV 1 S.2.2.2.2 gL_law_X11_ranked rfl rfl rfl ynX11_ranked ⟨(Nat.le_of_ble_eq_true rfl), (Nat.le_of_ble_eq_true rfl)⟩) (dwV hE hP hS hb (ci := 11) rfl (dat12 dk_0)) rfl rfl hl.1 rfl (lv_room (Nat.le_of_ble_eq_true rfl)) dL_law_644 ⟨by omega, by omega⟩) rfl hE hS hb hKs hK (fun H hP hS hb hK => ?_)
        refine lv_ishl S.1 S.2.1 dL_law_647 ?_
        refine lv_ior S.1 S.2.1 dL_law_648 ?_
        refine lv_topi (fun v15 ev15 => ?_)
        have h := d_let ev15 h
        refine lv_istore (lv' := [(9, .int v15), (10, .int 2), (0, .ref b), (1, .ref (dad g 0)), (2, .int w2), (3, .int w3), (4, .int w4), (5, .int w5)]) S.1 S.2.1 dL_law_649 hl (by decide) rfl (fun ls hl => ?_)
        refine lv_iinc (v := 3) (lv' := [(10, .int 3), (9, .int v15), (0, .ref b), (1, .ref (dad g 0)), (2, .int w2), (3, .int w3), (4, .int w4), (5, .int w5)]) S.1 S.2.1 dL_law_651 hl (k := 1) rfl (by decide) (by decide) rfl (fun ls hl => ?_)
        refine lv_goto (tgt := 631) S.1 S.2.1 dL_law_654 (by decide) ?_
        refine lv_iload S.1 S.2.1 dL_law_631 (lv_at hl 0 rfl) ?_
        refine lv_bipush (v := 6) S.1 S.2.1 dL_law_633 (by decide) ?_
        refine lv_icmp_ge (tgt := 657) S.1 S.2.1 dL_law_635 (by decide) (fun cq => ?_) (fun cq => ?_)
        · exact absurd cq (by decide)
        · refine lv_iload S.1 S.2.1 dL_law_638 (lv_at hl 1 rfl) ?_
          refine lv_iconst (v := 1) S.1 S.2.1 dL_law_640 (by decide) ?_
          refine lv_aload_n S.1 S.2.1 dL_law_641 rfl (lv_at hl 3 rfl) ?_
          refine lv_iload S.1 S.2.1 dL_law_642 (lv_at hl 0 rfl) ?_
          obtain ⟨q19, hc16, h⟩ := d_b h
          rcases q19 with q19 | q19
          · have h := d_s1 h
            cases h
          obtain ⟨v18, m17⟩ := q19
          have h := d_s2 h
          have h := d_p2 h
          refine dwxi (vx_runV (As := [.int 3]) (rest := [.int 1, .int v15]) S (kX11_ranked l g hst hc16) (cwV 1 S.2.2.2.2 gL_law_X11_ranked rfl rfl rfl ynX11_ranked ⟨(Nat.le_of_ble_eq_true rfl), (Nat.le_of_ble_eq_true rfl)⟩) (dwV hE hP hS hb (ci := 11) rfl (dat12 dk_0)) rfl rfl hl.1 rfl (lv_room (Nat.le_of_ble_eq_true rfl)) dL_law_644 ⟨by omega, by omega⟩) rfl hE hS hb hKs hK (fun H hP hS hb hK => ?_)
          refine lv_ishl S.1 S.2.1 dL_law_647 ?_
          refine lv_ior S.1 S.2.1 dL_law_648 ?_
          refine lv_topi (fun v20 ev20 => ?_)
          have h := d_let ev20 h
          refine lv_istore (lv' := [(9, .int v20), (10, .int 3), (0, .ref b), (1, .ref (dad g 0)), (2, .int w2), (3, .int w3), (4, .int w4), (5, .int w5)]) S.1 S.2.1 dL_law_649 hl (by decide) rfl (fun ls hl => ?_)
          refine lv_iinc (v := 4) (lv' := [(10, .int 4), (9, .int v20), (0, .ref b), (1, .ref (dad g 0)), (2, .int w2), (3, .int w3), (4, .int w4), (5, .int w5)]) S.1 S.2.1 dL_law_651 hl (k := 1) rfl (by decide) (by decide) rfl (fun ls hl => ?_)
          refine lv_goto (tgt := 631) S.1 S.2.1 dL_law_654 (by decide) ?_
          refine lv_iload S.1 S.2.1 dL_law_631 (lv_at hl 0 rfl) ?_
          refine lv_bipush (v := 6) S.1 S.2.1 dL_law_633 (by decide) ?_
          refine lv_icmp_ge (tgt := 657) S.1 S.2.1 dL_law_635 (by decide) (fun cq => ?_) (fun cq => ?_)
          · exact absurd cq (by decide)
          · refine lv_iload S.1 S.2.1 dL_law_638 (lv_at hl 1 rfl) ?_
            refine lv_iconst (v := 1) S.1 S.2.1 dL_law_640 (by decide) ?_
            refine lv_aload_n S.1 S.2.1 dL_law_641 rfl (lv_at hl 3 rfl) ?_
            refine lv_iload S.1 S.2.1 dL_law_642 (lv_at hl 0 rfl) ?_
            obtain ⟨q24, hc21, h⟩ := d_b h
            rcases q24 with q24 | q24
            · have h := d_s1 h
              cases h
            obtain ⟨v23, m22⟩ := q24
            have h := d_s2 h
            have h := d_p2 h
            refine dwxi (vx_runV (As := [.int 4]) (rest := [.int 1, .int v20]) S (kX11_ranked l g hst hc21) (cwV 1 S.2.2.2.2 gL_law_X11_ranked rfl rfl rfl ynX11_ranked ⟨(Nat.le_of_ble_eq_true rfl), (Nat.le_of_ble_eq_true rfl)⟩) (dwV hE hP hS hb (ci := 11) rfl (dat12 dk_0)) rfl rfl hl.1 rfl (lv_room (Nat.le_of_ble_eq_true rfl)) dL_law_644 ⟨by omega, by omega⟩) rfl hE hS hb hKs hK (fun H hP hS hb hK => ?_)
            refine lv_ishl S.1 S.2.1 dL_law_647 ?_
            refine lv_ior S.1 S.2.1 dL_law_648 ?_
            refine lv_topi (fun v25 ev25 => ?_)
            have h := d_let ev25 h
            refine lv_istore (lv' := [(9, .int v25), (10, .int 4), (0, .ref b), (1, .ref (dad g 0)), (2, .int w2), (3, .int w3), (4, .int w4), (5, .int w5)]) S.1 S.2.1 dL_law_649 hl (by decide) rfl (fun ls hl => ?_)
            refine lv_iinc (v := 5) (lv' := [(10, .int 5), (9, .int v25), (0, .ref b), (1, .ref (dad g 0)), (2, .int w2), (3, .int w3), (4, .int w4), (5, .int w5)]) S.1 S.2.1 dL_law_651 hl (k := 1) rfl (by decide) (by decide) rfl (fun ls hl => ?_)
            refine lv_goto (tgt := 631) S.1 S.2.1 dL_law_654 (by decide) ?_
            refine lv_iload S.1 S.2.1 dL_law_631 (lv_at hl 0 rfl) ?_
            refine lv_bipush (v := 6) S.1 S.2.1 dL_law_633 (by decide) ?_
            refine lv_icmp_ge (tgt := 657) S.1 S.2.1 dL_law_635 (by decide) (fun cq => ?_) (fun cq => ?_)
            · exact absurd cq (by decide)
            · refine lv_iload S.1 S.2.1 dL_law_638 (lv_at hl 1 rfl) ?_
              refine lv_iconst (v := 1) S.1 S.2.1 dL_law_640 (by decide) ?_
              refine lv_aload_n S.1 S.2.1 dL_law_641 rfl (lv_at hl 3 rfl) ?_
              refine lv_iload S.1 S.2.1 dL_law_642 (lv_at hl 0 rfl) ?_
              obtain ⟨q29, hc26, h⟩ := d_b h
              rcases q29 with q29 | q29
              · have h := d_s1 h
                cases h
              obtain ⟨v28, m27⟩ := q29
              have h := d_s2 h
              have h := d_p2 h
              refine dwxi (vx_runV (As := [.int 5]) (rest := [.int 1, .int v25]) S (kX11_ranked l g hst hc26) (cwV 1 S.2.2.2.2 gL_law_X11_ranked rfl rfl rfl ynX11_ranked ⟨(Nat.le_of_ble_eq_true rfl), (Nat.le_of_ble_eq_true rfl)⟩) (dwV hE hP hS hb (ci := 11) rfl (dat12 dk_0)) rfl rfl hl.1 rfl (lv_room (Nat.le_of_ble_eq_true rfl)) dL_law_644 ⟨by omega, by omega⟩) rfl hE hS hb hKs hK (fun H hP hS hb hK => ?_)
              refine lv_ishl S.1 S.2.1 dL_law_647 ?_
              refine lv_ior S.1 S.2.1 dL_law_648 ?_
              refine lv_topi (fun v30 ev30 => ?_)
              have h := d_let ev30 h
              refine lv_istore (lv' := [(9, .int v30), (10, .int 5), (0, .ref b), (1, .ref (dad g 0)), (2, .int w2), (3, .int w3), (4, .int w4), (5, .int w5)]) S.1 S.2.1 dL_law_649 hl (by decide) rfl (fun ls hl => ?_)
              refine lv_iinc (v := 6) (lv' := [(10, .int 6), (9, .int v30), (0, .ref b), (1, .ref (dad g 0)), (2, .int w2), (3, .int w3), (4, .int w4), (5, .int w5)]) S.1 S.2.1 dL_law_651 hl (k := 1) rfl (by decide) (by decide) rfl (fun ls hl => ?_)
              refine lv_goto (tgt := 631) S.1 S.2.1 dL_law_654 (by decide) ?_
              refine lv_iload S.1 S.2.1 dL_law_631 (lv_at hl 0 rfl) ?_
              refine lv_bipush (v := 6) S.1 S.2.1 dL_law_633 (by decide) ?_
              refine lv_icmp_ge (tgt := 657) S.1 S.2.1 dL_law_635 (by decide) (fun cq => ?_) (fun cq => ?_)
              · refine lv_iload S.1 S.2.1 dL_law_657 (lv_at hl 1 rfl) ?_
                refine lv_bipush (v := 63) S.1 S.2.1 dL_law_659 (by decide) ?_
                refine lv_icmp_ne (tgt := 691) S.1 S.2.1 dL_law_661 (by decide) (fun cq => ?_) (fun cq => ?_)
                · have h := d_f cq h
                  cases h
                · have h := d_t cq h
                  refine lv_aload_n S.1 S.2.1 dL_law_664 rfl (lv_at hl 3 rfl) ?_
                  obtain ⟨⟨v33, m32⟩, hc31, h⟩ := d_b h
                  have h := d_p2 h
                  refine dwi (va_runV (As := []) (rest := []) S (kX11_agrees l g hc31) (cwV 0 S.2.2.2.2 gL_law_X11_agrees rfl rfl rfl ynX11_agrees ⟨(Nat.le_of_ble_eq_true rfl), (Nat.le_of_ble_eq_true rfl)⟩) (dwV hE hP hS hb (ci := 11) rfl (dat12 dk_0)) rfl rfl hl.1 rfl (lv_room (Nat.le_of_ble_eq_true rfl)) dL_law_665 ⟨by omega, by omega⟩) hE hS hb hKs hK (fun H hP hS hb hK => ?_)
                  refine lv_if_eq (tgt := 691) S.1 S.2.1 dL_law_668 (by decide) (fun cq => ?_) (fun cq => ?_)
                  · have h := d_t cq h
                    cases h
                  · have h := d_f cq h
                    refine lv_iload S.1 S.2.1 dL_law_671 (lv_at hl 7 rfl) ?_
                    refine lv_bipush (v := 15) S.1 S.2.1 dL_law_673 (by decide) ?_
                    refine lv_irem S.1 S.2.1 dL_law_675 (by decide) ?_
                    refine lv_if_ne (tgt := 693) S.1 S.2.1 dL_law_676 (by decide) (fun cq => ?_) (fun cq => ?_)
                    · have h := d_f cq h
                      obtain rfl := Option.some.inj h
                      exact kk H ls _ _ (by omega) (by omega) hP hS hb hK (lv_sub hl [2, 3, 4, 5, 6, 7] rfl)
                    · have h := d_t cq h
                      refine lv_aload_n S.1 S.2.1 dL_law_679 rfl (lv_at hl 3 rfl) ?_
                      refine lv_iconst (v := 4) S.1 S.2.1 dL_law_680 (by decide) ?_
                      refine lv_iload_n S.1 S.2.1 dL_law_681 rfl (lv_at hl 4 rfl) ?_
                      refine lv_iload_n S.1 S.2.1 dL_law_682 rfl (lv_at hl 5 rfl) ?_
                      refine lv_iload S.1 S.2.1 dL_law_683 (lv_at hl 6 rfl) ?_
                      obtain ⟨m35, hc34, h⟩ := d_b h
                      refine dwLi (vx_runS (As := [.ref (dad g 0), .int 4, .int w2, .int w3, .int w4]) (rest := []) S (kL_refuses l g hst hc34) (va_cwS 5 S.2.2.2.2 gL_law_L_refuses rfl rfl rfl ynL_refuses ⟨(Nat.le_of_ble_eq_true rfl), (Nat.le_of_ble_eq_true rfl)⟩) (dwS hE hP hS hb) rfl rfl hl.1 rfl (lv_room (Nat.le_of_ble_eq_true rfl)) dL_law_685 ⟨by omega, by omega⟩) hE hS hb hKs hK (fun H hP hS hb hK => ?_)
                      refine lv_if_ne (tgt := 693) S.1 S.2.1 dL_law_688 (by decide) (fun cq => ?_) (fun cq => ?_)
                      · obtain rfl := Option.some.inj h
                        exact kk H ls _ _ (by omega) (by omega) hP hS hb hK (lv_sub hl [2, 3, 4, 5, 6, 7] rfl)
                      · exact absurd cq (by decide)
              · exact absurd (by decide) cq
def fL_lawI (m : dM) (w2 : Int32) (w3 : Int32) (w4 : Int32) (w5 : Int32) (w6 : Int32) : Option (Int32 × Int32 × Int32 × dM) := dlet (w6 - w6 / 9 * 9 : Int32) (fun v1 => dlet (w6 / 9 : Int32) (fun v2 => if 3 ≤ v1 then if 5 ≤ v1 then if v1 = 5 then (fL_act m 0 1 (v2 - v2 / 4 * 4) (5 + ((v2 / 4) - (v2 / 4) / 36 * 36)) 0 0).bind (fun q => dP2 q (fun v84 m83 => if (lg_cmp v84 5) < 0 then none else (fL_act m83 0 3 (v2 - v2 / 3 * 3) (((v2 / 3) - (v2 / 3) / 5 * 5) - 1) (v2 - v2 / 2 * 2) 0).bind (fun q => dP2 q (fun v87 m86 => if (lg_cmp v87 1) = 0 then (fL_act m86 0 2 ((v2 / 5) - (v2 / 5) / 4 * 4) ((v2 / 7) - (v2 / 7) / 2 * 2) 0 0).bind (fun q => dP2 q (fun v90 m89 => if 0 ≤ (lg_cmp v90 0) then (fL_lawT m89 w2 w3 w4 w5).bind (fun m91 => some (w2, w3, w4, m91)) else none)) else none)))) else if v1 = 6 then if w3 ≤ 0 then if v1 = 7 then (fX11_changed m 0).bind (fun v38 => (fX11_publish m 0).bind (fun q => dP2 q (fun v41 m40 => if v41 = v38 then (fX11_changed m40 0).bind (fun v44 => if v44 = 0 then (fL_lawT m40 w2 w3 w4 w5).bind (fun m45 => some (w2, w3, w4, m45)) else none) else none))) else (fL_act m 0 17 (v2 - v2 / 6 * 6) ((v2 / 6) - (v2 / 6) / 4 * 4) (v2 - v2 / 1001 * 1001) 0).bind (fun q => dP2 q (fun v28 m27 => if (lg_cmp v28 0) < 0 then none else (fL_act m27 0 18 ((v2 / 24) - (v2 / 24) / 6 * 6) (v2 - v2 / 90 * 90) 0 0).bind (fun q => dP2 q (fun v31 m30 => if 0 ≤ (lg_cmp v31 0) then (fL_lawT m30 w2 w3 w4 w5).bind (fun m32 => some (w2, w3, w4, m32)) else none)))) else dg (decide (¬ w3 = 0)) (dlet (v2 - v2 / w3 * w3 : Int32) (fun v49 => (fX11_fault m 0 v49 1).bind (fun q => dS q (fun _ => none) (fun q => dP2 q (fun v52 m51 => (fX11_fault m51 0 v49 0).bind (fun q => dS q (fun _ => none) (fun q => dP2 q (fun v56 m55 => dlet (if 0 ≤ v56 then 0 else 1 : Int32) (fun v58 => dlet (if 0 ≤ v52 then 0 else 1 : Int32) (fun v59 => if v58 = v59 then (fX11_fault m55 0 v49 3).bind (fun q => dS q (fun _ => none) (fun q => dP2 q (fun v62 m61 => dlet (if 0 ≤ v62 then 0 else 1 : Int32) (fun v64 => dlet (if 1 ≤ v52 then 0 else 1 : Int32) (fun v65 => if v64 = v65 then (fX11_walking m61 0 v49).bind (fun q => dS q (fun _ => none) (fun q => dP2 q (fun v68 m67 => if (lg_cmp v68 0) < 0 then none else if v49 = 0 then (fX11_walking m67 0 0).bind (fun q => dS q (fun _ => none) (fun q => dP2 q (fun v76 m75 => if (lg_cmp v76 0) = 0 then (fL_lawT m75 w2 w3 w4 w5).bind (fun m78 => some (w2, w3, w4, m78)) else none))) else (fL_lawT m67 w2 w3 w4 w5).bind (fun m70 => some (w2, w3, w4, m70))))) else none))))) else none)))))))))) else if v1 = 7 then (fX11_changed m 0).bind (fun v15 => (fX11_publish m 0).bind (fun q => dP2 q (fun v18 m17 => if v18 = v15 then (fX11_changed m17 0).bind (fun v21 => if v21 = 0 then (fL_lawT m17 w2 w3 w4 w5).bind (fun m22 => some (w2, w3, w4, m22)) else none) else none))) else (fL_act m 0 17 (v2 - v2 / 6 * 6) ((v2 / 6) - (v2 / 6) / 4 * 4) (v2 - v2 / 1001 * 1001) 0).bind (fun q => dP2 q (fun v5 m4 => if (lg_cmp v5 0) < 0 then none else (fL_act m4 0 18 ((v2 / 24) - (v2 / 24) / 6 * 6) (v2 - v2 / 90 * 90) 0 0).bind (fun q => dP2 q (fun v8 m7 => if 0 ≤ (lg_cmp v8 0) then (fL_lawT m7 w2 w3 w4 w5).bind (fun m9 => some (w2, w3, w4, m9)) else none)))) else if w2 ≤ 0 then if v1 = 5 then (fL_act m 0 1 (v2 - v2 / 4 * 4) (5 + ((v2 / 4) - (v2 / 4) / 36 * 36)) 0 0).bind (fun q => dP2 q (fun v176 m175 => if (lg_cmp v176 5) < 0 then none else (fL_act m175 0 3 (v2 - v2 / 3 * 3) (((v2 / 3) - (v2 / 3) / 5 * 5) - 1) (v2 - v2 / 2 * 2) 0).bind (fun q => dP2 q (fun v179 m178 => if (lg_cmp v179 1) = 0 then (fL_act m178 0 2 ((v2 / 5) - (v2 / 5) / 4 * 4) ((v2 / 7) - (v2 / 7) / 2 * 2) 0 0).bind (fun q => dP2 q (fun v182 m181 => if 0 ≤ (lg_cmp v182 0) then (fL_lawT m181 w2 w3 w4 w5).bind (fun m183 => some (w2, w3, w4, m183)) else none)) else none)))) else if v1 = 6 then if w3 ≤ 0 then if v1 = 7 then (fX11_changed m 0).bind (fun v130 => (fX11_publish m 0).bind (fun q => dP2 q (fun v133 m132 => if v133 = v130 then (fX11_changed m132 0).bind (fun v136 => if v136 = 0 then (fL_lawT m132 w2 w3 w4 w5).bind (fun m137 => some (w2, w3, w4, m137)) else none) else none))) else (fL_act m 0 17 (v2 - v2 / 6 * 6) ((v2 / 6) - (v2 / 6) / 4 * 4) (v2 - v2 / 1001 * 1001) 0).bind (fun q => dP2 q (fun v120 m119 => if (lg_cmp v120 0) < 0 then none else (fL_act m119 0 18 ((v2 / 24) - (v2 / 24) / 6 * 6) (v2 - v2 / 90 * 90) 0 0).bind (fun q => dP2 q (fun v123 m122 => if 0 ≤ (lg_cmp v123 0) then (fL_lawT m122 w2 w3 w4 w5).bind (fun m124 => some (w2, w3, w4, m124)) else none)))) else dg (decide (¬ w3 = 0)) (dlet (v2 - v2 / w3 * w3 : Int32) (fun v141 => (fX11_fault m 0 v141 1).bind (fun q => dS q (fun _ => none) (fun q => dP2 q (fun v144 m143 => (fX11_fault m143 0 v141 0).bind (fun q => dS q (fun _ => none) (fun q => dP2 q (fun v148 m147 => dlet (if 0 ≤ v148 then 0 else 1 : Int32) (fun v150 => dlet (if 0 ≤ v144 then 0 else 1 : Int32) (fun v151 => if v150 = v151 then (fX11_fault m147 0 v141 3).bind (fun q => dS q (fun _ => none) (fun q => dP2 q (fun v154 m153 => dlet (if 0 ≤ v154 then 0 else 1 : Int32) (fun v156 => dlet (if 1 ≤ v144 then 0 else 1 : Int32) (fun v157 => if v156 = v157 then (fX11_walking m153 0 v141).bind (fun q => dS q (fun _ => none) (fun q => dP2 q (fun v160 m159 => if (lg_cmp v160 0) < 0 then none else if v141 = 0 then (fX11_walking m159 0 0).bind (fun q => dS q (fun _ => none) (fun q => dP2 q (fun v168 m167 => if (lg_cmp v168 0) = 0 then (fL_lawT m167 w2 w3 w4 w5).bind (fun m170 => some (w2, w3, w4, m170)) else none))) else (fL_lawT m159 w2 w3 w4 w5).bind (fun m162 => some (w2, w3, w4, m162))))) else none))))) else none)))))))))) else if v1 = 7 then (fX11_changed m 0).bind (fun v107 => (fX11_publish m 0).bind (fun q => dP2 q (fun v110 m109 => if v110 = v107 then (fX11_changed m109 0).bind (fun v113 => if v113 = 0 then (fL_lawT m109 w2 w3 w4 w5).bind (fun m114 => some (w2, w3, w4, m114)) else none) else none))) else (fL_act m 0 17 (v2 - v2 / 6 * 6) ((v2 / 6) - (v2 / 6) / 4 * 4) (v2 - v2 / 1001 * 1001) 0).bind (fun q => dP2 q (fun v97 m96 => if (lg_cmp v97 0) < 0 then none else (fL_act m96 0 18 ((v2 / 24) - (v2 / 24) / 6 * 6) (v2 - v2 / 90 * 90) 0 0).bind (fun q => dP2 q (fun v100 m99 => if 0 ≤ (lg_cmp v100 0) then (fL_lawT m99 w2 w3 w4 w5).bind (fun m101 => some (w2, w3, w4, m101)) else none)))) else dlet (1 + (v2 - v2 / 16 * 16) : Int32) (fun v187 => dg (decide (¬ w2 = 0)) ((fL_act m 0 7 (v2 - v2 / w2 * w2) v187 (60 + (v2 - v2 / 181 * 181)) (v2 - v2 / 2 * 2)).bind (fun q => dP2 q (fun v190 m189 => dlet (if 12 ≤ w3 then (-73) else Int32.toInt64 w3 : Int64) (fun v191 => if (lg_cmp v190 v191) = 0 then dlet (if w3 = 0 then v187 else w4 : Int32) (fun v192 => dlet (if 12 ≤ w3 then 0 else 1 : Int32) (fun v193 => dlet (w3 + v193 : Int32) (fun v194 => (fL_lawT m189 w2 v194 v192 w5).bind (fun m195 => some (w2, v194, v192, m195))))) else none))))) else if v1 = 0 then (fL_act m 0 4 (v2 - v2 / 1601 * 1601) (v2 - v2 / 841 * 841) ((v2 / 7) - (v2 / 7) / 1601 * 1601) ((v2 / 3) - (v2 / 3) / 841 * 841)).bind (fun q => dP2 q (fun v243 m242 => if (lg_cmp v243 (Int32.toInt64 w2)) = 0 then dlet (if 0 ≤ (lg_cmp v243 0) then 1 else 0 : Int32) (fun v244 => dlet (w2 + v244 : Int32) (fun v245 => (fL_lawT m242 v245 w3 w4 w5).bind (fun m246 => some (v245, w3, w4, m246)))) else if (lg_cmp v243 (-72)) = 0 then dlet (if 0 ≤ (lg_cmp v243 0) then 1 else 0 : Int32) (fun v250 => dlet (w2 + v250 : Int32) (fun v251 => (fL_lawT m242 v251 w3 w4 w5).bind (fun m252 => some (v251, w3, w4, m252)))) else if (lg_cmp v243 (-73)) = 0 then dlet (if 0 ≤ (lg_cmp v243 0) then 1 else 0 : Int32) (fun v256 => dlet (w2 + v256 : Int32) (fun v257 => (fL_lawT m242 v257 w3 w4 w5).bind (fun m258 => some (v257, w3, w4, m258)))) else none)) else if v1 = 1 then (fL_act m 0 5 (v2 - v2 / 1200 * 1200) (v2 - v2 / 800 * 800) (1 + (v2 - v2 / 10 * 10)) (1 + (v2 - v2 / 40 * 40))).bind (fun q => dP2 q (fun v222 m221 => if (lg_cmp v222 (Int32.toInt64 w2)) = 0 then dlet (if 0 ≤ (lg_cmp v222 0) then 1 else 0 : Int32) (fun v223 => dlet (w2 + v223 : Int32) (fun v224 => (fL_lawT m221 v224 w3 w4 w5).bind (fun m225 => some (v224, w3, w4, m225)))) else if (lg_cmp v222 (-72)) = 0 then dlet (if 0 ≤ (lg_cmp v222 0) then 1 else 0 : Int32) (fun v229 => dlet (w2 + v229 : Int32) (fun v230 => (fL_lawT m221 v230 w3 w4 w5).bind (fun m231 => some (v230, w3, w4, m231)))) else if (lg_cmp v222 (-73)) = 0 then dlet (if 0 ≤ (lg_cmp v222 0) then 1 else 0 : Int32) (fun v235 => dlet (w2 + v235 : Int32) (fun v236 => (fL_lawT m221 v236 w3 w4 w5).bind (fun m237 => some (v236, w3, w4, m237)))) else none)) else (fL_act m 0 6 (v2 - v2 / 1600 * 1600) (v2 - v2 / 800 * 800) (1 + (v2 - v2 / 50 * 50)) 0).bind (fun q => dP2 q (fun v201 m200 => if (lg_cmp v201 (Int32.toInt64 w2)) = 0 then dlet (if 0 ≤ (lg_cmp v201 0) then 1 else 0 : Int32) (fun v202 => dlet (w2 + v202 : Int32) (fun v203 => (fL_lawT m200 v203 w3 w4 w5).bind (fun m204 => some (v203, w3, w4, m204)))) else if (lg_cmp v201 (-72)) = 0 then dlet (if 0 ≤ (lg_cmp v201 0) then 1 else 0 : Int32) (fun v208 => dlet (w2 + v208 : Int32) (fun v209 => (fL_lawT m200 v209 w3 w4 w5).bind (fun m210 => some (v209, w3, w4, m210)))) else if (lg_cmp v201 (-73)) = 0 then dlet (if 0 ≤ (lg_cmp v201 0) then 1 else 0 : Int32) (fun v214 => dlet (w2 + v214 : Int32) (fun v215 => (fL_lawT m200 v215 w3 w4 w5).bind (fun m216 => some (v215, w3, w4, m216)))) else none))))
set_option maxHeartbeats 4000000 in
set_option maxRecDepth 100000 in
theorem kL_lawI {p : Program} {l : Launch} {e : Env} {s : State} {mth : MethodId} {below : List Frame} {meth : Method} {c : Code} {g : dG} {Q : State → Prop} {H : Heap} {cells slots : Nat} {ls : Array Slot} {b : Nat} {m m9 : dM} {w2 : Int32} {w3 : Int32} {w4 : Int32} {w5 : Int32} {w6 : Int32} {x2 x3 x4 : Int32} {K : Heap → Prop} (hst : l.stackTraces = false) (S : CallFix p mth c cL_law 12 s #[Value.ref b] wsL_law RL) (hE : dEw g s) (hKs : ∀ H H1 : Heap, (∀ q, q < g.2.2.2 → H1[q]? = H[q]?) → K H → K H1) (hR : cells + 954 ≤ room_1.cells ∧ slots + 5724 ≤ room_1.slots) (h : fL_lawI m w2 w3 w4 w5 w6 = some (x2, x3, x4, m9)) (hP : va_P g.1 vwCl (dws g m) H) (hS : va_S (dAs s) s.heap H []) (hb : g.2.2.2 ≤ H.size) (hK : K H) (hl : lv_has ls 12 [(0, .ref b), (1, .ref (dad g 0)), (2, .int w2), (3, .int w3), (4, .int w4), (5, .int w5), (6, .int w6)])
    (kk : ∀ (H : Heap) (ls : Array Slot) (cells2 slots2 : Nat), cells2 ≤ cells + 954 → slots2 ≤ slots + 5724 → va_P g.1 vwCl (dws g m9) H → va_S (dAs s) s.heap H [] → g.2.2.2 ≤ H.size → K H → lv_has ls 12 [(0, .ref b), (1, .ref (dad g 0)), (2, .int x2), (3, .int x3), (4, .int x4), (5, .int w5)] → W p l e room_1 s mth #[Value.ref b] below meth c H [] cells2 slots2 Q (F0 mth 693 ls [])) : W p l e room_1 s mth #[Value.ref b] below meth c H [] cells slots Q (F0 mth 58 ls []) := by
  obtain ⟨hR1, hR2⟩ := hR
  unfold fL_lawI at h
  refine lv_iload S.1 S.2.1 dL_law_58 (lv_at hl 6 rfl) ?_
  refine lv_bipush (v := 9) S.1 S.2.1 dL_law_60 (by decide) ?_
  refine lv_irem S.1 S.2.1 dL_law_62 (by decide) ?_
  refine lv_topi (fun v1 ev1 => ?_)
  have h := d_let ev1 h
  refine lv_istore (lv' := [(7, .int v1), (0, .ref b), (1, .ref (dad g 0)), (2, .int w2), (3, .int w3), (4, .int w4), (5, .int w5), (6, .int w6)]) S.1 S.2.1 dL_law_63 hl (by decide) rfl (fun ls hl => ?_)
  refine lv_iload S.1 S.2.1 dL_law_65 (lv_at hl 7 rfl) ?_
  refine lv_bipush (v := 9) S.1 S.2.1 dL_law_67 (by decide) ?_
  refine lv_idiv S.1 S.2.1 dL_law_69 (by decide) ?_
  refine lv_topi (fun v2 ev2 => ?_)
  have h := d_let ev2 h
  refine lv_istore (lv' := [(8, .int v2), (7, .int v1), (0, .ref b), (1, .ref (dad g 0)), (2, .int w2), (3, .int w3), (4, .int w4), (5, .int w5), (6, .int w6)]) S.1 S.2.1 dL_law_70 hl (by decide) rfl (fun ls hl => ?_)
  refine lv_iload S.1 S.2.1 dL_law_72 (lv_at hl 1 rfl) ?_
  refine lv_iconst (v := 3) S.1 S.2.1 dL_law_74 (by decide) ?_
  refine lv_icmp_ge (tgt := 234) S.1 S.2.1 dL_law_75 (by decide) (fun cq => ?_) (fun cq => ?_)
  · have h := d_t cq h
    refine lv_iload S.1 S.2.1 dL_law_234 (lv_at hl 1 rfl) ?_
    refine lv_iconst (v := 5) S.1 S.2.1 dL_law_236 (by decide) ?_
    refine lv_icmp_ge (tgt := 332) S.1 S.2.1 dL_law_237 (by decide) (fun cq => ?_) (fun cq => ?_)
    · have h := d_t cq h
      refine lv_iload S.1 S.2.1 dL_law_332 (lv_at hl 1 rfl) ?_
      refine lv_iconst (v := 5) S.1 S.2.1 dL_law_334 (by decide) ?_
      refine lv_icmp_ne (tgt := 419) S.1 S.2.1 dL_law_335 (by decide) (fun cq => ?_) (fun cq => ?_)
      · have h := d_f cq h
        refine lv_iload S.1 S.2.1 dL_law_419 (lv_at hl 1 rfl) ?_
        refine lv_bipush (v := 6) S.1 S.2.1 dL_law_421 (by decide) ?_
        refine lv_icmp_ne (tgt := 533) S.1 S.2.1 dL_law_423 (by decide) (fun cq => ?_) (fun cq => ?_)
        · have h := d_f cq h
          refine lv_iload S.1 S.2.1 dL_law_533 (lv_at hl 1 rfl) ?_
          refine lv_bipush (v := 7) S.1 S.2.1 dL_law_535 (by decide) ?_
          refine lv_icmp_ne (tgt := 567) S.1 S.2.1 dL_law_537 (by decide) (fun cq => ?_) (fun cq => ?_)
          · have h := d_f cq h
            refine lv_aload_n S.1 S.2.1 dL_law_567 rfl (lv_at hl 3 rfl) ?_
            refine lv_bipush (v := 17) S.1 S.2.1 dL_law_568 (by decide) ?_
            refine lv_iload S.1 S.2.1 dL_law_570 (lv_at hl 0 rfl) ?_
            refine lv_bipush (v := 6) S.1 S.2.1 dL_law_572 (by decide) ?_
            refine lv_irem S.1 S.2.1 dL_law_574 (by decide) ?_
            refine lv_iload S.1 S.2.1 dL_law_575 (lv_at hl 0 rfl) ?_
            refine lv_bipush (v := 6) S.1 S.2.1 dL_law_577 (by decide) ?_
            refine lv_idiv S.1 S.2.1 dL_law_579 (by decide) ?_
            refine lv_iconst (v := 4) S.1 S.2.1 dL_law_580 (by decide) ?_
            refine lv_irem S.1 S.2.1 dL_law_581 (by decide) ?_
            refine lv_iload S.1 S.2.1 dL_law_582 (lv_at hl 0 rfl) ?_
            refine lv_sipush (v := 1001) S.1 S.2.1 dL_law_584 (by decide) ?_
            refine lv_irem S.1 S.2.1 dL_law_587 (by decide) ?_
            refine lv_iconst (v := 0) S.1 S.2.1 dL_law_588 (by decide) ?_
            obtain ⟨⟨v5, m4⟩, hc3, h⟩ := d_b h
            have h := d_p2 h
            refine dwLj (vx_runSX (As := [.ref (dad g 0), .int 17, .int (v2 - v2 / 6 * 6), .int ((v2 / 6) - (v2 / 6) / 4 * 4), .int (v2 - v2 / 1001 * 1001), .int 0]) (rest := []) S (kL_act l g hst hc3) (vx_cwSW 6 S.2.2.2.2 gL_law_L_act rfl rfl rfl ynL_act ⟨(Nat.le_of_ble_eq_true rfl), (Nat.le_of_ble_eq_true rfl)⟩) (dwS hE hP hS hb) rfl rfl hl.1 rfl (lv_room (Nat.le_of_ble_eq_true rfl)) dL_law_589 ⟨by omega, by omega⟩) hE hS hb hKs hK (fun H hP hS hb hK => ?_)
            refine lv_lconst (v := 0) S.1 S.2.1 dL_law_592 (by decide) ?_
            refine W.lcmp S.1 S.2.1 dL_law_593 ?_
            refine lv_if_lt (tgt := 623) S.1 S.2.1 dL_law_594 (by decide) (fun cq => ?_) (fun cq => ?_)
            · have h := d_t cq h
              cases h
            · have h := d_f cq h
              refine lv_aload_n S.1 S.2.1 dL_law_597 rfl (lv_at hl 3 rfl) ?_
              refine lv_bipush (v := 18) S.1 S.2.1 dL_law_598 (by decide) ?_
              refine lv_iload S.1 S.2.1 dL_law_600 (lv_at hl 0 rfl) ?_
              refine lv_bipush (v := 24) S.1 S.2.1 dL_law_602 (by decide) ?_
              refine lv_idiv S.1 S.2.1 dL_law_604 (by decide) ?_
              refine lv_bipush (v := 6) S.1 S.2.1 dL_law_605 (by decide) ?_
              refine lv_irem S.1 S.2.1 dL_law_607 (by decide) ?_
              refine lv_iload S.1 S.2.1 dL_law_608 (lv_at hl 0 rfl) ?_
              refine lv_bipush (v := 90) S.1 S.2.1 dL_law_610 (by decide) ?_
              refine lv_irem S.1 S.2.1 dL_law_612 (by decide) ?_
              refine lv_iconst (v := 0) S.1 S.2.1 dL_law_613 (by decide) ?_
              refine lv_iconst (v := 0) S.1 S.2.1 dL_law_614 (by decide) ?_
              obtain ⟨⟨v8, m7⟩, hc6, h⟩ := d_b h
              have h := d_p2 h
              refine dwLj (vx_runSX (As := [.ref (dad g 0), .int 18, .int ((v2 / 24) - (v2 / 24) / 6 * 6), .int (v2 - v2 / 90 * 90), .int 0, .int 0]) (rest := []) S (kL_act l g hst hc6) (vx_cwSW 6 S.2.2.2.2 gL_law_L_act rfl rfl rfl ynL_act ⟨(Nat.le_of_ble_eq_true rfl), (Nat.le_of_ble_eq_true rfl)⟩) (dwS hE hP hS hb) rfl rfl hl.1 rfl (lv_room (Nat.le_of_ble_eq_true rfl)) dL_law_615 ⟨by omega, by omega⟩) hE hS hb hKs hK (fun H hP hS hb hK => ?_)
              refine lv_lconst (v := 0) S.1 S.2.1 dL_law_618 (by decide) ?_
              refine W.lcmp S.1 S.2.1 dL_law_619 ?_
              refine lv_if_ge (tgt := 625) S.1 S.2.1 dL_law_620 (by decide) (fun cq => ?_) (fun cq => ?_)
              · have h := d_t cq h
                obtain ⟨m9, hm10, h⟩ := d_b h
                refine kL_lawT hst S hE hKs ⟨by omega, by omega⟩ hm10 hP hS hb hK (lv_sub hl [2, 3, 4, 5, 6, 7] rfl) (fun H ls cl11 sl12 hccl11 hssl12 hP hS hb hK hl => ?_)
                cases h
                exact kk H ls _ _ (by omega) (by omega) hP hS hb hK (lv_sub hl [0, 1, 2, 3, 4, 5] rfl)
              · have h := d_f cq h
                cases h
          · have h := d_t cq h
            refine lv_aload_n S.1 S.2.1 dL_law_540 rfl (lv_at hl 3 rfl) ?_
            obtain ⟨v15, hc13, h⟩ := d_b h
            refine dwi (va_runV (As := []) (rest := []) S (kX11_changed l g hc13) (cwV 0 S.2.2.2.2 gL_law_X11_changed rfl rfl rfl ynX11_changed ⟨(Nat.le_of_ble_eq_true rfl), (Nat.le_of_ble_eq_true rfl)⟩) (dwV hE hP hS hb (ci := 11) rfl (dat12 dk_0)) rfl rfl hl.1 rfl (lv_room (Nat.le_of_ble_eq_true rfl)) dL_law_541 ⟨by omega, by omega⟩) hE hS hb hKs hK (fun H hP hS hb hK => ?_)
            refine lv_istore (lv' := [(9, .int v15), (8, .int v2), (7, .int v1), (0, .ref b), (1, .ref (dad g 0)), (2, .int w2), (3, .int w3), (4, .int w4), (5, .int w5), (6, .int w6)]) S.1 S.2.1 dL_law_544 hl (by decide) rfl (fun ls hl => ?_)
            refine lv_aload_n S.1 S.2.1 dL_law_546 rfl (lv_at hl 4 rfl) ?_
            obtain ⟨⟨v18, m17⟩, hc16, h⟩ := d_b h
            have h := d_p2 h
            refine dwi (va_runV (As := []) (rest := []) S (kX11_publish l g hc16) (cwV 0 S.2.2.2.2 gL_law_X11_publish rfl rfl rfl ynX11_publish ⟨(Nat.le_of_ble_eq_true rfl), (Nat.le_of_ble_eq_true rfl)⟩) (dwV hE hP hS hb (ci := 11) rfl (dat12 dk_0)) rfl rfl hl.1 rfl (lv_room (Nat.le_of_ble_eq_true rfl)) dL_law_547 ⟨by omega, by omega⟩) hE hS hb hKs hK (fun H hP hS hb hK => ?_)
            refine lv_iload S.1 S.2.1 dL_law_550 (lv_at hl 0 rfl) ?_
            refine lv_icmp_ne (tgt := 562) S.1 S.2.1 dL_law_552 (by decide) (fun cq => ?_) (fun cq => ?_)
            · have h := d_f cq h
              cases h
            · have h := d_t cq h
              refine lv_aload_n S.1 S.2.1 dL_law_555 rfl (lv_at hl 4 rfl) ?_
              obtain ⟨v21, hc19, h⟩ := d_b h
              refine dwi (va_runV (As := []) (rest := []) S (kX11_changed l g hc19) (cwV 0 S.2.2.2.2 gL_law_X11_changed rfl rfl rfl ynX11_changed ⟨(Nat.le_of_ble_eq_true rfl), (Nat.le_of_ble_eq_true rfl)⟩) (dwV hE hP hS hb (ci := 11) rfl (dat12 dk_0)) rfl rfl hl.1 rfl (lv_room (Nat.le_of_ble_eq_true rfl)) dL_law_556 ⟨by omega, by omega⟩) hE hS hb hKs hK (fun H hP hS hb hK => ?_)
              refine lv_if_eq (tgt := 564) S.1 S.2.1 dL_law_559 (by decide) (fun cq => ?_) (fun cq => ?_)
              · have h := d_t cq h
                refine lv_goto (tgt := 625) S.1 S.2.1 dL_law_564 (by decide) ?_
                obtain ⟨m22, hm23, h⟩ := d_b h
                refine kL_lawT hst S hE hKs ⟨by omega, by omega⟩ hm23 hP hS hb hK (lv_sub hl [3, 4, 5, 6, 7, 8] rfl) (fun H ls cl24 sl25 hccl24 hssl25 hP hS hb hK hl => ?_)
                cases h
                exact kk H ls _ _ (by omega) (by omega) hP hS hb hK (lv_sub hl [0, 1, 2, 3, 4, 5] rfl)
              · have h := d_f cq h
                cases h
        · have h := d_t cq h
          refine lv_iload_n S.1 S.2.1 dL_law_426 rfl (lv_at hl 5 rfl) ?_
          refine lv_if_le (tgt := 533) S.1 S.2.1 dL_law_427 (by decide) (fun cq => ?_) (fun cq => ?_)
          · have h := d_t cq h
            refine lv_iload S.1 S.2.1 dL_law_533 (lv_at hl 1 rfl) ?_
            refine lv_bipush (v := 7) S.1 S.2.1 dL_law_535 (by decide) ?_
            refine lv_icmp_ne (tgt := 567) S.1 S.2.1 dL_law_537 (by decide) (fun cq => ?_) (fun cq => ?_)
            · have h := d_f cq h
              refine lv_aload_n S.1 S.2.1 dL_law_567 rfl (lv_at hl 3 rfl) ?_
              refine lv_bipush (v := 17) S.1 S.2.1 dL_law_568 (by decide) ?_
              refine lv_iload S.1 S.2.1 dL_law_570 (lv_at hl 0 rfl) ?_
              refine lv_bipush (v := 6) S.1 S.2.1 dL_law_572 (by decide) ?_
              refine lv_irem S.1 S.2.1 dL_law_574 (by decide) ?_
              refine lv_iload S.1 S.2.1 dL_law_575 (lv_at hl 0 rfl) ?_
              refine lv_bipush (v := 6) S.1 S.2.1 dL_law_577 (by decide) ?_
              refine lv_idiv S.1 S.2.1 dL_law_579 (by decide) ?_
              refine lv_iconst (v := 4) S.1 S.2.1 dL_law_580 (by decide) ?_
              refine lv_irem S.1 S.2.1 dL_law_581 (by decide) ?_
              refine lv_iload S.1 S.2.1 dL_law_582 (lv_at hl 0 rfl) ?_
              refine lv_sipush (v := 1001) S.1 S.2.1 dL_law_584 (by decide) ?_
              refine lv_irem S.1 S.2.1 dL_law_587 (by decide) ?_
              refine lv_iconst (v := 0) S.1 S.2.1 dL_law_588 (by decide) ?_
              obtain ⟨⟨v28, m27⟩, hc26, h⟩ := d_b h
              have h := d_p2 h
              refine dwLj (vx_runSX (As := [.ref (dad g 0), .int 17, .int (v2 - v2 / 6 * 6), .int ((v2 / 6) - (v2 / 6) / 4 * 4), .int (v2 - v2 / 1001 * 1001), .int 0]) (rest := []) S (kL_act l g hst hc26) (vx_cwSW 6 S.2.2.2.2 gL_law_L_act rfl rfl rfl ynL_act ⟨(Nat.le_of_ble_eq_true rfl), (Nat.le_of_ble_eq_true rfl)⟩) (dwS hE hP hS hb) rfl rfl hl.1 rfl (lv_room (Nat.le_of_ble_eq_true rfl)) dL_law_589 ⟨by omega, by omega⟩) hE hS hb hKs hK (fun H hP hS hb hK => ?_)
              refine lv_lconst (v := 0) S.1 S.2.1 dL_law_592 (by decide) ?_
              refine W.lcmp S.1 S.2.1 dL_law_593 ?_
              refine lv_if_lt (tgt := 623) S.1 S.2.1 dL_law_594 (by decide) (fun cq => ?_) (fun cq => ?_)
              · have h := d_t cq h
                cases h
              · have h := d_f cq h
                refine lv_aload_n S.1 S.2.1 dL_law_597 rfl (lv_at hl 3 rfl) ?_
                refine lv_bipush (v := 18) S.1 S.2.1 dL_law_598 (by decide) ?_
                refine lv_iload S.1 S.2.1 dL_law_600 (lv_at hl 0 rfl) ?_
                refine lv_bipush (v := 24) S.1 S.2.1 dL_law_602 (by decide) ?_
                refine lv_idiv S.1 S.2.1 dL_law_604 (by decide) ?_
                refine lv_bipush (v := 6) S.1 S.2.1 dL_law_605 (by decide) ?_
                refine lv_irem S.1 S.2.1 dL_law_607 (by decide) ?_
                refine lv_iload S.1 S.2.1 dL_law_608 (lv_at hl 0 rfl) ?_
                refine lv_bipush (v := 90) S.1 S.2.1 dL_law_610 (by decide) ?_
                refine lv_irem S.1 S.2.1 dL_law_612 (by decide) ?_
                refine lv_iconst (v := 0) S.1 S.2.1 dL_law_613 (by decide) ?_
                refine lv_iconst (v := 0) S.1 S.2.1 dL_law_614 (by decide) ?_
                obtain ⟨⟨v31, m30⟩, hc29, h⟩ := d_b h
                have h := d_p2 h
                refine dwLj (vx_runSX (As := [.ref (dad g 0), .int 18, .int ((v2 / 24) - (v2 / 24) / 6 * 6), .int (v2 - v2 / 90 * 90), .int 0, .int 0]) (rest := []) S (kL_act l g hst hc29) (vx_cwSW 6 S.2.2.2.2 gL_law_L_act rfl rfl rfl ynL_act ⟨(Nat.le_of_ble_eq_true rfl), (Nat.le_of_ble_eq_true rfl)⟩) (dwS hE hP hS hb) rfl rfl hl.1 rfl (lv_room (Nat.le_of_ble_eq_true rfl)) dL_law_615 ⟨by omega, by omega⟩) hE hS hb hKs hK (fun H hP hS hb hK => ?_)
                refine lv_lconst (v := 0) S.1 S.2.1 dL_law_618 (by decide) ?_
                refine W.lcmp S.1 S.2.1 dL_law_619 ?_
                refine lv_if_ge (tgt := 625) S.1 S.2.1 dL_law_620 (by decide) (fun cq => ?_) (fun cq => ?_)
                · have h := d_t cq h
                  obtain ⟨m32, hm33, h⟩ := d_b h
                  refine kL_lawT hst S hE hKs ⟨by omega, by omega⟩ hm33 hP hS hb hK (lv_sub hl [2, 3, 4, 5, 6, 7] rfl) (fun H ls cl34 sl35 hccl34 hssl35 hP hS hb hK hl => ?_)
                  cases h
                  exact kk H ls _ _ (by omega) (by omega) hP hS hb hK (lv_sub hl [0, 1, 2, 3, 4, 5] rfl)
                · have h := d_f cq h
                  cases h
            · have h := d_t cq h
              refine lv_aload_n S.1 S.2.1 dL_law_540 rfl (lv_at hl 3 rfl) ?_
              obtain ⟨v38, hc36, h⟩ := d_b h
              refine dwi (va_runV (As := []) (rest := []) S (kX11_changed l g hc36) (cwV 0 S.2.2.2.2 gL_law_X11_changed rfl rfl rfl ynX11_changed ⟨(Nat.le_of_ble_eq_true rfl), (Nat.le_of_ble_eq_true rfl)⟩) (dwV hE hP hS hb (ci := 11) rfl (dat12 dk_0)) rfl rfl hl.1 rfl (lv_room (Nat.le_of_ble_eq_true rfl)) dL_law_541 ⟨by omega, by omega⟩) hE hS hb hKs hK (fun H hP hS hb hK => ?_)
              refine lv_istore (lv' := [(9, .int v38), (8, .int v2), (7, .int v1), (0, .ref b), (1, .ref (dad g 0)), (2, .int w2), (3, .int w3), (4, .int w4), (5, .int w5), (6, .int w6)]) S.1 S.2.1 dL_law_544 hl (by decide) rfl (fun ls hl => ?_)
              refine lv_aload_n S.1 S.2.1 dL_law_546 rfl (lv_at hl 4 rfl) ?_
              obtain ⟨⟨v41, m40⟩, hc39, h⟩ := d_b h
              have h := d_p2 h
              refine dwi (va_runV (As := []) (rest := []) S (kX11_publish l g hc39) (cwV 0 S.2.2.2.2 gL_law_X11_publish rfl rfl rfl ynX11_publish ⟨(Nat.le_of_ble_eq_true rfl), (Nat.le_of_ble_eq_true rfl)⟩) (dwV hE hP hS hb (ci := 11) rfl (dat12 dk_0)) rfl rfl hl.1 rfl (lv_room (Nat.le_of_ble_eq_true rfl)) dL_law_547 ⟨by omega, by omega⟩) hE hS hb hKs hK (fun H hP hS hb hK => ?_)
              refine lv_iload S.1 S.2.1 dL_law_550 (lv_at hl 0 rfl) ?_
              refine lv_icmp_ne (tgt := 562) S.1 S.2.1 dL_law_552 (by decide) (fun cq => ?_) (fun cq => ?_)
              · have h := d_f cq h
                cases h
              · have h := d_t cq h
                refine lv_aload_n S.1 S.2.1 dL_law_555 rfl (lv_at hl 4 rfl) ?_
                obtain ⟨v44, hc42, h⟩ := d_b h
                refine dwi (va_runV (As := []) (rest := []) S (kX11_changed l g hc42) (cwV 0 S.2.2.2.2 gL_law_X11_changed rfl rfl rfl ynX11_changed ⟨(Nat.le_of_ble_eq_true rfl), (Nat.le_of_ble_eq_true rfl)⟩) (dwV hE hP hS hb (ci := 11) rfl (dat12 dk_0)) rfl rfl hl.1 rfl (lv_room (Nat.le_of_ble_eq_true rfl)) dL_law_556 ⟨by omega, by omega⟩) hE hS hb hKs hK (fun H hP hS hb hK => ?_)
                refine lv_if_eq (tgt := 564) S.1 S.2.1 dL_law_559 (by decide) (fun cq => ?_) (fun cq => ?_)
                · have h := d_t cq h
                  refine lv_goto (tgt := 625) S.1 S.2.1 dL_law_564 (by decide) ?_
                  obtain ⟨m45, hm46, h⟩ := d_b h
                  refine kL_lawT hst S hE hKs ⟨by omega, by omega⟩ hm46 hP hS hb hK (lv_sub hl [3, 4, 5, 6, 7, 8] rfl) (fun H ls cl47 sl48 hccl47 hssl48 hP hS hb hK hl => ?_)
                  cases h
                  exact kk H ls _ _ (by omega) (by omega) hP hS hb hK (lv_sub hl [0, 1, 2, 3, 4, 5] rfl)
                · have h := d_f cq h
                  cases h
          · have h := d_f cq h
            refine lv_iload S.1 S.2.1 dL_law_430 (lv_at hl 0 rfl) ?_
            refine lv_iload_n S.1 S.2.1 dL_law_432 rfl (lv_at hl 5 rfl) ?_
            obtain ⟨hz, h⟩ := d_g h
            refine lv_irem S.1 S.2.1 dL_law_433 (of_decide_eq_true hz) ?_
            refine lv_topi (fun v49 ev49 => ?_)
            have h := d_let ev49 h
            refine lv_istore (lv' := [(9, .int v49), (8, .int v2), (7, .int v1), (0, .ref b), (1, .ref (dad g 0)), (2, .int w2), (3, .int w3), (4, .int w4), (5, .int w5), (6, .int w6)]) S.1 S.2.1 dL_law_434 hl (by decide) rfl (fun ls hl => ?_)
            refine lv_aload_n S.1 S.2.1 dL_law_436 rfl (lv_at hl 4 rfl) ?_
            refine lv_iload S.1 S.2.1 dL_law_437 (lv_at hl 0 rfl) ?_
            refine lv_iconst (v := 1) S.1 S.2.1 dL_law_439 (by decide) ?_
            obtain ⟨q53, hc50, h⟩ := d_b h
            rcases q53 with q53 | q53
            · have h := d_s1 h
              cases h
            obtain ⟨v52, m51⟩ := q53
            have h := d_s2 h
            have h := d_p2 h
            refine dwxi (vx_runV (As := [.int v49, .int 1]) (rest := []) S (kX11_fault l g hst hc50) (cwV 2 S.2.2.2.2 gL_law_X11_fault rfl rfl rfl ynX11_fault ⟨(Nat.le_of_ble_eq_true rfl), (Nat.le_of_ble_eq_true rfl)⟩) (dwV hE hP hS hb (ci := 11) rfl (dat12 dk_0)) rfl rfl hl.1 rfl (lv_room (Nat.le_of_ble_eq_true rfl)) dL_law_440 ⟨by omega, by omega⟩) rfl hE hS hb hKs hK (fun H hP hS hb hK => ?_)
            refine lv_istore (lv' := [(10, .int v52), (9, .int v49), (8, .int v2), (7, .int v1), (0, .ref b), (1, .ref (dad g 0)), (2, .int w2), (3, .int w3), (4, .int w4), (5, .int w5), (6, .int w6)]) S.1 S.2.1 dL_law_443 hl (by decide) rfl (fun ls hl => ?_)
            refine lv_aload_n S.1 S.2.1 dL_law_445 rfl (lv_at hl 5 rfl) ?_
            refine lv_iload S.1 S.2.1 dL_law_446 (lv_at hl 1 rfl) ?_
            refine lv_iconst (v := 0) S.1 S.2.1 dL_law_448 (by decide) ?_
            obtain ⟨q57, hc54, h⟩ := d_b h
            rcases q57 with q57 | q57
            · have h := d_s1 h
              cases h
            obtain ⟨v56, m55⟩ := q57
            have h := d_s2 h
            have h := d_p2 h
            refine dwxi (vx_runV (As := [.int v49, .int 0]) (rest := []) S (kX11_fault l g hst hc54) (cwV 2 S.2.2.2.2 gL_law_X11_fault rfl rfl rfl ynX11_fault ⟨(Nat.le_of_ble_eq_true rfl), (Nat.le_of_ble_eq_true rfl)⟩) (dwV hE hP hS hb (ci := 11) rfl (dat12 dk_0)) rfl rfl hl.1 rfl (lv_room (Nat.le_of_ble_eq_true rfl)) dL_law_449 ⟨by omega, by omega⟩) rfl hE hS hb hKs hK (fun H hP hS hb hK => ?_)
            refine W_tern (E := (if 0 ≤ v56 then 0 else 1 : Int32)) (J := 460) (rest := []) (fun v58 ev58 => ?_) (fun JJ => ?_)
            · have h := d_let ev58 h
              refine lv_iload S.1 S.2.1 dL_law_460 (lv_at hl 0 rfl) ?_
              refine W_tern (E := (if 0 ≤ v52 then 0 else 1 : Int32)) (J := 470) (rest := [.int v58]) (fun v59 ev59 => ?_) (fun JJ => ?_)
              · have h := d_let ev59 h
                refine lv_icmp_ne (tgt := 528) S.1 S.2.1 dL_law_470 (by decide) (fun cq => ?_) (fun cq => ?_)
                · have h := d_f cq h
                  cases h
                · have h := d_t cq h
                  refine lv_aload_n S.1 S.2.1 dL_law_473 rfl (lv_at hl 5 rfl) ?_
                  refine lv_iload S.1 S.2.1 dL_law_474 (lv_at hl 1 rfl) ?_
                  refine lv_iconst (v := 3) S.1 S.2.1 dL_law_476 (by decide) ?_
                  obtain ⟨q63, hc60, h⟩ := d_b h
                  rcases q63 with q63 | q63
                  · have h := d_s1 h
                    cases h
                  obtain ⟨v62, m61⟩ := q63
                  have h := d_s2 h
                  have h := d_p2 h
                  refine dwxi (vx_runV (As := [.int v49, .int 3]) (rest := []) S (kX11_fault l g hst hc60) (cwV 2 S.2.2.2.2 gL_law_X11_fault rfl rfl rfl ynX11_fault ⟨(Nat.le_of_ble_eq_true rfl), (Nat.le_of_ble_eq_true rfl)⟩) (dwV hE hP hS hb (ci := 11) rfl (dat12 dk_0)) rfl rfl hl.1 rfl (lv_room (Nat.le_of_ble_eq_true rfl)) dL_law_477 ⟨by omega, by omega⟩) rfl hE hS hb hKs hK (fun H hP hS hb hK => ?_)
                  refine W_tern (E := (if 0 ≤ v62 then 0 else 1 : Int32)) (J := 488) (rest := []) (fun v64 ev64 => ?_) (fun JJ => ?_)
                  · have h := d_let ev64 h
                    refine lv_iload S.1 S.2.1 dL_law_488 (lv_at hl 0 rfl) ?_
                    refine lv_iconst (v := 1) S.1 S.2.1 dL_law_490 (by decide) ?_
                    refine W_tern (E := (if 1 ≤ v52 then 0 else 1 : Int32)) (J := 499) (rest := [.int v64]) (fun v65 ev65 => ?_) (fun JJ => ?_)
                    · have h := d_let ev65 h
                      refine lv_icmp_ne (tgt := 528) S.1 S.2.1 dL_law_499 (by decide) (fun cq => ?_) (fun cq => ?_)
                      · have h := d_f cq h
                        cases h
                      · have h := d_t cq h
                        refine lv_aload_n S.1 S.2.1 dL_law_502 rfl (lv_at hl 5 rfl) ?_
                        refine lv_iload S.1 S.2.1 dL_law_503 (lv_at hl 1 rfl) ?_
                        obtain ⟨q69, hc66, h⟩ := d_b h
                        rcases q69 with q69 | q69
                        · have h := d_s1 h
                          cases h
                        obtain ⟨v68, m67⟩ := q69
                        have h := d_s2 h
                        have h := d_p2 h
                        refine dwxj (vx_runV (As := [.int v49]) (rest := []) S (kX11_walking l g hst hc66) (cwV 1 S.2.2.2.2 gL_law_X11_walking rfl rfl rfl ynX11_walking ⟨(Nat.le_of_ble_eq_true rfl), (Nat.le_of_ble_eq_true rfl)⟩) (dwV hE hP hS hb (ci := 11) rfl (dat12 dk_0)) rfl rfl hl.1 rfl (lv_room (Nat.le_of_ble_eq_true rfl)) dL_law_505 ⟨by omega, by omega⟩) rfl hE hS hb hKs hK (fun H hP hS hb hK => ?_)
                        refine lv_lconst (v := 0) S.1 S.2.1 dL_law_508 (by decide) ?_
                        refine W.lcmp S.1 S.2.1 dL_law_509 ?_
                        refine lv_if_lt (tgt := 528) S.1 S.2.1 dL_law_510 (by decide) (fun cq => ?_) (fun cq => ?_)
                        · have h := d_t cq h
                          cases h
                        · have h := d_f cq h
                          refine lv_iload S.1 S.2.1 dL_law_513 (lv_at hl 1 rfl) ?_
                          refine lv_if_ne (tgt := 530) S.1 S.2.1 dL_law_515 (by decide) (fun cq => ?_) (fun cq => ?_)
                          · have h := d_f cq h
                            refine lv_goto (tgt := 625) S.1 S.2.1 dL_law_530 (by decide) ?_
                            obtain ⟨m70, hm71, h⟩ := d_b h
                            refine kL_lawT hst S hE hKs ⟨by omega, by omega⟩ hm71 hP hS hb hK (lv_sub hl [4, 5, 6, 7, 8, 9] rfl) (fun H ls cl72 sl73 hccl72 hssl73 hP hS hb hK hl => ?_)
                            cases h
                            exact kk H ls _ _ (by omega) (by omega) hP hS hb hK (lv_sub hl [0, 1, 2, 3, 4, 5] rfl)
                          · have h := d_t cq h
                            refine lv_aload_n S.1 S.2.1 dL_law_518 rfl (lv_at hl 5 rfl) ?_
                            refine lv_iconst (v := 0) S.1 S.2.1 dL_law_519 (by decide) ?_
                            obtain ⟨q77, hc74, h⟩ := d_b h
                            rcases q77 with q77 | q77
                            · have h := d_s1 h
                              cases h
                            obtain ⟨v76, m75⟩ := q77
                            have h := d_s2 h
                            have h := d_p2 h
                            refine dwxj (vx_runV (As := [.int 0]) (rest := []) S (kX11_walking l g hst hc74) (cwV 1 S.2.2.2.2 gL_law_X11_walking rfl rfl rfl ynX11_walking ⟨(Nat.le_of_ble_eq_true rfl), (Nat.le_of_ble_eq_true rfl)⟩) (dwV hE hP hS hb (ci := 11) rfl (dat12 dk_0)) rfl rfl hl.1 rfl (lv_room (Nat.le_of_ble_eq_true rfl)) dL_law_520 ⟨by omega, by omega⟩) rfl hE hS hb hKs hK (fun H hP hS hb hK => ?_)
                            refine lv_lconst (v := 0) S.1 S.2.1 dL_law_523 (by decide) ?_
                            refine W.lcmp S.1 S.2.1 dL_law_524 ?_
                            refine lv_if_eq (tgt := 530) S.1 S.2.1 dL_law_525 (by decide) (fun cq => ?_) (fun cq => ?_)
                            · have h := d_t cq h
                              refine lv_goto (tgt := 625) S.1 S.2.1 dL_law_530 (by decide) ?_
                              obtain ⟨m78, hm79, h⟩ := d_b h
                              refine kL_lawT hst S hE hKs ⟨by omega, by omega⟩ hm79 hP hS hb hK (lv_sub hl [4, 5, 6, 7, 8, 9] rfl) (fun H ls cl80 sl81 hccl80 hssl81 hP hS hb hK hl => ?_)
                              cases h
                              exact kk H ls _ _ (by omega) (by omega) hP hS hb hK (lv_sub hl [0, 1, 2, 3, 4, 5] rfl)
                            · have h := d_f cq h
                              cases h
                    · refine lv_icmp_ge (tgt := 498) S.1 S.2.1 dL_law_491 (by decide) (fun cq4 => ?_) (fun cq4 => ?_)
                      · refine lv_iconst (v := 0) S.1 S.2.1 dL_law_498 (by decide) ?_
                        exact JJ _ (by rw [if_pos cq4])
                      · refine lv_iconst (v := 1) S.1 S.2.1 dL_law_494 (by decide) ?_
                        refine lv_goto (tgt := 499) S.1 S.2.1 dL_law_495 (by decide) ?_
                        exact JJ _ (by rw [if_neg cq4])
                  · refine lv_if_ge (tgt := 487) S.1 S.2.1 dL_law_480 (by decide) (fun cq3 => ?_) (fun cq3 => ?_)
                    · refine lv_iconst (v := 0) S.1 S.2.1 dL_law_487 (by decide) ?_
                      exact JJ _ (by rw [if_pos cq3])
                    · refine lv_iconst (v := 1) S.1 S.2.1 dL_law_483 (by decide) ?_
                      refine lv_goto (tgt := 488) S.1 S.2.1 dL_law_484 (by decide) ?_
                      exact JJ _ (by rw [if_neg cq3])
              · refine lv_if_ge (tgt := 469) S.1 S.2.1 dL_law_462 (by decide) (fun cq2 => ?_) (fun cq2 => ?_)
                · refine lv_iconst (v := 0) S.1 S.2.1 dL_law_469 (by decide) ?_
                  exact JJ _ (by rw [if_pos cq2])
                · refine lv_iconst (v := 1) S.1 S.2.1 dL_law_465 (by decide) ?_
                  refine lv_goto (tgt := 470) S.1 S.2.1 dL_law_466 (by decide) ?_
                  exact JJ _ (by rw [if_neg cq2])
            · refine lv_if_ge (tgt := 459) S.1 S.2.1 dL_law_452 (by decide) (fun cq1 => ?_) (fun cq1 => ?_)
              · refine lv_iconst (v := 0) S.1 S.2.1 dL_law_459 (by decide) ?_
                exact JJ _ (by rw [if_pos cq1])
              · refine lv_iconst (v := 1) S.1 S.2.1 dL_law_455 (by decide) ?_
                refine lv_goto (tgt := 460) S.1 S.2.1 dL_law_456 (by decide) ?_
                exact JJ _ (by rw [if_neg cq1])
      · have h := d_t cq h
        refine lv_aload_n S.1 S.2.1 dL_law_338 rfl (lv_at hl 3 rfl) ?_
        refine lv_iconst (v := 1) S.1 S.2.1 dL_law_339 (by decide) ?_
        refine lv_iload S.1 S.2.1 dL_law_340 (lv_at hl 0 rfl) ?_
        refine lv_iconst (v := 4) S.1 S.2.1 dL_law_342 (by decide) ?_
        refine lv_irem S.1 S.2.1 dL_law_343 (by decide) ?_
        refine lv_iconst (v := 5) S.1 S.2.1 dL_law_344 (by decide) ?_
        refine lv_iload S.1 S.2.1 dL_law_345 (lv_at hl 0 rfl) ?_
        refine lv_iconst (v := 4) S.1 S.2.1 dL_law_347 (by decide) ?_
        refine lv_idiv S.1 S.2.1 dL_law_348 (by decide) ?_
        refine lv_bipush (v := 36) S.1 S.2.1 dL_law_349 (by decide) ?_
        refine lv_irem S.1 S.2.1 dL_law_351 (by decide) ?_
        refine lv_iadd S.1 S.2.1 dL_law_352 ?_
        refine lv_iconst (v := 0) S.1 S.2.1 dL_law_353 (by decide) ?_
        refine lv_iconst (v := 0) S.1 S.2.1 dL_law_354 (by decide) ?_
        obtain ⟨⟨v84, m83⟩, hc82, h⟩ := d_b h
        have h := d_p2 h
        refine dwLj (vx_runSX (As := [.ref (dad g 0), .int 1, .int (v2 - v2 / 4 * 4), .int (5 + ((v2 / 4) - (v2 / 4) / 36 * 36)), .int 0, .int 0]) (rest := []) S (kL_act l g hst hc82) (vx_cwSW 6 S.2.2.2.2 gL_law_L_act rfl rfl rfl ynL_act ⟨(Nat.le_of_ble_eq_true rfl), (Nat.le_of_ble_eq_true rfl)⟩) (dwS hE hP hS hb) rfl rfl hl.1 rfl (lv_room (Nat.le_of_ble_eq_true rfl)) dL_law_355 ⟨by omega, by omega⟩) hE hS hb hKs hK (fun H hP hS hb hK => ?_)
        refine lv_ldc2 (v := 5) S.1 S.2.1 S.2.2.2.1 (S.2.2.2.2 (.constantLong RL 166 (5)) (List.mem_of_getElem? (i := 5) rfl)) dL_law_358 ?_
        refine W.lcmp S.1 S.2.1 dL_law_361 ?_
        refine lv_if_lt (tgt := 417) S.1 S.2.1 dL_law_362 (by decide) (fun cq => ?_) (fun cq => ?_)
        · have h := d_t cq h
          cases h
        · have h := d_f cq h
          refine lv_aload_n S.1 S.2.1 dL_law_365 rfl (lv_at hl 3 rfl) ?_
          refine lv_iconst (v := 3) S.1 S.2.1 dL_law_366 (by decide) ?_
          refine lv_iload S.1 S.2.1 dL_law_367 (lv_at hl 0 rfl) ?_
          refine lv_iconst (v := 3) S.1 S.2.1 dL_law_369 (by decide) ?_
          refine lv_irem S.1 S.2.1 dL_law_370 (by decide) ?_
          refine lv_iload S.1 S.2.1 dL_law_371 (lv_at hl 0 rfl) ?_
          refine lv_iconst (v := 3) S.1 S.2.1 dL_law_373 (by decide) ?_
          refine lv_idiv S.1 S.2.1 dL_law_374 (by decide) ?_
          refine lv_iconst (v := 5) S.1 S.2.1 dL_law_375 (by decide) ?_
          refine lv_irem S.1 S.2.1 dL_law_376 (by decide) ?_
          refine lv_iconst (v := 1) S.1 S.2.1 dL_law_377 (by decide) ?_
          refine lv_isub S.1 S.2.1 dL_law_378 ?_
          refine lv_iload S.1 S.2.1 dL_law_379 (lv_at hl 0 rfl) ?_
          refine lv_iconst (v := 2) S.1 S.2.1 dL_law_381 (by decide) ?_
          refine lv_irem S.1 S.2.1 dL_law_382 (by decide) ?_
          refine lv_iconst (v := 0) S.1 S.2.1 dL_law_383 (by decide) ?_
          obtain ⟨⟨v87, m86⟩, hc85, h⟩ := d_b h
          have h := d_p2 h
          refine dwLj (vx_runSX (As := [.ref (dad g 0), .int 3, .int (v2 - v2 / 3 * 3), .int (((v2 / 3) - (v2 / 3) / 5 * 5) - 1), .int (v2 - v2 / 2 * 2), .int 0]) (rest := []) S (kL_act l g hst hc85) (vx_cwSW 6 S.2.2.2.2 gL_law_L_act rfl rfl rfl ynL_act ⟨(Nat.le_of_ble_eq_true rfl), (Nat.le_of_ble_eq_true rfl)⟩) (dwS hE hP hS hb) rfl rfl hl.1 rfl (lv_room (Nat.le_of_ble_eq_true rfl)) dL_law_384 ⟨by omega, by omega⟩) hE hS hb hKs hK (fun H hP hS hb hK => ?_)
          refine lv_lconst (v := 1) S.1 S.2.1 dL_law_387 (by decide) ?_
          refine W.lcmp S.1 S.2.1 dL_law_388 ?_
          refine lv_if_ne (tgt := 417) S.1 S.2.1 dL_law_389 (by decide) (fun cq => ?_) (fun cq => ?_)
          · have h := d_f cq h
            cases h
          · have h := d_t cq h
            refine lv_aload_n S.1 S.2.1 dL_law_392 rfl (lv_at hl 3 rfl) ?_
            refine lv_iconst (v := 2) S.1 S.2.1 dL_law_393 (by decide) ?_
            refine lv_iload S.1 S.2.1 dL_law_394 (lv_at hl 0 rfl) ?_
            refine lv_iconst (v := 5) S.1 S.2.1 dL_law_396 (by decide) ?_
            refine lv_idiv S.1 S.2.1 dL_law_397 (by decide) ?_
            refine lv_iconst (v := 4) S.1 S.2.1 dL_law_398 (by decide) ?_
            refine lv_irem S.1 S.2.1 dL_law_399 (by decide) ?_
            refine lv_iload S.1 S.2.1 dL_law_400 (lv_at hl 0 rfl) ?_
            refine lv_bipush (v := 7) S.1 S.2.1 dL_law_402 (by decide) ?_
            refine lv_idiv S.1 S.2.1 dL_law_404 (by decide) ?_
            refine lv_iconst (v := 2) S.1 S.2.1 dL_law_405 (by decide) ?_
            refine lv_irem S.1 S.2.1 dL_law_406 (by decide) ?_
            refine lv_iconst (v := 0) S.1 S.2.1 dL_law_407 (by decide) ?_
            refine lv_iconst (v := 0) S.1 S.2.1 dL_law_408 (by decide) ?_
            obtain ⟨⟨v90, m89⟩, hc88, h⟩ := d_b h
            have h := d_p2 h
            refine dwLj (vx_runSX (As := [.ref (dad g 0), .int 2, .int ((v2 / 5) - (v2 / 5) / 4 * 4), .int ((v2 / 7) - (v2 / 7) / 2 * 2), .int 0, .int 0]) (rest := []) S (kL_act l g hst hc88) (vx_cwSW 6 S.2.2.2.2 gL_law_L_act rfl rfl rfl ynL_act ⟨(Nat.le_of_ble_eq_true rfl), (Nat.le_of_ble_eq_true rfl)⟩) (dwS hE hP hS hb) rfl rfl hl.1 rfl (lv_room (Nat.le_of_ble_eq_true rfl)) dL_law_409 ⟨by omega, by omega⟩) hE hS hb hKs hK (fun H hP hS hb hK => ?_)
            refine lv_lconst (v := 0) S.1 S.2.1 dL_law_412 (by decide) ?_
            refine W.lcmp S.1 S.2.1 dL_law_413 ?_
            refine lv_if_ge (tgt := 625) S.1 S.2.1 dL_law_414 (by decide) (fun cq => ?_) (fun cq => ?_)
            · have h := d_t cq h
              obtain ⟨m91, hm92, h⟩ := d_b h
              refine kL_lawT hst S hE hKs ⟨by omega, by omega⟩ hm92 hP hS hb hK (lv_sub hl [2, 3, 4, 5, 6, 7] rfl) (fun H ls cl93 sl94 hccl93 hssl94 hP hS hb hK hl => ?_)
              cases h
              exact kk H ls _ _ (by omega) (by omega) hP hS hb hK (lv_sub hl [0, 1, 2, 3, 4, 5] rfl)
            · have h := d_f cq h
              cases h
    · have h := d_f cq h
      refine lv_iload_n S.1 S.2.1 dL_law_240 rfl (lv_at hl 4 rfl) ?_
      refine lv_if_le (tgt := 332) S.1 S.2.1 dL_law_241 (by decide) (fun cq => ?_) (fun cq => ?_)
      · have h := d_t cq h
        refine lv_iload S.1 S.2.1 dL_law_332 (lv_at hl 1 rfl) ?_
        refine lv_iconst (v := 5) S.1 S.2.1 dL_law_334 (by decide) ?_
        refine lv_icmp_ne (tgt := 419) S.1 S.2.1 dL_law_335 (by decide) (fun cq => ?_) (fun cq => ?_)
        · have h := d_f cq h
          refine lv_iload S.1 S.2.1 dL_law_419 (lv_at hl 1 rfl) ?_
          refine lv_bipush (v := 6) S.1 S.2.1 dL_law_421 (by decide) ?_
          refine lv_icmp_ne (tgt := 533) S.1 S.2.1 dL_law_423 (by decide) (fun cq => ?_) (fun cq => ?_)
          · have h := d_f cq h
            refine lv_iload S.1 S.2.1 dL_law_533 (lv_at hl 1 rfl) ?_
            refine lv_bipush (v := 7) S.1 S.2.1 dL_law_535 (by decide) ?_
            refine lv_icmp_ne (tgt := 567) S.1 S.2.1 dL_law_537 (by decide) (fun cq => ?_) (fun cq => ?_)
            · have h := d_f cq h
              refine lv_aload_n S.1 S.2.1 dL_law_567 rfl (lv_at hl 3 rfl) ?_
              refine lv_bipush (v := 17) S.1 S.2.1 dL_law_568 (by decide) ?_
              refine lv_iload S.1 S.2.1 dL_law_570 (lv_at hl 0 rfl) ?_
              refine lv_bipush (v := 6) S.1 S.2.1 dL_law_572 (by decide) ?_
              refine lv_irem S.1 S.2.1 dL_law_574 (by decide) ?_
              refine lv_iload S.1 S.2.1 dL_law_575 (lv_at hl 0 rfl) ?_
              refine lv_bipush (v := 6) S.1 S.2.1 dL_law_577 (by decide) ?_
              refine lv_idiv S.1 S.2.1 dL_law_579 (by decide) ?_
              refine lv_iconst (v := 4) S.1 S.2.1 dL_law_580 (by decide) ?_
              refine lv_irem S.1 S.2.1 dL_law_581 (by decide) ?_
              refine lv_iload S.1 S.2.1 dL_law_582 (lv_at hl 0 rfl) ?_
              refine lv_sipush (v := 1001) S.1 S.2.1 dL_law_584 (by decide) ?_
              refine lv_irem S.1 S.2.1 dL_law_587 (by decide) ?_
              refine lv_iconst (v := 0) S.1 S.2.1 dL_law_588 (by decide) ?_
              obtain ⟨⟨v97, m96⟩, hc95, h⟩ := d_b h
              have h := d_p2 h
              refine dwLj (vx_runSX (As := [.ref (dad g 0), .int 17, .int (v2 - v2 / 6 * 6), .int ((v2 / 6) - (v2 / 6) / 4 * 4), .int (v2 - v2 / 1001 * 1001), .int 0]) (rest := []) S (kL_act l g hst hc95) (vx_cwSW 6 S.2.2.2.2 gL_law_L_act rfl rfl rfl ynL_act ⟨(Nat.le_of_ble_eq_true rfl), (Nat.le_of_ble_eq_true rfl)⟩) (dwS hE hP hS hb) rfl rfl hl.1 rfl (lv_room (Nat.le_of_ble_eq_true rfl)) dL_law_589 ⟨by omega, by omega⟩) hE hS hb hKs hK (fun H hP hS hb hK => ?_)
              refine lv_lconst (v := 0) S.1 S.2.1 dL_law_592 (by decide) ?_
              refine W.lcmp S.1 S.2.1 dL_law_593 ?_
              refine lv_if_lt (tgt := 623) S.1 S.2.1 dL_law_594 (by decide) (fun cq => ?_) (fun cq => ?_)
              · have h := d_t cq h
                cases h
              · have h := d_f cq h
                refine lv_aload_n S.1 S.2.1 dL_law_597 rfl (lv_at hl 3 rfl) ?_
                refine lv_bipush (v := 18) S.1 S.2.1 dL_law_598 (by decide) ?_
                refine lv_iload S.1 S.2.1 dL_law_600 (lv_at hl 0 rfl) ?_
                refine lv_bipush (v := 24) S.1 S.2.1 dL_law_602 (by decide) ?_
                refine lv_idiv S.1 S.2.1 dL_law_604 (by decide) ?_
                refine lv_bipush (v := 6) S.1 S.2.1 dL_law_605 (by decide) ?_
                refine lv_irem S.1 S.2.1 dL_law_607 (by decide) ?_
                refine lv_iload S.1 S.2.1 dL_law_608 (lv_at hl 0 rfl) ?_
                refine lv_bipush (v := 90) S.1 S.2.1 dL_law_610 (by decide) ?_
                refine lv_irem S.1 S.2.1 dL_law_612 (by decide) ?_
                refine lv_iconst (v := 0) S.1 S.2.1 dL_law_613 (by decide) ?_
                refine lv_iconst (v := 0) S.1 S.2.1 dL_law_614 (by decide) ?_
                obtain ⟨⟨v100, m99⟩, hc98, h⟩ := d_b h
                have h := d_p2 h
                refine dwLj (vx_runSX (As := [.ref (dad g 0), .int 18, .int ((v2 / 24) - (v2 / 24) / 6 * 6), .int (v2 - v2 / 90 * 90), .int 0, .int 0]) (rest := []) S (kL_act l g hst hc98) (vx_cwSW 6 S.2.2.2.2 gL_law_L_act rfl rfl rfl ynL_act ⟨(Nat.le_of_ble_eq_true rfl), (Nat.le_of_ble_eq_true rfl)⟩) (dwS hE hP hS hb) rfl rfl hl.1 rfl (lv_room (Nat.le_of_ble_eq_true rfl)) dL_law_615 ⟨by omega, by omega⟩) hE hS hb hKs hK (fun H hP hS hb hK => ?_)
                refine lv_lconst (v := 0) S.1 S.2.1 dL_law_618 (by decide) ?_
                refine W.lcmp S.1 S.2.1 dL_law_619 ?_
                refine lv_if_ge (tgt := 625) S.1 S.2.1 dL_law_620 (by decide) (fun cq => ?_) (fun cq => ?_)
                · have h := d_t cq h
                  obtain ⟨m101, hm102, h⟩ := d_b h
                  refine kL_lawT hst S hE hKs ⟨by omega, by omega⟩ hm102 hP hS hb hK (lv_sub hl [2, 3, 4, 5, 6, 7] rfl) (fun H ls cl103 sl104 hccl103 hssl104 hP hS hb hK hl => ?_)
                  cases h
                  exact kk H ls _ _ (by omega) (by omega) hP hS hb hK (lv_sub hl [0, 1, 2, 3, 4, 5] rfl)
                · have h := d_f cq h
                  cases h
            · have h := d_t cq h
              refine lv_aload_n S.1 S.2.1 dL_law_540 rfl (lv_at hl 3 rfl) ?_
              obtain ⟨v107, hc105, h⟩ := d_b h
              refine dwi (va_runV (As := []) (rest := []) S (kX11_changed l g hc105) (cwV 0 S.2.2.2.2 gL_law_X11_changed rfl rfl rfl ynX11_changed ⟨(Nat.le_of_ble_eq_true rfl), (Nat.le_of_ble_eq_true rfl)⟩) (dwV hE hP hS hb (ci := 11) rfl (dat12 dk_0)) rfl rfl hl.1 rfl (lv_room (Nat.le_of_ble_eq_true rfl)) dL_law_541 ⟨by omega, by omega⟩) hE hS hb hKs hK (fun H hP hS hb hK => ?_)
              refine lv_istore (lv' := [(9, .int v107), (8, .int v2), (7, .int v1), (0, .ref b), (1, .ref (dad g 0)), (2, .int w2), (3, .int w3), (4, .int w4), (5, .int w5), (6, .int w6)]) S.1 S.2.1 dL_law_544 hl (by decide) rfl (fun ls hl => ?_)
              refine lv_aload_n S.1 S.2.1 dL_law_546 rfl (lv_at hl 4 rfl) ?_
              obtain ⟨⟨v110, m109⟩, hc108, h⟩ := d_b h
              have h := d_p2 h
              refine dwi (va_runV (As := []) (rest := []) S (kX11_publish l g hc108) (cwV 0 S.2.2.2.2 gL_law_X11_publish rfl rfl rfl ynX11_publish ⟨(Nat.le_of_ble_eq_true rfl), (Nat.le_of_ble_eq_true rfl)⟩) (dwV hE hP hS hb (ci := 11) rfl (dat12 dk_0)) rfl rfl hl.1 rfl (lv_room (Nat.le_of_ble_eq_true rfl)) dL_law_547 ⟨by omega, by omega⟩) hE hS hb hKs hK (fun H hP hS hb hK => ?_)
              refine lv_iload S.1 S.2.1 dL_law_550 (lv_at hl 0 rfl) ?_
              refine lv_icmp_ne (tgt := 562) S.1 S.2.1 dL_law_552 (by decide) (fun cq => ?_) (fun cq => ?_)
              · have h := d_f cq h
                cases h
              · have h := d_t cq h
                refine lv_aload_n S.1 S.2.1 dL_law_555 rfl (lv_at hl 4 rfl) ?_
                obtain ⟨v113, hc111, h⟩ := d_b h
                refine dwi (va_runV (As := []) (rest := []) S (kX11_changed l g hc111) (cwV 0 S.2.2.2.2 gL_law_X11_changed rfl rfl rfl ynX11_changed ⟨(Nat.le_of_ble_eq_true rfl), (Nat.le_of_ble_eq_true rfl)⟩) (dwV hE hP hS hb (ci := 11) rfl (dat12 dk_0)) rfl rfl hl.1 rfl (lv_room (Nat.le_of_ble_eq_true rfl)) dL_law_556 ⟨by omega, by omega⟩) hE hS hb hKs hK (fun H hP hS hb hK => ?_)
                refine lv_if_eq (tgt := 564) S.1 S.2.1 dL_law_559 (by decide) (fun cq => ?_) (fun cq => ?_)
                · have h := d_t cq h
                  refine lv_goto (tgt := 625) S.1 S.2.1 dL_law_564 (by decide) ?_
                  obtain ⟨m114, hm115, h⟩ := d_b h
                  refine kL_lawT hst S hE hKs ⟨by omega, by omega⟩ hm115 hP hS hb hK (lv_sub hl [3, 4, 5, 6, 7, 8] rfl) (fun H ls cl116 sl117 hccl116 hssl117 hP hS hb hK hl => ?_)
                  cases h
                  exact kk H ls _ _ (by omega) (by omega) hP hS hb hK (lv_sub hl [0, 1, 2, 3, 4, 5] rfl)
                · have h := d_f cq h
                  cases h
          · have h := d_t cq h
            refine lv_iload_n S.1 S.2.1 dL_law_426 rfl (lv_at hl 5 rfl) ?_
            refine lv_if_le (tgt := 533) S.1 S.2.1 dL_law_427 (by decide) (fun cq => ?_) (fun cq => ?_)
            · have h := d_t cq h
              refine lv_iload S.1 S.2.1 dL_law_533 (lv_at hl 1 rfl) ?_
              refine lv_bipush (v := 7) S.1 S.2.1 dL_law_535 (by decide) ?_
              refine lv_icmp_ne (tgt := 567) S.1 S.2.1 dL_law_537 (by decide) (fun cq => ?_) (fun cq => ?_)
              · have h := d_f cq h
                refine lv_aload_n S.1 S.2.1 dL_law_567 rfl (lv_at hl 3 rfl) ?_
                refine lv_bipush (v := 17) S.1 S.2.1 dL_law_568 (by decide) ?_
                refine lv_iload S.1 S.2.1 dL_law_570 (lv_at hl 0 rfl) ?_
                refine lv_bipush (v := 6) S.1 S.2.1 dL_law_572 (by decide) ?_
                refine lv_irem S.1 S.2.1 dL_law_574 (by decide) ?_
                refine lv_iload S.1 S.2.1 dL_law_575 (lv_at hl 0 rfl) ?_
                refine lv_bipush (v := 6) S.1 S.2.1 dL_law_577 (by decide) ?_
                refine lv_idiv S.1 S.2.1 dL_law_579 (by decide) ?_
                refine lv_iconst (v := 4) S.1 S.2.1 dL_law_580 (by decide) ?_
                refine lv_irem S.1 S.2.1 dL_law_581 (by decide) ?_
                refine lv_iload S.1 S.2.1 dL_law_582 (lv_at hl 0 rfl) ?_
                refine lv_sipush (v := 1001) S.1 S.2.1 dL_law_584 (by decide) ?_
                refine lv_irem S.1 S.2.1 dL_law_587 (by decide) ?_
                refine lv_iconst (v := 0) S.1 S.2.1 dL_law_588 (by decide) ?_
                obtain ⟨⟨v120, m119⟩, hc118, h⟩ := d_b h
                have h := d_p2 h
                refine dwLj (vx_runSX (As := [.ref (dad g 0), .int 17, .int (v2 - v2 / 6 * 6), .int ((v2 / 6) - (v2 / 6) / 4 * 4), .int (v2 - v2 / 1001 * 1001), .int 0]) (rest := []) S (kL_act l g hst hc118) (vx_cwSW 6 S.2.2.2.2 gL_law_L_act rfl rfl rfl ynL_act ⟨(Nat.le_of_ble_eq_true rfl), (Nat.le_of_ble_eq_true rfl)⟩) (dwS hE hP hS hb) rfl rfl hl.1 rfl (lv_room (Nat.le_of_ble_eq_true rfl)) dL_law_589 ⟨by omega, by omega⟩) hE hS hb hKs hK (fun H hP hS hb hK => ?_)
                refine lv_lconst (v := 0) S.1 S.2.1 dL_law_592 (by decide) ?_
                refine W.lcmp S.1 S.2.1 dL_law_593 ?_
                refine lv_if_lt (tgt := 623) S.1 S.2.1 dL_law_594 (by decide) (fun cq => ?_) (fun cq => ?_)
                · have h := d_t cq h
                  cases h
                · have h := d_f cq h
                  refine lv_aload_n S.1 S.2.1 dL_law_597 rfl (lv_at hl 3 rfl) ?_
                  refine lv_bipush (v := 18) S.1 S.2.1 dL_law_598 (by decide) ?_
                  refine lv_iload S.1 S.2.1 dL_law_600 (lv_at hl 0 rfl) ?_
                  refine lv_bipush (v := 24) S.1 S.2.1 dL_law_602 (by decide) ?_
                  refine lv_idiv S.1 S.2.1 dL_law_604 (by decide) ?_
                  refine lv_bipush (v := 6) S.1 S.2.1 dL_law_605 (by decide) ?_
                  refine lv_irem S.1 S.2.1 dL_law_607 (by decide) ?_
                  refine lv_iload S.1 S.2.1 dL_law_608 (lv_at hl 0 rfl) ?_
                  refine lv_bipush (v := 90) S.1 S.2.1 dL_law_610 (by decide) ?_
                  refine lv_irem S.1 S.2.1 dL_law_612 (by decide) ?_
                  refine lv_iconst (v := 0) S.1 S.2.1 dL_law_613 (by decide) ?_
                  refine lv_iconst (v := 0) S.1 S.2.1 dL_law_614 (by decide) ?_
                  obtain ⟨⟨v123, m122⟩, hc121, h⟩ := d_b h
                  have h := d_p2 h
                  refine dwLj (vx_runSX (As := [.ref (dad g 0), .int 18, .int ((v2 / 24) - (v2 / 24) / 6 * 6), .int (v2 - v2 / 90 * 90), .int 0, .int 0]) (rest := []) S (kL_act l g hst hc121) (vx_cwSW 6 S.2.2.2.2 gL_law_L_act rfl rfl rfl ynL_act ⟨(Nat.le_of_ble_eq_true rfl), (Nat.le_of_ble_eq_true rfl)⟩) (dwS hE hP hS hb) rfl rfl hl.1 rfl (lv_room (Nat.le_of_ble_eq_true rfl)) dL_law_615 ⟨by omega, by omega⟩) hE hS hb hKs hK (fun H hP hS hb hK => ?_)
                  refine lv_lconst (v := 0) S.1 S.2.1 dL_law_618 (by decide) ?_
                  refine W.lcmp S.1 S.2.1 dL_law_619 ?_
                  refine lv_if_ge (tgt := 625) S.1 S.2.1 dL_law_620 (by decide) (fun cq => ?_) (fun cq => ?_)
                  · have h := d_t cq h
                    obtain ⟨m124, hm125, h⟩ := d_b h
                    refine kL_lawT hst S hE hKs ⟨by omega, by omega⟩ hm125 hP hS hb hK (lv_sub hl [2, 3, 4, 5, 6, 7] rfl) (fun H ls cl126 sl127 hccl126 hssl127 hP hS hb hK hl => ?_)
                    cases h
                    exact kk H ls _ _ (by omega) (by omega) hP hS hb hK (lv_sub hl [0, 1, 2, 3, 4, 5] rfl)
                  · have h := d_f cq h
                    cases h
              · have h := d_t cq h
                refine lv_aload_n S.1 S.2.1 dL_law_540 rfl (lv_at hl 3 rfl) ?_
                obtain ⟨v130, hc128, h⟩ := d_b h
                refine dwi (va_runV (As := []) (rest := []) S (kX11_changed l g hc128) (cwV 0 S.2.2.2.2 gL_law_X11_changed rfl rfl rfl ynX11_changed ⟨(Nat.le_of_ble_eq_true rfl), (Nat.le_of_ble_eq_true rfl)⟩) (dwV hE hP hS hb (ci := 11) rfl (dat12 dk_0)) rfl rfl hl.1 rfl (lv_room (Nat.le_of_ble_eq_true rfl)) dL_law_541 ⟨by omega, by omega⟩) hE hS hb hKs hK (fun H hP hS hb hK => ?_)
                refine lv_istore (lv' := [(9, .int v130), (8, .int v2), (7, .int v1), (0, .ref b), (1, .ref (dad g 0)), (2, .int w2), (3, .int w3), (4, .int w4), (5, .int w5), (6, .int w6)]) S.1 S.2.1 dL_law_544 hl (by decide) rfl (fun ls hl => ?_)
                refine lv_aload_n S.1 S.2.1 dL_law_546 rfl (lv_at hl 4 rfl) ?_
                obtain ⟨⟨v133, m132⟩, hc131, h⟩ := d_b h
                have h := d_p2 h
                refine dwi (va_runV (As := []) (rest := []) S (kX11_publish l g hc131) (cwV 0 S.2.2.2.2 gL_law_X11_publish rfl rfl rfl ynX11_publish ⟨(Nat.le_of_ble_eq_true rfl), (Nat.le_of_ble_eq_true rfl)⟩) (dwV hE hP hS hb (ci := 11) rfl (dat12 dk_0)) rfl rfl hl.1 rfl (lv_room (Nat.le_of_ble_eq_true rfl)) dL_law_547 ⟨by omega, by omega⟩) hE hS hb hKs hK (fun H hP hS hb hK => ?_)
                refine lv_iload S.1 S.2.1 dL_law_550 (lv_at hl 0 rfl) ?_
                refine lv_icmp_ne (tgt := 562) S.1 S.2.1 dL_law_552 (by decide) (fun cq => ?_) (fun cq => ?_)
                · have h := d_f cq h
                  cases h
                · have h := d_t cq h
                  refine lv_aload_n S.1 S.2.1 dL_law_555 rfl (lv_at hl 4 rfl) ?_
                  obtain ⟨v136, hc134, h⟩ := d_b h
                  refine dwi (va_runV (As := []) (rest := []) S (kX11_changed l g hc134) (cwV 0 S.2.2.2.2 gL_law_X11_changed rfl rfl rfl ynX11_changed ⟨(Nat.le_of_ble_eq_true rfl), (Nat.le_of_ble_eq_true rfl)⟩) (dwV hE hP hS hb (ci := 11) rfl (dat12 dk_0)) rfl rfl hl.1 rfl (lv_room (Nat.le_of_ble_eq_true rfl)) dL_law_556 ⟨by omega, by omega⟩) hE hS hb hKs hK (fun H hP hS hb hK => ?_)
                  refine lv_if_eq (tgt := 564) S.1 S.2.1 dL_law_559 (by decide) (fun cq => ?_) (fun cq => ?_)
                  · have h := d_t cq h
                    refine lv_goto (tgt := 625) S.1 S.2.1 dL_law_564 (by decide) ?_
                    obtain ⟨m137, hm138, h⟩ := d_b h
                    refine kL_lawT hst S hE hKs ⟨by omega, by omega⟩ hm138 hP hS hb hK (lv_sub hl [3, 4, 5, 6, 7, 8] rfl) (fun H ls cl139 sl140 hccl139 hssl140 hP hS hb hK hl => ?_)
                    cases h
                    exact kk H ls _ _ (by omega) (by omega) hP hS hb hK (lv_sub hl [0, 1, 2, 3, 4, 5] rfl)
                  · have h := d_f cq h
                    cases h
            · have h := d_f cq h
              refine lv_iload S.1 S.2.1 dL_law_430 (lv_at hl 0 rfl) ?_
              refine lv_iload_n S.1 S.2.1 dL_law_432 rfl (lv_at hl 5 rfl) ?_
              obtain ⟨hz, h⟩ := d_g h
              refine lv_irem S.1 S.2.1 dL_law_433 (of_decide_eq_true hz) ?_
              refine lv_topi (fun v141 ev141 => ?_)
              have h := d_let ev141 h
              refine lv_istore (lv' := [(9, .int v141), (8, .int v2), (7, .int v1), (0, .ref b), (1, .ref (dad g 0)), (2, .int w2), (3, .int w3), (4, .int w4), (5, .int w5), (6, .int w6)]) S.1 S.2.1 dL_law_434 hl (by decide) rfl (fun ls hl => ?_)
              refine lv_aload_n S.1 S.2.1 dL_law_436 rfl (lv_at hl 4 rfl) ?_
              refine lv_iload S.1 S.2.1 dL_law_437 (lv_at hl 0 rfl) ?_
              refine lv_iconst (v := 1) S.1 S.2.1 dL_law_439 (by decide) ?_
              obtain ⟨q145, hc142, h⟩ := d_b h
              rcases q145 with q145 | q145
              · have h := d_s1 h
                cases h
              obtain ⟨v144, m143⟩ := q145
              have h := d_s2 h
              have h := d_p2 h
              refine dwxi (vx_runV (As := [.int v141, .int 1]) (rest := []) S (kX11_fault l g hst hc142) (cwV 2 S.2.2.2.2 gL_law_X11_fault rfl rfl rfl ynX11_fault ⟨(Nat.le_of_ble_eq_true rfl), (Nat.le_of_ble_eq_true rfl)⟩) (dwV hE hP hS hb (ci := 11) rfl (dat12 dk_0)) rfl rfl hl.1 rfl (lv_room (Nat.le_of_ble_eq_true rfl)) dL_law_440 ⟨by omega, by omega⟩) rfl hE hS hb hKs hK (fun H hP hS hb hK => ?_)
              refine lv_istore (lv' := [(10, .int v144), (9, .int v141), (8, .int v2), (7, .int v1), (0, .ref b), (1, .ref (dad g 0)), (2, .int w2), (3, .int w3), (4, .int w4), (5, .int w5), (6, .int w6)]) S.1 S.2.1 dL_law_443 hl (by decide) rfl (fun ls hl => ?_)
              refine lv_aload_n S.1 S.2.1 dL_law_445 rfl (lv_at hl 5 rfl) ?_
              refine lv_iload S.1 S.2.1 dL_law_446 (lv_at hl 1 rfl) ?_
              refine lv_iconst (v := 0) S.1 S.2.1 dL_law_448 (by decide) ?_
              obtain ⟨q149, hc146, h⟩ := d_b h
              rcases q149 with q149 | q149
              · have h := d_s1 h
                cases h
              obtain ⟨v148, m147⟩ := q149
              have h := d_s2 h
              have h := d_p2 h
              refine dwxi (vx_runV (As := [.int v141, .int 0]) (rest := []) S (kX11_fault l g hst hc146) (cwV 2 S.2.2.2.2 gL_law_X11_fault rfl rfl rfl ynX11_fault ⟨(Nat.le_of_ble_eq_true rfl), (Nat.le_of_ble_eq_true rfl)⟩) (dwV hE hP hS hb (ci := 11) rfl (dat12 dk_0)) rfl rfl hl.1 rfl (lv_room (Nat.le_of_ble_eq_true rfl)) dL_law_449 ⟨by omega, by omega⟩) rfl hE hS hb hKs hK (fun H hP hS hb hK => ?_)
              refine W_tern (E := (if 0 ≤ v148 then 0 else 1 : Int32)) (J := 460) (rest := []) (fun v150 ev150 => ?_) (fun JJ => ?_)
              · have h := d_let ev150 h
                refine lv_iload S.1 S.2.1 dL_law_460 (lv_at hl 0 rfl) ?_
                refine W_tern (E := (if 0 ≤ v144 then 0 else 1 : Int32)) (J := 470) (rest := [.int v150]) (fun v151 ev151 => ?_) (fun JJ => ?_)
                · have h := d_let ev151 h
                  refine lv_icmp_ne (tgt := 528) S.1 S.2.1 dL_law_470 (by decide) (fun cq => ?_) (fun cq => ?_)
                  · have h := d_f cq h
                    cases h
                  · have h := d_t cq h
                    refine lv_aload_n S.1 S.2.1 dL_law_473 rfl (lv_at hl 5 rfl) ?_
                    refine lv_iload S.1 S.2.1 dL_law_474 (lv_at hl 1 rfl) ?_
                    refine lv_iconst (v := 3) S.1 S.2.1 dL_law_476 (by decide) ?_
                    obtain ⟨q155, hc152, h⟩ := d_b h
                    rcases q155 with q155 | q155
                    · have h := d_s1 h
                      cases h
                    obtain ⟨v154, m153⟩ := q155
                    have h := d_s2 h
                    have h := d_p2 h
                    refine dwxi (vx_runV (As := [.int v141, .int 3]) (rest := []) S (kX11_fault l g hst hc152) (cwV 2 S.2.2.2.2 gL_law_X11_fault rfl rfl rfl ynX11_fault ⟨(Nat.le_of_ble_eq_true rfl), (Nat.le_of_ble_eq_true rfl)⟩) (dwV hE hP hS hb (ci := 11) rfl (dat12 dk_0)) rfl rfl hl.1 rfl (lv_room (Nat.le_of_ble_eq_true rfl)) dL_law_477 ⟨by omega, by omega⟩) rfl hE hS hb hKs hK (fun H hP hS hb hK => ?_)
                    refine W_tern (E := (if 0 ≤ v154 then 0 else 1 : Int32)) (J := 488) (rest := []) (fun v156 ev156 => ?_) (fun JJ => ?_)
                    · have h := d_let ev156 h
                      refine lv_iload S.1 S.2.1 dL_law_488 (lv_at hl 0 rfl) ?_
                      refine lv_iconst (v := 1) S.1 S.2.1 dL_law_490 (by decide) ?_
                      refine W_tern (E := (if 1 ≤ v144 then 0 else 1 : Int32)) (J := 499) (rest := [.int v156]) (fun v157 ev157 => ?_) (fun JJ => ?_)
                      · have h := d_let ev157 h
                        refine lv_icmp_ne (tgt := 528) S.1 S.2.1 dL_law_499 (by decide) (fun cq => ?_) (fun cq => ?_)
                        · have h := d_f cq h
                          cases h
                        · have h := d_t cq h
                          refine lv_aload_n S.1 S.2.1 dL_law_502 rfl (lv_at hl 5 rfl) ?_
                          refine lv_iload S.1 S.2.1 dL_law_503 (lv_at hl 1 rfl) ?_
                          obtain ⟨q161, hc158, h⟩ := d_b h
                          rcases q161 with q161 | q161
                          · have h := d_s1 h
                            cases h
                          obtain ⟨v160, m159⟩ := q161
                          have h := d_s2 h
                          have h := d_p2 h
                          refine dwxj (vx_runV (As := [.int v141]) (rest := []) S (kX11_walking l g hst hc158) (cwV 1 S.2.2.2.2 gL_law_X11_walking rfl rfl rfl ynX11_walking ⟨(Nat.le_of_ble_eq_true rfl), (Nat.le_of_ble_eq_true rfl)⟩) (dwV hE hP hS hb (ci := 11) rfl (dat12 dk_0)) rfl rfl hl.1 rfl (lv_room (Nat.le_of_ble_eq_true rfl)) dL_law_505 ⟨by omega, by omega⟩) rfl hE hS hb hKs hK (fun H hP hS hb hK => ?_)
                          refine lv_lconst (v := 0) S.1 S.2.1 dL_law_508 (by decide) ?_
                          refine W.lcmp S.1 S.2.1 dL_law_509 ?_
                          refine lv_if_lt (tgt := 528) S.1 S.2.1 dL_law_510 (by decide) (fun cq => ?_) (fun cq => ?_)
                          · have h := d_t cq h
                            cases h
                          · have h := d_f cq h
                            refine lv_iload S.1 S.2.1 dL_law_513 (lv_at hl 1 rfl) ?_
                            refine lv_if_ne (tgt := 530) S.1 S.2.1 dL_law_515 (by decide) (fun cq => ?_) (fun cq => ?_)
                            · have h := d_f cq h
                              refine lv_goto (tgt := 625) S.1 S.2.1 dL_law_530 (by decide) ?_
                              obtain ⟨m162, hm163, h⟩ := d_b h
                              refine kL_lawT hst S hE hKs ⟨by omega, by omega⟩ hm163 hP hS hb hK (lv_sub hl [4, 5, 6, 7, 8, 9] rfl) (fun H ls cl164 sl165 hccl164 hssl165 hP hS hb hK hl => ?_)
                              cases h
                              exact kk H ls _ _ (by omega) (by omega) hP hS hb hK (lv_sub hl [0, 1, 2, 3, 4, 5] rfl)
                            · have h := d_t cq h
                              refine lv_aload_n S.1 S.2.1 dL_law_518 rfl (lv_at hl 5 rfl) ?_
                              refine lv_iconst (v := 0) S.1 S.2.1 dL_law_519 (by decide) ?_
                              obtain ⟨q169, hc166, h⟩ := d_b h
                              rcases q169 with q169 | q169
                              · have h := d_s1 h
                                cases h
                              obtain ⟨v168, m167⟩ := q169
                              have h := d_s2 h
                              have h := d_p2 h
                              refine dwxj (vx_runV (As := [.int 0]) (rest := []) S (kX11_walking l g hst hc166) (cwV 1 S.2.2.2.2 gL_law_X11_walking rfl rfl rfl ynX11_walking ⟨(Nat.le_of_ble_eq_true rfl), (Nat.le_of_ble_eq_true rfl)⟩) (dwV hE hP hS hb (ci := 11) rfl (dat12 dk_0)) rfl rfl hl.1 rfl (lv_room (Nat.le_of_ble_eq_true rfl)) dL_law_520 ⟨by omega, by omega⟩) rfl hE hS hb hKs hK (fun H hP hS hb hK => ?_)
                              refine lv_lconst (v := 0) S.1 S.2.1 dL_law_523 (by decide) ?_
                              refine W.lcmp S.1 S.2.1 dL_law_524 ?_
                              refine lv_if_eq (tgt := 530) S.1 S.2.1 dL_law_525 (by decide) (fun cq => ?_) (fun cq => ?_)
                              · have h := d_t cq h
                                refine lv_goto (tgt := 625) S.1 S.2.1 dL_law_530 (by decide) ?_
                                obtain ⟨m170, hm171, h⟩ := d_b h
                                refine kL_lawT hst S hE hKs ⟨by omega, by omega⟩ hm171 hP hS hb hK (lv_sub hl [4, 5, 6, 7, 8, 9] rfl) (fun H ls cl172 sl173 hccl172 hssl173 hP hS hb hK hl => ?_)
                                cases h
                                exact kk H ls _ _ (by omega) (by omega) hP hS hb hK (lv_sub hl [0, 1, 2, 3, 4, 5] rfl)
                              · have h := d_f cq h
                                cases h
                      · refine lv_icmp_ge (tgt := 498) S.1 S.2.1 dL_law_491 (by decide) (fun cq8 => ?_) (fun cq8 => ?_)
                        · refine lv_iconst (v := 0) S.1 S.2.1 dL_law_498 (by decide) ?_
                          exact JJ _ (by rw [if_pos cq8])
                        · refine lv_iconst (v := 1) S.1 S.2.1 dL_law_494 (by decide) ?_
                          refine lv_goto (tgt := 499) S.1 S.2.1 dL_law_495 (by decide) ?_
                          exact JJ _ (by rw [if_neg cq8])
                    · refine lv_if_ge (tgt := 487) S.1 S.2.1 dL_law_480 (by decide) (fun cq7 => ?_) (fun cq7 => ?_)
                      · refine lv_iconst (v := 0) S.1 S.2.1 dL_law_487 (by decide) ?_
                        exact JJ _ (by rw [if_pos cq7])
                      · refine lv_iconst (v := 1) S.1 S.2.1 dL_law_483 (by decide) ?_
                        refine lv_goto (tgt := 488) S.1 S.2.1 dL_law_484 (by decide) ?_
                        exact JJ _ (by rw [if_neg cq7])
                · refine lv_if_ge (tgt := 469) S.1 S.2.1 dL_law_462 (by decide) (fun cq6 => ?_) (fun cq6 => ?_)
                  · refine lv_iconst (v := 0) S.1 S.2.1 dL_law_469 (by decide) ?_
                    exact JJ _ (by rw [if_pos cq6])
                  · refine lv_iconst (v := 1) S.1 S.2.1 dL_law_465 (by decide) ?_
                    refine lv_goto (tgt := 470) S.1 S.2.1 dL_law_466 (by decide) ?_
                    exact JJ _ (by rw [if_neg cq6])
              · refine lv_if_ge (tgt := 459) S.1 S.2.1 dL_law_452 (by decide) (fun cq5 => ?_) (fun cq5 => ?_)
                · refine lv_iconst (v := 0) S.1 S.2.1 dL_law_459 (by decide) ?_
                  exact JJ _ (by rw [if_pos cq5])
                · refine lv_iconst (v := 1) S.1 S.2.1 dL_law_455 (by decide) ?_
                  refine lv_goto (tgt := 460) S.1 S.2.1 dL_law_456 (by decide) ?_
                  exact JJ _ (by rw [if_neg cq5])
        · have h := d_t cq h
          refine lv_aload_n S.1 S.2.1 dL_law_338 rfl (lv_at hl 3 rfl) ?_
          refine lv_iconst (v := 1) S.1 S.2.1 dL_law_339 (by decide) ?_
          refine lv_iload S.1 S.2.1 dL_law_340 (lv_at hl 0 rfl) ?_
          refine lv_iconst (v := 4) S.1 S.2.1 dL_law_342 (by decide) ?_
          refine lv_irem S.1 S.2.1 dL_law_343 (by decide) ?_
          refine lv_iconst (v := 5) S.1 S.2.1 dL_law_344 (by decide) ?_
          refine lv_iload S.1 S.2.1 dL_law_345 (lv_at hl 0 rfl) ?_
          refine lv_iconst (v := 4) S.1 S.2.1 dL_law_347 (by decide) ?_
          refine lv_idiv S.1 S.2.1 dL_law_348 (by decide) ?_
          refine lv_bipush (v := 36) S.1 S.2.1 dL_law_349 (by decide) ?_
          refine lv_irem S.1 S.2.1 dL_law_351 (by decide) ?_
          refine lv_iadd S.1 S.2.1 dL_law_352 ?_
          refine lv_iconst (v := 0) S.1 S.2.1 dL_law_353 (by decide) ?_
          refine lv_iconst (v := 0) S.1 S.2.1 dL_law_354 (by decide) ?_
          obtain ⟨⟨v176, m175⟩, hc174, h⟩ := d_b h
          have h := d_p2 h
          refine dwLj (vx_runSX (As := [.ref (dad g 0), .int 1, .int (v2 - v2 / 4 * 4), .int (5 + ((v2 / 4) - (v2 / 4) / 36 * 36)), .int 0, .int 0]) (rest := []) S (kL_act l g hst hc174) (vx_cwSW 6 S.2.2.2.2 gL_law_L_act rfl rfl rfl ynL_act ⟨(Nat.le_of_ble_eq_true rfl), (Nat.le_of_ble_eq_true rfl)⟩) (dwS hE hP hS hb) rfl rfl hl.1 rfl (lv_room (Nat.le_of_ble_eq_true rfl)) dL_law_355 ⟨by omega, by omega⟩) hE hS hb hKs hK (fun H hP hS hb hK => ?_)
          refine lv_ldc2 (v := 5) S.1 S.2.1 S.2.2.2.1 (S.2.2.2.2 (.constantLong RL 166 (5)) (List.mem_of_getElem? (i := 5) rfl)) dL_law_358 ?_
          refine W.lcmp S.1 S.2.1 dL_law_361 ?_
          refine lv_if_lt (tgt := 417) S.1 S.2.1 dL_law_362 (by decide) (fun cq => ?_) (fun cq => ?_)
          · have h := d_t cq h
            cases h
          · have h := d_f cq h
            refine lv_aload_n S.1 S.2.1 dL_law_365 rfl (lv_at hl 3 rfl) ?_
            refine lv_iconst (v := 3) S.1 S.2.1 dL_law_366 (by decide) ?_
            refine lv_iload S.1 S.2.1 dL_law_367 (lv_at hl 0 rfl) ?_
            refine lv_iconst (v := 3) S.1 S.2.1 dL_law_369 (by decide) ?_
            refine lv_irem S.1 S.2.1 dL_law_370 (by decide) ?_
            refine lv_iload S.1 S.2.1 dL_law_371 (lv_at hl 0 rfl) ?_
            refine lv_iconst (v := 3) S.1 S.2.1 dL_law_373 (by decide) ?_
            refine lv_idiv S.1 S.2.1 dL_law_374 (by decide) ?_
            refine lv_iconst (v := 5) S.1 S.2.1 dL_law_375 (by decide) ?_
            refine lv_irem S.1 S.2.1 dL_law_376 (by decide) ?_
            refine lv_iconst (v := 1) S.1 S.2.1 dL_law_377 (by decide) ?_
            refine lv_isub S.1 S.2.1 dL_law_378 ?_
            refine lv_iload S.1 S.2.1 dL_law_379 (lv_at hl 0 rfl) ?_
            refine lv_iconst (v := 2) S.1 S.2.1 dL_law_381 (by decide) ?_
            refine lv_irem S.1 S.2.1 dL_law_382 (by decide) ?_
            refine lv_iconst (v := 0) S.1 S.2.1 dL_law_383 (by decide) ?_
            obtain ⟨⟨v179, m178⟩, hc177, h⟩ := d_b h
            have h := d_p2 h
            refine dwLj (vx_runSX (As := [.ref (dad g 0), .int 3, .int (v2 - v2 / 3 * 3), .int (((v2 / 3) - (v2 / 3) / 5 * 5) - 1), .int (v2 - v2 / 2 * 2), .int 0]) (rest := []) S (kL_act l g hst hc177) (vx_cwSW 6 S.2.2.2.2 gL_law_L_act rfl rfl rfl ynL_act ⟨(Nat.le_of_ble_eq_true rfl), (Nat.le_of_ble_eq_true rfl)⟩) (dwS hE hP hS hb) rfl rfl hl.1 rfl (lv_room (Nat.le_of_ble_eq_true rfl)) dL_law_384 ⟨by omega, by omega⟩) hE hS hb hKs hK (fun H hP hS hb hK => ?_)
            refine lv_lconst (v := 1) S.1 S.2.1 dL_law_387 (by decide) ?_
            refine W.lcmp S.1 S.2.1 dL_law_388 ?_
            refine lv_if_ne (tgt := 417) S.1 S.2.1 dL_law_389 (by decide) (fun cq => ?_) (fun cq => ?_)
            · have h := d_f cq h
              cases h
            · have h := d_t cq h
              refine lv_aload_n S.1 S.2.1 dL_law_392 rfl (lv_at hl 3 rfl) ?_
              refine lv_iconst (v := 2) S.1 S.2.1 dL_law_393 (by decide) ?_
              refine lv_iload S.1 S.2.1 dL_law_394 (lv_at hl 0 rfl) ?_
              refine lv_iconst (v := 5) S.1 S.2.1 dL_law_396 (by decide) ?_
              refine lv_idiv S.1 S.2.1 dL_law_397 (by decide) ?_
              refine lv_iconst (v := 4) S.1 S.2.1 dL_law_398 (by decide) ?_
              refine lv_irem S.1 S.2.1 dL_law_399 (by decide) ?_
              refine lv_iload S.1 S.2.1 dL_law_400 (lv_at hl 0 rfl) ?_
              refine lv_bipush (v := 7) S.1 S.2.1 dL_law_402 (by decide) ?_
              refine lv_idiv S.1 S.2.1 dL_law_404 (by decide) ?_
              refine lv_iconst (v := 2) S.1 S.2.1 dL_law_405 (by decide) ?_
              refine lv_irem S.1 S.2.1 dL_law_406 (by decide) ?_
              refine lv_iconst (v := 0) S.1 S.2.1 dL_law_407 (by decide) ?_
              refine lv_iconst (v := 0) S.1 S.2.1 dL_law_408 (by decide) ?_
              obtain ⟨⟨v182, m181⟩, hc180, h⟩ := d_b h
              have h := d_p2 h
              refine dwLj (vx_runSX (As := [.ref (dad g 0), .int 2, .int ((v2 / 5) - (v2 / 5) / 4 * 4), .int ((v2 / 7) - (v2 / 7) / 2 * 2), .int 0, .int 0]) (rest := []) S (kL_act l g hst hc180) (vx_cwSW 6 S.2.2.2.2 gL_law_L_act rfl rfl rfl ynL_act ⟨(Nat.le_of_ble_eq_true rfl), (Nat.le_of_ble_eq_true rfl)⟩) (dwS hE hP hS hb) rfl rfl hl.1 rfl (lv_room (Nat.le_of_ble_eq_true rfl)) dL_law_409 ⟨by omega, by omega⟩) hE hS hb hKs hK (fun H hP hS hb hK => ?_)
              refine lv_lconst (v := 0) S.1 S.2.1 dL_law_412 (by decide) ?_
              refine W.lcmp S.1 S.2.1 dL_law_413 ?_
              refine lv_if_ge (tgt := 625) S.1 S.2.1 dL_law_414 (by decide) (fun cq => ?_) (fun cq => ?_)
              · have h := d_t cq h
                obtain ⟨m183, hm184, h⟩ := d_b h
                refine kL_lawT hst S hE hKs ⟨by omega, by omega⟩ hm184 hP hS hb hK (lv_sub hl [2, 3, 4, 5, 6, 7] rfl) (fun H ls cl185 sl186 hccl185 hssl186 hP hS hb hK hl => ?_)
                cases h
                exact kk H ls _ _ (by omega) (by omega) hP hS hb hK (lv_sub hl [0, 1, 2, 3, 4, 5] rfl)
              · have h := d_f cq h
                cases h
      · have h := d_f cq h
        refine lv_iconst (v := 1) S.1 S.2.1 dL_law_244 (by decide) ?_
        refine lv_iload S.1 S.2.1 dL_law_245 (lv_at hl 0 rfl) ?_
        refine lv_bipush (v := 16) S.1 S.2.1 dL_law_247 (by decide) ?_
        refine lv_irem S.1 S.2.1 dL_law_249 (by decide) ?_
        refine lv_iadd S.1 S.2.1 dL_law_250 ?_
        refine lv_topi (fun v187 ev187 => ?_)
        have h := d_let ev187 h
        refine lv_istore (lv' := [(9, .int v187), (8, .int v2), (7, .int v1), (0, .ref b), (1, .ref (dad g 0)), (2, .int w2), (3, .int w3), (4, .int w4), (5, .int w5), (6, .int w6)]) S.1 S.2.1 dL_law_251 hl (by decide) rfl (fun ls hl => ?_)
        refine lv_aload_n S.1 S.2.1 dL_law_253 rfl (lv_at hl 4 rfl) ?_
        refine lv_bipush (v := 7) S.1 S.2.1 dL_law_254 (by decide) ?_
        refine lv_iload S.1 S.2.1 dL_law_256 (lv_at hl 1 rfl) ?_
        refine lv_iload_n S.1 S.2.1 dL_law_258 rfl (lv_at hl 5 rfl) ?_
        obtain ⟨hz, h⟩ := d_g h
        refine lv_irem S.1 S.2.1 dL_law_259 (of_decide_eq_true hz) ?_
        refine lv_iload S.1 S.2.1 dL_law_260 (lv_at hl 0 rfl) ?_
        refine lv_bipush (v := 60) S.1 S.2.1 dL_law_262 (by decide) ?_
        refine lv_iload S.1 S.2.1 dL_law_264 (lv_at hl 1 rfl) ?_
        refine lv_sipush (v := 181) S.1 S.2.1 dL_law_266 (by decide) ?_
        refine lv_irem S.1 S.2.1 dL_law_269 (by decide) ?_
        refine lv_iadd S.1 S.2.1 dL_law_270 ?_
        refine lv_iload S.1 S.2.1 dL_law_271 (lv_at hl 1 rfl) ?_
        refine lv_iconst (v := 2) S.1 S.2.1 dL_law_273 (by decide) ?_
        refine lv_irem S.1 S.2.1 dL_law_274 (by decide) ?_
        obtain ⟨⟨v190, m189⟩, hc188, h⟩ := d_b h
        have h := d_p2 h
        refine dwLj (vx_runSX (As := [.ref (dad g 0), .int 7, .int (v2 - v2 / w2 * w2), .int v187, .int (60 + (v2 - v2 / 181 * 181)), .int (v2 - v2 / 2 * 2)]) (rest := []) S (kL_act l g hst hc188) (vx_cwSW 6 S.2.2.2.2 gL_law_L_act rfl rfl rfl ynL_act ⟨(Nat.le_of_ble_eq_true rfl), (Nat.le_of_ble_eq_true rfl)⟩) (dwS hE hP hS hb) rfl rfl hl.1 rfl (lv_room (Nat.le_of_ble_eq_true rfl)) dL_law_275 ⟨by omega, by omega⟩) hE hS hb hKs hK (fun H hP hS hb hK => ?_)
        refine lv_lstore (lv' := [(10, .long v190), (9, .int v187), (8, .int v2), (7, .int v1), (0, .ref b), (1, .ref (dad g 0)), (2, .int w2), (3, .int w3), (4, .int w4), (5, .int w5), (6, .int w6)]) S.1 S.2.1 dL_law_278 hl (by decide) rfl (fun ls hl => ?_)
        refine lv_lload S.1 S.2.1 dL_law_280 (lv_at hl 0 rfl) ?_
        refine lv_iload_n S.1 S.2.1 dL_law_282 rfl (lv_at hl 7 rfl) ?_
        refine lv_bipush (v := 12) S.1 S.2.1 dL_law_283 (by decide) ?_
        refine W_ternj (E := (if 12 ≤ w3 then (-73) else Int32.toInt64 w3 : Int64)) (J := 296) (rest := [.long v190]) (fun v191 ev191 => ?_) (fun JJ => ?_)
        · have h := d_let ev191 h
          refine W.lcmp S.1 S.2.1 dL_law_296 ?_
          refine lv_if_eq (tgt := 302) S.1 S.2.1 dL_law_297 (by decide) (fun cq => ?_) (fun cq => ?_)
          · have h := d_t cq h
            refine lv_iload_n S.1 S.2.1 dL_law_302 rfl (lv_at hl 7 rfl) ?_
            refine W_tern (E := (if w3 = 0 then v187 else w4 : Int32)) (J := 313) (rest := []) (fun v192 ev192 => ?_) (fun JJ => ?_)
            · have h := d_let ev192 h
              refine lv_istore (lv' := [(4, .int v192), (10, .long v190), (9, .int v187), (8, .int v2), (7, .int v1), (0, .ref b), (1, .ref (dad g 0)), (2, .int w2), (3, .int w3), (5, .int w5), (6, .int w6)]) S.1 S.2.1 dL_law_313 hl (by decide) rfl (fun ls hl => ?_)
              refine lv_iload_n S.1 S.2.1 dL_law_315 rfl (lv_at hl 8 rfl) ?_
              refine lv_iload_n S.1 S.2.1 dL_law_316 rfl (lv_at hl 8 rfl) ?_
              refine lv_bipush (v := 12) S.1 S.2.1 dL_law_317 (by decide) ?_
              refine W_tern (E := (if 12 ≤ w3 then 0 else 1 : Int32)) (J := 327) (rest := [.int w3]) (fun v193 ev193 => ?_) (fun JJ => ?_)
              · have h := d_let ev193 h
                refine lv_iadd S.1 S.2.1 dL_law_327 ?_
                refine lv_topi (fun v194 ev194 => ?_)
                have h := d_let ev194 h
                refine lv_istore_n (lv' := [(3, .int v194), (4, .int v192), (10, .long v190), (9, .int v187), (8, .int v2), (7, .int v1), (0, .ref b), (1, .ref (dad g 0)), (2, .int w2), (5, .int w5), (6, .int w6)]) S.1 S.2.1 dL_law_328 rfl hl (by decide) rfl (fun ls hl => ?_)
                refine lv_goto (tgt := 625) S.1 S.2.1 dL_law_329 (by decide) ?_
                obtain ⟨m195, hm196, h⟩ := d_b h
                refine kL_lawT hst S hE hKs ⟨by omega, by omega⟩ hm196 hP hS hb hK (lv_sub hl [6, 7, 8, 0, 1, 9] rfl) (fun H ls cl197 sl198 hccl197 hssl198 hP hS hb hK hl => ?_)
                cases h
                exact kk H ls _ _ (by omega) (by omega) hP hS hb hK (lv_sub hl [0, 1, 2, 3, 4, 5] rfl)
              · refine lv_icmp_ge (tgt := 326) S.1 S.2.1 dL_law_319 (by decide) (fun cq11 => ?_) (fun cq11 => ?_)
                · refine lv_iconst (v := 0) S.1 S.2.1 dL_law_326 (by decide) ?_
                  exact JJ _ (by rw [if_pos cq11])
                · refine lv_iconst (v := 1) S.1 S.2.1 dL_law_322 (by decide) ?_
                  refine lv_goto (tgt := 327) S.1 S.2.1 dL_law_323 (by decide) ?_
                  exact JJ _ (by rw [if_neg cq11])
            · refine lv_if_ne (tgt := 311) S.1 S.2.1 dL_law_303 (by decide) (fun cq10 => ?_) (fun cq10 => ?_)
              · refine lv_iload S.1 S.2.1 dL_law_311 (lv_at hl 8 rfl) ?_
                exact JJ _ (by rw [if_neg cq10])
              · refine lv_iload S.1 S.2.1 dL_law_306 (lv_at hl 1 rfl) ?_
                refine lv_goto (tgt := 313) S.1 S.2.1 dL_law_308 (by decide) ?_
                exact JJ _ (by rw [if_pos cq10])
          · have h := d_f cq h
            cases h
        · refine lv_icmp_ge (tgt := 293) S.1 S.2.1 dL_law_285 (by decide) (fun cq9 => ?_) (fun cq9 => ?_)
          · refine lv_ldc2 (v := (-73)) S.1 S.2.1 S.2.2.2.1 (S.2.2.2.2 (.constantLong RL 108 (-73)) (List.mem_of_getElem? (i := 4) rfl)) dL_law_293 ?_
            exact JJ _ (by rw [if_pos cq9])
          · refine lv_iload_n S.1 S.2.1 dL_law_288 rfl (lv_at hl 7 rfl) ?_
            refine lv_i2l S.1 S.2.1 dL_law_289 rfl ?_
            refine lv_goto (tgt := 296) S.1 S.2.1 dL_law_290 (by decide) ?_
            exact JJ _ (by rw [if_neg cq9])
  · have h := d_f cq h
    refine lv_iload S.1 S.2.1 dL_law_78 (lv_at hl 1 rfl) ?_
    refine lv_if_ne (tgt := 120) S.1 S.2.1 dL_law_80 (by decide) (fun cq => ?_) (fun cq => ?_)
    · have h := d_f cq h
      refine lv_iload S.1 S.2.1 dL_law_120 (lv_at hl 1 rfl) ?_
      refine lv_iconst (v := 1) S.1 S.2.1 dL_law_122 (by decide) ?_
      refine lv_icmp_ne (tgt := 160) S.1 S.2.1 dL_law_123 (by decide) (fun cq => ?_) (fun cq => ?_)
      · have h := d_f cq h
        refine lv_aload_n S.1 S.2.1 dL_law_160 rfl (lv_at hl 3 rfl) ?_
        refine lv_bipush (v := 6) S.1 S.2.1 dL_law_161 (by decide) ?_
        refine lv_iload S.1 S.2.1 dL_law_163 (lv_at hl 0 rfl) ?_
        refine lv_sipush (v := 1600) S.1 S.2.1 dL_law_165 (by decide) ?_
        refine lv_irem S.1 S.2.1 dL_law_168 (by decide) ?_
        refine lv_iload S.1 S.2.1 dL_law_169 (lv_at hl 0 rfl) ?_
        refine lv_sipush (v := 800) S.1 S.2.1 dL_law_171 (by decide) ?_
        refine lv_irem S.1 S.2.1 dL_law_174 (by decide) ?_
        refine lv_iconst (v := 1) S.1 S.2.1 dL_law_175 (by decide) ?_
        refine lv_iload S.1 S.2.1 dL_law_176 (lv_at hl 0 rfl) ?_
        refine lv_bipush (v := 50) S.1 S.2.1 dL_law_178 (by decide) ?_
        refine lv_irem S.1 S.2.1 dL_law_180 (by decide) ?_
        refine lv_iadd S.1 S.2.1 dL_law_181 ?_
        refine lv_iconst (v := 0) S.1 S.2.1 dL_law_182 (by decide) ?_
        obtain ⟨⟨v201, m200⟩, hc199, h⟩ := d_b h
        have h := d_p2 h
        refine dwLj (vx_runSX (As := [.ref (dad g 0), .int 6, .int (v2 - v2 / 1600 * 1600), .int (v2 - v2 / 800 * 800), .int (1 + (v2 - v2 / 50 * 50)), .int 0]) (rest := []) S (kL_act l g hst hc199) (vx_cwSW 6 S.2.2.2.2 gL_law_L_act rfl rfl rfl ynL_act ⟨(Nat.le_of_ble_eq_true rfl), (Nat.le_of_ble_eq_true rfl)⟩) (dwS hE hP hS hb) rfl rfl hl.1 rfl (lv_room (Nat.le_of_ble_eq_true rfl)) dL_law_183 ⟨by omega, by omega⟩) hE hS hb hKs hK (fun H hP hS hb hK => ?_)
        refine lv_lstore (lv' := [(9, .long v201), (8, .int v2), (7, .int v1), (0, .ref b), (1, .ref (dad g 0)), (2, .int w2), (3, .int w3), (4, .int w4), (5, .int w5), (6, .int w6)]) S.1 S.2.1 dL_law_186 hl (by decide) rfl (fun ls hl => ?_)
        refine lv_lload S.1 S.2.1 dL_law_188 (lv_at hl 0 rfl) ?_
        refine lv_iload_n S.1 S.2.1 dL_law_190 rfl (lv_at hl 5 rfl) ?_
        refine lv_i2l S.1 S.2.1 dL_law_191 rfl ?_
        refine W.lcmp S.1 S.2.1 dL_law_192 ?_
        refine lv_if_eq (tgt := 216) S.1 S.2.1 dL_law_193 (by decide) (fun cq => ?_) (fun cq => ?_)
        · have h := d_t cq h
          refine lv_iload_n S.1 S.2.1 dL_law_216 rfl (lv_at hl 5 rfl) ?_
          refine lv_lload S.1 S.2.1 dL_law_217 (lv_at hl 0 rfl) ?_
          refine lv_lconst (v := 0) S.1 S.2.1 dL_law_219 (by decide) ?_
          refine W.lcmp S.1 S.2.1 dL_law_220 ?_
          refine W_tern (E := (if 0 ≤ (lg_cmp v201 0) then 1 else 0 : Int32)) (J := 229) (rest := [.int w2]) (fun v202 ev202 => ?_) (fun JJ => ?_)
          · have h := d_let ev202 h
            refine lv_iadd S.1 S.2.1 dL_law_229 ?_
            refine lv_topi (fun v203 ev203 => ?_)
            have h := d_let ev203 h
            refine lv_istore_n (lv' := [(2, .int v203), (9, .long v201), (8, .int v2), (7, .int v1), (0, .ref b), (1, .ref (dad g 0)), (3, .int w3), (4, .int w4), (5, .int w5), (6, .int w6)]) S.1 S.2.1 dL_law_230 rfl hl (by decide) rfl (fun ls hl => ?_)
            refine lv_goto (tgt := 625) S.1 S.2.1 dL_law_231 (by decide) ?_
            obtain ⟨m204, hm205, h⟩ := d_b h
            refine kL_lawT hst S hE hKs ⟨by omega, by omega⟩ hm205 hP hS hb hK (lv_sub hl [4, 5, 0, 6, 7, 8] rfl) (fun H ls cl206 sl207 hccl206 hssl207 hP hS hb hK hl => ?_)
            cases h
            exact kk H ls _ _ (by omega) (by omega) hP hS hb hK (lv_sub hl [0, 1, 2, 3, 4, 5] rfl)
          · refine lv_if_ge (tgt := 228) S.1 S.2.1 dL_law_221 (by decide) (fun cq12 => ?_) (fun cq12 => ?_)
            · refine lv_iconst (v := 1) S.1 S.2.1 dL_law_228 (by decide) ?_
              exact JJ _ (by rw [if_pos cq12])
            · refine lv_iconst (v := 0) S.1 S.2.1 dL_law_224 (by decide) ?_
              refine lv_goto (tgt := 229) S.1 S.2.1 dL_law_225 (by decide) ?_
              exact JJ _ (by rw [if_neg cq12])
        · have h := d_f cq h
          refine lv_lload S.1 S.2.1 dL_law_196 (lv_at hl 0 rfl) ?_
          refine lv_ldc2 (v := (-72)) S.1 S.2.1 S.2.2.2.1 (S.2.2.2.2 (.constantLong RL 104 (-72)) (List.mem_of_getElem? (i := 3) rfl)) dL_law_198 ?_
          refine W.lcmp S.1 S.2.1 dL_law_201 ?_
          refine lv_if_eq (tgt := 216) S.1 S.2.1 dL_law_202 (by decide) (fun cq => ?_) (fun cq => ?_)
          · have h := d_t cq h
            refine lv_iload_n S.1 S.2.1 dL_law_216 rfl (lv_at hl 5 rfl) ?_
            refine lv_lload S.1 S.2.1 dL_law_217 (lv_at hl 0 rfl) ?_
            refine lv_lconst (v := 0) S.1 S.2.1 dL_law_219 (by decide) ?_
            refine W.lcmp S.1 S.2.1 dL_law_220 ?_
            refine W_tern (E := (if 0 ≤ (lg_cmp v201 0) then 1 else 0 : Int32)) (J := 229) (rest := [.int w2]) (fun v208 ev208 => ?_) (fun JJ => ?_)
            · have h := d_let ev208 h
              refine lv_iadd S.1 S.2.1 dL_law_229 ?_
              refine lv_topi (fun v209 ev209 => ?_)
              have h := d_let ev209 h
              refine lv_istore_n (lv' := [(2, .int v209), (9, .long v201), (8, .int v2), (7, .int v1), (0, .ref b), (1, .ref (dad g 0)), (3, .int w3), (4, .int w4), (5, .int w5), (6, .int w6)]) S.1 S.2.1 dL_law_230 rfl hl (by decide) rfl (fun ls hl => ?_)
              refine lv_goto (tgt := 625) S.1 S.2.1 dL_law_231 (by decide) ?_
              obtain ⟨m210, hm211, h⟩ := d_b h
              refine kL_lawT hst S hE hKs ⟨by omega, by omega⟩ hm211 hP hS hb hK (lv_sub hl [4, 5, 0, 6, 7, 8] rfl) (fun H ls cl212 sl213 hccl212 hssl213 hP hS hb hK hl => ?_)
              cases h
              exact kk H ls _ _ (by omega) (by omega) hP hS hb hK (lv_sub hl [0, 1, 2, 3, 4, 5] rfl)
            · refine lv_if_ge (tgt := 228) S.1 S.2.1 dL_law_221 (by decide) (fun cq13 => ?_) (fun cq13 => ?_)
              · refine lv_iconst (v := 1) S.1 S.2.1 dL_law_228 (by decide) ?_
                exact JJ _ (by rw [if_pos cq13])
              · refine lv_iconst (v := 0) S.1 S.2.1 dL_law_224 (by decide) ?_
                refine lv_goto (tgt := 229) S.1 S.2.1 dL_law_225 (by decide) ?_
                exact JJ _ (by rw [if_neg cq13])
          · have h := d_f cq h
            refine lv_lload S.1 S.2.1 dL_law_205 (lv_at hl 0 rfl) ?_
            refine lv_ldc2 (v := (-73)) S.1 S.2.1 S.2.2.2.1 (S.2.2.2.2 (.constantLong RL 108 (-73)) (List.mem_of_getElem? (i := 4) rfl)) dL_law_207 ?_
            refine W.lcmp S.1 S.2.1 dL_law_210 ?_
            refine lv_if_eq (tgt := 216) S.1 S.2.1 dL_law_211 (by decide) (fun cq => ?_) (fun cq => ?_)
            · have h := d_t cq h
              refine lv_iload_n S.1 S.2.1 dL_law_216 rfl (lv_at hl 5 rfl) ?_
              refine lv_lload S.1 S.2.1 dL_law_217 (lv_at hl 0 rfl) ?_
              refine lv_lconst (v := 0) S.1 S.2.1 dL_law_219 (by decide) ?_
              refine W.lcmp S.1 S.2.1 dL_law_220 ?_
              refine W_tern (E := (if 0 ≤ (lg_cmp v201 0) then 1 else 0 : Int32)) (J := 229) (rest := [.int w2]) (fun v214 ev214 => ?_) (fun JJ => ?_)
              · have h := d_let ev214 h
                refine lv_iadd S.1 S.2.1 dL_law_229 ?_
                refine lv_topi (fun v215 ev215 => ?_)
                have h := d_let ev215 h
                refine lv_istore_n (lv' := [(2, .int v215), (9, .long v201), (8, .int v2), (7, .int v1), (0, .ref b), (1, .ref (dad g 0)), (3, .int w3), (4, .int w4), (5, .int w5), (6, .int w6)]) S.1 S.2.1 dL_law_230 rfl hl (by decide) rfl (fun ls hl => ?_)
                refine lv_goto (tgt := 625) S.1 S.2.1 dL_law_231 (by decide) ?_
                obtain ⟨m216, hm217, h⟩ := d_b h
                refine kL_lawT hst S hE hKs ⟨by omega, by omega⟩ hm217 hP hS hb hK (lv_sub hl [4, 5, 0, 6, 7, 8] rfl) (fun H ls cl218 sl219 hccl218 hssl219 hP hS hb hK hl => ?_)
                cases h
                exact kk H ls _ _ (by omega) (by omega) hP hS hb hK (lv_sub hl [0, 1, 2, 3, 4, 5] rfl)
              · refine lv_if_ge (tgt := 228) S.1 S.2.1 dL_law_221 (by decide) (fun cq14 => ?_) (fun cq14 => ?_)
                · refine lv_iconst (v := 1) S.1 S.2.1 dL_law_228 (by decide) ?_
                  exact JJ _ (by rw [if_pos cq14])
                · refine lv_iconst (v := 0) S.1 S.2.1 dL_law_224 (by decide) ?_
                  refine lv_goto (tgt := 229) S.1 S.2.1 dL_law_225 (by decide) ?_
                  exact JJ _ (by rw [if_neg cq14])
            · have h := d_f cq h
              cases h
      · have h := d_t cq h
        refine lv_aload_n S.1 S.2.1 dL_law_126 rfl (lv_at hl 3 rfl) ?_
        refine lv_iconst (v := 5) S.1 S.2.1 dL_law_127 (by decide) ?_
        refine lv_iload S.1 S.2.1 dL_law_128 (lv_at hl 0 rfl) ?_
        refine lv_sipush (v := 1200) S.1 S.2.1 dL_law_130 (by decide) ?_
        refine lv_irem S.1 S.2.1 dL_law_133 (by decide) ?_
        refine lv_iload S.1 S.2.1 dL_law_134 (lv_at hl 0 rfl) ?_
        refine lv_sipush (v := 800) S.1 S.2.1 dL_law_136 (by decide) ?_
        refine lv_irem S.1 S.2.1 dL_law_139 (by decide) ?_
        refine lv_iconst (v := 1) S.1 S.2.1 dL_law_140 (by decide) ?_
        refine lv_iload S.1 S.2.1 dL_law_141 (lv_at hl 0 rfl) ?_
        refine lv_bipush (v := 10) S.1 S.2.1 dL_law_143 (by decide) ?_
        refine lv_irem S.1 S.2.1 dL_law_145 (by decide) ?_
        refine lv_iadd S.1 S.2.1 dL_law_146 ?_
        refine lv_iconst (v := 1) S.1 S.2.1 dL_law_147 (by decide) ?_
        refine lv_iload S.1 S.2.1 dL_law_148 (lv_at hl 0 rfl) ?_
        refine lv_bipush (v := 40) S.1 S.2.1 dL_law_150 (by decide) ?_
        refine lv_irem S.1 S.2.1 dL_law_152 (by decide) ?_
        refine lv_iadd S.1 S.2.1 dL_law_153 ?_
        obtain ⟨⟨v222, m221⟩, hc220, h⟩ := d_b h
        have h := d_p2 h
        refine dwLj (vx_runSX (As := [.ref (dad g 0), .int 5, .int (v2 - v2 / 1200 * 1200), .int (v2 - v2 / 800 * 800), .int (1 + (v2 - v2 / 10 * 10)), .int (1 + (v2 - v2 / 40 * 40))]) (rest := []) S (kL_act l g hst hc220) (vx_cwSW 6 S.2.2.2.2 gL_law_L_act rfl rfl rfl ynL_act ⟨(Nat.le_of_ble_eq_true rfl), (Nat.le_of_ble_eq_true rfl)⟩) (dwS hE hP hS hb) rfl rfl hl.1 rfl (lv_room (Nat.le_of_ble_eq_true rfl)) dL_law_154 ⟨by omega, by omega⟩) hE hS hb hKs hK (fun H hP hS hb hK => ?_)
        refine lv_goto (tgt := 186) S.1 S.2.1 dL_law_157 (by decide) ?_
        refine lv_lstore (lv' := [(9, .long v222), (8, .int v2), (7, .int v1), (0, .ref b), (1, .ref (dad g 0)), (2, .int w2), (3, .int w3), (4, .int w4), (5, .int w5), (6, .int w6)]) S.1 S.2.1 dL_law_186 hl (by decide) rfl (fun ls hl => ?_)
        refine lv_lload S.1 S.2.1 dL_law_188 (lv_at hl 0 rfl) ?_
        refine lv_iload_n S.1 S.2.1 dL_law_190 rfl (lv_at hl 5 rfl) ?_
        refine lv_i2l S.1 S.2.1 dL_law_191 rfl ?_
        refine W.lcmp S.1 S.2.1 dL_law_192 ?_
        refine lv_if_eq (tgt := 216) S.1 S.2.1 dL_law_193 (by decide) (fun cq => ?_) (fun cq => ?_)
        · have h := d_t cq h
          refine lv_iload_n S.1 S.2.1 dL_law_216 rfl (lv_at hl 5 rfl) ?_
          refine lv_lload S.1 S.2.1 dL_law_217 (lv_at hl 0 rfl) ?_
          refine lv_lconst (v := 0) S.1 S.2.1 dL_law_219 (by decide) ?_
          refine W.lcmp S.1 S.2.1 dL_law_220 ?_
          refine W_tern (E := (if 0 ≤ (lg_cmp v222 0) then 1 else 0 : Int32)) (J := 229) (rest := [.int w2]) (fun v223 ev223 => ?_) (fun JJ => ?_)
          · have h := d_let ev223 h
            refine lv_iadd S.1 S.2.1 dL_law_229 ?_
            refine lv_topi (fun v224 ev224 => ?_)
            have h := d_let ev224 h
            refine lv_istore_n (lv' := [(2, .int v224), (9, .long v222), (8, .int v2), (7, .int v1), (0, .ref b), (1, .ref (dad g 0)), (3, .int w3), (4, .int w4), (5, .int w5), (6, .int w6)]) S.1 S.2.1 dL_law_230 rfl hl (by decide) rfl (fun ls hl => ?_)
            refine lv_goto (tgt := 625) S.1 S.2.1 dL_law_231 (by decide) ?_
            obtain ⟨m225, hm226, h⟩ := d_b h
            refine kL_lawT hst S hE hKs ⟨by omega, by omega⟩ hm226 hP hS hb hK (lv_sub hl [4, 5, 0, 6, 7, 8] rfl) (fun H ls cl227 sl228 hccl227 hssl228 hP hS hb hK hl => ?_)
            cases h
            exact kk H ls _ _ (by omega) (by omega) hP hS hb hK (lv_sub hl [0, 1, 2, 3, 4, 5] rfl)
          · refine lv_if_ge (tgt := 228) S.1 S.2.1 dL_law_221 (by decide) (fun cq15 => ?_) (fun cq15 => ?_)
            · refine lv_iconst (v := 1) S.1 S.2.1 dL_law_228 (by decide) ?_
              exact JJ _ (by rw [if_pos cq15])
            · refine lv_iconst (v := 0) S.1 S.2.1 dL_law_224 (by decide) ?_
              refine lv_goto (tgt := 229) S.1 S.2.1 dL_law_225 (by decide) ?_
              exact JJ _ (by rw [if_neg cq15])
        · have h := d_f cq h
          refine lv_lload S.1 S.2.1 dL_law_196 (lv_at hl 0 rfl) ?_
          refine lv_ldc2 (v := (-72)) S.1 S.2.1 S.2.2.2.1 (S.2.2.2.2 (.constantLong RL 104 (-72)) (List.mem_of_getElem? (i := 3) rfl)) dL_law_198 ?_
          refine W.lcmp S.1 S.2.1 dL_law_201 ?_
          refine lv_if_eq (tgt := 216) S.1 S.2.1 dL_law_202 (by decide) (fun cq => ?_) (fun cq => ?_)
          · have h := d_t cq h
            refine lv_iload_n S.1 S.2.1 dL_law_216 rfl (lv_at hl 5 rfl) ?_
            refine lv_lload S.1 S.2.1 dL_law_217 (lv_at hl 0 rfl) ?_
            refine lv_lconst (v := 0) S.1 S.2.1 dL_law_219 (by decide) ?_
            refine W.lcmp S.1 S.2.1 dL_law_220 ?_
            refine W_tern (E := (if 0 ≤ (lg_cmp v222 0) then 1 else 0 : Int32)) (J := 229) (rest := [.int w2]) (fun v229 ev229 => ?_) (fun JJ => ?_)
            · have h := d_let ev229 h
              refine lv_iadd S.1 S.2.1 dL_law_229 ?_
              refine lv_topi (fun v230 ev230 => ?_)
              have h := d_let ev230 h
              refine lv_istore_n (lv' := [(2, .int v230), (9, .long v222), (8, .int v2), (7, .int v1), (0, .ref b), (1, .ref (dad g 0)), (3, .int w3), (4, .int w4), (5, .int w5), (6, .int w6)]) S.1 S.2.1 dL_law_230 rfl hl (by decide) rfl (fun ls hl => ?_)
              refine lv_goto (tgt := 625) S.1 S.2.1 dL_law_231 (by decide) ?_
              obtain ⟨m231, hm232, h⟩ := d_b h
              refine kL_lawT hst S hE hKs ⟨by omega, by omega⟩ hm232 hP hS hb hK (lv_sub hl [4, 5, 0, 6, 7, 8] rfl) (fun H ls cl233 sl234 hccl233 hssl234 hP hS hb hK hl => ?_)
              cases h
              exact kk H ls _ _ (by omega) (by omega) hP hS hb hK (lv_sub hl [0, 1, 2, 3, 4, 5] rfl)
            · refine lv_if_ge (tgt := 228) S.1 S.2.1 dL_law_221 (by decide) (fun cq16 => ?_) (fun cq16 => ?_)
              · refine lv_iconst (v := 1) S.1 S.2.1 dL_law_228 (by decide) ?_
                exact JJ _ (by rw [if_pos cq16])
              · refine lv_iconst (v := 0) S.1 S.2.1 dL_law_224 (by decide) ?_
                refine lv_goto (tgt := 229) S.1 S.2.1 dL_law_225 (by decide) ?_
                exact JJ _ (by rw [if_neg cq16])
          · have h := d_f cq h
            refine lv_lload S.1 S.2.1 dL_law_205 (lv_at hl 0 rfl) ?_
            refine lv_ldc2 (v := (-73)) S.1 S.2.1 S.2.2.2.1 (S.2.2.2.2 (.constantLong RL 108 (-73)) (List.mem_of_getElem? (i := 4) rfl)) dL_law_207 ?_
            refine W.lcmp S.1 S.2.1 dL_law_210 ?_
            refine lv_if_eq (tgt := 216) S.1 S.2.1 dL_law_211 (by decide) (fun cq => ?_) (fun cq => ?_)
            · have h := d_t cq h
              refine lv_iload_n S.1 S.2.1 dL_law_216 rfl (lv_at hl 5 rfl) ?_
              refine lv_lload S.1 S.2.1 dL_law_217 (lv_at hl 0 rfl) ?_
              refine lv_lconst (v := 0) S.1 S.2.1 dL_law_219 (by decide) ?_
              refine W.lcmp S.1 S.2.1 dL_law_220 ?_
              refine W_tern (E := (if 0 ≤ (lg_cmp v222 0) then 1 else 0 : Int32)) (J := 229) (rest := [.int w2]) (fun v235 ev235 => ?_) (fun JJ => ?_)
              · have h := d_let ev235 h
                refine lv_iadd S.1 S.2.1 dL_law_229 ?_
                refine lv_topi (fun v236 ev236 => ?_)
                have h := d_let ev236 h
                refine lv_istore_n (lv' := [(2, .int v236), (9, .long v222), (8, .int v2), (7, .int v1), (0, .ref b), (1, .ref (dad g 0)), (3, .int w3), (4, .int w4), (5, .int w5), (6, .int w6)]) S.1 S.2.1 dL_law_230 rfl hl (by decide) rfl (fun ls hl => ?_)
                refine lv_goto (tgt := 625) S.1 S.2.1 dL_law_231 (by decide) ?_
                obtain ⟨m237, hm238, h⟩ := d_b h
                refine kL_lawT hst S hE hKs ⟨by omega, by omega⟩ hm238 hP hS hb hK (lv_sub hl [4, 5, 0, 6, 7, 8] rfl) (fun H ls cl239 sl240 hccl239 hssl240 hP hS hb hK hl => ?_)
                cases h
                exact kk H ls _ _ (by omega) (by omega) hP hS hb hK (lv_sub hl [0, 1, 2, 3, 4, 5] rfl)
              · refine lv_if_ge (tgt := 228) S.1 S.2.1 dL_law_221 (by decide) (fun cq17 => ?_) (fun cq17 => ?_)
                · refine lv_iconst (v := 1) S.1 S.2.1 dL_law_228 (by decide) ?_
                  exact JJ _ (by rw [if_pos cq17])
                · refine lv_iconst (v := 0) S.1 S.2.1 dL_law_224 (by decide) ?_
                  refine lv_goto (tgt := 229) S.1 S.2.1 dL_law_225 (by decide) ?_
                  exact JJ _ (by rw [if_neg cq17])
            · have h := d_f cq h
              cases h
    · have h := d_t cq h
      refine lv_aload_n S.1 S.2.1 dL_law_83 rfl (lv_at hl 3 rfl) ?_
      refine lv_iconst (v := 4) S.1 S.2.1 dL_law_84 (by decide) ?_
      refine lv_iload S.1 S.2.1 dL_law_85 (lv_at hl 0 rfl) ?_
      refine lv_sipush (v := 1601) S.1 S.2.1 dL_law_87 (by decide) ?_
      refine lv_irem S.1 S.2.1 dL_law_90 (by decide) ?_
      refine lv_iload S.1 S.2.1 dL_law_91 (lv_at hl 0 rfl) ?_
      refine lv_sipush (v := 841) S.1 S.2.1 dL_law_93 (by decide) ?_
      refine lv_irem S.1 S.2.1 dL_law_96 (by decide) ?_
      refine lv_iload S.1 S.2.1 dL_law_97 (lv_at hl 0 rfl) ?_
      refine lv_bipush (v := 7) S.1 S.2.1 dL_law_99 (by decide) ?_
      refine lv_idiv S.1 S.2.1 dL_law_101 (by decide) ?_
      refine lv_sipush (v := 1601) S.1 S.2.1 dL_law_102 (by decide) ?_
      refine lv_irem S.1 S.2.1 dL_law_105 (by decide) ?_
      refine lv_iload S.1 S.2.1 dL_law_106 (lv_at hl 0 rfl) ?_
      refine lv_iconst (v := 3) S.1 S.2.1 dL_law_108 (by decide) ?_
      refine lv_idiv S.1 S.2.1 dL_law_109 (by decide) ?_
      refine lv_sipush (v := 841) S.1 S.2.1 dL_law_110 (by decide) ?_
      refine lv_irem S.1 S.2.1 dL_law_113 (by decide) ?_
      obtain ⟨⟨v243, m242⟩, hc241, h⟩ := d_b h
      have h := d_p2 h
      refine dwLj (vx_runSX (As := [.ref (dad g 0), .int 4, .int (v2 - v2 / 1601 * 1601), .int (v2 - v2 / 841 * 841), .int ((v2 / 7) - (v2 / 7) / 1601 * 1601), .int ((v2 / 3) - (v2 / 3) / 841 * 841)]) (rest := []) S (kL_act l g hst hc241) (vx_cwSW 6 S.2.2.2.2 gL_law_L_act rfl rfl rfl ynL_act ⟨(Nat.le_of_ble_eq_true rfl), (Nat.le_of_ble_eq_true rfl)⟩) (dwS hE hP hS hb) rfl rfl hl.1 rfl (lv_room (Nat.le_of_ble_eq_true rfl)) dL_law_114 ⟨by omega, by omega⟩) hE hS hb hKs hK (fun H hP hS hb hK => ?_)
      refine lv_goto (tgt := 186) S.1 S.2.1 dL_law_117 (by decide) ?_
      refine lv_lstore (lv' := [(9, .long v243), (8, .int v2), (7, .int v1), (0, .ref b), (1, .ref (dad g 0)), (2, .int w2), (3, .int w3), (4, .int w4), (5, .int w5), (6, .int w6)]) S.1 S.2.1 dL_law_186 hl (by decide) rfl (fun ls hl => ?_)
      refine lv_lload S.1 S.2.1 dL_law_188 (lv_at hl 0 rfl) ?_
      refine lv_iload_n S.1 S.2.1 dL_law_190 rfl (lv_at hl 5 rfl) ?_
      refine lv_i2l S.1 S.2.1 dL_law_191 rfl ?_
      refine W.lcmp S.1 S.2.1 dL_law_192 ?_
      refine lv_if_eq (tgt := 216) S.1 S.2.1 dL_law_193 (by decide) (fun cq => ?_) (fun cq => ?_)
      · have h := d_t cq h
        refine lv_iload_n S.1 S.2.1 dL_law_216 rfl (lv_at hl 5 rfl) ?_
        refine lv_lload S.1 S.2.1 dL_law_217 (lv_at hl 0 rfl) ?_
        refine lv_lconst (v := 0) S.1 S.2.1 dL_law_219 (by decide) ?_
        refine W.lcmp S.1 S.2.1 dL_law_220 ?_
        refine W_tern (E := (if 0 ≤ (lg_cmp v243 0) then 1 else 0 : Int32)) (J := 229) (rest := [.int w2]) (fun v244 ev244 => ?_) (fun JJ => ?_)
        · have h := d_let ev244 h
          refine lv_iadd S.1 S.2.1 dL_law_229 ?_
          refine lv_topi (fun v245 ev245 => ?_)
          have h := d_let ev245 h
          refine lv_istore_n (lv' := [(2, .int v245), (9, .long v243), (8, .int v2), (7, .int v1), (0, .ref b), (1, .ref (dad g 0)), (3, .int w3), (4, .int w4), (5, .int w5), (6, .int w6)]) S.1 S.2.1 dL_law_230 rfl hl (by decide) rfl (fun ls hl => ?_)
          refine lv_goto (tgt := 625) S.1 S.2.1 dL_law_231 (by decide) ?_
          obtain ⟨m246, hm247, h⟩ := d_b h
          refine kL_lawT hst S hE hKs ⟨by omega, by omega⟩ hm247 hP hS hb hK (lv_sub hl [4, 5, 0, 6, 7, 8] rfl) (fun H ls cl248 sl249 hccl248 hssl249 hP hS hb hK hl => ?_)
          cases h
          exact kk H ls _ _ (by omega) (by omega) hP hS hb hK (lv_sub hl [0, 1, 2, 3, 4, 5] rfl)
        · refine lv_if_ge (tgt := 228) S.1 S.2.1 dL_law_221 (by decide) (fun cq18 => ?_) (fun cq18 => ?_)
          · refine lv_iconst (v := 1) S.1 S.2.1 dL_law_228 (by decide) ?_
            exact JJ _ (by rw [if_pos cq18])
          · refine lv_iconst (v := 0) S.1 S.2.1 dL_law_224 (by decide) ?_
            refine lv_goto (tgt := 229) S.1 S.2.1 dL_law_225 (by decide) ?_
            exact JJ _ (by rw [if_neg cq18])
      · have h := d_f cq h
        refine lv_lload S.1 S.2.1 dL_law_196 (lv_at hl 0 rfl) ?_
        refine lv_ldc2 (v := (-72)) S.1 S.2.1 S.2.2.2.1 (S.2.2.2.2 (.constantLong RL 104 (-72)) (List.mem_of_getElem? (i := 3) rfl)) dL_law_198 ?_
        refine W.lcmp S.1 S.2.1 dL_law_201 ?_
        refine lv_if_eq (tgt := 216) S.1 S.2.1 dL_law_202 (by decide) (fun cq => ?_) (fun cq => ?_)
        · have h := d_t cq h
          refine lv_iload_n S.1 S.2.1 dL_law_216 rfl (lv_at hl 5 rfl) ?_
          refine lv_lload S.1 S.2.1 dL_law_217 (lv_at hl 0 rfl) ?_
          refine lv_lconst (v := 0) S.1 S.2.1 dL_law_219 (by decide) ?_
          refine W.lcmp S.1 S.2.1 dL_law_220 ?_
          refine W_tern (E := (if 0 ≤ (lg_cmp v243 0) then 1 else 0 : Int32)) (J := 229) (rest := [.int w2]) (fun v250 ev250 => ?_) (fun JJ => ?_)
          · have h := d_let ev250 h
            refine lv_iadd S.1 S.2.1 dL_law_229 ?_
            refine lv_topi (fun v251 ev251 => ?_)
            have h := d_let ev251 h
            refine lv_istore_n (lv' := [(2, .int v251), (9, .long v243), (8, .int v2), (7, .int v1), (0, .ref b), (1, .ref (dad g 0)), (3, .int w3), (4, .int w4), (5, .int w5), (6, .int w6)]) S.1 S.2.1 dL_law_230 rfl hl (by decide) rfl (fun ls hl => ?_)
            refine lv_goto (tgt := 625) S.1 S.2.1 dL_law_231 (by decide) ?_
            obtain ⟨m252, hm253, h⟩ := d_b h
            refine kL_lawT hst S hE hKs ⟨by omega, by omega⟩ hm253 hP hS hb hK (lv_sub hl [4, 5, 0, 6, 7, 8] rfl) (fun H ls cl254 sl255 hccl254 hssl255 hP hS hb hK hl => ?_)
            cases h
            exact kk H ls _ _ (by omega) (by omega) hP hS hb hK (lv_sub hl [0, 1, 2, 3, 4, 5] rfl)
          · refine lv_if_ge (tgt := 228) S.1 S.2.1 dL_law_221 (by decide) (fun cq19 => ?_) (fun cq19 => ?_)
            · refine lv_iconst (v := 1) S.1 S.2.1 dL_law_228 (by decide) ?_
              exact JJ _ (by rw [if_pos cq19])
            · refine lv_iconst (v := 0) S.1 S.2.1 dL_law_224 (by decide) ?_
              refine lv_goto (tgt := 229) S.1 S.2.1 dL_law_225 (by decide) ?_
              exact JJ _ (by rw [if_neg cq19])
        · have h := d_f cq h
          refine lv_lload S.1 S.2.1 dL_law_205 (lv_at hl 0 rfl) ?_
          refine lv_ldc2 (v := (-73)) S.1 S.2.1 S.2.2.2.1 (S.2.2.2.2 (.constantLong RL 108 (-73)) (List.mem_of_getElem? (i := 4) rfl)) dL_law_207 ?_
          refine W.lcmp S.1 S.2.1 dL_law_210 ?_
          refine lv_if_eq (tgt := 216) S.1 S.2.1 dL_law_211 (by decide) (fun cq => ?_) (fun cq => ?_)
          · have h := d_t cq h
            refine lv_iload_n S.1 S.2.1 dL_law_216 rfl (lv_at hl 5 rfl) ?_
            refine lv_lload S.1 S.2.1 dL_law_217 (lv_at hl 0 rfl) ?_
            refine lv_lconst (v := 0) S.1 S.2.1 dL_law_219 (by decide) ?_
            refine W.lcmp S.1 S.2.1 dL_law_220 ?_
            refine W_tern (E := (if 0 ≤ (lg_cmp v243 0) then 1 else 0 : Int32)) (J := 229) (rest := [.int w2]) (fun v256 ev256 => ?_) (fun JJ => ?_)
            · have h := d_let ev256 h
              refine lv_iadd S.1 S.2.1 dL_law_229 ?_
              refine lv_topi (fun v257 ev257 => ?_)
              have h := d_let ev257 h
              refine lv_istore_n (lv' := [(2, .int v257), (9, .long v243), (8, .int v2), (7, .int v1), (0, .ref b), (1, .ref (dad g 0)), (3, .int w3), (4, .int w4), (5, .int w5), (6, .int w6)]) S.1 S.2.1 dL_law_230 rfl hl (by decide) rfl (fun ls hl => ?_)
              refine lv_goto (tgt := 625) S.1 S.2.1 dL_law_231 (by decide) ?_
              obtain ⟨m258, hm259, h⟩ := d_b h
              refine kL_lawT hst S hE hKs ⟨by omega, by omega⟩ hm259 hP hS hb hK (lv_sub hl [4, 5, 0, 6, 7, 8] rfl) (fun H ls cl260 sl261 hccl260 hssl261 hP hS hb hK hl => ?_)
              cases h
              exact kk H ls _ _ (by omega) (by omega) hP hS hb hK (lv_sub hl [0, 1, 2, 3, 4, 5] rfl)
            · refine lv_if_ge (tgt := 228) S.1 S.2.1 dL_law_221 (by decide) (fun cq20 => ?_) (fun cq20 => ?_)
              · refine lv_iconst (v := 1) S.1 S.2.1 dL_law_228 (by decide) ?_
                exact JJ _ (by rw [if_pos cq20])
              · refine lv_iconst (v := 0) S.1 S.2.1 dL_law_224 (by decide) ?_
                refine lv_goto (tgt := 229) S.1 S.2.1 dL_law_225 (by decide) ?_
                exact JJ _ (by rw [if_neg cq20])
          · have h := d_f cq h
            cases h
