/-! the law: its code -/
theorem dL_law_0 : decode code 0 = .ok (.iconst 0, 1) := by decide +kernel
theorem dL_law_1 : decode code 1 = .ok (.istore_n 1, 1) := by decide +kernel
theorem dL_law_2 : decode code 2 = .ok (.iload_n 1, 1) := by decide +kernel
theorem dL_law_3 : decode code 3 = .ok (.iconst 3, 1) := by decide +kernel
theorem dL_law_4 : decode code 4 = .ok (.if_icmp .ge 887, 3) := by decide +kernel
theorem dL_law_7 : decode code 7 = .ok (.new 9, 3) := by decide +kernel
theorem dL_law_10 : decode code 10 = .ok (.dup, 1) := by decide +kernel
theorem dL_law_11 : decode code 11 = .ok (.aload_n 0, 1) := by decide +kernel
theorem dL_law_12 : decode code 12 = .ok (.bipush 31, 2) := by decide +kernel
theorem dL_law_14 : decode code 14 = .ok (.iload_n 1, 1) := by decide +kernel
theorem dL_law_15 : decode code 15 = .ok (.imul, 1) := by decide +kernel
theorem dL_law_16 : decode code 16 = .ok (.bipush 7, 2) := by decide +kernel
theorem dL_law_18 : decode code 18 = .ok (.iadd, 1) := by decide +kernel
theorem dL_law_19 : decode code 19 = .ok (.invokespecial 11, 3) := by decide +kernel
theorem dL_law_22 : decode code 22 = .ok (.astore_n 2, 1) := by decide +kernel
theorem dL_law_23 : decode code 23 = .ok (.aload_n 2, 1) := by decide +kernel
theorem dL_law_24 : decode code 24 = .ok (.getfield 14, 3) := by decide +kernel
theorem dL_law_27 : decode code 27 = .ok (.astore_n 3, 1) := by decide +kernel
theorem dL_law_28 : decode code 28 = .ok (.aload_n 2, 1) := by decide +kernel
theorem dL_law_29 : decode code 29 = .ok (.invokevirtual 18, 3) := by decide +kernel
theorem dL_law_32 : decode code 32 = .ok (.ifCond .ne 5, 3) := by decide +kernel
theorem dL_law_35 : decode code 35 = .ok (.iconst 0, 1) := by decide +kernel
theorem dL_law_36 : decode code 36 = .ok (.ireturn, 1) := by decide +kernel
theorem dL_law_37 : decode code 37 = .ok (.iconst 0, 1) := by decide +kernel
theorem dL_law_38 : decode code 38 = .ok (.istore 4, 2) := by decide +kernel
theorem dL_law_40 : decode code 40 = .ok (.iload 4, 2) := by decide +kernel
theorem dL_law_42 : decode code 42 = .ok (.iconst 4, 1) := by decide +kernel
theorem dL_law_43 : decode code 43 = .ok (.if_icmp .ge 842, 3) := by decide +kernel
theorem dL_law_46 : decode code 46 = .ok (.aload_n 2, 1) := by decide +kernel
theorem dL_law_47 : decode code 47 = .ok (.invokevirtual 22, 3) := by decide +kernel
theorem dL_law_50 : decode code 50 = .ok (.ifCond .ne 5, 3) := by decide +kernel
theorem dL_law_53 : decode code 53 = .ok (.iconst 0, 1) := by decide +kernel
theorem dL_law_54 : decode code 54 = .ok (.ireturn, 1) := by decide +kernel
theorem dL_law_55 : decode code 55 = .ok (.iconst 0, 1) := by decide +kernel
theorem dL_law_56 : decode code 56 = .ok (.istore 5, 2) := by decide +kernel
theorem dL_law_58 : decode code 58 = .ok (.iload 5, 2) := by decide +kernel
theorem dL_law_60 : decode code 60 = .ok (.bipush 6, 2) := by decide +kernel
theorem dL_law_62 : decode code 62 = .ok (.if_icmp .ge 25, 3) := by decide +kernel
theorem dL_law_65 : decode code 65 = .ok (.aload_n 2, 1) := by decide +kernel
theorem dL_law_66 : decode code 66 = .ok (.invokevirtual 25, 3) := by decide +kernel
theorem dL_law_69 : decode code 69 = .ok (.ifCond .eq 10, 3) := by decide +kernel
theorem dL_law_72 : decode code 72 = .ok (.aload_n 2, 1) := by decide +kernel
theorem dL_law_73 : decode code 73 = .ok (.invokevirtual 28, 3) := by decide +kernel
theorem dL_law_76 : decode code 76 = .ok (.ifCond .ne 5, 3) := by decide +kernel
theorem dL_law_79 : decode code 79 = .ok (.iconst 0, 1) := by decide +kernel
theorem dL_law_80 : decode code 80 = .ok (.ireturn, 1) := by decide +kernel
theorem dL_law_81 : decode code 81 = .ok (.iinc 5 1, 3) := by decide +kernel
theorem dL_law_84 : decode code 84 = .ok (.goto (-26), 3) := by decide +kernel
theorem dL_law_87 : decode code 87 = .ok (.aload_n 3, 1) := by decide +kernel
theorem dL_law_88 : decode code 88 = .ok (.invokevirtual 31, 3) := by decide +kernel
theorem dL_law_91 : decode code 91 = .ok (.lstore 5, 2) := by decide +kernel
theorem dL_law_93 : decode code 93 = .ok (.iconst 0, 1) := by decide +kernel
theorem dL_law_94 : decode code 94 = .ok (.istore 7, 2) := by decide +kernel
theorem dL_law_96 : decode code 96 = .ok (.iconst 0, 1) := by decide +kernel
theorem dL_law_97 : decode code 97 = .ok (.istore 8, 2) := by decide +kernel
theorem dL_law_99 : decode code 99 = .ok (.iload 8, 2) := by decide +kernel
theorem dL_law_101 : decode code 101 = .ok (.aload_n 2, 1) := by decide +kernel
theorem dL_law_102 : decode code 102 = .ok (.getfield 37, 3) := by decide +kernel
theorem dL_law_105 : decode code 105 = .ok (.if_icmp .ge 753, 3) := by decide +kernel
theorem dL_law_108 : decode code 108 = .ok (.aload_n 2, 1) := by decide +kernel
theorem dL_law_109 : decode code 109 = .ok (.getfield 41, 3) := by decide +kernel
theorem dL_law_112 : decode code 112 = .ok (.iload 8, 2) := by decide +kernel
theorem dL_law_114 : decode code 114 = .ok (.aaload, 1) := by decide +kernel
theorem dL_law_115 : decode code 115 = .ok (.iconst 1, 1) := by decide +kernel
theorem dL_law_116 : decode code 116 = .ok (.iaload, 1) := by decide +kernel
theorem dL_law_117 : decode code 117 = .ok (.istore 9, 2) := by decide +kernel
theorem dL_law_119 : decode code 119 = .ok (.iconst 0, 1) := by decide +kernel
theorem dL_law_120 : decode code 120 = .ok (.istore 10, 2) := by decide +kernel
theorem dL_law_122 : decode code 122 = .ok (.iconst 0, 1) := by decide +kernel
theorem dL_law_123 : decode code 123 = .ok (.istore 11, 2) := by decide +kernel
theorem dL_law_125 : decode code 125 = .ok (.iload 11, 2) := by decide +kernel
theorem dL_law_127 : decode code 127 = .ok (.bipush 12, 2) := by decide +kernel
theorem dL_law_129 : decode code 129 = .ok (.if_icmp .ge 215, 3) := by decide +kernel
theorem dL_law_132 : decode code 132 = .ok (.aload_n 2, 1) := by decide +kernel
theorem dL_law_133 : decode code 133 = .ok (.bipush 10, 2) := by decide +kernel
theorem dL_law_135 : decode code 135 = .ok (.invokevirtual 45, 3) := by decide +kernel
theorem dL_law_138 : decode code 138 = .ok (.istore 12, 2) := by decide +kernel
theorem dL_law_140 : decode code 140 = .ok (.aload_n 2, 1) := by decide +kernel
theorem dL_law_141 : decode code 141 = .ok (.bipush 10, 2) := by decide +kernel
theorem dL_law_143 : decode code 143 = .ok (.invokevirtual 45, 3) := by decide +kernel
theorem dL_law_146 : decode code 146 = .ok (.istore 13, 2) := by decide +kernel
theorem dL_law_148 : decode code 148 = .ok (.aload_n 3, 1) := by decide +kernel
theorem dL_law_149 : decode code 149 = .ok (.iload 8, 2) := by decide +kernel
theorem dL_law_151 : decode code 151 = .ok (.iload 11, 2) := by decide +kernel
theorem dL_law_153 : decode code 153 = .ok (.iload 12, 2) := by decide +kernel
theorem dL_law_155 : decode code 155 = .ok (.iload 13, 2) := by decide +kernel
theorem dL_law_157 : decode code 157 = .ok (.invokevirtual 49, 3) := by decide +kernel
theorem dL_law_160 : decode code 160 = .ok (.istore 14, 2) := by decide +kernel
theorem dL_law_162 : decode code 162 = .ok (.aload_n 3, 1) := by decide +kernel
theorem dL_law_163 : decode code 163 = .ok (.iload 8, 2) := by decide +kernel
theorem dL_law_165 : decode code 165 = .ok (.iload 11, 2) := by decide +kernel
theorem dL_law_167 : decode code 167 = .ok (.iload 12, 2) := by decide +kernel
theorem dL_law_169 : decode code 169 = .ok (.iload 13, 2) := by decide +kernel
theorem dL_law_171 : decode code 171 = .ok (.invokevirtual 53, 3) := by decide +kernel
theorem dL_law_174 : decode code 174 = .ok (.istore 15, 2) := by decide +kernel
theorem dL_law_176 : decode code 176 = .ok (.iload 14, 2) := by decide +kernel
theorem dL_law_178 : decode code 178 = .ok (.ifCond .lt 64, 3) := by decide +kernel
theorem dL_law_181 : decode code 181 = .ok (.iload 14, 2) := by decide +kernel
theorem dL_law_183 : decode code 183 = .ok (.iload 9, 2) := by decide +kernel
theorem dL_law_185 : decode code 185 = .ok (.if_icmp .ge 57, 3) := by decide +kernel
theorem dL_law_188 : decode code 188 = .ok (.iload 15, 2) := by decide +kernel
theorem dL_law_190 : decode code 190 = .ok (.ifCond .lt 52, 3) := by decide +kernel
theorem dL_law_193 : decode code 193 = .ok (.iload 15, 2) := by decide +kernel
theorem dL_law_195 : decode code 195 = .ok (.bipush 8, 2) := by decide +kernel
theorem dL_law_197 : decode code 197 = .ok (.if_icmp .gt 45, 3) := by decide +kernel
theorem dL_law_200 : decode code 200 = .ok (.iload 14, 2) := by decide +kernel
theorem dL_law_202 : decode code 202 = .ok (.ifCond .eq 22, 3) := by decide +kernel
theorem dL_law_205 : decode code 205 = .ok (.iload 15, 2) := by decide +kernel
theorem dL_law_207 : decode code 207 = .ok (.iconst 2, 1) := by decide +kernel
theorem dL_law_208 : decode code 208 = .ok (.if_icmp .lt 34, 3) := by decide +kernel
theorem dL_law_211 : decode code 211 = .ok (.iload 15, 2) := by decide +kernel
theorem dL_law_213 : decode code 213 = .ok (.iconst 3, 1) := by decide +kernel
theorem dL_law_214 : decode code 214 = .ok (.if_icmp .le 10, 3) := by decide +kernel
theorem dL_law_217 : decode code 217 = .ok (.iload 15, 2) := by decide +kernel
theorem dL_law_219 : decode code 219 = .ok (.bipush 8, 2) := by decide +kernel
theorem dL_law_221 : decode code 221 = .ok (.if_icmp .lt 21, 3) := by decide +kernel
theorem dL_law_224 : decode code 224 = .ok (.iload 15, 2) := by decide +kernel
theorem dL_law_226 : decode code 226 = .ok (.bipush 8, 2) := by decide +kernel
theorem dL_law_228 : decode code 228 = .ok (.if_icmp .ne 16, 3) := by decide +kernel
theorem dL_law_231 : decode code 231 = .ok (.aload_n 3, 1) := by decide +kernel
theorem dL_law_232 : decode code 232 = .ok (.iload 8, 2) := by decide +kernel
theorem dL_law_234 : decode code 234 = .ok (.iload 14, 2) := by decide +kernel
theorem dL_law_236 : decode code 236 = .ok (.invokevirtual 56, 3) := by decide +kernel
theorem dL_law_239 : decode code 239 = .ok (.ifCond .ne 5, 3) := by decide +kernel
theorem dL_law_242 : decode code 242 = .ok (.iconst 0, 1) := by decide +kernel
theorem dL_law_243 : decode code 243 = .ok (.ireturn, 1) := by decide +kernel
theorem dL_law_244 : decode code 244 = .ok (.aload_n 2, 1) := by decide +kernel
theorem dL_law_245 : decode code 245 = .ok (.getfield 41, 3) := by decide +kernel
theorem dL_law_248 : decode code 248 = .ok (.iload 8, 2) := by decide +kernel
theorem dL_law_250 : decode code 250 = .ok (.aaload, 1) := by decide +kernel
theorem dL_law_251 : decode code 251 = .ok (.iconst 3, 1) := by decide +kernel
theorem dL_law_252 : decode code 252 = .ok (.iaload, 1) := by decide +kernel
theorem dL_law_253 : decode code 253 = .ok (.ifCond .ne 7, 3) := by decide +kernel
theorem dL_law_256 : decode code 256 = .ok (.iconst 1, 1) := by decide +kernel
theorem dL_law_257 : decode code 257 = .ok (.goto 4, 3) := by decide +kernel
theorem dL_law_260 : decode code 260 = .ok (.iconst 0, 1) := by decide +kernel
theorem dL_law_261 : decode code 261 = .ok (.iload 15, 2) := by decide +kernel
theorem dL_law_263 : decode code 263 = .ok (.ifCond .ne 7, 3) := by decide +kernel
theorem dL_law_266 : decode code 266 = .ok (.iconst 1, 1) := by decide +kernel
theorem dL_law_267 : decode code 267 = .ok (.goto 4, 3) := by decide +kernel
theorem dL_law_270 : decode code 270 = .ok (.iconst 0, 1) := by decide +kernel
theorem dL_law_271 : decode code 271 = .ok (.if_icmp .ne 65, 3) := by decide +kernel
theorem dL_law_274 : decode code 274 = .ok (.iload 15, 2) := by decide +kernel
theorem dL_law_276 : decode code 276 = .ok (.iconst 3, 1) := by decide +kernel
theorem dL_law_277 : decode code 277 = .ok (.if_icmp .ne 18, 3) := by decide +kernel
theorem dL_law_280 : decode code 280 = .ok (.aload_n 3, 1) := by decide +kernel
theorem dL_law_281 : decode code 281 = .ok (.iload 8, 2) := by decide +kernel
theorem dL_law_283 : decode code 283 = .ok (.iload 11, 2) := by decide +kernel
theorem dL_law_285 : decode code 285 = .ok (.iload 12, 2) := by decide +kernel
theorem dL_law_287 : decode code 287 = .ok (.iload 13, 2) := by decide +kernel
theorem dL_law_289 : decode code 289 = .ok (.invokevirtual 60, 3) := by decide +kernel
theorem dL_law_292 : decode code 292 = .ok (.ifCond .lt 44, 3) := by decide +kernel
theorem dL_law_295 : decode code 295 = .ok (.iload 15, 2) := by decide +kernel
theorem dL_law_297 : decode code 297 = .ok (.bipush 7, 2) := by decide +kernel
theorem dL_law_299 : decode code 299 = .ok (.if_icmp .ne 18, 3) := by decide +kernel
theorem dL_law_302 : decode code 302 = .ok (.aload_n 3, 1) := by decide +kernel
theorem dL_law_303 : decode code 303 = .ok (.iload 8, 2) := by decide +kernel
theorem dL_law_305 : decode code 305 = .ok (.iload 11, 2) := by decide +kernel
theorem dL_law_307 : decode code 307 = .ok (.iload 12, 2) := by decide +kernel
theorem dL_law_309 : decode code 309 = .ok (.iload 13, 2) := by decide +kernel
theorem dL_law_311 : decode code 311 = .ok (.invokevirtual 60, 3) := by decide +kernel
theorem dL_law_314 : decode code 314 = .ok (.ifCond .ge 22, 3) := by decide +kernel
theorem dL_law_317 : decode code 317 = .ok (.iload 15, 2) := by decide +kernel
theorem dL_law_319 : decode code 319 = .ok (.iconst 2, 1) := by decide +kernel
theorem dL_law_320 : decode code 320 = .ok (.if_icmp .ne 18, 3) := by decide +kernel
theorem dL_law_323 : decode code 323 = .ok (.aload_n 3, 1) := by decide +kernel
theorem dL_law_324 : decode code 324 = .ok (.iload 8, 2) := by decide +kernel
theorem dL_law_326 : decode code 326 = .ok (.iload 11, 2) := by decide +kernel
theorem dL_law_328 : decode code 328 = .ok (.invokevirtual 63, 3) := by decide +kernel
theorem dL_law_331 : decode code 331 = .ok (.iload 14, 2) := by decide +kernel
theorem dL_law_333 : decode code 333 = .ok (.if_icmp .eq 5, 3) := by decide +kernel
theorem dL_law_336 : decode code 336 = .ok (.iconst 0, 1) := by decide +kernel
theorem dL_law_337 : decode code 337 = .ok (.ireturn, 1) := by decide +kernel
theorem dL_law_338 : decode code 338 = .ok (.iinc 11 1, 3) := by decide +kernel
theorem dL_law_341 : decode code 341 = .ok (.goto (-216), 3) := by decide +kernel
theorem dL_law_344 : decode code 344 = .ok (.iconst 0, 1) := by decide +kernel
theorem dL_law_345 : decode code 345 = .ok (.istore 11, 2) := by decide +kernel
theorem dL_law_347 : decode code 347 = .ok (.iload 11, 2) := by decide +kernel
theorem dL_law_349 : decode code 349 = .ok (.iload 9, 2) := by decide +kernel
theorem dL_law_351 : decode code 351 = .ok (.if_icmp .ge 148, 3) := by decide +kernel
theorem dL_law_354 : decode code 354 = .ok (.iload 10, 2) := by decide +kernel
theorem dL_law_356 : decode code 356 = .ok (.aload_n 3, 1) := by decide +kernel
theorem dL_law_357 : decode code 357 = .ok (.iload 8, 2) := by decide +kernel
theorem dL_law_359 : decode code 359 = .ok (.iload 11, 2) := by decide +kernel
theorem dL_law_361 : decode code 361 = .ok (.bipush 20, 2) := by decide +kernel
theorem dL_law_363 : decode code 363 = .ok (.invokevirtual 66, 3) := by decide +kernel
theorem dL_law_366 : decode code 366 = .ok (.iadd, 1) := by decide +kernel
theorem dL_law_367 : decode code 367 = .ok (.istore 10, 2) := by decide +kernel
theorem dL_law_369 : decode code 369 = .ok (.iload 7, 2) := by decide +kernel
theorem dL_law_371 : decode code 371 = .ok (.aload_n 3, 1) := by decide +kernel
theorem dL_law_372 : decode code 372 = .ok (.iload 8, 2) := by decide +kernel
theorem dL_law_374 : decode code 374 = .ok (.iload 11, 2) := by decide +kernel
theorem dL_law_376 : decode code 376 = .ok (.iconst 0, 1) := by decide +kernel
theorem dL_law_377 : decode code 377 = .ok (.invokevirtual 70, 3) := by decide +kernel
theorem dL_law_380 : decode code 380 = .ok (.iadd, 1) := by decide +kernel
theorem dL_law_381 : decode code 381 = .ok (.istore 7, 2) := by decide +kernel
theorem dL_law_383 : decode code 383 = .ok (.aload_n 3, 1) := by decide +kernel
theorem dL_law_384 : decode code 384 = .ok (.iload 8, 2) := by decide +kernel
theorem dL_law_386 : decode code 386 = .ok (.iload 11, 2) := by decide +kernel
theorem dL_law_388 : decode code 388 = .ok (.iconst 1, 1) := by decide +kernel
theorem dL_law_389 : decode code 389 = .ok (.invokevirtual 70, 3) := by decide +kernel
theorem dL_law_392 : decode code 392 = .ok (.aload_n 3, 1) := by decide +kernel
theorem dL_law_393 : decode code 393 = .ok (.iload 8, 2) := by decide +kernel
theorem dL_law_395 : decode code 395 = .ok (.iload 11, 2) := by decide +kernel
theorem dL_law_397 : decode code 397 = .ok (.iconst 0, 1) := by decide +kernel
theorem dL_law_398 : decode code 398 = .ok (.invokevirtual 70, 3) := by decide +kernel
theorem dL_law_401 : decode code 401 = .ok (.if_icmp .gt 90, 3) := by decide +kernel
theorem dL_law_404 : decode code 404 = .ok (.aload_n 3, 1) := by decide +kernel
theorem dL_law_405 : decode code 405 = .ok (.iload 8, 2) := by decide +kernel
theorem dL_law_407 : decode code 407 = .ok (.iload 11, 2) := by decide +kernel
theorem dL_law_409 : decode code 409 = .ok (.iconst 2, 1) := by decide +kernel
theorem dL_law_410 : decode code 410 = .ok (.invokevirtual 70, 3) := by decide +kernel
theorem dL_law_413 : decode code 413 = .ok (.ifCond .lt 78, 3) := by decide +kernel
theorem dL_law_416 : decode code 416 = .ok (.aload_n 3, 1) := by decide +kernel
theorem dL_law_417 : decode code 417 = .ok (.iload 8, 2) := by decide +kernel
theorem dL_law_419 : decode code 419 = .ok (.iload 11, 2) := by decide +kernel
theorem dL_law_421 : decode code 421 = .ok (.invokevirtual 73, 3) := by decide +kernel
theorem dL_law_424 : decode code 424 = .ok (.dconst 0, 1) := by decide +kernel
theorem dL_law_425 : decode code 425 = .ok (.dcmp .g, 1) := by decide +kernel
theorem dL_law_426 : decode code 426 = .ok (.ifCond .lt 65, 3) := by decide +kernel
theorem dL_law_429 : decode code 429 = .ok (.aload_n 3, 1) := by decide +kernel
theorem dL_law_430 : decode code 430 = .ok (.iload 8, 2) := by decide +kernel
theorem dL_law_432 : decode code 432 = .ok (.iload 11, 2) := by decide +kernel
theorem dL_law_434 : decode code 434 = .ok (.invokevirtual 73, 3) := by decide +kernel
theorem dL_law_437 : decode code 437 = .ok (.aload_n 3, 1) := by decide +kernel
theorem dL_law_438 : decode code 438 = .ok (.iload 8, 2) := by decide +kernel
theorem dL_law_440 : decode code 440 = .ok (.iload 11, 2) := by decide +kernel
theorem dL_law_442 : decode code 442 = .ok (.iconst 2, 1) := by decide +kernel
theorem dL_law_443 : decode code 443 = .ok (.invokevirtual 70, 3) := by decide +kernel
theorem dL_law_446 : decode code 446 = .ok (.i2d, 1) := by decide +kernel
theorem dL_law_447 : decode code 447 = .ok (.dcmp .l, 1) := by decide +kernel
theorem dL_law_448 : decode code 448 = .ok (.ifCond .gt 43, 3) := by decide +kernel
theorem dL_law_451 : decode code 451 = .ok (.aload_n 3, 1) := by decide +kernel
theorem dL_law_452 : decode code 452 = .ok (.iload 8, 2) := by decide +kernel
theorem dL_law_454 : decode code 454 = .ok (.iload 11, 2) := by decide +kernel
theorem dL_law_456 : decode code 456 = .ok (.invokevirtual 77, 3) := by decide +kernel
theorem dL_law_459 : decode code 459 = .ok (.aload_n 3, 1) := by decide +kernel
theorem dL_law_460 : decode code 460 = .ok (.iload 8, 2) := by decide +kernel
theorem dL_law_462 : decode code 462 = .ok (.iload 11, 2) := by decide +kernel
theorem dL_law_464 : decode code 464 = .ok (.invokevirtual 73, 3) := by decide +kernel
theorem dL_law_467 : decode code 467 = .ok (.aload_n 3, 1) := by decide +kernel
theorem dL_law_468 : decode code 468 = .ok (.iload 8, 2) := by decide +kernel
theorem dL_law_470 : decode code 470 = .ok (.iconst 0, 1) := by decide +kernel
theorem dL_law_471 : decode code 471 = .ok (.invokevirtual 73, 3) := by decide +kernel
theorem dL_law_474 : decode code 474 = .ok (.dsub, 1) := by decide +kernel
theorem dL_law_475 : decode code 475 = .ok (.dcmp .l, 1) := by decide +kernel
theorem dL_law_476 : decode code 476 = .ok (.ifCond .ne 15, 3) := by decide +kernel
theorem dL_law_479 : decode code 479 = .ok (.aload_n 3, 1) := by decide +kernel
theorem dL_law_480 : decode code 480 = .ok (.iload 8, 2) := by decide +kernel
theorem dL_law_482 : decode code 482 = .ok (.iconst 0, 1) := by decide +kernel
theorem dL_law_483 : decode code 483 = .ok (.invokevirtual 80, 3) := by decide +kernel
theorem dL_law_486 : decode code 486 = .ok (.dconst 0, 1) := by decide +kernel
theorem dL_law_487 : decode code 487 = .ok (.dcmp .l, 1) := by decide +kernel
theorem dL_law_488 : decode code 488 = .ok (.ifCond .eq 5, 3) := by decide +kernel
theorem dL_law_491 : decode code 491 = .ok (.iconst 0, 1) := by decide +kernel
theorem dL_law_492 : decode code 492 = .ok (.ireturn, 1) := by decide +kernel
theorem dL_law_493 : decode code 493 = .ok (.iinc 11 1, 3) := by decide +kernel
theorem dL_law_496 : decode code 496 = .ok (.goto (-149), 3) := by decide +kernel
theorem dL_law_499 : decode code 499 = .ok (.iload 10, 2) := by decide +kernel
theorem dL_law_501 : decode code 501 = .ok (.bipush 20, 2) := by decide +kernel
theorem dL_law_503 : decode code 503 = .ok (.if_icmp .ne 73, 3) := by decide +kernel
theorem dL_law_506 : decode code 506 = .ok (.aload_n 3, 1) := by decide +kernel
theorem dL_law_507 : decode code 507 = .ok (.iload 8, 2) := by decide +kernel
theorem dL_law_509 : decode code 509 = .ok (.invokevirtual 83, 3) := by decide +kernel
theorem dL_law_512 : decode code 512 = .ok (.ifCond .lt 64, 3) := by decide +kernel
theorem dL_law_515 : decode code 515 = .ok (.aload_n 3, 1) := by decide +kernel
theorem dL_law_516 : decode code 516 = .ok (.iload 8, 2) := by decide +kernel
theorem dL_law_518 : decode code 518 = .ok (.iconst 0, 1) := by decide +kernel
theorem dL_law_519 : decode code 519 = .ok (.invokevirtual 77, 3) := by decide +kernel
theorem dL_law_522 : decode code 522 = .ok (.dconst 0, 1) := by decide +kernel
theorem dL_law_523 : decode code 523 = .ok (.dcmp .l, 1) := by decide +kernel
theorem dL_law_524 : decode code 524 = .ok (.ifCond .ne 52, 3) := by decide +kernel
theorem dL_law_527 : decode code 527 = .ok (.aload_n 3, 1) := by decide +kernel
theorem dL_law_528 : decode code 528 = .ok (.iload 8, 2) := by decide +kernel
theorem dL_law_530 : decode code 530 = .ok (.invokevirtual 86, 3) := by decide +kernel
theorem dL_law_533 : decode code 533 = .ok (.aload_n 3, 1) := by decide +kernel
theorem dL_law_534 : decode code 534 = .ok (.iload 8, 2) := by decide +kernel
theorem dL_law_536 : decode code 536 = .ok (.iconst 1, 1) := by decide +kernel
theorem dL_law_537 : decode code 537 = .ok (.invokevirtual 89, 3) := by decide +kernel
theorem dL_law_540 : decode code 540 = .ok (.if_icmp .gt 36, 3) := by decide +kernel
theorem dL_law_543 : decode code 543 = .ok (.aload_n 3, 1) := by decide +kernel
theorem dL_law_544 : decode code 544 = .ok (.iload 8, 2) := by decide +kernel
theorem dL_law_546 : decode code 546 = .ok (.iconst 1, 1) := by decide +kernel
theorem dL_law_547 : decode code 547 = .ok (.invokevirtual 89, 3) := by decide +kernel
theorem dL_law_550 : decode code 550 = .ok (.aload_n 3, 1) := by decide +kernel
theorem dL_law_551 : decode code 551 = .ok (.iload 8, 2) := by decide +kernel
theorem dL_law_553 : decode code 553 = .ok (.bipush 50, 2) := by decide +kernel
theorem dL_law_555 : decode code 555 = .ok (.invokevirtual 89, 3) := by decide +kernel
theorem dL_law_558 : decode code 558 = .ok (.if_icmp .gt 18, 3) := by decide +kernel
theorem dL_law_561 : decode code 561 = .ok (.aload_n 3, 1) := by decide +kernel
theorem dL_law_562 : decode code 562 = .ok (.iload 8, 2) := by decide +kernel
theorem dL_law_564 : decode code 564 = .ok (.sipush 1000, 3) := by decide +kernel
theorem dL_law_567 : decode code 567 = .ok (.invokevirtual 89, 3) := by decide +kernel
theorem dL_law_570 : decode code 570 = .ok (.sipush 1000, 3) := by decide +kernel
theorem dL_law_573 : decode code 573 = .ok (.if_icmp .le 5, 3) := by decide +kernel
theorem dL_law_576 : decode code 576 = .ok (.iconst 0, 1) := by decide +kernel
theorem dL_law_577 : decode code 577 = .ok (.ireturn, 1) := by decide +kernel
theorem dL_law_578 : decode code 578 = .ok (.aload_n 3, 1) := by decide +kernel
theorem dL_law_579 : decode code 579 = .ok (.iload 8, 2) := by decide +kernel
theorem dL_law_581 : decode code 581 = .ok (.invokevirtual 92, 3) := by decide +kernel
theorem dL_law_584 : decode code 584 = .ok (.istore 11, 2) := by decide +kernel
theorem dL_law_586 : decode code 586 = .ok (.iload 11, 2) := by decide +kernel
theorem dL_law_588 : decode code 588 = .ok (.ifCond .ge 7, 3) := by decide +kernel
theorem dL_law_591 : decode code 591 = .ok (.iconst 1, 1) := by decide +kernel
theorem dL_law_592 : decode code 592 = .ok (.goto 4, 3) := by decide +kernel
theorem dL_law_595 : decode code 595 = .ok (.iconst 0, 1) := by decide +kernel
theorem dL_law_596 : decode code 596 = .ok (.aload_n 3, 1) := by decide +kernel
theorem dL_law_597 : decode code 597 = .ok (.iload 8, 2) := by decide +kernel
theorem dL_law_599 : decode code 599 = .ok (.iconst 0, 1) := by decide +kernel
theorem dL_law_600 : decode code 600 = .ok (.iconst 0, 1) := by decide +kernel
theorem dL_law_601 : decode code 601 = .ok (.invokevirtual 70, 3) := by decide +kernel
theorem dL_law_604 : decode code 604 = .ok (.aload_n 3, 1) := by decide +kernel
theorem dL_law_605 : decode code 605 = .ok (.iload 8, 2) := by decide +kernel
theorem dL_law_607 : decode code 607 = .ok (.iconst 1, 1) := by decide +kernel
theorem dL_law_608 : decode code 608 = .ok (.iconst 0, 1) := by decide +kernel
theorem dL_law_609 : decode code 609 = .ok (.invokevirtual 70, 3) := by decide +kernel
theorem dL_law_612 : decode code 612 = .ok (.iadd, 1) := by decide +kernel
theorem dL_law_613 : decode code 613 = .ok (.iload 9, 2) := by decide +kernel
theorem dL_law_615 : decode code 615 = .ok (.iconst 2, 1) := by decide +kernel
theorem dL_law_616 : decode code 616 = .ok (.if_icmp .le 14, 3) := by decide +kernel
theorem dL_law_619 : decode code 619 = .ok (.aload_n 3, 1) := by decide +kernel
theorem dL_law_620 : decode code 620 = .ok (.iload 8, 2) := by decide +kernel
theorem dL_law_622 : decode code 622 = .ok (.iconst 2, 1) := by decide +kernel
theorem dL_law_623 : decode code 623 = .ok (.iconst 0, 1) := by decide +kernel
theorem dL_law_624 : decode code 624 = .ok (.invokevirtual 70, 3) := by decide +kernel
theorem dL_law_627 : decode code 627 = .ok (.goto 4, 3) := by decide +kernel
theorem dL_law_630 : decode code 630 = .ok (.iconst 0, 1) := by decide +kernel
theorem dL_law_631 : decode code 631 = .ok (.iadd, 1) := by decide +kernel
theorem dL_law_632 : decode code 632 = .ok (.iload 9, 2) := by decide +kernel
theorem dL_law_634 : decode code 634 = .ok (.iconst 3, 1) := by decide +kernel
theorem dL_law_635 : decode code 635 = .ok (.if_icmp .le 14, 3) := by decide +kernel
theorem dL_law_638 : decode code 638 = .ok (.aload_n 3, 1) := by decide +kernel
theorem dL_law_639 : decode code 639 = .ok (.iload 8, 2) := by decide +kernel
theorem dL_law_641 : decode code 641 = .ok (.iconst 3, 1) := by decide +kernel
theorem dL_law_642 : decode code 642 = .ok (.iconst 0, 1) := by decide +kernel
theorem dL_law_643 : decode code 643 = .ok (.invokevirtual 70, 3) := by decide +kernel
theorem dL_law_646 : decode code 646 = .ok (.goto 4, 3) := by decide +kernel
theorem dL_law_649 : decode code 649 = .ok (.iconst 0, 1) := by decide +kernel
theorem dL_law_650 : decode code 650 = .ok (.iadd, 1) := by decide +kernel
theorem dL_law_651 : decode code 651 = .ok (.ifCond .ne 7, 3) := by decide +kernel
theorem dL_law_654 : decode code 654 = .ok (.iconst 1, 1) := by decide +kernel
theorem dL_law_655 : decode code 655 = .ok (.goto 4, 3) := by decide +kernel
theorem dL_law_658 : decode code 658 = .ok (.iconst 0, 1) := by decide +kernel
theorem dL_law_659 : decode code 659 = .ok (.if_icmp .ne 20, 3) := by decide +kernel
theorem dL_law_662 : decode code 662 = .ok (.aload_n 3, 1) := by decide +kernel
theorem dL_law_663 : decode code 663 = .ok (.iload 8, 2) := by decide +kernel
theorem dL_law_665 : decode code 665 = .ok (.aload_n 3, 1) := by decide +kernel
theorem dL_law_666 : decode code 666 = .ok (.iload 8, 2) := by decide +kernel
theorem dL_law_668 : decode code 668 = .ok (.invokevirtual 86, 3) := by decide +kernel
theorem dL_law_671 : decode code 671 = .ok (.bipush 20, 2) := by decide +kernel
theorem dL_law_673 : decode code 673 = .ok (.invokevirtual 95, 3) := by decide +kernel
theorem dL_law_676 : decode code 676 = .ok (.ifCond .eq 5, 3) := by decide +kernel
theorem dL_law_679 : decode code 679 = .ok (.iconst 0, 1) := by decide +kernel
theorem dL_law_680 : decode code 680 = .ok (.ireturn, 1) := by decide +kernel
theorem dL_law_681 : decode code 681 = .ok (.iconst 0, 1) := by decide +kernel
theorem dL_law_682 : decode code 682 = .ok (.istore 12, 2) := by decide +kernel
theorem dL_law_684 : decode code 684 = .ok (.iload 12, 2) := by decide +kernel
theorem dL_law_686 : decode code 686 = .ok (.iload 9, 2) := by decide +kernel
theorem dL_law_688 : decode code 688 = .ok (.if_icmp .ge 48, 3) := by decide +kernel
theorem dL_law_691 : decode code 691 = .ok (.iload 11, 2) := by decide +kernel
theorem dL_law_693 : decode code 693 = .ok (.ifCond .lt 43, 3) := by decide +kernel
theorem dL_law_696 : decode code 696 = .ok (.aload_n 3, 1) := by decide +kernel
theorem dL_law_697 : decode code 697 = .ok (.iload 8, 2) := by decide +kernel
theorem dL_law_699 : decode code 699 = .ok (.iload 12, 2) := by decide +kernel
theorem dL_law_701 : decode code 701 = .ok (.iconst 0, 1) := by decide +kernel
theorem dL_law_702 : decode code 702 = .ok (.invokevirtual 70, 3) := by decide +kernel
theorem dL_law_705 : decode code 705 = .ok (.ifCond .le 25, 3) := by decide +kernel
theorem dL_law_708 : decode code 708 = .ok (.aload_n 3, 1) := by decide +kernel
theorem dL_law_709 : decode code 709 = .ok (.iload 8, 2) := by decide +kernel
theorem dL_law_711 : decode code 711 = .ok (.iload 12, 2) := by decide +kernel
theorem dL_law_713 : decode code 713 = .ok (.invokevirtual 73, 3) := by decide +kernel
theorem dL_law_716 : decode code 716 = .ok (.aload_n 3, 1) := by decide +kernel
theorem dL_law_717 : decode code 717 = .ok (.iload 8, 2) := by decide +kernel
theorem dL_law_719 : decode code 719 = .ok (.iload 11, 2) := by decide +kernel
theorem dL_law_721 : decode code 721 = .ok (.invokevirtual 73, 3) := by decide +kernel
theorem dL_law_724 : decode code 724 = .ok (.dcmp .l, 1) := by decide +kernel
theorem dL_law_725 : decode code 725 = .ok (.ifCond .le 5, 3) := by decide +kernel
theorem dL_law_728 : decode code 728 = .ok (.iconst 0, 1) := by decide +kernel
theorem dL_law_729 : decode code 729 = .ok (.ireturn, 1) := by decide +kernel
theorem dL_law_730 : decode code 730 = .ok (.iinc 12 1, 3) := by decide +kernel
theorem dL_law_733 : decode code 733 = .ok (.goto (-49), 3) := by decide +kernel
theorem dL_law_736 : decode code 736 = .ok (.aload_n 2, 1) := by decide +kernel
theorem dL_law_737 : decode code 737 = .ok (.aload_n 2, 1) := by decide +kernel
theorem dL_law_738 : decode code 738 = .ok (.getfield 37, 3) := by decide +kernel
theorem dL_law_741 : decode code 741 = .ok (.invokevirtual 45, 3) := by decide +kernel
theorem dL_law_744 : decode code 744 = .ok (.istore 12, 2) := by decide +kernel
theorem dL_law_746 : decode code 746 = .ok (.aload_n 3, 1) := by decide +kernel
theorem dL_law_747 : decode code 747 = .ok (.iload 8, 2) := by decide +kernel
theorem dL_law_749 : decode code 749 = .ok (.iload 12, 2) := by decide +kernel
theorem dL_law_751 : decode code 751 = .ok (.bipush 20, 2) := by decide +kernel
theorem dL_law_753 : decode code 753 = .ok (.invokevirtual 98, 3) := by decide +kernel
theorem dL_law_756 : decode code 756 = .ok (.aload_n 3, 1) := by decide +kernel
theorem dL_law_757 : decode code 757 = .ok (.iload 12, 2) := by decide +kernel
theorem dL_law_759 : decode code 759 = .ok (.iload 8, 2) := by decide +kernel
theorem dL_law_761 : decode code 761 = .ok (.bipush 20, 2) := by decide +kernel
theorem dL_law_763 : decode code 763 = .ok (.invokevirtual 98, 3) := by decide +kernel
theorem dL_law_766 : decode code 766 = .ok (.if_icmp .ne 26, 3) := by decide +kernel
theorem dL_law_769 : decode code 769 = .ok (.aload_n 3, 1) := by decide +kernel
theorem dL_law_770 : decode code 770 = .ok (.iload 8, 2) := by decide +kernel
theorem dL_law_772 : decode code 772 = .ok (.iload 12, 2) := by decide +kernel
theorem dL_law_774 : decode code 774 = .ok (.bipush 20, 2) := by decide +kernel
theorem dL_law_776 : decode code 776 = .ok (.invokevirtual 98, 3) := by decide +kernel
theorem dL_law_779 : decode code 779 = .ok (.aload_n 3, 1) := by decide +kernel
theorem dL_law_780 : decode code 780 = .ok (.iload 8, 2) := by decide +kernel
theorem dL_law_782 : decode code 782 = .ok (.iload 8, 2) := by decide +kernel
theorem dL_law_784 : decode code 784 = .ok (.bipush 20, 2) := by decide +kernel
theorem dL_law_786 : decode code 786 = .ok (.invokevirtual 98, 3) := by decide +kernel
theorem dL_law_789 : decode code 789 = .ok (.if_icmp .le 5, 3) := by decide +kernel
theorem dL_law_792 : decode code 792 = .ok (.iconst 0, 1) := by decide +kernel
theorem dL_law_793 : decode code 793 = .ok (.ireturn, 1) := by decide +kernel
theorem dL_law_794 : decode code 794 = .ok (.iload 12, 2) := by decide +kernel
theorem dL_law_796 : decode code 796 = .ok (.iload 8, 2) := by decide +kernel
theorem dL_law_798 : decode code 798 = .ok (.if_icmp .eq 54, 3) := by decide +kernel
theorem dL_law_801 : decode code 801 = .ok (.aload_n 2, 1) := by decide +kernel
theorem dL_law_802 : decode code 802 = .ok (.getfield 41, 3) := by decide +kernel
theorem dL_law_805 : decode code 805 = .ok (.iload 8, 2) := by decide +kernel
theorem dL_law_807 : decode code 807 = .ok (.aaload, 1) := by decide +kernel
theorem dL_law_808 : decode code 808 = .ok (.bipush 7, 2) := by decide +kernel
theorem dL_law_810 : decode code 810 = .ok (.iaload, 1) := by decide +kernel
theorem dL_law_811 : decode code 811 = .ok (.ifCond .lt 41, 3) := by decide +kernel
theorem dL_law_814 : decode code 814 = .ok (.aload_n 2, 1) := by decide +kernel
theorem dL_law_815 : decode code 815 = .ok (.getfield 41, 3) := by decide +kernel
theorem dL_law_818 : decode code 818 = .ok (.iload 12, 2) := by decide +kernel
theorem dL_law_820 : decode code 820 = .ok (.aaload, 1) := by decide +kernel
theorem dL_law_821 : decode code 821 = .ok (.bipush 7, 2) := by decide +kernel
theorem dL_law_823 : decode code 823 = .ok (.iaload, 1) := by decide +kernel
theorem dL_law_824 : decode code 824 = .ok (.aload_n 2, 1) := by decide +kernel
theorem dL_law_825 : decode code 825 = .ok (.getfield 41, 3) := by decide +kernel
theorem dL_law_828 : decode code 828 = .ok (.iload 8, 2) := by decide +kernel
theorem dL_law_830 : decode code 830 = .ok (.aaload, 1) := by decide +kernel
theorem dL_law_831 : decode code 831 = .ok (.bipush 7, 2) := by decide +kernel
theorem dL_law_833 : decode code 833 = .ok (.iaload, 1) := by decide +kernel
theorem dL_law_834 : decode code 834 = .ok (.if_icmp .ne 18, 3) := by decide +kernel
theorem dL_law_837 : decode code 837 = .ok (.aload_n 3, 1) := by decide +kernel
theorem dL_law_838 : decode code 838 = .ok (.iload 8, 2) := by decide +kernel
theorem dL_law_840 : decode code 840 = .ok (.iload 12, 2) := by decide +kernel
theorem dL_law_842 : decode code 842 = .ok (.bipush 20, 2) := by decide +kernel
theorem dL_law_844 : decode code 844 = .ok (.invokevirtual 98, 3) := by decide +kernel
theorem dL_law_847 : decode code 847 = .ok (.ifCond .eq 5, 3) := by decide +kernel
theorem dL_law_850 : decode code 850 = .ok (.iconst 0, 1) := by decide +kernel
theorem dL_law_851 : decode code 851 = .ok (.ireturn, 1) := by decide +kernel
theorem dL_law_852 : decode code 852 = .ok (.iinc 8 1, 3) := by decide +kernel
theorem dL_law_855 : decode code 855 = .ok (.goto (-756), 3) := by decide +kernel
theorem dL_law_858 : decode code 858 = .ok (.iload 7, 2) := by decide +kernel
theorem dL_law_860 : decode code 860 = .ok (.aload_n 3, 1) := by decide +kernel
theorem dL_law_861 : decode code 861 = .ok (.invokevirtual 101, 3) := by decide +kernel
theorem dL_law_864 : decode code 864 = .ok (.if_icmp .ne 13, 3) := by decide +kernel
theorem dL_law_867 : decode code 867 = .ok (.aload_n 3, 1) := by decide +kernel
theorem dL_law_868 : decode code 868 = .ok (.invokevirtual 31, 3) := by decide +kernel
theorem dL_law_871 : decode code 871 = .ok (.lload 5, 2) := by decide +kernel
theorem dL_law_873 : decode code 873 = .ok (.lcmp, 1) := by decide +kernel
theorem dL_law_874 : decode code 874 = .ok (.ifCond .eq 5, 3) := by decide +kernel
theorem dL_law_877 : decode code 877 = .ok (.iconst 0, 1) := by decide +kernel
theorem dL_law_878 : decode code 878 = .ok (.ireturn, 1) := by decide +kernel
theorem dL_law_879 : decode code 879 = .ok (.iinc 4 1, 3) := by decide +kernel
theorem dL_law_882 : decode code 882 = .ok (.goto (-842), 3) := by decide +kernel
theorem dL_law_885 : decode code 885 = .ok (.iinc 1 1, 3) := by decide +kernel
theorem dL_law_888 : decode code 888 = .ok (.goto (-886), 3) := by decide +kernel
theorem dL_law_891 : decode code 891 = .ok (.iconst 1, 1) := by decide +kernel
theorem dL_law_892 : decode code 892 = .ok (.ireturn, 1) := by decide +kernel
/-! the law: rows and answers -/
section LR
variable {p : Program} {l : Launch} {e : Env} {R : Room} {s : State} {m : MethodId} {args : Array Value} {below : List Frame} {meth : Method} {c : Code} {H0 : Heap} {locs0 : List Loc} {cells slots : Nat} {Q : State → Prop} {d0 : Drawn}
theorem kz_cutD (pc : Nat) (I : Heap → List Loc → Array Slot → Prop) {g : JFrame} (g0 : (∀ (H : Heap) (locs : List Loc) (ls : Array Slot) (d : Drawn), s.drawn.sameBut d lw_cs → I H locs ls → W p l e R (s.setDrawn d) m args below meth c H locs cells slots Q (F0 m pc ls [])) → W p l e R (s.setDrawn d0) m args below meth c H0 locs0 cells slots Q g) (g1 : ∀ (H : Heap) (locs : List Loc) (ls : Array Slot) (d : Drawn), s.drawn.sameBut d lw_cs → I H locs ls → W p l e R (s.setDrawn d) m args below meth c H locs cells slots Q (F0 m pc ls [])) : W p l e R (s.setDrawn d0) m args below meth c H0 locs0 cells slots Q g := g0 g1
end LR
theorem cm_ge {a b : UInt64} (h : FP.dcmp a b = some .gt ∨ FP.dcmp a b = some .eq) : ¬ Op.cmpValue (FP.dcmp a b) CmpOp.g < 0 := by
  rcases h with h | h <;> rw [h] <;> decide
theorem cm_le {a b : UInt64} (h : FP.dcmp a b = some .lt ∨ FP.dcmp a b = some .eq) : ¬ 0 < Op.cmpValue (FP.dcmp a b) CmpOp.l := by
  rcases h with h | h <;> rw [h] <;> decide
theorem cm_eqz {a b : UInt64} (h : FP.dcmp a b = some .eq) : Op.cmpValue (FP.dcmp a b) CmpOp.l = 0 := by rw [h]; rfl
/-- the mean of a variant -/
abbrev kMn (M : MSt) (na k v : Nat) : UInt64 := kMean (rTold M.2 (nI k) (nI v) 2 na 0 0) (rTold M.2 (nI k) (nI v) 0 na 0 0)
section LG
variable {n na k v : Nat} {M : MSt} {x ar ak a : Nat} {S : Pool} {cM sB : Nat} {ru : Nat → Nat}
theorem GG.told0 (gg : GG n na S M x ar ak) (hk : k < n) (ja : gP S ar k = some a) (hv : v < 4) : cTold S a (nI v) 0 = nI (nT M.2 (nI k) (nI v) na) := (told_eq gg.t hk ja hv (by decide)).trans (rT_0 _ _ _ _)
theorem GG.told1 (gg : GG n na S M x ar ak) (hk : k < n) (ja : gP S ar k = some a) (hv : v < 4) : ∃ b, b ≤ nT M.2 (nI k) (nI v) na ∧ cTold S a (nI v) 1 = nI b := by
  obtain ⟨b, h1, h2⟩ := rT_1n (T := M.2) (one := nI k) (va := nI v) na
  exact ⟨b, h1, (told_eq gg.t hk ja hv (by decide)).trans h2⟩
theorem told2n (hM : MK n na cM sB M) : ∃ t, t ≤ na * sB ∧ rTold M.2 (nI k) (nI v) 2 na 0 0 = nI t := rT_2n na hM.2.2.2.2
theorem GG.told2 (gg : GG n na S M x ar ak) (hM : MK n na cM sB M) (hk : k < n) (ja : gP S ar k = some a) (hv : v < 4) : ∃ t, t ≤ na * sB ∧ rTold M.2 (nI k) (nI v) 2 na 0 0 = nI t ∧ cTold S a (nI v) 2 = nI t := by
  obtain ⟨t, h1, h2⟩ := told2n (k := k) (v := v) hM
  exact ⟨t, h1, h2, (told_eq gg.t hk ja hv (by decide)).trans h2⟩
theorem mul_b (hna : na ≤ 100) (hs : sB < 1000000) : na * sB ≤ 100000000 := by
  have h : na * sB ≤ 100 * 1000000 := Nat.mul_le_mul hna (by omega)
  omega
theorem mn_ge (hna : na ≤ 100) (hs : sB < 1000000) (hM : MK n na cM sB M) : FP.dcmp (kMn M na k v) FP.dconst0 = some .gt ∨ FP.dcmp (kMn M na k v) FP.dconst0 = some .eq := by
  obtain ⟨t, h1, h2⟩ := told2n (k := k) (v := v) hM
  have hb := mul_b hna hs
  have h3 := nT_le M.2 (nI k) (nI v) na
  show FP.dcmp (kMean (rTold M.2 (nI k) (nI v) 2 na 0 0) (rTold M.2 (nI k) (nI v) 0 na 0 0)) _ = _ ∨ FP.dcmp (kMean (rTold M.2 (nI k) (nI v) 2 na 0 0) (rTold M.2 (nI k) (nI v) 0 na 0 0)) _ = _
  rw [h2, rT_0]
  exact mean_ge (by omega) (by omega)
theorem mn_le {t : Nat} (hna : na ≤ 100) (ht : t ≤ 100000000) (h2 : rTold M.2 (nI k) (nI v) 2 na 0 0 = nI t) : FP.dcmp (kMn M na k v) (FP.i2d (nI t)) = some .lt ∨ FP.dcmp (kMn M na k v) (FP.i2d (nI t)) = some .eq := by
  have h3 := nT_le M.2 (nI k) (nI v) na
  show FP.dcmp (kMean (rTold M.2 (nI k) (nI v) 2 na 0 0) (rTold M.2 (nI k) (nI v) 0 na 0 0)) _ = _ ∨ FP.dcmp (kMean (rTold M.2 (nI k) (nI v) 2 na 0 0) (rTold M.2 (nI k) (nI v) 0 na 0 0)) _ = _
  rw [h2, rT_0]
  exact mean_le (by omega) (by omega)
theorem GG.mean (gg : GG n na S M x ar ak) (hk : k < n) (ja : gP S ar k = some a) (hv : v < 4) {r : UInt64} (h : dMean (cTal S (tkA S a 2) (nI v)) (cTal S (tkA S a 0) (nI v)) r) : r = kMn M na k v := al_eq (mean_like gg.t hk ja hv h) (kMean_mag _ _) (by decide)
theorem GG.lift (gg : GG n na S M x ar ak) (hk : k < n) (ja : gP S ar k = some a) (hv : v < 4) {r : UInt64} (h : ∃ m1 m0, dMean (cTal S (tkA S a 2) (nI v)) (cTal S (tkA S a 0) (nI v)) m1 ∧ dMean (cTal S (tkA S a 2) 0) (cTal S (tkA S a 0) 0) m0 ∧ alike64 r (FP.dsub m1 m0) = true) : r = FP.dsub (kMn M na k v) (kMn M na k 0) := al_eq (lift_like gg.t hk ja hv h) (lift_mag _ _ _ _) (by decide)
theorem GG.far2 (h : GG n na S M x ar ak) (hk : k < n) (ja : gP S ar k = some a) (z : Int32) : cFar S a (gI S x 5 + z) = rFar M.2 k (M.1 1 + z) := (far_eq (clk := gI S x 5 + z) (h.l.rn hk ja (q := (10, 7)) (by decide)) (h.l.rn hk ja (q := (11, 8)) (by decide)) (h.l.1 k hk a ja).2.2.2.2).trans (congrArg (fun c => rFar M.2 k (c + z)) h.c.x5)
abbrev rNw (M : MSt) (na : Nat) (ru : Nat → Nat) (k : Nat) (q : Int32) (u : Nat) : Int32 := (rGx M.2 (M.1 2) (M.2 11) (nI u) (nI u - nI u / 10 * 10) (nI u / 10 - nI u / 10 / 10 * 10) na (ru k) (fun k => (rG M.2 (M.1 2) (M.2 11) (fun k => rFar M.2 k (M.1 1)) (nI u) (nI u - nI u / 10 * 10) (nI u / 10 - nI u / 10 / 10 * 10) na ru 7 k).1) k q).1
theorem would_0 {q : Int32} (h : rFar M.2 k (M.1 1) = q) : rCnt (fun u => if rNw M na ru k q u = (rBy M na ru k u).1 then (0 : Int32) else 1) 20 0 0 = 0 := by
  subst h
  exact rCnt_no (F := fun u => (rBy M na ru k u).1)
theorem hold_or {T : Rows} {i : Nat} {f g : Int32} : ∀ c q, q + c ≤ 100 → rHold T i f g c q = -1 ∨ ∃ z, z < 100 ∧ rHold T i f g c q = nI z := by
  intro c
  induction c with
  | zero => intro q _; exact Or.inl rfl
  | succ c ih =>
    intro q hq
    unfold rHold
    split
    · exact Or.inr ⟨q, by omega, rfl⟩
    · exact ih (q + 1) (by omega)
end LG
