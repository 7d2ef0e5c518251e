theorem dL_holds_0 : decode cL_holds 0 = .ok (.iconst 0, 1) := by decide +kernel
theorem dL_holds_1 : decode cL_holds 1 = .ok (.istore_n 1, 1) := by decide +kernel
theorem dL_holds_2 : decode cL_holds 2 = .ok (.iconst 0, 1) := by decide +kernel
theorem dL_holds_3 : decode cL_holds 3 = .ok (.istore_n 2, 1) := by decide +kernel
theorem dL_holds_4 : decode cL_holds 4 = .ok (.iconst 0, 1) := by decide +kernel
theorem dL_holds_5 : decode cL_holds 5 = .ok (.istore_n 3, 1) := by decide +kernel
theorem dL_holds_6 : decode cL_holds 6 = .ok (.iconst 0, 1) := by decide +kernel
theorem dL_holds_7 : decode cL_holds 7 = .ok (.istore 4, 2) := by decide +kernel
theorem dL_holds_9 : decode cL_holds 9 = .ok (.iconst 0, 1) := by decide +kernel
theorem dL_holds_10 : decode cL_holds 10 = .ok (.istore 5, 2) := by decide +kernel
theorem dL_holds_12 : decode cL_holds 12 = .ok (.aload_n 0, 1) := by decide +kernel
theorem dL_holds_13 : decode cL_holds 13 = .ok (.iconst 0, 1) := by decide +kernel
theorem dL_holds_14 : decode cL_holds 14 = .ok (.invokevirtual 36, 3) := by decide +kernel
theorem dL_holds_17 : decode cL_holds 17 = .ok (.iconst (-1), 1) := by decide +kernel
theorem dL_holds_18 : decode cL_holds 18 = .ok (.if_icmp .ne 7, 3) := by decide +kernel
theorem dL_holds_21 : decode cL_holds 21 = .ok (.iconst 1, 1) := by decide +kernel
theorem dL_holds_22 : decode cL_holds 22 = .ok (.goto 4, 3) := by decide +kernel
theorem dL_holds_25 : decode cL_holds 25 = .ok (.iconst 0, 1) := by decide +kernel
theorem dL_holds_26 : decode cL_holds 26 = .ok (.aload_n 0, 1) := by decide +kernel
theorem dL_holds_27 : decode cL_holds 27 = .ok (.iconst 1, 1) := by decide +kernel
theorem dL_holds_28 : decode cL_holds 28 = .ok (.invokevirtual 36, 3) := by decide +kernel
theorem dL_holds_31 : decode cL_holds 31 = .ok (.iconst (-1), 1) := by decide +kernel
theorem dL_holds_32 : decode cL_holds 32 = .ok (.if_icmp .ne 7, 3) := by decide +kernel
theorem dL_holds_35 : decode cL_holds 35 = .ok (.iconst 1, 1) := by decide +kernel
theorem dL_holds_36 : decode cL_holds 36 = .ok (.goto 4, 3) := by decide +kernel
theorem dL_holds_39 : decode cL_holds 39 = .ok (.iconst 0, 1) := by decide +kernel
theorem dL_holds_40 : decode cL_holds 40 = .ok (.if_icmp .ne 7, 3) := by decide +kernel
theorem dL_holds_43 : decode cL_holds 43 = .ok (.iconst 1, 1) := by decide +kernel
theorem dL_holds_44 : decode cL_holds 44 = .ok (.goto 4, 3) := by decide +kernel
theorem dL_holds_47 : decode cL_holds 47 = .ok (.iconst 0, 1) := by decide +kernel
theorem dL_holds_48 : decode cL_holds 48 = .ok (.istore 6, 2) := by decide +kernel
theorem dL_holds_50 : decode cL_holds 50 = .ok (.iconst 0, 1) := by decide +kernel
theorem dL_holds_51 : decode cL_holds 51 = .ok (.istore 7, 2) := by decide +kernel
theorem dL_holds_53 : decode cL_holds 53 = .ok (.iload 7, 2) := by decide +kernel
theorem dL_holds_55 : decode cL_holds 55 = .ok (.iconst 3, 1) := by decide +kernel
theorem dL_holds_56 : decode cL_holds 56 = .ok (.if_icmp .ge 159, 3) := by decide +kernel
theorem dL_holds_59 : decode cL_holds 59 = .ok (.iconst 0, 1) := by decide +kernel
theorem dL_holds_60 : decode cL_holds 60 = .ok (.istore 8, 2) := by decide +kernel
theorem dL_holds_62 : decode cL_holds 62 = .ok (.iconst 0, 1) := by decide +kernel
theorem dL_holds_63 : decode cL_holds 63 = .ok (.istore 9, 2) := by decide +kernel
theorem dL_holds_65 : decode cL_holds 65 = .ok (.iload 9, 2) := by decide +kernel
theorem dL_holds_67 : decode cL_holds 67 = .ok (.aload_n 0, 1) := by decide +kernel
theorem dL_holds_68 : decode cL_holds 68 = .ok (.iconst 1, 1) := by decide +kernel
theorem dL_holds_69 : decode cL_holds 69 = .ok (.invokevirtual 13, 3) := by decide +kernel
theorem dL_holds_72 : decode cL_holds 72 = .ok (.if_icmp .ge 31, 3) := by decide +kernel
theorem dL_holds_75 : decode cL_holds 75 = .ok (.iload 8, 2) := by decide +kernel
theorem dL_holds_77 : decode cL_holds 77 = .ok (.aload_n 0, 1) := by decide +kernel
theorem dL_holds_78 : decode cL_holds 78 = .ok (.iload 9, 2) := by decide +kernel
theorem dL_holds_80 : decode cL_holds 80 = .ok (.iconst 3, 1) := by decide +kernel
theorem dL_holds_81 : decode cL_holds 81 = .ok (.invokevirtual 23, 3) := by decide +kernel
theorem dL_holds_84 : decode cL_holds 84 = .ok (.iload 7, 2) := by decide +kernel
theorem dL_holds_86 : decode cL_holds 86 = .ok (.if_icmp .ne 7, 3) := by decide +kernel
theorem dL_holds_89 : decode cL_holds 89 = .ok (.iconst 1, 1) := by decide +kernel
theorem dL_holds_90 : decode cL_holds 90 = .ok (.goto 4, 3) := by decide +kernel
theorem dL_holds_93 : decode cL_holds 93 = .ok (.iconst 0, 1) := by decide +kernel
theorem dL_holds_94 : decode cL_holds 94 = .ok (.iadd, 1) := by decide +kernel
theorem dL_holds_95 : decode cL_holds 95 = .ok (.istore 8, 2) := by decide +kernel
theorem dL_holds_97 : decode cL_holds 97 = .ok (.iinc 9 1, 3) := by decide +kernel
theorem dL_holds_100 : decode cL_holds 100 = .ok (.goto (-35), 3) := by decide +kernel
theorem dL_holds_103 : decode cL_holds 103 = .ok (.iload_n 1, 1) := by decide +kernel
theorem dL_holds_104 : decode cL_holds 104 = .ok (.aload_n 0, 1) := by decide +kernel
theorem dL_holds_105 : decode cL_holds 105 = .ok (.iload 7, 2) := by decide +kernel
theorem dL_holds_107 : decode cL_holds 107 = .ok (.iconst 2, 1) := by decide +kernel
theorem dL_holds_108 : decode cL_holds 108 = .ok (.invokevirtual 30, 3) := by decide +kernel
theorem dL_holds_111 : decode cL_holds 111 = .ok (.iadd, 1) := by decide +kernel
theorem dL_holds_112 : decode cL_holds 112 = .ok (.istore_n 1, 1) := by decide +kernel
theorem dL_holds_113 : decode cL_holds 113 = .ok (.iload_n 2, 1) := by decide +kernel
theorem dL_holds_114 : decode cL_holds 114 = .ok (.aload_n 0, 1) := by decide +kernel
theorem dL_holds_115 : decode cL_holds 115 = .ok (.iload 7, 2) := by decide +kernel
theorem dL_holds_117 : decode cL_holds 117 = .ok (.iconst 1, 1) := by decide +kernel
theorem dL_holds_118 : decode cL_holds 118 = .ok (.invokevirtual 30, 3) := by decide +kernel
theorem dL_holds_121 : decode cL_holds 121 = .ok (.iadd, 1) := by decide +kernel
theorem dL_holds_122 : decode cL_holds 122 = .ok (.istore_n 2, 1) := by decide +kernel
theorem dL_holds_123 : decode cL_holds 123 = .ok (.iload_n 3, 1) := by decide +kernel
theorem dL_holds_124 : decode cL_holds 124 = .ok (.iload 8, 2) := by decide +kernel
theorem dL_holds_126 : decode cL_holds 126 = .ok (.iadd, 1) := by decide +kernel
theorem dL_holds_127 : decode cL_holds 127 = .ok (.istore_n 3, 1) := by decide +kernel
theorem dL_holds_128 : decode cL_holds 128 = .ok (.iload 6, 2) := by decide +kernel
theorem dL_holds_130 : decode cL_holds 130 = .ok (.ifCond .eq 76, 3) := by decide +kernel
theorem dL_holds_133 : decode cL_holds 133 = .ok (.aload_n 0, 1) := by decide +kernel
theorem dL_holds_134 : decode cL_holds 134 = .ok (.iload 7, 2) := by decide +kernel
theorem dL_holds_136 : decode cL_holds 136 = .ok (.iconst 0, 1) := by decide +kernel
theorem dL_holds_137 : decode cL_holds 137 = .ok (.invokevirtual 30, 3) := by decide +kernel
theorem dL_holds_140 : decode cL_holds 140 = .ok (.ifCond .lt 66, 3) := by decide +kernel
theorem dL_holds_143 : decode cL_holds 143 = .ok (.aload_n 0, 1) := by decide +kernel
theorem dL_holds_144 : decode cL_holds 144 = .ok (.iload 7, 2) := by decide +kernel
theorem dL_holds_146 : decode cL_holds 146 = .ok (.iconst 0, 1) := by decide +kernel
theorem dL_holds_147 : decode cL_holds 147 = .ok (.invokevirtual 30, 3) := by decide +kernel
theorem dL_holds_150 : decode cL_holds 150 = .ok (.bipush 20, 2) := by decide +kernel
theorem dL_holds_152 : decode cL_holds 152 = .ok (.if_icmp .gt 54, 3) := by decide +kernel
theorem dL_holds_155 : decode cL_holds 155 = .ok (.aload_n 0, 1) := by decide +kernel
theorem dL_holds_156 : decode cL_holds 156 = .ok (.iload 7, 2) := by decide +kernel
theorem dL_holds_158 : decode cL_holds 158 = .ok (.iconst 1, 1) := by decide +kernel
theorem dL_holds_159 : decode cL_holds 159 = .ok (.invokevirtual 33, 3) := by decide +kernel
theorem dL_holds_162 : decode cL_holds 162 = .ok (.iload 8, 2) := by decide +kernel
theorem dL_holds_164 : decode cL_holds 164 = .ok (.if_icmp .ne 42, 3) := by decide +kernel
theorem dL_holds_167 : decode cL_holds 167 = .ok (.iload 8, 2) := by decide +kernel
theorem dL_holds_169 : decode cL_holds 169 = .ok (.iconst 3, 1) := by decide +kernel
theorem dL_holds_170 : decode cL_holds 170 = .ok (.if_icmp .gt 36, 3) := by decide +kernel
theorem dL_holds_173 : decode cL_holds 173 = .ok (.aload_n 0, 1) := by decide +kernel
theorem dL_holds_174 : decode cL_holds 174 = .ok (.iload 7, 2) := by decide +kernel
theorem dL_holds_176 : decode cL_holds 176 = .ok (.iconst 2, 1) := by decide +kernel
theorem dL_holds_177 : decode cL_holds 177 = .ok (.invokevirtual 33, 3) := by decide +kernel
theorem dL_holds_180 : decode cL_holds 180 = .ok (.iconst (-1), 1) := by decide +kernel
theorem dL_holds_181 : decode cL_holds 181 = .ok (.if_icmp .ne 7, 3) := by decide +kernel
theorem dL_holds_184 : decode cL_holds 184 = .ok (.iconst 1, 1) := by decide +kernel
theorem dL_holds_185 : decode cL_holds 185 = .ok (.goto 4, 3) := by decide +kernel
theorem dL_holds_188 : decode cL_holds 188 = .ok (.iconst 0, 1) := by decide +kernel
theorem dL_holds_189 : decode cL_holds 189 = .ok (.iload 8, 2) := by decide +kernel
theorem dL_holds_191 : decode cL_holds 191 = .ok (.ifCond .ne 7, 3) := by decide +kernel
theorem dL_holds_194 : decode cL_holds 194 = .ok (.iconst 1, 1) := by decide +kernel
theorem dL_holds_195 : decode cL_holds 195 = .ok (.goto 4, 3) := by decide +kernel
theorem dL_holds_198 : decode cL_holds 198 = .ok (.iconst 0, 1) := by decide +kernel
theorem dL_holds_199 : decode cL_holds 199 = .ok (.if_icmp .ne 7, 3) := by decide +kernel
theorem dL_holds_202 : decode cL_holds 202 = .ok (.iconst 1, 1) := by decide +kernel
theorem dL_holds_203 : decode cL_holds 203 = .ok (.goto 4, 3) := by decide +kernel
theorem dL_holds_206 : decode cL_holds 206 = .ok (.iconst 0, 1) := by decide +kernel
theorem dL_holds_207 : decode cL_holds 207 = .ok (.istore 6, 2) := by decide +kernel
theorem dL_holds_209 : decode cL_holds 209 = .ok (.iinc 7 1, 3) := by decide +kernel
theorem dL_holds_212 : decode cL_holds 212 = .ok (.goto (-159), 3) := by decide +kernel
theorem dL_holds_215 : decode cL_holds 215 = .ok (.iconst 0, 1) := by decide +kernel
theorem dL_holds_216 : decode cL_holds 216 = .ok (.istore 7, 2) := by decide +kernel
theorem dL_holds_218 : decode cL_holds 218 = .ok (.iload 7, 2) := by decide +kernel
theorem dL_holds_220 : decode cL_holds 220 = .ok (.aload_n 0, 1) := by decide +kernel
theorem dL_holds_221 : decode cL_holds 221 = .ok (.iconst 0, 1) := by decide +kernel
theorem dL_holds_222 : decode cL_holds 222 = .ok (.invokevirtual 13, 3) := by decide +kernel
theorem dL_holds_225 : decode cL_holds 225 = .ok (.if_icmp .ge 42, 3) := by decide +kernel
theorem dL_holds_228 : decode cL_holds 228 = .ok (.iload 4, 2) := by decide +kernel
theorem dL_holds_230 : decode cL_holds 230 = .ok (.aload_n 0, 1) := by decide +kernel
theorem dL_holds_231 : decode cL_holds 231 = .ok (.iload 7, 2) := by decide +kernel
theorem dL_holds_233 : decode cL_holds 233 = .ok (.iconst 3, 1) := by decide +kernel
theorem dL_holds_234 : decode cL_holds 234 = .ok (.invokevirtual 19, 3) := by decide +kernel
theorem dL_holds_237 : decode cL_holds 237 = .ok (.iadd, 1) := by decide +kernel
theorem dL_holds_238 : decode cL_holds 238 = .ok (.istore 4, 2) := by decide +kernel
theorem dL_holds_240 : decode cL_holds 240 = .ok (.iload 6, 2) := by decide +kernel
theorem dL_holds_242 : decode cL_holds 242 = .ok (.ifCond .eq 16, 3) := by decide +kernel
theorem dL_holds_245 : decode cL_holds 245 = .ok (.aload_n 0, 1) := by decide +kernel
theorem dL_holds_246 : decode cL_holds 246 = .ok (.iload 7, 2) := by decide +kernel
theorem dL_holds_248 : decode cL_holds 248 = .ok (.invokestatic 100, 3) := by decide +kernel
theorem dL_holds_251 : decode cL_holds 251 = .ok (.ifCond .eq 7, 3) := by decide +kernel
theorem dL_holds_254 : decode cL_holds 254 = .ok (.iconst 1, 1) := by decide +kernel
theorem dL_holds_255 : decode cL_holds 255 = .ok (.goto 4, 3) := by decide +kernel
theorem dL_holds_258 : decode cL_holds 258 = .ok (.iconst 0, 1) := by decide +kernel
theorem dL_holds_259 : decode cL_holds 259 = .ok (.istore 6, 2) := by decide +kernel
theorem dL_holds_261 : decode cL_holds 261 = .ok (.iinc 7 1, 3) := by decide +kernel
theorem dL_holds_264 : decode cL_holds 264 = .ok (.goto (-46), 3) := by decide +kernel
theorem dL_holds_267 : decode cL_holds 267 = .ok (.iconst 0, 1) := by decide +kernel
theorem dL_holds_268 : decode cL_holds 268 = .ok (.istore 7, 2) := by decide +kernel
theorem dL_holds_270 : decode cL_holds 270 = .ok (.iload 7, 2) := by decide +kernel
theorem dL_holds_272 : decode cL_holds 272 = .ok (.aload_n 0, 1) := by decide +kernel
theorem dL_holds_273 : decode cL_holds 273 = .ok (.iconst 1, 1) := by decide +kernel
theorem dL_holds_274 : decode cL_holds 274 = .ok (.invokevirtual 13, 3) := by decide +kernel
theorem dL_holds_277 : decode cL_holds 277 = .ok (.if_icmp .ge 51, 3) := by decide +kernel
theorem dL_holds_280 : decode cL_holds 280 = .ok (.iload 5, 2) := by decide +kernel
theorem dL_holds_282 : decode cL_holds 282 = .ok (.aload_n 0, 1) := by decide +kernel
theorem dL_holds_283 : decode cL_holds 283 = .ok (.iload 7, 2) := by decide +kernel
theorem dL_holds_285 : decode cL_holds 285 = .ok (.bipush 6, 2) := by decide +kernel
theorem dL_holds_287 : decode cL_holds 287 = .ok (.invokevirtual 23, 3) := by decide +kernel
theorem dL_holds_290 : decode cL_holds 290 = .ok (.ifCond .ne 7, 3) := by decide +kernel
theorem dL_holds_293 : decode cL_holds 293 = .ok (.iconst 1, 1) := by decide +kernel
theorem dL_holds_294 : decode cL_holds 294 = .ok (.goto 4, 3) := by decide +kernel
theorem dL_holds_297 : decode cL_holds 297 = .ok (.iconst 0, 1) := by decide +kernel
theorem dL_holds_298 : decode cL_holds 298 = .ok (.iadd, 1) := by decide +kernel
theorem dL_holds_299 : decode cL_holds 299 = .ok (.istore 5, 2) := by decide +kernel
theorem dL_holds_301 : decode cL_holds 301 = .ok (.iload 6, 2) := by decide +kernel
theorem dL_holds_303 : decode cL_holds 303 = .ok (.ifCond .eq 16, 3) := by decide +kernel
theorem dL_holds_306 : decode cL_holds 306 = .ok (.aload_n 0, 1) := by decide +kernel
theorem dL_holds_307 : decode cL_holds 307 = .ok (.iload 7, 2) := by decide +kernel
theorem dL_holds_309 : decode cL_holds 309 = .ok (.invokestatic 104, 3) := by decide +kernel
theorem dL_holds_312 : decode cL_holds 312 = .ok (.ifCond .eq 7, 3) := by decide +kernel
theorem dL_holds_315 : decode cL_holds 315 = .ok (.iconst 1, 1) := by decide +kernel
theorem dL_holds_316 : decode cL_holds 316 = .ok (.goto 4, 3) := by decide +kernel
theorem dL_holds_319 : decode cL_holds 319 = .ok (.iconst 0, 1) := by decide +kernel
theorem dL_holds_320 : decode cL_holds 320 = .ok (.istore 6, 2) := by decide +kernel
theorem dL_holds_322 : decode cL_holds 322 = .ok (.iinc 7 1, 3) := by decide +kernel
theorem dL_holds_325 : decode cL_holds 325 = .ok (.goto (-55), 3) := by decide +kernel
theorem dL_holds_328 : decode cL_holds 328 = .ok (.aload_n 0, 1) := by decide +kernel
theorem dL_holds_329 : decode cL_holds 329 = .ok (.iconst 1, 1) := by decide +kernel
theorem dL_holds_330 : decode cL_holds 330 = .ok (.invokevirtual 13, 3) := by decide +kernel
theorem dL_holds_333 : decode cL_holds 333 = .ok (.ifCond .ne 7, 3) := by decide +kernel
theorem dL_holds_336 : decode cL_holds 336 = .ok (.dconst 1, 1) := by decide +kernel
theorem dL_holds_337 : decode cL_holds 337 = .ok (.goto 13, 3) := by decide +kernel
theorem dL_holds_340 : decode cL_holds 340 = .ok (.iload 5, 2) := by decide +kernel
theorem dL_holds_342 : decode cL_holds 342 = .ok (.i2d, 1) := by decide +kernel
theorem dL_holds_343 : decode cL_holds 343 = .ok (.aload_n 0, 1) := by decide +kernel
theorem dL_holds_344 : decode cL_holds 344 = .ok (.iconst 1, 1) := by decide +kernel
theorem dL_holds_345 : decode cL_holds 345 = .ok (.invokevirtual 13, 3) := by decide +kernel
theorem dL_holds_348 : decode cL_holds 348 = .ok (.i2d, 1) := by decide +kernel
theorem dL_holds_349 : decode cL_holds 349 = .ok (.ddiv, 1) := by decide +kernel
theorem dL_holds_350 : decode cL_holds 350 = .ok (.dstore 7, 2) := by decide +kernel
theorem dL_holds_352 : decode cL_holds 352 = .ok (.iload 6, 2) := by decide +kernel
theorem dL_holds_354 : decode cL_holds 354 = .ok (.ifCond .eq 65, 3) := by decide +kernel
theorem dL_holds_357 : decode cL_holds 357 = .ok (.iload_n 1, 1) := by decide +kernel
theorem dL_holds_358 : decode cL_holds 358 = .ok (.aload_n 0, 1) := by decide +kernel
theorem dL_holds_359 : decode cL_holds 359 = .ok (.iconst 2, 1) := by decide +kernel
theorem dL_holds_360 : decode cL_holds 360 = .ok (.invokevirtual 13, 3) := by decide +kernel
theorem dL_holds_363 : decode cL_holds 363 = .ok (.if_icmp .ne 56, 3) := by decide +kernel
theorem dL_holds_366 : decode cL_holds 366 = .ok (.iload_n 2, 1) := by decide +kernel
theorem dL_holds_367 : decode cL_holds 367 = .ok (.aload_n 0, 1) := by decide +kernel
theorem dL_holds_368 : decode cL_holds 368 = .ok (.iconst 3, 1) := by decide +kernel
theorem dL_holds_369 : decode cL_holds 369 = .ok (.invokevirtual 13, 3) := by decide +kernel
theorem dL_holds_372 : decode cL_holds 372 = .ok (.if_icmp .ne 47, 3) := by decide +kernel
theorem dL_holds_375 : decode cL_holds 375 = .ok (.iload_n 3, 1) := by decide +kernel
theorem dL_holds_376 : decode cL_holds 376 = .ok (.aload_n 0, 1) := by decide +kernel
theorem dL_holds_377 : decode cL_holds 377 = .ok (.iconst 1, 1) := by decide +kernel
theorem dL_holds_378 : decode cL_holds 378 = .ok (.invokevirtual 13, 3) := by decide +kernel
theorem dL_holds_381 : decode cL_holds 381 = .ok (.if_icmp .gt 38, 3) := by decide +kernel
theorem dL_holds_384 : decode cL_holds 384 = .ok (.iload 4, 2) := by decide +kernel
theorem dL_holds_386 : decode cL_holds 386 = .ok (.aload_n 0, 1) := by decide +kernel
theorem dL_holds_387 : decode cL_holds 387 = .ok (.iconst 1, 1) := by decide +kernel
theorem dL_holds_388 : decode cL_holds 388 = .ok (.invokevirtual 13, 3) := by decide +kernel
theorem dL_holds_391 : decode cL_holds 391 = .ok (.if_icmp .ne 28, 3) := by decide +kernel
theorem dL_holds_394 : decode cL_holds 394 = .ok (.iload 5, 2) := by decide +kernel
theorem dL_holds_396 : decode cL_holds 396 = .ok (.aload_n 0, 1) := by decide +kernel
theorem dL_holds_397 : decode cL_holds 397 = .ok (.bipush 6, 2) := by decide +kernel
theorem dL_holds_399 : decode cL_holds 399 = .ok (.invokevirtual 13, 3) := by decide +kernel
theorem dL_holds_402 : decode cL_holds 402 = .ok (.if_icmp .ne 17, 3) := by decide +kernel
theorem dL_holds_405 : decode cL_holds 405 = .ok (.aload_n 0, 1) := by decide +kernel
theorem dL_holds_406 : decode cL_holds 406 = .ok (.invokevirtual 107, 3) := by decide +kernel
theorem dL_holds_409 : decode cL_holds 409 = .ok (.dload 7, 2) := by decide +kernel
theorem dL_holds_411 : decode cL_holds 411 = .ok (.dcmp .l, 1) := by decide +kernel
theorem dL_holds_412 : decode cL_holds 412 = .ok (.ifCond .ne 7, 3) := by decide +kernel
theorem dL_holds_415 : decode cL_holds 415 = .ok (.iconst 1, 1) := by decide +kernel
theorem dL_holds_416 : decode cL_holds 416 = .ok (.goto 4, 3) := by decide +kernel
theorem dL_holds_419 : decode cL_holds 419 = .ok (.iconst 0, 1) := by decide +kernel
theorem dL_holds_420 : decode cL_holds 420 = .ok (.ireturn, 1) := by decide +kernel
