theorem dL_isSample_0 : decode cL_isSample 0 = .ok (.aload_n 0, 1) := by decide +kernel
theorem dL_isSample_1 : decode cL_isSample 1 = .ok (.iload_n 1, 1) := by decide +kernel
theorem dL_isSample_2 : decode cL_isSample 2 = .ok (.iconst 4, 1) := by decide +kernel
theorem dL_isSample_3 : decode cL_isSample 3 = .ok (.invokevirtual 23, 3) := by decide +kernel
theorem dL_isSample_6 : decode cL_isSample 6 = .ok (.istore_n 2, 1) := by decide +kernel
theorem dL_isSample_7 : decode cL_isSample 7 = .ok (.aload_n 0, 1) := by decide +kernel
theorem dL_isSample_8 : decode cL_isSample 8 = .ok (.iload_n 1, 1) := by decide +kernel
theorem dL_isSample_9 : decode cL_isSample 9 = .ok (.bipush 6, 2) := by decide +kernel
theorem dL_isSample_11 : decode cL_isSample 11 = .ok (.invokevirtual 23, 3) := by decide +kernel
theorem dL_isSample_14 : decode cL_isSample 14 = .ok (.istore_n 3, 1) := by decide +kernel
theorem dL_isSample_15 : decode cL_isSample 15 = .ok (.aload_n 0, 1) := by decide +kernel
theorem dL_isSample_16 : decode cL_isSample 16 = .ok (.iload_n 1, 1) := by decide +kernel
theorem dL_isSample_17 : decode cL_isSample 17 = .ok (.iconst 5, 1) := by decide +kernel
theorem dL_isSample_18 : decode cL_isSample 18 = .ok (.invokevirtual 23, 3) := by decide +kernel
theorem dL_isSample_21 : decode cL_isSample 21 = .ok (.istore 4, 2) := by decide +kernel
theorem dL_isSample_23 : decode cL_isSample 23 = .ok (.iload_n 2, 1) := by decide +kernel
theorem dL_isSample_24 : decode cL_isSample 24 = .ok (.ifCond .lt 122, 3) := by decide +kernel
theorem dL_isSample_27 : decode cL_isSample 27 = .ok (.iload_n 2, 1) := by decide +kernel
theorem dL_isSample_28 : decode cL_isSample 28 = .ok (.bipush 9, 2) := by decide +kernel
theorem dL_isSample_30 : decode cL_isSample 30 = .ok (.if_icmp .gt 116, 3) := by decide +kernel
theorem dL_isSample_33 : decode cL_isSample 33 = .ok (.iload 4, 2) := by decide +kernel
theorem dL_isSample_35 : decode cL_isSample 35 = .ok (.iconst (-1), 1) := by decide +kernel
theorem dL_isSample_36 : decode cL_isSample 36 = .ok (.if_icmp .ne 7, 3) := by decide +kernel
theorem dL_isSample_39 : decode cL_isSample 39 = .ok (.iconst 1, 1) := by decide +kernel
theorem dL_isSample_40 : decode cL_isSample 40 = .ok (.goto 4, 3) := by decide +kernel
theorem dL_isSample_43 : decode cL_isSample 43 = .ok (.iconst 0, 1) := by decide +kernel
theorem dL_isSample_44 : decode cL_isSample 44 = .ok (.iload_n 3, 1) := by decide +kernel
theorem dL_isSample_45 : decode cL_isSample 45 = .ok (.ifCond .eq 7, 3) := by decide +kernel
theorem dL_isSample_48 : decode cL_isSample 48 = .ok (.iconst 1, 1) := by decide +kernel
theorem dL_isSample_49 : decode cL_isSample 49 = .ok (.goto 4, 3) := by decide +kernel
theorem dL_isSample_52 : decode cL_isSample 52 = .ok (.iconst 0, 1) := by decide +kernel
theorem dL_isSample_53 : decode cL_isSample 53 = .ok (.if_icmp .ne 93, 3) := by decide +kernel
theorem dL_isSample_56 : decode cL_isSample 56 = .ok (.iload_n 3, 1) := by decide +kernel
theorem dL_isSample_57 : decode cL_isSample 57 = .ok (.iconst 5, 1) := by decide +kernel
theorem dL_isSample_58 : decode cL_isSample 58 = .ok (.if_icmp .ne 7, 3) := by decide +kernel
theorem dL_isSample_61 : decode cL_isSample 61 = .ok (.iconst 1, 1) := by decide +kernel
theorem dL_isSample_62 : decode cL_isSample 62 = .ok (.goto 4, 3) := by decide +kernel
theorem dL_isSample_65 : decode cL_isSample 65 = .ok (.iconst 0, 1) := by decide +kernel
theorem dL_isSample_66 : decode cL_isSample 66 = .ok (.iload_n 2, 1) := by decide +kernel
theorem dL_isSample_67 : decode cL_isSample 67 = .ok (.iconst 3, 1) := by decide +kernel
theorem dL_isSample_68 : decode cL_isSample 68 = .ok (.if_icmp .ge 7, 3) := by decide +kernel
theorem dL_isSample_71 : decode cL_isSample 71 = .ok (.iconst 1, 1) := by decide +kernel
theorem dL_isSample_72 : decode cL_isSample 72 = .ok (.goto 4, 3) := by decide +kernel
theorem dL_isSample_75 : decode cL_isSample 75 = .ok (.iconst 0, 1) := by decide +kernel
theorem dL_isSample_76 : decode cL_isSample 76 = .ok (.if_icmp .ne 70, 3) := by decide +kernel
theorem dL_isSample_79 : decode cL_isSample 79 = .ok (.aload_n 0, 1) := by decide +kernel
theorem dL_isSample_80 : decode cL_isSample 80 = .ok (.iload_n 1, 1) := by decide +kernel
theorem dL_isSample_81 : decode cL_isSample 81 = .ok (.iconst 2, 1) := by decide +kernel
theorem dL_isSample_82 : decode cL_isSample 82 = .ok (.invokevirtual 23, 3) := by decide +kernel
theorem dL_isSample_85 : decode cL_isSample 85 = .ok (.ifCond .lt 61, 3) := by decide +kernel
theorem dL_isSample_88 : decode cL_isSample 88 = .ok (.aload_n 0, 1) := by decide +kernel
theorem dL_isSample_89 : decode cL_isSample 89 = .ok (.iload_n 1, 1) := by decide +kernel
theorem dL_isSample_90 : decode cL_isSample 90 = .ok (.iconst 2, 1) := by decide +kernel
theorem dL_isSample_91 : decode cL_isSample 91 = .ok (.invokevirtual 23, 3) := by decide +kernel
theorem dL_isSample_94 : decode cL_isSample 94 = .ok (.sipush 900, 3) := by decide +kernel
theorem dL_isSample_97 : decode cL_isSample 97 = .ok (.if_icmp .gt 49, 3) := by decide +kernel
theorem dL_isSample_100 : decode cL_isSample 100 = .ok (.aload_n 0, 1) := by decide +kernel
theorem dL_isSample_101 : decode cL_isSample 101 = .ok (.iload_n 1, 1) := by decide +kernel
theorem dL_isSample_102 : decode cL_isSample 102 = .ok (.bipush 7, 2) := by decide +kernel
theorem dL_isSample_104 : decode cL_isSample 104 = .ok (.invokevirtual 23, 3) := by decide +kernel
theorem dL_isSample_107 : decode cL_isSample 107 = .ok (.iconst (-1), 1) := by decide +kernel
theorem dL_isSample_108 : decode cL_isSample 108 = .ok (.if_icmp .eq 16, 3) := by decide +kernel
theorem dL_isSample_111 : decode cL_isSample 111 = .ok (.aload_n 0, 1) := by decide +kernel
theorem dL_isSample_112 : decode cL_isSample 112 = .ok (.iload_n 1, 1) := by decide +kernel
theorem dL_isSample_113 : decode cL_isSample 113 = .ok (.bipush 7, 2) := by decide +kernel
theorem dL_isSample_115 : decode cL_isSample 115 = .ok (.invokevirtual 23, 3) := by decide +kernel
theorem dL_isSample_118 : decode cL_isSample 118 = .ok (.sipush 250, 3) := by decide +kernel
theorem dL_isSample_121 : decode cL_isSample 121 = .ok (.if_icmp .lt 25, 3) := by decide +kernel
theorem dL_isSample_124 : decode cL_isSample 124 = .ok (.aload_n 0, 1) := by decide +kernel
theorem dL_isSample_125 : decode cL_isSample 125 = .ok (.iload_n 1, 1) := by decide +kernel
theorem dL_isSample_126 : decode cL_isSample 126 = .ok (.iconst 3, 1) := by decide +kernel
theorem dL_isSample_127 : decode cL_isSample 127 = .ok (.invokevirtual 23, 3) := by decide +kernel
theorem dL_isSample_130 : decode cL_isSample 130 = .ok (.ifCond .ge 12, 3) := by decide +kernel
theorem dL_isSample_133 : decode cL_isSample 133 = .ok (.aload_n 0, 1) := by decide +kernel
theorem dL_isSample_134 : decode cL_isSample 134 = .ok (.iload_n 1, 1) := by decide +kernel
theorem dL_isSample_135 : decode cL_isSample 135 = .ok (.invokevirtual 91, 3) := by decide +kernel
theorem dL_isSample_138 : decode cL_isSample 138 = .ok (.iconst (-1), 1) := by decide +kernel
theorem dL_isSample_139 : decode cL_isSample 139 = .ok (.if_icmp .ne 7, 3) := by decide +kernel
theorem dL_isSample_142 : decode cL_isSample 142 = .ok (.iconst 1, 1) := by decide +kernel
theorem dL_isSample_143 : decode cL_isSample 143 = .ok (.goto 4, 3) := by decide +kernel
theorem dL_isSample_146 : decode cL_isSample 146 = .ok (.iconst 0, 1) := by decide +kernel
theorem dL_isSample_147 : decode cL_isSample 147 = .ok (.istore 5, 2) := by decide +kernel
theorem dL_isSample_149 : decode cL_isSample 149 = .ok (.iconst 0, 1) := by decide +kernel
theorem dL_isSample_150 : decode cL_isSample 150 = .ok (.istore 6, 2) := by decide +kernel
theorem dL_isSample_152 : decode cL_isSample 152 = .ok (.iload 6, 2) := by decide +kernel
theorem dL_isSample_154 : decode cL_isSample 154 = .ok (.bipush 10, 2) := by decide +kernel
theorem dL_isSample_156 : decode cL_isSample 156 = .ok (.if_icmp .ge 66, 3) := by decide +kernel
theorem dL_isSample_159 : decode cL_isSample 159 = .ok (.iload 5, 2) := by decide +kernel
theorem dL_isSample_161 : decode cL_isSample 161 = .ok (.ifCond .eq 52, 3) := by decide +kernel
theorem dL_isSample_164 : decode cL_isSample 164 = .ok (.aload_n 0, 1) := by decide +kernel
theorem dL_isSample_165 : decode cL_isSample 165 = .ok (.iload_n 1, 1) := by decide +kernel
theorem dL_isSample_166 : decode cL_isSample 166 = .ok (.iload 6, 2) := by decide +kernel
theorem dL_isSample_168 : decode cL_isSample 168 = .ok (.iconst 1, 1) := by decide +kernel
theorem dL_isSample_169 : decode cL_isSample 169 = .ok (.invokevirtual 26, 3) := by decide +kernel
theorem dL_isSample_172 : decode cL_isSample 172 = .ok (.iconst (-1), 1) := by decide +kernel
theorem dL_isSample_173 : decode cL_isSample 173 = .ok (.if_icmp .ne 7, 3) := by decide +kernel
theorem dL_isSample_176 : decode cL_isSample 176 = .ok (.iconst 1, 1) := by decide +kernel
theorem dL_isSample_177 : decode cL_isSample 177 = .ok (.goto 4, 3) := by decide +kernel
theorem dL_isSample_180 : decode cL_isSample 180 = .ok (.iconst 0, 1) := by decide +kernel
theorem dL_isSample_181 : decode cL_isSample 181 = .ok (.iload 6, 2) := by decide +kernel
theorem dL_isSample_183 : decode cL_isSample 183 = .ok (.iload_n 2, 1) := by decide +kernel
theorem dL_isSample_184 : decode cL_isSample 184 = .ok (.if_icmp .lt 7, 3) := by decide +kernel
theorem dL_isSample_187 : decode cL_isSample 187 = .ok (.iconst 1, 1) := by decide +kernel
theorem dL_isSample_188 : decode cL_isSample 188 = .ok (.goto 4, 3) := by decide +kernel
theorem dL_isSample_191 : decode cL_isSample 191 = .ok (.iconst 0, 1) := by decide +kernel
theorem dL_isSample_192 : decode cL_isSample 192 = .ok (.if_icmp .ne 21, 3) := by decide +kernel
theorem dL_isSample_195 : decode cL_isSample 195 = .ok (.aload_n 0, 1) := by decide +kernel
theorem dL_isSample_196 : decode cL_isSample 196 = .ok (.iload_n 1, 1) := by decide +kernel
theorem dL_isSample_197 : decode cL_isSample 197 = .ok (.iload 6, 2) := by decide +kernel
theorem dL_isSample_199 : decode cL_isSample 199 = .ok (.iconst 1, 1) := by decide +kernel
theorem dL_isSample_200 : decode cL_isSample 200 = .ok (.invokevirtual 26, 3) := by decide +kernel
theorem dL_isSample_203 : decode cL_isSample 203 = .ok (.sipush 400, 3) := by decide +kernel
theorem dL_isSample_206 : decode cL_isSample 206 = .ok (.if_icmp .gt 7, 3) := by decide +kernel
theorem dL_isSample_209 : decode cL_isSample 209 = .ok (.iconst 1, 1) := by decide +kernel
theorem dL_isSample_210 : decode cL_isSample 210 = .ok (.goto 4, 3) := by decide +kernel
theorem dL_isSample_213 : decode cL_isSample 213 = .ok (.iconst 0, 1) := by decide +kernel
theorem dL_isSample_214 : decode cL_isSample 214 = .ok (.istore 5, 2) := by decide +kernel
theorem dL_isSample_216 : decode cL_isSample 216 = .ok (.iinc 6 1, 3) := by decide +kernel
theorem dL_isSample_219 : decode cL_isSample 219 = .ok (.goto (-67), 3) := by decide +kernel
theorem dL_isSample_222 : decode cL_isSample 222 = .ok (.iconst 0, 1) := by decide +kernel
theorem dL_isSample_223 : decode cL_isSample 223 = .ok (.istore 6, 2) := by decide +kernel
theorem dL_isSample_225 : decode cL_isSample 225 = .ok (.iload_n 2, 1) := by decide +kernel
theorem dL_isSample_226 : decode cL_isSample 226 = .ok (.iconst 3, 1) := by decide +kernel
theorem dL_isSample_227 : decode cL_isSample 227 = .ok (.isub, 1) := by decide +kernel
theorem dL_isSample_228 : decode cL_isSample 228 = .ok (.istore 7, 2) := by decide +kernel
theorem dL_isSample_230 : decode cL_isSample 230 = .ok (.iload 7, 2) := by decide +kernel
theorem dL_isSample_232 : decode cL_isSample 232 = .ok (.iload_n 2, 1) := by decide +kernel
theorem dL_isSample_233 : decode cL_isSample 233 = .ok (.if_icmp .ge 140, 3) := by decide +kernel
theorem dL_isSample_236 : decode cL_isSample 236 = .ok (.iload 5, 2) := by decide +kernel
theorem dL_isSample_238 : decode cL_isSample 238 = .ok (.ifCond .eq 135, 3) := by decide +kernel
theorem dL_isSample_241 : decode cL_isSample 241 = .ok (.iload_n 3, 1) := by decide +kernel
theorem dL_isSample_242 : decode cL_isSample 242 = .ok (.ifCond .ne 131, 3) := by decide +kernel
theorem dL_isSample_245 : decode cL_isSample 245 = .ok (.iload 6, 2) := by decide +kernel
theorem dL_isSample_247 : decode cL_isSample 247 = .ok (.aload_n 0, 1) := by decide +kernel
theorem dL_isSample_248 : decode cL_isSample 248 = .ok (.iload_n 1, 1) := by decide +kernel
theorem dL_isSample_249 : decode cL_isSample 249 = .ok (.iload 7, 2) := by decide +kernel
theorem dL_isSample_251 : decode cL_isSample 251 = .ok (.iconst 1, 1) := by decide +kernel
theorem dL_isSample_252 : decode cL_isSample 252 = .ok (.invokevirtual 26, 3) := by decide +kernel
theorem dL_isSample_255 : decode cL_isSample 255 = .ok (.iadd, 1) := by decide +kernel
theorem dL_isSample_256 : decode cL_isSample 256 = .ok (.istore 6, 2) := by decide +kernel
theorem dL_isSample_258 : decode cL_isSample 258 = .ok (.aload_n 0, 1) := by decide +kernel
theorem dL_isSample_259 : decode cL_isSample 259 = .ok (.iload_n 1, 1) := by decide +kernel
theorem dL_isSample_260 : decode cL_isSample 260 = .ok (.iload 7, 2) := by decide +kernel
theorem dL_isSample_262 : decode cL_isSample 262 = .ok (.iconst 2, 1) := by decide +kernel
theorem dL_isSample_263 : decode cL_isSample 263 = .ok (.invokevirtual 26, 3) := by decide +kernel
theorem dL_isSample_266 : decode cL_isSample 266 = .ok (.bipush 100, 2) := by decide +kernel
theorem dL_isSample_268 : decode cL_isSample 268 = .ok (.if_icmp .ne 41, 3) := by decide +kernel
theorem dL_isSample_271 : decode cL_isSample 271 = .ok (.aload_n 0, 1) := by decide +kernel
theorem dL_isSample_272 : decode cL_isSample 272 = .ok (.iload_n 1, 1) := by decide +kernel
theorem dL_isSample_273 : decode cL_isSample 273 = .ok (.iload 7, 2) := by decide +kernel
theorem dL_isSample_275 : decode cL_isSample 275 = .ok (.iconst 3, 1) := by decide +kernel
theorem dL_isSample_276 : decode cL_isSample 276 = .ok (.invokevirtual 26, 3) := by decide +kernel
theorem dL_isSample_279 : decode cL_isSample 279 = .ok (.iconst 5, 1) := by decide +kernel
theorem dL_isSample_280 : decode cL_isSample 280 = .ok (.if_icmp .ne 29, 3) := by decide +kernel
theorem dL_isSample_283 : decode cL_isSample 283 = .ok (.aload_n 0, 1) := by decide +kernel
theorem dL_isSample_284 : decode cL_isSample 284 = .ok (.iload_n 1, 1) := by decide +kernel
theorem dL_isSample_285 : decode cL_isSample 285 = .ok (.bipush 8, 2) := by decide +kernel
theorem dL_isSample_287 : decode cL_isSample 287 = .ok (.invokevirtual 23, 3) := by decide +kernel
theorem dL_isSample_290 : decode cL_isSample 290 = .ok (.aload_n 0, 1) := by decide +kernel
theorem dL_isSample_291 : decode cL_isSample 291 = .ok (.iload_n 1, 1) := by decide +kernel
theorem dL_isSample_292 : decode cL_isSample 292 = .ok (.iload 7, 2) := by decide +kernel
theorem dL_isSample_294 : decode cL_isSample 294 = .ok (.iconst 0, 1) := by decide +kernel
theorem dL_isSample_295 : decode cL_isSample 295 = .ok (.invokevirtual 26, 3) := by decide +kernel
theorem dL_isSample_298 : decode cL_isSample 298 = .ok (.ishr, 1) := by decide +kernel
theorem dL_isSample_299 : decode cL_isSample 299 = .ok (.iconst 1, 1) := by decide +kernel
theorem dL_isSample_300 : decode cL_isSample 300 = .ok (.iand, 1) := by decide +kernel
theorem dL_isSample_301 : decode cL_isSample 301 = .ok (.iconst 1, 1) := by decide +kernel
theorem dL_isSample_302 : decode cL_isSample 302 = .ok (.if_icmp .ne 7, 3) := by decide +kernel
theorem dL_isSample_305 : decode cL_isSample 305 = .ok (.iconst 1, 1) := by decide +kernel
theorem dL_isSample_306 : decode cL_isSample 306 = .ok (.goto 4, 3) := by decide +kernel
theorem dL_isSample_309 : decode cL_isSample 309 = .ok (.iconst 0, 1) := by decide +kernel
theorem dL_isSample_310 : decode cL_isSample 310 = .ok (.istore 5, 2) := by decide +kernel
theorem dL_isSample_312 : decode cL_isSample 312 = .ok (.iload_n 2, 1) := by decide +kernel
theorem dL_isSample_313 : decode cL_isSample 313 = .ok (.iconst 3, 1) := by decide +kernel
theorem dL_isSample_314 : decode cL_isSample 314 = .ok (.isub, 1) := by decide +kernel
theorem dL_isSample_315 : decode cL_isSample 315 = .ok (.istore 8, 2) := by decide +kernel
theorem dL_isSample_317 : decode cL_isSample 317 = .ok (.iload 8, 2) := by decide +kernel
theorem dL_isSample_319 : decode cL_isSample 319 = .ok (.iload_n 2, 1) := by decide +kernel
theorem dL_isSample_320 : decode cL_isSample 320 = .ok (.if_icmp .ge 47, 3) := by decide +kernel
theorem dL_isSample_323 : decode cL_isSample 323 = .ok (.iload 5, 2) := by decide +kernel
theorem dL_isSample_325 : decode cL_isSample 325 = .ok (.ifCond .eq 33, 3) := by decide +kernel
theorem dL_isSample_328 : decode cL_isSample 328 = .ok (.aload_n 0, 1) := by decide +kernel
theorem dL_isSample_329 : decode cL_isSample 329 = .ok (.iload_n 1, 1) := by decide +kernel
theorem dL_isSample_330 : decode cL_isSample 330 = .ok (.iload 7, 2) := by decide +kernel
theorem dL_isSample_332 : decode cL_isSample 332 = .ok (.iconst 1, 1) := by decide +kernel
theorem dL_isSample_333 : decode cL_isSample 333 = .ok (.invokevirtual 26, 3) := by decide +kernel
theorem dL_isSample_336 : decode cL_isSample 336 = .ok (.aload_n 0, 1) := by decide +kernel
theorem dL_isSample_337 : decode cL_isSample 337 = .ok (.iload_n 1, 1) := by decide +kernel
theorem dL_isSample_338 : decode cL_isSample 338 = .ok (.iload 8, 2) := by decide +kernel
theorem dL_isSample_340 : decode cL_isSample 340 = .ok (.iconst 1, 1) := by decide +kernel
theorem dL_isSample_341 : decode cL_isSample 341 = .ok (.invokevirtual 26, 3) := by decide +kernel
theorem dL_isSample_344 : decode cL_isSample 344 = .ok (.isub, 1) := by decide +kernel
theorem dL_isSample_345 : decode cL_isSample 345 = .ok (.aload_n 0, 1) := by decide +kernel
theorem dL_isSample_346 : decode cL_isSample 346 = .ok (.bipush 9, 2) := by decide +kernel
theorem dL_isSample_348 : decode cL_isSample 348 = .ok (.invokevirtual 13, 3) := by decide +kernel
theorem dL_isSample_351 : decode cL_isSample 351 = .ok (.if_icmp .gt 7, 3) := by decide +kernel
theorem dL_isSample_354 : decode cL_isSample 354 = .ok (.iconst 1, 1) := by decide +kernel
theorem dL_isSample_355 : decode cL_isSample 355 = .ok (.goto 4, 3) := by decide +kernel
theorem dL_isSample_358 : decode cL_isSample 358 = .ok (.iconst 0, 1) := by decide +kernel
theorem dL_isSample_359 : decode cL_isSample 359 = .ok (.istore 5, 2) := by decide +kernel
theorem dL_isSample_361 : decode cL_isSample 361 = .ok (.iinc 8 1, 3) := by decide +kernel
theorem dL_isSample_364 : decode cL_isSample 364 = .ok (.goto (-47), 3) := by decide +kernel
theorem dL_isSample_367 : decode cL_isSample 367 = .ok (.iinc 7 1, 3) := by decide +kernel
theorem dL_isSample_370 : decode cL_isSample 370 = .ok (.goto (-140), 3) := by decide +kernel
theorem dL_isSample_373 : decode cL_isSample 373 = .ok (.aload_n 0, 1) := by decide +kernel
theorem dL_isSample_374 : decode cL_isSample 374 = .ok (.iload_n 1, 1) := by decide +kernel
theorem dL_isSample_375 : decode cL_isSample 375 = .ok (.invokevirtual 94, 3) := by decide +kernel
theorem dL_isSample_378 : decode cL_isSample 378 = .ok (.istore 7, 2) := by decide +kernel
theorem dL_isSample_380 : decode cL_isSample 380 = .ok (.iload 5, 2) := by decide +kernel
theorem dL_isSample_382 : decode cL_isSample 382 = .ok (.ifCond .eq 37, 3) := by decide +kernel
theorem dL_isSample_385 : decode cL_isSample 385 = .ok (.iload_n 3, 1) := by decide +kernel
theorem dL_isSample_386 : decode cL_isSample 386 = .ok (.ifCond .gt 12, 3) := by decide +kernel
theorem dL_isSample_389 : decode cL_isSample 389 = .ok (.iload 4, 2) := by decide +kernel
theorem dL_isSample_391 : decode cL_isSample 391 = .ok (.iload 6, 2) := by decide +kernel
theorem dL_isSample_393 : decode cL_isSample 393 = .ok (.iconst 3, 1) := by decide +kernel
theorem dL_isSample_394 : decode cL_isSample 394 = .ok (.idiv, 1) := by decide +kernel
theorem dL_isSample_395 : decode cL_isSample 395 = .ok (.if_icmp .ne 24, 3) := by decide +kernel
theorem dL_isSample_398 : decode cL_isSample 398 = .ok (.iload 7, 2) := by decide +kernel
theorem dL_isSample_400 : decode cL_isSample 400 = .ok (.iconst (-1), 1) := by decide +kernel
theorem dL_isSample_401 : decode cL_isSample 401 = .ok (.if_icmp .eq 14, 3) := by decide +kernel
theorem dL_isSample_404 : decode cL_isSample 404 = .ok (.aload_n 0, 1) := by decide +kernel
theorem dL_isSample_405 : decode cL_isSample 405 = .ok (.iload 7, 2) := by decide +kernel
theorem dL_isSample_407 : decode cL_isSample 407 = .ok (.iconst 1, 1) := by decide +kernel
theorem dL_isSample_408 : decode cL_isSample 408 = .ok (.invokevirtual 33, 3) := by decide +kernel
theorem dL_isSample_411 : decode cL_isSample 411 = .ok (.iconst 3, 1) := by decide +kernel
theorem dL_isSample_412 : decode cL_isSample 412 = .ok (.if_icmp .gt 7, 3) := by decide +kernel
theorem dL_isSample_415 : decode cL_isSample 415 = .ok (.iconst 1, 1) := by decide +kernel
theorem dL_isSample_416 : decode cL_isSample 416 = .ok (.goto 4, 3) := by decide +kernel
theorem dL_isSample_419 : decode cL_isSample 419 = .ok (.iconst 0, 1) := by decide +kernel
theorem dL_isSample_420 : decode cL_isSample 420 = .ok (.ireturn, 1) := by decide +kernel
