theorem dL_isAhead_0 : decode cL_isAhead 0 = .ok (.aload_n 0, 1) := by decide +kernel
theorem dL_isAhead_1 : decode cL_isAhead 1 = .ok (.invokestatic 111, 3) := by decide +kernel
theorem dL_isAhead_4 : decode cL_isAhead 4 = .ok (.lstore 4, 2) := by decide +kernel
theorem dL_isAhead_6 : decode cL_isAhead 6 = .ok (.bipush 50, 2) := by decide +kernel
theorem dL_isAhead_8 : decode cL_isAhead 8 = .ok (.iload_n 3, 1) := by decide +kernel
theorem dL_isAhead_9 : decode cL_isAhead 9 = .ok (.sipush 150, 3) := by decide +kernel
theorem dL_isAhead_12 : decode cL_isAhead 12 = .ok (.invokestatic 39, 3) := by decide +kernel
theorem dL_isAhead_15 : decode cL_isAhead 15 = .ok (.iadd, 1) := by decide +kernel
theorem dL_isAhead_16 : decode cL_isAhead 16 = .ok (.istore 6, 2) := by decide +kernel
theorem dL_isAhead_18 : decode cL_isAhead 18 = .ok (.iconst 1, 1) := by decide +kernel
theorem dL_isAhead_19 : decode cL_isAhead 19 = .ok (.iload_n 3, 1) := by decide +kernel
theorem dL_isAhead_20 : decode cL_isAhead 20 = .ok (.iconst 5, 1) := by decide +kernel
theorem dL_isAhead_21 : decode cL_isAhead 21 = .ok (.ishr, 1) := by decide +kernel
theorem dL_isAhead_22 : decode cL_isAhead 22 = .ok (.bipush 59, 2) := by decide +kernel
theorem dL_isAhead_24 : decode cL_isAhead 24 = .ok (.invokestatic 39, 3) := by decide +kernel
theorem dL_isAhead_27 : decode cL_isAhead 27 = .ok (.iadd, 1) := by decide +kernel
theorem dL_isAhead_28 : decode cL_isAhead 28 = .ok (.istore 7, 2) := by decide +kernel
theorem dL_isAhead_30 : decode cL_isAhead 30 = .ok (.aload_n 0, 1) := by decide +kernel
theorem dL_isAhead_31 : decode cL_isAhead 31 = .ok (.iload_n 1, 1) := by decide +kernel
theorem dL_isAhead_32 : decode cL_isAhead 32 = .ok (.iload_n 2, 1) := by decide +kernel
theorem dL_isAhead_33 : decode cL_isAhead 33 = .ok (.iload 6, 2) := by decide +kernel
theorem dL_isAhead_35 : decode cL_isAhead 35 = .ok (.iload 7, 2) := by decide +kernel
theorem dL_isAhead_37 : decode cL_isAhead 37 = .ok (.invokevirtual 115, 3) := by decide +kernel
theorem dL_isAhead_40 : decode cL_isAhead 40 = .ok (.istore 8, 2) := by decide +kernel
theorem dL_isAhead_42 : decode cL_isAhead 42 = .ok (.iconst 1, 1) := by decide +kernel
theorem dL_isAhead_43 : decode cL_isAhead 43 = .ok (.iload_n 3, 1) := by decide +kernel
theorem dL_isAhead_44 : decode cL_isAhead 44 = .ok (.iconst 3, 1) := by decide +kernel
theorem dL_isAhead_45 : decode cL_isAhead 45 = .ok (.ishr, 1) := by decide +kernel
theorem dL_isAhead_46 : decode cL_isAhead 46 = .ok (.sipush 400, 3) := by decide +kernel
theorem dL_isAhead_49 : decode cL_isAhead 49 = .ok (.invokestatic 39, 3) := by decide +kernel
theorem dL_isAhead_52 : decode cL_isAhead 52 = .ok (.iadd, 1) := by decide +kernel
theorem dL_isAhead_53 : decode cL_isAhead 53 = .ok (.istore 9, 2) := by decide +kernel
theorem dL_isAhead_55 : decode cL_isAhead 55 = .ok (.aload_n 0, 1) := by decide +kernel
theorem dL_isAhead_56 : decode cL_isAhead 56 = .ok (.iload_n 1, 1) := by decide +kernel
theorem dL_isAhead_57 : decode cL_isAhead 57 = .ok (.iload_n 2, 1) := by decide +kernel
theorem dL_isAhead_58 : decode cL_isAhead 58 = .ok (.iload 6, 2) := by decide +kernel
theorem dL_isAhead_60 : decode cL_isAhead 60 = .ok (.iload 9, 2) := by decide +kernel
theorem dL_isAhead_62 : decode cL_isAhead 62 = .ok (.invokevirtual 118, 3) := by decide +kernel
theorem dL_isAhead_65 : decode cL_isAhead 65 = .ok (.istore 10, 2) := by decide +kernel
theorem dL_isAhead_67 : decode cL_isAhead 67 = .ok (.iload 8, 2) := by decide +kernel
theorem dL_isAhead_69 : decode cL_isAhead 69 = .ok (.ifCond .lt 111, 3) := by decide +kernel
theorem dL_isAhead_72 : decode cL_isAhead 72 = .ok (.iload 8, 2) := by decide +kernel
theorem dL_isAhead_74 : decode cL_isAhead 74 = .ok (.sipush 400, 3) := by decide +kernel
theorem dL_isAhead_77 : decode cL_isAhead 77 = .ok (.if_icmp .gt 103, 3) := by decide +kernel
theorem dL_isAhead_80 : decode cL_isAhead 80 = .ok (.aload_n 0, 1) := by decide +kernel
theorem dL_isAhead_81 : decode cL_isAhead 81 = .ok (.iload_n 1, 1) := by decide +kernel
theorem dL_isAhead_82 : decode cL_isAhead 82 = .ok (.iload_n 2, 1) := by decide +kernel
theorem dL_isAhead_83 : decode cL_isAhead 83 = .ok (.iload 6, 2) := by decide +kernel
theorem dL_isAhead_85 : decode cL_isAhead 85 = .ok (.iconst 1, 1) := by decide +kernel
theorem dL_isAhead_86 : decode cL_isAhead 86 = .ok (.iadd, 1) := by decide +kernel
theorem dL_isAhead_87 : decode cL_isAhead 87 = .ok (.iload 7, 2) := by decide +kernel
theorem dL_isAhead_89 : decode cL_isAhead 89 = .ok (.invokevirtual 115, 3) := by decide +kernel
theorem dL_isAhead_92 : decode cL_isAhead 92 = .ok (.iload 8, 2) := by decide +kernel
theorem dL_isAhead_94 : decode cL_isAhead 94 = .ok (.if_icmp .lt 86, 3) := by decide +kernel
theorem dL_isAhead_97 : decode cL_isAhead 97 = .ok (.aload_n 0, 1) := by decide +kernel
theorem dL_isAhead_98 : decode cL_isAhead 98 = .ok (.iload_n 1, 1) := by decide +kernel
theorem dL_isAhead_99 : decode cL_isAhead 99 = .ok (.iload_n 2, 1) := by decide +kernel
theorem dL_isAhead_100 : decode cL_isAhead 100 = .ok (.iload 6, 2) := by decide +kernel
theorem dL_isAhead_102 : decode cL_isAhead 102 = .ok (.iload 7, 2) := by decide +kernel
theorem dL_isAhead_104 : decode cL_isAhead 104 = .ok (.iconst 1, 1) := by decide +kernel
theorem dL_isAhead_105 : decode cL_isAhead 105 = .ok (.iadd, 1) := by decide +kernel
theorem dL_isAhead_106 : decode cL_isAhead 106 = .ok (.invokevirtual 115, 3) := by decide +kernel
theorem dL_isAhead_109 : decode cL_isAhead 109 = .ok (.iload 8, 2) := by decide +kernel
theorem dL_isAhead_111 : decode cL_isAhead 111 = .ok (.if_icmp .lt 69, 3) := by decide +kernel
theorem dL_isAhead_114 : decode cL_isAhead 114 = .ok (.iload 10, 2) := by decide +kernel
theorem dL_isAhead_116 : decode cL_isAhead 116 = .ok (.iconst (-1), 1) := by decide +kernel
theorem dL_isAhead_117 : decode cL_isAhead 117 = .ok (.if_icmp .ne 21, 3) := by decide +kernel
theorem dL_isAhead_120 : decode cL_isAhead 120 = .ok (.aload_n 0, 1) := by decide +kernel
theorem dL_isAhead_121 : decode cL_isAhead 121 = .ok (.iload_n 1, 1) := by decide +kernel
theorem dL_isAhead_122 : decode cL_isAhead 122 = .ok (.iload_n 2, 1) := by decide +kernel
theorem dL_isAhead_123 : decode cL_isAhead 123 = .ok (.iload 6, 2) := by decide +kernel
theorem dL_isAhead_125 : decode cL_isAhead 125 = .ok (.bipush 60, 2) := by decide +kernel
theorem dL_isAhead_127 : decode cL_isAhead 127 = .ok (.invokevirtual 115, 3) := by decide +kernel
theorem dL_isAhead_130 : decode cL_isAhead 130 = .ok (.iload 9, 2) := by decide +kernel
theorem dL_isAhead_132 : decode cL_isAhead 132 = .ok (.if_icmp .ge 48, 3) := by decide +kernel
theorem dL_isAhead_135 : decode cL_isAhead 135 = .ok (.goto 41, 3) := by decide +kernel
theorem dL_isAhead_138 : decode cL_isAhead 138 = .ok (.aload_n 0, 1) := by decide +kernel
theorem dL_isAhead_139 : decode cL_isAhead 139 = .ok (.iload_n 1, 1) := by decide +kernel
theorem dL_isAhead_140 : decode cL_isAhead 140 = .ok (.iload_n 2, 1) := by decide +kernel
theorem dL_isAhead_141 : decode cL_isAhead 141 = .ok (.iload 6, 2) := by decide +kernel
theorem dL_isAhead_143 : decode cL_isAhead 143 = .ok (.iload 10, 2) := by decide +kernel
theorem dL_isAhead_145 : decode cL_isAhead 145 = .ok (.invokevirtual 115, 3) := by decide +kernel
theorem dL_isAhead_148 : decode cL_isAhead 148 = .ok (.iload 9, 2) := by decide +kernel
theorem dL_isAhead_150 : decode cL_isAhead 150 = .ok (.if_icmp .lt 30, 3) := by decide +kernel
theorem dL_isAhead_153 : decode cL_isAhead 153 = .ok (.iload 10, 2) := by decide +kernel
theorem dL_isAhead_155 : decode cL_isAhead 155 = .ok (.iconst 1, 1) := by decide +kernel
theorem dL_isAhead_156 : decode cL_isAhead 156 = .ok (.if_icmp .eq 20, 3) := by decide +kernel
theorem dL_isAhead_159 : decode cL_isAhead 159 = .ok (.aload_n 0, 1) := by decide +kernel
theorem dL_isAhead_160 : decode cL_isAhead 160 = .ok (.iload_n 1, 1) := by decide +kernel
theorem dL_isAhead_161 : decode cL_isAhead 161 = .ok (.iload_n 2, 1) := by decide +kernel
theorem dL_isAhead_162 : decode cL_isAhead 162 = .ok (.iload 6, 2) := by decide +kernel
theorem dL_isAhead_164 : decode cL_isAhead 164 = .ok (.iload 10, 2) := by decide +kernel
theorem dL_isAhead_166 : decode cL_isAhead 166 = .ok (.iconst 1, 1) := by decide +kernel
theorem dL_isAhead_167 : decode cL_isAhead 167 = .ok (.isub, 1) := by decide +kernel
theorem dL_isAhead_168 : decode cL_isAhead 168 = .ok (.invokevirtual 115, 3) := by decide +kernel
theorem dL_isAhead_171 : decode cL_isAhead 171 = .ok (.iload 9, 2) := by decide +kernel
theorem dL_isAhead_173 : decode cL_isAhead 173 = .ok (.if_icmp .ge 7, 3) := by decide +kernel
theorem dL_isAhead_176 : decode cL_isAhead 176 = .ok (.iconst 1, 1) := by decide +kernel
theorem dL_isAhead_177 : decode cL_isAhead 177 = .ok (.goto 4, 3) := by decide +kernel
theorem dL_isAhead_180 : decode cL_isAhead 180 = .ok (.iconst 0, 1) := by decide +kernel
theorem dL_isAhead_181 : decode cL_isAhead 181 = .ok (.istore 11, 2) := by decide +kernel
theorem dL_isAhead_183 : decode cL_isAhead 183 = .ok (.aload_n 0, 1) := by decide +kernel
theorem dL_isAhead_184 : decode cL_isAhead 184 = .ok (.iload_n 1, 1) := by decide +kernel
theorem dL_isAhead_185 : decode cL_isAhead 185 = .ok (.iload_n 2, 1) := by decide +kernel
theorem dL_isAhead_186 : decode cL_isAhead 186 = .ok (.invokevirtual 84, 3) := by decide +kernel
theorem dL_isAhead_189 : decode cL_isAhead 189 = .ok (.istore 12, 2) := by decide +kernel
theorem dL_isAhead_191 : decode cL_isAhead 191 = .ok (.iload 11, 2) := by decide +kernel
theorem dL_isAhead_193 : decode cL_isAhead 193 = .ok (.ifCond .eq 81, 3) := by decide +kernel
theorem dL_isAhead_196 : decode cL_isAhead 196 = .ok (.iload 12, 2) := by decide +kernel
theorem dL_isAhead_198 : decode cL_isAhead 198 = .ok (.iconst 1, 1) := by decide +kernel
theorem dL_isAhead_199 : decode cL_isAhead 199 = .ok (.if_icmp .ne 7, 3) := by decide +kernel
theorem dL_isAhead_202 : decode cL_isAhead 202 = .ok (.iconst 1, 1) := by decide +kernel
theorem dL_isAhead_203 : decode cL_isAhead 203 = .ok (.goto 4, 3) := by decide +kernel
theorem dL_isAhead_206 : decode cL_isAhead 206 = .ok (.iconst 0, 1) := by decide +kernel
theorem dL_isAhead_207 : decode cL_isAhead 207 = .ok (.aload_n 0, 1) := by decide +kernel
theorem dL_isAhead_208 : decode cL_isAhead 208 = .ok (.iload_n 1, 1) := by decide +kernel
theorem dL_isAhead_209 : decode cL_isAhead 209 = .ok (.iconst 1, 1) := by decide +kernel
theorem dL_isAhead_210 : decode cL_isAhead 210 = .ok (.invokevirtual 30, 3) := by decide +kernel
theorem dL_isAhead_213 : decode cL_isAhead 213 = .ok (.iconst 1, 1) := by decide +kernel
theorem dL_isAhead_214 : decode cL_isAhead 214 = .ok (.if_icmp .ne 7, 3) := by decide +kernel
theorem dL_isAhead_217 : decode cL_isAhead 217 = .ok (.iconst 1, 1) := by decide +kernel
theorem dL_isAhead_218 : decode cL_isAhead 218 = .ok (.goto 4, 3) := by decide +kernel
theorem dL_isAhead_221 : decode cL_isAhead 221 = .ok (.iconst 0, 1) := by decide +kernel
theorem dL_isAhead_222 : decode cL_isAhead 222 = .ok (.if_icmp .ne 52, 3) := by decide +kernel
theorem dL_isAhead_225 : decode cL_isAhead 225 = .ok (.iload 12, 2) := by decide +kernel
theorem dL_isAhead_227 : decode cL_isAhead 227 = .ok (.iconst 1, 1) := by decide +kernel
theorem dL_isAhead_228 : decode cL_isAhead 228 = .ok (.if_icmp .eq 32, 3) := by decide +kernel
theorem dL_isAhead_231 : decode cL_isAhead 231 = .ok (.iload 12, 2) := by decide +kernel
theorem dL_isAhead_233 : decode cL_isAhead 233 = .ok (.iconst 2, 1) := by decide +kernel
theorem dL_isAhead_234 : decode cL_isAhead 234 = .ok (.if_icmp .ne 7, 3) := by decide +kernel
theorem dL_isAhead_237 : decode cL_isAhead 237 = .ok (.iconst 1, 1) := by decide +kernel
theorem dL_isAhead_238 : decode cL_isAhead 238 = .ok (.goto 4, 3) := by decide +kernel
theorem dL_isAhead_241 : decode cL_isAhead 241 = .ok (.iconst 0, 1) := by decide +kernel
theorem dL_isAhead_242 : decode cL_isAhead 242 = .ok (.aload_n 0, 1) := by decide +kernel
theorem dL_isAhead_243 : decode cL_isAhead 243 = .ok (.iload_n 2, 1) := by decide +kernel
theorem dL_isAhead_244 : decode cL_isAhead 244 = .ok (.iconst 3, 1) := by decide +kernel
theorem dL_isAhead_245 : decode cL_isAhead 245 = .ok (.invokevirtual 23, 3) := by decide +kernel
theorem dL_isAhead_248 : decode cL_isAhead 248 = .ok (.iconst (-1), 1) := by decide +kernel
theorem dL_isAhead_249 : decode cL_isAhead 249 = .ok (.if_icmp .ne 7, 3) := by decide +kernel
theorem dL_isAhead_252 : decode cL_isAhead 252 = .ok (.iconst 1, 1) := by decide +kernel
theorem dL_isAhead_253 : decode cL_isAhead 253 = .ok (.goto 4, 3) := by decide +kernel
theorem dL_isAhead_256 : decode cL_isAhead 256 = .ok (.iconst 0, 1) := by decide +kernel
theorem dL_isAhead_257 : decode cL_isAhead 257 = .ok (.if_icmp .ne 17, 3) := by decide +kernel
theorem dL_isAhead_260 : decode cL_isAhead 260 = .ok (.aload_n 0, 1) := by decide +kernel
theorem dL_isAhead_261 : decode cL_isAhead 261 = .ok (.invokestatic 111, 3) := by decide +kernel
theorem dL_isAhead_264 : decode cL_isAhead 264 = .ok (.lload 4, 2) := by decide +kernel
theorem dL_isAhead_266 : decode cL_isAhead 266 = .ok (.lcmp, 1) := by decide +kernel
theorem dL_isAhead_267 : decode cL_isAhead 267 = .ok (.ifCond .ne 7, 3) := by decide +kernel
theorem dL_isAhead_270 : decode cL_isAhead 270 = .ok (.iconst 1, 1) := by decide +kernel
theorem dL_isAhead_271 : decode cL_isAhead 271 = .ok (.goto 4, 3) := by decide +kernel
theorem dL_isAhead_274 : decode cL_isAhead 274 = .ok (.iconst 0, 1) := by decide +kernel
theorem dL_isAhead_275 : decode cL_isAhead 275 = .ok (.istore 11, 2) := by decide +kernel
theorem dL_isAhead_277 : decode cL_isAhead 277 = .ok (.iload 11, 2) := by decide +kernel
theorem dL_isAhead_279 : decode cL_isAhead 279 = .ok (.ifCond .eq 100, 3) := by decide +kernel
theorem dL_isAhead_282 : decode cL_isAhead 282 = .ok (.iload 12, 2) := by decide +kernel
theorem dL_isAhead_284 : decode cL_isAhead 284 = .ok (.ifCond .ne 95, 3) := by decide +kernel
theorem dL_isAhead_287 : decode cL_isAhead 287 = .ok (.aload_n 0, 1) := by decide +kernel
theorem dL_isAhead_288 : decode cL_isAhead 288 = .ok (.iconst 2, 1) := by decide +kernel
theorem dL_isAhead_289 : decode cL_isAhead 289 = .ok (.invokevirtual 13, 3) := by decide +kernel
theorem dL_isAhead_292 : decode cL_isAhead 292 = .ok (.istore 13, 2) := by decide +kernel
theorem dL_isAhead_294 : decode cL_isAhead 294 = .ok (.aload_n 0, 1) := by decide +kernel
theorem dL_isAhead_295 : decode cL_isAhead 295 = .ok (.iload_n 2, 1) := by decide +kernel
theorem dL_isAhead_296 : decode cL_isAhead 296 = .ok (.iconst 4, 1) := by decide +kernel
theorem dL_isAhead_297 : decode cL_isAhead 297 = .ok (.invokevirtual 23, 3) := by decide +kernel
theorem dL_isAhead_300 : decode cL_isAhead 300 = .ok (.istore 14, 2) := by decide +kernel
theorem dL_isAhead_302 : decode cL_isAhead 302 = .ok (.aload_n 0, 1) := by decide +kernel
theorem dL_isAhead_303 : decode cL_isAhead 303 = .ok (.iload_n 1, 1) := by decide +kernel
theorem dL_isAhead_304 : decode cL_isAhead 304 = .ok (.iload_n 2, 1) := by decide +kernel
theorem dL_isAhead_305 : decode cL_isAhead 305 = .ok (.iload 6, 2) := by decide +kernel
theorem dL_isAhead_307 : decode cL_isAhead 307 = .ok (.iload 7, 2) := by decide +kernel
theorem dL_isAhead_309 : decode cL_isAhead 309 = .ok (.invokevirtual 87, 3) := by decide +kernel
theorem dL_isAhead_312 : decode cL_isAhead 312 = .ok (.iload 8, 2) := by decide +kernel
theorem dL_isAhead_314 : decode cL_isAhead 314 = .ok (.if_icmp .ne 62, 3) := by decide +kernel
theorem dL_isAhead_317 : decode cL_isAhead 317 = .ok (.aload_n 0, 1) := by decide +kernel
theorem dL_isAhead_318 : decode cL_isAhead 318 = .ok (.iconst 2, 1) := by decide +kernel
theorem dL_isAhead_319 : decode cL_isAhead 319 = .ok (.invokevirtual 13, 3) := by decide +kernel
theorem dL_isAhead_322 : decode cL_isAhead 322 = .ok (.iload 13, 2) := by decide +kernel
theorem dL_isAhead_324 : decode cL_isAhead 324 = .ok (.iconst 1, 1) := by decide +kernel
theorem dL_isAhead_325 : decode cL_isAhead 325 = .ok (.iadd, 1) := by decide +kernel
theorem dL_isAhead_326 : decode cL_isAhead 326 = .ok (.if_icmp .ne 50, 3) := by decide +kernel
theorem dL_isAhead_329 : decode cL_isAhead 329 = .ok (.aload_n 0, 1) := by decide +kernel
theorem dL_isAhead_330 : decode cL_isAhead 330 = .ok (.iload_n 2, 1) := by decide +kernel
theorem dL_isAhead_331 : decode cL_isAhead 331 = .ok (.iconst 4, 1) := by decide +kernel
theorem dL_isAhead_332 : decode cL_isAhead 332 = .ok (.invokevirtual 23, 3) := by decide +kernel
theorem dL_isAhead_335 : decode cL_isAhead 335 = .ok (.iload 14, 2) := by decide +kernel
theorem dL_isAhead_337 : decode cL_isAhead 337 = .ok (.iconst 1, 1) := by decide +kernel
theorem dL_isAhead_338 : decode cL_isAhead 338 = .ok (.iadd, 1) := by decide +kernel
theorem dL_isAhead_339 : decode cL_isAhead 339 = .ok (.if_icmp .ne 37, 3) := by decide +kernel
theorem dL_isAhead_342 : decode cL_isAhead 342 = .ok (.aload_n 0, 1) := by decide +kernel
theorem dL_isAhead_343 : decode cL_isAhead 343 = .ok (.iload_n 2, 1) := by decide +kernel
theorem dL_isAhead_344 : decode cL_isAhead 344 = .ok (.iload 14, 2) := by decide +kernel
theorem dL_isAhead_346 : decode cL_isAhead 346 = .ok (.iconst 1, 1) := by decide +kernel
theorem dL_isAhead_347 : decode cL_isAhead 347 = .ok (.invokevirtual 26, 3) := by decide +kernel
theorem dL_isAhead_350 : decode cL_isAhead 350 = .ok (.iload 8, 2) := by decide +kernel
theorem dL_isAhead_352 : decode cL_isAhead 352 = .ok (.if_icmp .ne 24, 3) := by decide +kernel
theorem dL_isAhead_355 : decode cL_isAhead 355 = .ok (.aload_n 0, 1) := by decide +kernel
theorem dL_isAhead_356 : decode cL_isAhead 356 = .ok (.invokevirtual 121, 3) := by decide +kernel
theorem dL_isAhead_359 : decode cL_isAhead 359 = .ok (.ifCond .lt 17, 3) := by decide +kernel
theorem dL_isAhead_362 : decode cL_isAhead 362 = .ok (.aload_n 0, 1) := by decide +kernel
theorem dL_isAhead_363 : decode cL_isAhead 363 = .ok (.invokestatic 111, 3) := by decide +kernel
theorem dL_isAhead_366 : decode cL_isAhead 366 = .ok (.lload 4, 2) := by decide +kernel
theorem dL_isAhead_368 : decode cL_isAhead 368 = .ok (.lcmp, 1) := by decide +kernel
theorem dL_isAhead_369 : decode cL_isAhead 369 = .ok (.ifCond .ne 7, 3) := by decide +kernel
theorem dL_isAhead_372 : decode cL_isAhead 372 = .ok (.iconst 1, 1) := by decide +kernel
theorem dL_isAhead_373 : decode cL_isAhead 373 = .ok (.goto 4, 3) := by decide +kernel
theorem dL_isAhead_376 : decode cL_isAhead 376 = .ok (.iconst 0, 1) := by decide +kernel
theorem dL_isAhead_377 : decode cL_isAhead 377 = .ok (.istore 11, 2) := by decide +kernel
theorem dL_isAhead_379 : decode cL_isAhead 379 = .ok (.iload 11, 2) := by decide +kernel
theorem dL_isAhead_381 : decode cL_isAhead 381 = .ok (.ifCond .eq 63, 3) := by decide +kernel
theorem dL_isAhead_384 : decode cL_isAhead 384 = .ok (.aload_n 0, 1) := by decide +kernel
theorem dL_isAhead_385 : decode cL_isAhead 385 = .ok (.iload_n 2, 1) := by decide +kernel
theorem dL_isAhead_386 : decode cL_isAhead 386 = .ok (.iconst 3, 1) := by decide +kernel
theorem dL_isAhead_387 : decode cL_isAhead 387 = .ok (.invokevirtual 23, 3) := by decide +kernel
theorem dL_isAhead_390 : decode cL_isAhead 390 = .ok (.iconst (-1), 1) := by decide +kernel
theorem dL_isAhead_391 : decode cL_isAhead 391 = .ok (.if_icmp .ne 53, 3) := by decide +kernel
theorem dL_isAhead_394 : decode cL_isAhead 394 = .ok (.aload_n 0, 1) := by decide +kernel
theorem dL_isAhead_395 : decode cL_isAhead 395 = .ok (.iload_n 2, 1) := by decide +kernel
theorem dL_isAhead_396 : decode cL_isAhead 396 = .ok (.invokevirtual 68, 3) := by decide +kernel
theorem dL_isAhead_399 : decode cL_isAhead 399 = .ok (.istore 13, 2) := by decide +kernel
theorem dL_isAhead_401 : decode cL_isAhead 401 = .ok (.aload_n 0, 1) := by decide +kernel
theorem dL_isAhead_402 : decode cL_isAhead 402 = .ok (.iload_n 2, 1) := by decide +kernel
theorem dL_isAhead_403 : decode cL_isAhead 403 = .ok (.bipush 7, 2) := by decide +kernel
theorem dL_isAhead_405 : decode cL_isAhead 405 = .ok (.invokevirtual 23, 3) := by decide +kernel
theorem dL_isAhead_408 : decode cL_isAhead 408 = .ok (.iload 13, 2) := by decide +kernel
theorem dL_isAhead_410 : decode cL_isAhead 410 = .ok (.if_icmp .ne 31, 3) := by decide +kernel
theorem dL_isAhead_413 : decode cL_isAhead 413 = .ok (.aload_n 0, 1) := by decide +kernel
theorem dL_isAhead_414 : decode cL_isAhead 414 = .ok (.iload_n 2, 1) := by decide +kernel
theorem dL_isAhead_415 : decode cL_isAhead 415 = .ok (.invokevirtual 68, 3) := by decide +kernel
theorem dL_isAhead_418 : decode cL_isAhead 418 = .ok (.iload 13, 2) := by decide +kernel
theorem dL_isAhead_420 : decode cL_isAhead 420 = .ok (.if_icmp .ne 21, 3) := by decide +kernel
theorem dL_isAhead_423 : decode cL_isAhead 423 = .ok (.aload_n 0, 1) := by decide +kernel
theorem dL_isAhead_424 : decode cL_isAhead 424 = .ok (.invokevirtual 121, 3) := by decide +kernel
theorem dL_isAhead_427 : decode cL_isAhead 427 = .ok (.ifCond .lt 14, 3) := by decide +kernel
theorem dL_isAhead_430 : decode cL_isAhead 430 = .ok (.aload_n 0, 1) := by decide +kernel
theorem dL_isAhead_431 : decode cL_isAhead 431 = .ok (.invokevirtual 121, 3) := by decide +kernel
theorem dL_isAhead_434 : decode cL_isAhead 434 = .ok (.ifCond .lt 7, 3) := by decide +kernel
theorem dL_isAhead_437 : decode cL_isAhead 437 = .ok (.iconst 1, 1) := by decide +kernel
theorem dL_isAhead_438 : decode cL_isAhead 438 = .ok (.goto 4, 3) := by decide +kernel
theorem dL_isAhead_441 : decode cL_isAhead 441 = .ok (.iconst 0, 1) := by decide +kernel
theorem dL_isAhead_442 : decode cL_isAhead 442 = .ok (.istore 11, 2) := by decide +kernel
theorem dL_isAhead_444 : decode cL_isAhead 444 = .ok (.iload 11, 2) := by decide +kernel
theorem dL_isAhead_446 : decode cL_isAhead 446 = .ok (.ifCond .eq 40, 3) := by decide +kernel
theorem dL_isAhead_449 : decode cL_isAhead 449 = .ok (.aload_n 0, 1) := by decide +kernel
theorem dL_isAhead_450 : decode cL_isAhead 450 = .ok (.iload_n 1, 1) := by decide +kernel
theorem dL_isAhead_451 : decode cL_isAhead 451 = .ok (.invokevirtual 56, 3) := by decide +kernel
theorem dL_isAhead_454 : decode cL_isAhead 454 = .ok (.ifCond .lt 32, 3) := by decide +kernel
theorem dL_isAhead_457 : decode cL_isAhead 457 = .ok (.aload_n 0, 1) := by decide +kernel
theorem dL_isAhead_458 : decode cL_isAhead 458 = .ok (.iload_n 1, 1) := by decide +kernel
theorem dL_isAhead_459 : decode cL_isAhead 459 = .ok (.iconst 0, 1) := by decide +kernel
theorem dL_isAhead_460 : decode cL_isAhead 460 = .ok (.invokevirtual 30, 3) := by decide +kernel
theorem dL_isAhead_463 : decode cL_isAhead 463 = .ok (.ifCond .ne 23, 3) := by decide +kernel
theorem dL_isAhead_466 : decode cL_isAhead 466 = .ok (.aload_n 0, 1) := by decide +kernel
theorem dL_isAhead_467 : decode cL_isAhead 467 = .ok (.iload_n 1, 1) := by decide +kernel
theorem dL_isAhead_468 : decode cL_isAhead 468 = .ok (.iconst 1, 1) := by decide +kernel
theorem dL_isAhead_469 : decode cL_isAhead 469 = .ok (.invokevirtual 30, 3) := by decide +kernel
theorem dL_isAhead_472 : decode cL_isAhead 472 = .ok (.ifCond .ne 14, 3) := by decide +kernel
theorem dL_isAhead_475 : decode cL_isAhead 475 = .ok (.aload_n 0, 1) := by decide +kernel
theorem dL_isAhead_476 : decode cL_isAhead 476 = .ok (.invokevirtual 121, 3) := by decide +kernel
theorem dL_isAhead_479 : decode cL_isAhead 479 = .ok (.ifCond .lt 7, 3) := by decide +kernel
theorem dL_isAhead_482 : decode cL_isAhead 482 = .ok (.iconst 1, 1) := by decide +kernel
theorem dL_isAhead_483 : decode cL_isAhead 483 = .ok (.goto 4, 3) := by decide +kernel
theorem dL_isAhead_486 : decode cL_isAhead 486 = .ok (.iconst 0, 1) := by decide +kernel
theorem dL_isAhead_487 : decode cL_isAhead 487 = .ok (.istore 11, 2) := by decide +kernel
theorem dL_isAhead_489 : decode cL_isAhead 489 = .ok (.iload 11, 2) := by decide +kernel
theorem dL_isAhead_491 : decode cL_isAhead 491 = .ok (.ifCond .eq 17, 3) := by decide +kernel
theorem dL_isAhead_494 : decode cL_isAhead 494 = .ok (.aload_n 0, 1) := by decide +kernel
theorem dL_isAhead_495 : decode cL_isAhead 495 = .ok (.invokestatic 111, 3) := by decide +kernel
theorem dL_isAhead_498 : decode cL_isAhead 498 = .ok (.lload 4, 2) := by decide +kernel
theorem dL_isAhead_500 : decode cL_isAhead 500 = .ok (.lcmp, 1) := by decide +kernel
theorem dL_isAhead_501 : decode cL_isAhead 501 = .ok (.ifCond .ne 7, 3) := by decide +kernel
theorem dL_isAhead_504 : decode cL_isAhead 504 = .ok (.iconst 1, 1) := by decide +kernel
theorem dL_isAhead_505 : decode cL_isAhead 505 = .ok (.goto 4, 3) := by decide +kernel
theorem dL_isAhead_508 : decode cL_isAhead 508 = .ok (.iconst 0, 1) := by decide +kernel
theorem dL_isAhead_509 : decode cL_isAhead 509 = .ok (.ireturn, 1) := by decide +kernel
theorem dL_law_0 : decode cL_law 0 = .ok (.new 14, 3) := by decide +kernel
theorem dL_law_3 : decode cL_law 3 = .ok (.dup, 1) := by decide +kernel
theorem dL_law_4 : decode cL_law 4 = .ok (.invokespecial 124, 3) := by decide +kernel
theorem dL_law_7 : decode cL_law 7 = .ok (.astore_n 1, 1) := by decide +kernel
theorem dL_law_8 : decode cL_law 8 = .ok (.aload_n 1, 1) := by decide +kernel
theorem dL_law_9 : decode cL_law 9 = .ok (.invokevirtual 125, 3) := by decide +kernel
theorem dL_law_12 : decode cL_law 12 = .ok (.ifCond .ne 14, 3) := by decide +kernel
theorem dL_law_15 : decode cL_law 15 = .ok (.aload_n 1, 1) := by decide +kernel
theorem dL_law_16 : decode cL_law 16 = .ok (.invokestatic 128, 3) := by decide +kernel
theorem dL_law_19 : decode cL_law 19 = .ok (.ifCond .eq 7, 3) := by decide +kernel
theorem dL_law_22 : decode cL_law 22 = .ok (.iconst 1, 1) := by decide +kernel
theorem dL_law_23 : decode cL_law 23 = .ok (.goto 4, 3) := by decide +kernel
theorem dL_law_26 : decode cL_law 26 = .ok (.iconst 0, 1) := by decide +kernel
theorem dL_law_27 : decode cL_law 27 = .ok (.istore_n 2, 1) := by decide +kernel
theorem dL_law_28 : decode cL_law 28 = .ok (.iconst 0, 1) := by decide +kernel
theorem dL_law_29 : decode cL_law 29 = .ok (.istore_n 3, 1) := by decide +kernel
theorem dL_law_30 : decode cL_law 30 = .ok (.iload_n 3, 1) := by decide +kernel
theorem dL_law_31 : decode cL_law 31 = .ok (.bipush 54, 2) := by decide +kernel
theorem dL_law_33 : decode cL_law 33 = .ok (.if_icmp .ge 256, 3) := by decide +kernel
theorem dL_law_36 : decode cL_law 36 = .ok (.iload_n 2, 1) := by decide +kernel
theorem dL_law_37 : decode cL_law 37 = .ok (.ifCond .eq 252, 3) := by decide +kernel
theorem dL_law_40 : decode cL_law 40 = .ok (.aload_n 0, 1) := by decide +kernel
theorem dL_law_41 : decode cL_law 41 = .ok (.iconst 2, 1) := by decide +kernel
theorem dL_law_42 : decode cL_law 42 = .ok (.iload_n 3, 1) := by decide +kernel
theorem dL_law_43 : decode cL_law 43 = .ok (.imul, 1) := by decide +kernel
theorem dL_law_44 : decode cL_law 44 = .ok (.invokestatic 132, 3) := by decide +kernel
theorem dL_law_47 : decode cL_law 47 = .ok (.istore 4, 2) := by decide +kernel
theorem dL_law_49 : decode cL_law 49 = .ok (.aload_n 0, 1) := by decide +kernel
theorem dL_law_50 : decode cL_law 50 = .ok (.iconst 2, 1) := by decide +kernel
theorem dL_law_51 : decode cL_law 51 = .ok (.iload_n 3, 1) := by decide +kernel
theorem dL_law_52 : decode cL_law 52 = .ok (.imul, 1) := by decide +kernel
theorem dL_law_53 : decode cL_law 53 = .ok (.iconst 1, 1) := by decide +kernel
theorem dL_law_54 : decode cL_law 54 = .ok (.iadd, 1) := by decide +kernel
theorem dL_law_55 : decode cL_law 55 = .ok (.invokestatic 132, 3) := by decide +kernel
theorem dL_law_58 : decode cL_law 58 = .ok (.istore 5, 2) := by decide +kernel
theorem dL_law_60 : decode cL_law 60 = .ok (.aload_n 1, 1) := by decide +kernel
theorem dL_law_61 : decode cL_law 61 = .ok (.invokestatic 111, 3) := by decide +kernel
theorem dL_law_64 : decode cL_law 64 = .ok (.lstore 6, 2) := by decide +kernel
theorem dL_law_66 : decode cL_law 66 = .ok (.aload_n 1, 1) := by decide +kernel
theorem dL_law_67 : decode cL_law 67 = .ok (.bipush 11, 2) := by decide +kernel
theorem dL_law_69 : decode cL_law 69 = .ok (.invokevirtual 13, 3) := by decide +kernel
theorem dL_law_72 : decode cL_law 72 = .ok (.istore 8, 2) := by decide +kernel
theorem dL_law_74 : decode cL_law 74 = .ok (.aload_n 1, 1) := by decide +kernel
theorem dL_law_75 : decode cL_law 75 = .ok (.iload 4, 2) := by decide +kernel
theorem dL_law_77 : decode cL_law 77 = .ok (.iload 5, 2) := by decide +kernel
theorem dL_law_79 : decode cL_law 79 = .ok (.invokestatic 136, 3) := by decide +kernel
theorem dL_law_82 : decode cL_law 82 = .ok (.istore 9, 2) := by decide +kernel
theorem dL_law_84 : decode cL_law 84 = .ok (.iload 9, 2) := by decide +kernel
theorem dL_law_86 : decode cL_law 86 = .ok (.ifCond .lt 32, 3) := by decide +kernel
theorem dL_law_89 : decode cL_law 89 = .ok (.aload_n 1, 1) := by decide +kernel
theorem dL_law_90 : decode cL_law 90 = .ok (.bipush 11, 2) := by decide +kernel
theorem dL_law_92 : decode cL_law 92 = .ok (.invokevirtual 13, 3) := by decide +kernel
theorem dL_law_95 : decode cL_law 95 = .ok (.iload 8, 2) := by decide +kernel
theorem dL_law_97 : decode cL_law 97 = .ok (.bipush 6, 2) := by decide +kernel
theorem dL_law_99 : decode cL_law 99 = .ok (.if_icmp .ge 10, 3) := by decide +kernel
theorem dL_law_102 : decode cL_law 102 = .ok (.iload 8, 2) := by decide +kernel
theorem dL_law_104 : decode cL_law 104 = .ok (.iconst 1, 1) := by decide +kernel
theorem dL_law_105 : decode cL_law 105 = .ok (.iadd, 1) := by decide +kernel
theorem dL_law_106 : decode cL_law 106 = .ok (.goto 5, 3) := by decide +kernel
theorem dL_law_109 : decode cL_law 109 = .ok (.bipush 6, 2) := by decide +kernel
theorem dL_law_111 : decode cL_law 111 = .ok (.if_icmp .ne 7, 3) := by decide +kernel
theorem dL_law_114 : decode cL_law 114 = .ok (.iconst 1, 1) := by decide +kernel
theorem dL_law_115 : decode cL_law 115 = .ok (.goto 4, 3) := by decide +kernel
theorem dL_law_118 : decode cL_law 118 = .ok (.iconst 0, 1) := by decide +kernel
theorem dL_law_119 : decode cL_law 119 = .ok (.istore_n 2, 1) := by decide +kernel
theorem dL_law_120 : decode cL_law 120 = .ok (.iload_n 2, 1) := by decide +kernel
theorem dL_law_121 : decode cL_law 121 = .ok (.ifCond .eq 77, 3) := by decide +kernel
theorem dL_law_124 : decode cL_law 124 = .ok (.iload 4, 2) := by decide +kernel
theorem dL_law_126 : decode cL_law 126 = .ok (.bipush 8, 2) := by decide +kernel
theorem dL_law_128 : decode cL_law 128 = .ok (.ishr, 1) := by decide +kernel
theorem dL_law_129 : decode cL_law 129 = .ok (.iconst 3, 1) := by decide +kernel
theorem dL_law_130 : decode cL_law 130 = .ok (.iand, 1) := by decide +kernel
theorem dL_law_131 : decode cL_law 131 = .ok (.ifCond .ne 67, 3) := by decide +kernel
theorem dL_law_134 : decode cL_law 134 = .ok (.aload_n 1, 1) := by decide +kernel
theorem dL_law_135 : decode cL_law 135 = .ok (.invokestatic 111, 3) := by decide +kernel
theorem dL_law_138 : decode cL_law 138 = .ok (.lstore 10, 2) := by decide +kernel
theorem dL_law_140 : decode cL_law 140 = .ok (.aload_n 1, 1) := by decide +kernel
theorem dL_law_141 : decode cL_law 141 = .ok (.bipush 11, 2) := by decide +kernel
theorem dL_law_143 : decode cL_law 143 = .ok (.invokevirtual 13, 3) := by decide +kernel
theorem dL_law_146 : decode cL_law 146 = .ok (.iconst 1, 1) := by decide +kernel
theorem dL_law_147 : decode cL_law 147 = .ok (.isub, 1) := by decide +kernel
theorem dL_law_148 : decode cL_law 148 = .ok (.istore 12, 2) := by decide +kernel
theorem dL_law_150 : decode cL_law 150 = .ok (.aload_n 1, 1) := by decide +kernel
theorem dL_law_151 : decode cL_law 151 = .ok (.invokevirtual 121, 3) := by decide +kernel
theorem dL_law_154 : decode cL_law 154 = .ok (.iload 12, 2) := by decide +kernel
theorem dL_law_156 : decode cL_law 156 = .ok (.if_icmp .ne 40, 3) := by decide +kernel
theorem dL_law_159 : decode cL_law 159 = .ok (.aload_n 1, 1) := by decide +kernel
theorem dL_law_160 : decode cL_law 160 = .ok (.invokestatic 111, 3) := by decide +kernel
theorem dL_law_163 : decode cL_law 163 = .ok (.lload 6, 2) := by decide +kernel
theorem dL_law_165 : decode cL_law 165 = .ok (.lcmp, 1) := by decide +kernel
theorem dL_law_166 : decode cL_law 166 = .ok (.ifCond .ne 30, 3) := by decide +kernel
theorem dL_law_169 : decode cL_law 169 = .ok (.aload_n 1, 1) := by decide +kernel
theorem dL_law_170 : decode cL_law 170 = .ok (.iload 4, 2) := by decide +kernel
theorem dL_law_172 : decode cL_law 172 = .ok (.iload 5, 2) := by decide +kernel
theorem dL_law_174 : decode cL_law 174 = .ok (.invokestatic 136, 3) := by decide +kernel
theorem dL_law_177 : decode cL_law 177 = .ok (.iload 9, 2) := by decide +kernel
theorem dL_law_179 : decode cL_law 179 = .ok (.if_icmp .ne 17, 3) := by decide +kernel
theorem dL_law_182 : decode cL_law 182 = .ok (.aload_n 1, 1) := by decide +kernel
theorem dL_law_183 : decode cL_law 183 = .ok (.invokestatic 111, 3) := by decide +kernel
theorem dL_law_186 : decode cL_law 186 = .ok (.lload 10, 2) := by decide +kernel
theorem dL_law_188 : decode cL_law 188 = .ok (.lcmp, 1) := by decide +kernel
theorem dL_law_189 : decode cL_law 189 = .ok (.ifCond .ne 7, 3) := by decide +kernel
theorem dL_law_192 : decode cL_law 192 = .ok (.iconst 1, 1) := by decide +kernel
theorem dL_law_193 : decode cL_law 193 = .ok (.goto 4, 3) := by decide +kernel
theorem dL_law_196 : decode cL_law 196 = .ok (.iconst 0, 1) := by decide +kernel
theorem dL_law_197 : decode cL_law 197 = .ok (.istore_n 2, 1) := by decide +kernel
theorem dL_law_198 : decode cL_law 198 = .ok (.iload_n 2, 1) := by decide +kernel
theorem dL_law_199 : decode cL_law 199 = .ok (.ifCond .eq 82, 3) := by decide +kernel
theorem dL_law_202 : decode cL_law 202 = .ok (.aload_n 1, 1) := by decide +kernel
theorem dL_law_203 : decode cL_law 203 = .ok (.invokestatic 128, 3) := by decide +kernel
theorem dL_law_206 : decode cL_law 206 = .ok (.ifCond .eq 75, 3) := by decide +kernel
theorem dL_law_209 : decode cL_law 209 = .ok (.iload_n 3, 1) := by decide +kernel
theorem dL_law_210 : decode cL_law 210 = .ok (.iconst 3, 1) := by decide +kernel
theorem dL_law_211 : decode cL_law 211 = .ok (.irem, 1) := by decide +kernel
theorem dL_law_212 : decode cL_law 212 = .ok (.iconst 2, 1) := by decide +kernel
theorem dL_law_213 : decode cL_law 213 = .ok (.if_icmp .ne 43, 3) := by decide +kernel
theorem dL_law_216 : decode cL_law 216 = .ok (.aload_n 1, 1) := by decide +kernel
theorem dL_law_217 : decode cL_law 217 = .ok (.iconst 1, 1) := by decide +kernel
theorem dL_law_218 : decode cL_law 218 = .ok (.invokevirtual 13, 3) := by decide +kernel
theorem dL_law_221 : decode cL_law 221 = .ok (.ifCond .eq 35, 3) := by decide +kernel
theorem dL_law_224 : decode cL_law 224 = .ok (.aload_n 1, 1) := by decide +kernel
theorem dL_law_225 : decode cL_law 225 = .ok (.iload 4, 2) := by decide +kernel
theorem dL_law_227 : decode cL_law 227 = .ok (.iconst 5, 1) := by decide +kernel
theorem dL_law_228 : decode cL_law 228 = .ok (.ishr, 1) := by decide +kernel
theorem dL_law_229 : decode cL_law 229 = .ok (.iconst 3, 1) := by decide +kernel
theorem dL_law_230 : decode cL_law 230 = .ok (.invokestatic 39, 3) := by decide +kernel
theorem dL_law_233 : decode cL_law 233 = .ok (.iload 4, 2) := by decide +kernel
theorem dL_law_235 : decode cL_law 235 = .ok (.bipush 7, 2) := by decide +kernel
theorem dL_law_237 : decode cL_law 237 = .ok (.ishr, 1) := by decide +kernel
theorem dL_law_238 : decode cL_law 238 = .ok (.aload_n 1, 1) := by decide +kernel
theorem dL_law_239 : decode cL_law 239 = .ok (.iconst 1, 1) := by decide +kernel
theorem dL_law_240 : decode cL_law 240 = .ok (.invokevirtual 13, 3) := by decide +kernel
theorem dL_law_243 : decode cL_law 243 = .ok (.invokestatic 39, 3) := by decide +kernel
theorem dL_law_246 : decode cL_law 246 = .ok (.iload 5, 2) := by decide +kernel
theorem dL_law_248 : decode cL_law 248 = .ok (.iconst 2, 1) := by decide +kernel
theorem dL_law_249 : decode cL_law 249 = .ok (.ishr, 1) := by decide +kernel
theorem dL_law_250 : decode cL_law 250 = .ok (.invokestatic 140, 3) := by decide +kernel
theorem dL_law_253 : decode cL_law 253 = .ok (.ifCond .eq 28, 3) := by decide +kernel
theorem dL_law_256 : decode cL_law 256 = .ok (.iload_n 3, 1) := by decide +kernel
theorem dL_law_257 : decode cL_law 257 = .ok (.bipush 17, 2) := by decide +kernel
theorem dL_law_259 : decode cL_law 259 = .ok (.irem, 1) := by decide +kernel
theorem dL_law_260 : decode cL_law 260 = .ok (.bipush 11, 2) := by decide +kernel
theorem dL_law_262 : decode cL_law 262 = .ok (.if_icmp .ne 15, 3) := by decide +kernel
theorem dL_law_265 : decode cL_law 265 = .ok (.aload_n 1, 1) := by decide +kernel
theorem dL_law_266 : decode cL_law 266 = .ok (.invokevirtual 125, 3) := by decide +kernel
theorem dL_law_269 : decode cL_law 269 = .ok (.aload_n 1, 1) := by decide +kernel
theorem dL_law_270 : decode cL_law 270 = .ok (.iconst 1, 1) := by decide +kernel
theorem dL_law_271 : decode cL_law 271 = .ok (.invokevirtual 13, 3) := by decide +kernel
theorem dL_law_274 : decode cL_law 274 = .ok (.if_icmp .ne 7, 3) := by decide +kernel
theorem dL_law_277 : decode cL_law 277 = .ok (.iconst 1, 1) := by decide +kernel
theorem dL_law_278 : decode cL_law 278 = .ok (.goto 4, 3) := by decide +kernel
theorem dL_law_281 : decode cL_law 281 = .ok (.iconst 0, 1) := by decide +kernel
theorem dL_law_282 : decode cL_law 282 = .ok (.istore_n 2, 1) := by decide +kernel
theorem dL_law_283 : decode cL_law 283 = .ok (.iinc 3 1, 3) := by decide +kernel
theorem dL_law_286 : decode cL_law 286 = .ok (.goto (-256), 3) := by decide +kernel
theorem dL_law_289 : decode cL_law 289 = .ok (.iload_n 2, 1) := by decide +kernel
theorem dL_law_290 : decode cL_law 290 = .ok (.ireturn, 1) := by decide +kernel
